/-! carry: no thing changes what befalls another -/
def SM (t : Nat) (r r' : Nat → Int32) : Prop := r' t = r t ∧ r' (10 + t) = r (10 + t) ∧ r' (20 + t) = r (20 + t) ∧ r' (30 + t) = r (30 + t) ∧ r' (40 + t) = r (40 + t) ∧ (∀ h, h < 6 → r' (50 + h) = r (50 + h)) ∧ r' 62 = r 62
theorem sm_isW {E : EV} {r r' : Nat → Int32} {hh : Int32} {t b : Nat} (hO : EvOK E) (hr : RowOK E b r) (ht : t < eT E) (h : SM t r r') : isW E r' hh t = isW E r hh t ∧ isA E r' hh t = isA E r hh t := by
  obtain ⟨h0, h1, -, -, -, h5, -⟩ := h
  have hd := hO.1.1
  have key : isW E r' hh t = isW E r hh t ∧ (isW E r hh t = true → wat E r' hh (ix (r t)) = wat E r hh (ix (r t))) := by
    unfold isW
    rw [h0, h1]
    rcases hr.1 t ht with e | ⟨x, hx, e⟩
    · refine ⟨decide_eq_decide.mpr ⟨fun q => absurd e q.1, fun q => absurd e q.1⟩, fun q => absurd e (of_decide_eq_true q).1⟩
    · have ew : wat E r' hh (ix (r t)) = wat E r hh (ix (r t)) := by
        rw [e, nI_ix (by omega)]
        exact wat_congr (h5 x (by omega))
      refine ⟨decide_eq_decide.mpr ⟨fun q => ?_, fun q => ?_⟩, fun _ => ew⟩
      · rw [ew] at q
        exact q
      · rw [ew]
        exact q
  refine ⟨key.1, ?_⟩
  unfold isA
  rw [key.1, h0]
  cases q : isW E r hh t with
  | false => rw [Bool.false_and, Bool.false_and]
  | true => rw [key.2 q]
theorem sm_tide {E : EV} {L : LW} {rn : Int32} {r r' : Nat → Int32} {t b : Nat} (hO : EvOK E) (hr : RowOK E b r) (ht : t < eT E) (h : SM t r r') : SM t (tide1 E L 0 rn r) (tide1 E L 0 rn r') := by
  have hd := hO.1.2.1
  have h' := h
  obtain ⟨h0, h1, h2, h3, h4, h5, h6⟩ := h
  unfold tide1
  rw [h6]
  generalize hgt E (ix (r 62)) + 0 = hh
  obtain ⟨w1, w2⟩ := sm_isW (hh := hh) hO hr ht h'
  refine ⟨?_, ?_, ?_, ?_, ?_, fun x hx => ?_, ?_⟩
  · rw [tide_lt (by omega), tide_lt (by omega), pass0 (by omega), pass0 (by omega), w2, h0, h2]
  · rw [tide_lt (by omega), tide_lt (by omega), pass10 (by omega), pass10 (by omega), h1]
  · rw [tide_lt (by omega), tide_lt (by omega), pass20 (by omega), pass20 (by omega), w2, h2, h3]
  · rw [tide_lt (by omega), tide_lt (by omega), pass30 (by omega), pass30 (by omega), w2, h2, h3]
  · rw [tide_lt (by omega), tide_lt (by omega), pass40 (by omega), pass40 (by omega), w1, h4]
  · rw [tide_lt (by omega), tide_lt (by omega), pass50 (by omega) (by omega), pass50 (by omega) (by omega), h5 x hx]
  · rw [tide62, tide62, h6]
theorem sm_sea {E : EV} {L : LW} {rn : Int32} {r r' : Nat → Int32} {t b : Nat} (hO : EvOK E) (hr : RowOK E b r) (ht : t < eT E) (h : SM t r r') (n : Nat) : SM t (seaR E L rn n r) (seaR E L rn n r') := by
  induction n with
  | zero => exact h
  | succ n ih =>
    rw [sea_s, sea_s]
    exact sm_tide hO (sea_ok hO hr n) ht ih
theorem up_sea {E : EV} {L : LW} {rn : Int32} {r : Nat → Int32} {t : Nat} (ht : t < 10) (h : r (10 + t) = 1) (n : Nat) : seaR E L rn n r t = r t ∧ seaR E L rn n r (10 + t) = 1 ∧ seaR E L rn n r (40 + t) = r (40 + t) := by
  induction n with
  | zero => exact ⟨rfl, h, rfl⟩
  | succ n ih =>
    obtain ⟨i1, i2, i3⟩ := ih
    rw [sea_s]
    unfold tide1
    generalize hgt E (ix (seaR E L rn n r 62)) + 0 = hh
    have w : isW E (seaR E L rn n r) hh t = false := by
      unfold isW
      rw [i2]
      exact decide_eq_false fun q => absurd q.2.1 (by decide)
    have a : isA E (seaR E L rn n r) hh t = false := by
      unfold isA
      rw [w]
      rfl
    refine ⟨?_, ?_, ?_⟩
    · rw [tide_lt (by omega), pass0 ht, a, if_neg (by simp), i1]
    · rw [tide_lt (by omega), pass10 ht, i2]
    · rw [tide_lt (by omega), pass40 ht, w, if_neg (by simp), i3]
/-- the things of a set, put UP -/
def upS (E : EV) (v : Int32) (r : Nat → Int32) : Nat → Int32 := fun k => if 10 ≤ k ∧ k < 10 + eT E ∧ bitI v (k - 10) = true then 1 else r k
theorem upS_at {E : EV} {v : Int32} {r : Nat → Int32} {t : Nat} (ht : t < eT E) : upS E v r (10 + t) = if bitI v t = true then 1 else r (10 + t) := by
  unfold upS
  rw [show 10 + t - 10 = t by omega]
  by_cases q : bitI v t = true
  · rw [if_pos ⟨by omega, by omega, q⟩, if_pos q]
  · rw [if_neg (fun z => q z.2.2), if_neg q]
theorem upS_o {E : EV} {v : Int32} {r : Nat → Int32} {k : Nat} (hO : EvOK E) (h : k < 10 ∨ 20 ≤ k) : upS E v r k = r k := by
  have hd := hO.1.2.1
  unfold upS
  rw [if_neg (by omega)]
theorem upS_ok {E : EV} {v : Int32} {r : Nat → Int32} {b : Nat} (hO : EvOK E) (h : RowOK E b r) : RowOK E b (upS E v r) := by
  have hd := hO.1.1
  have hd1 := hO.1.2.1
  obtain ⟨r1, r2, r3, r4, r5, r6, r7⟩ := h
  refine ⟨fun t ht => ?_, fun t ht => ?_, fun t ht => ?_, fun t ht => ?_, fun x hx => ?_, ⟨fun x hx => ?_, fun x hx z => ?_⟩, ?_⟩
  · rw [upS_o hO (by omega)]
    exact r1 t ht
  · rw [upS_at ht]
    by_cases q : bitI v t = true
    · rw [if_pos q]
      exact Or.inr rfl
    · rw [if_neg q]
      exact r2 t ht
  · rw [upS_o hO (by omega)]
    exact r3 t ht
  · rw [upS_o hO (by omega)]
    exact r4 t ht
  · rw [upS_o hO (by omega)]
    exact r5 x hx
  · obtain ⟨p, a, ⟨hp, ha, ea⟩, e2⟩ := r6.1 x hx
    exact ⟨p, a, ⟨hp, ha, (upS_o hO (by omega)).trans ea⟩, (upS_o hO (by omega)).trans e2⟩
  · rw [upS_o hO (by omega)] at z ⊢
    exact r6.2 x hx z
  · rw [upS_o hO (by omega)]
    exact r7
def wT (r : Nat → Int32) (t : Nat) : Int32 := if r t = -1 then 0 else r (40 + t)
/-- what a set saves -/
def svR (E : EV) (r s : Nat → Int32) (v : Int32) (n : Nat) : Int32 := fo n (fun t x => if bitI v t = true then x + (r (40 + t) - wT s t) else x) 0
def wgR (E : EV) (v : Int32) (n : Nat) : Int32 := fo n (fun t x => if bitI v t = true then x + eX E t 1 else x) 0
theorem fo_sum2 (n : Nat) (f g : Nat → Int32) : fo n (fun t x => x + (f t + g t)) 0 = fo n (fun t x => x + f t) 0 + fo n (fun t x => x + g t) 0 := by
  induction n with
  | zero => rfl
  | succ n ih =>
    rw [fo_succ, fo_succ, fo_succ, ih]
    generalize fo n (fun t x => x + f t) 0 = a
    generalize fo n (fun t x => x + g t) 0 = c
    rw [Int32.add_assoc, ← Int32.add_assoc c, Int32.add_comm c, Int32.add_assoc (f n), ← Int32.add_assoc a]
theorem worth_up {E : EV} {L : LW} {rn : Int32} {r : Nat → Int32} {v : Int32} {n b : Nat} (hO : EvOK E) (hr : RowOK E b r) (hv : ∀ t, t < eT E → bitI v t = true → r t ≠ -1) : worthR E (seaR E L rn n (upS E v r)) = worthR E (seaR E L rn n r) + svR E r (seaR E L rn n r) v (eT E) := by
  have hd := hO.1.2.1
  unfold worthR svR
  have e1 : fo (eT E) (fun t x => if bitI v t = true then x + (r (40 + t) - wT (seaR E L rn n r) t) else x) 0 = fo (eT E) (fun t x => x + if bitI v t = true then (r (40 + t) - wT (seaR E L rn n r) t) else 0) 0 := fo_congr _ _ _ _ fun t ht x => by
    by_cases q : bitI v t = true
    · rw [if_pos q, if_pos q]
    · rw [if_neg q, if_neg q, Int32.add_zero]
  rw [e1, ← fo_sum2]
  refine fo_congr _ _ _ _ fun t ht x => congrArg (x + ·) ?_
  by_cases q : bitI v t = true
  · rw [if_pos q]
    obtain ⟨u1, -, u3⟩ := up_sea (E := E) (L := L) (rn := rn) (r := upS E v r) (t := t) (by omega) (by rw [upS_at ht, if_pos q]) n
    rw [u1, u3, upS_o hO (by omega), upS_o hO (by omega), if_neg (hv t ht q)]
    show r (40 + t) = wT (seaR E L rn n r) t + (r (40 + t) - wT (seaR E L rn n r) t)
    rw [Int32.add_comm, Int32.sub_add_cancel]
  · rw [if_neg q, Int32.add_zero]
    have sm : SM t r (upS E v r) := ⟨upS_o hO (by omega), by rw [upS_at ht, if_neg q], upS_o hO (by omega), upS_o hO (by omega), upS_o hO (by omega), fun h hh => upS_o hO (by omega), upS_o hO (by omega)⟩
    obtain ⟨s0, -, -, -, s4, -⟩ := sm_sea (L := L) (rn := rn) hO hr ht sm n
    rw [s0, s4]
