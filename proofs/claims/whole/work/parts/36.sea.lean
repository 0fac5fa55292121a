/-! rows behind TIDES -/
theorem due_le (L : LW) (d l w t r h : Int32) : ∃ p, p ≤ 99 ∧ dueL L d l w t r h = nI p := by
  unfold dueL
  generalize (fo (lwN L) (stp L (gvO d l w t r h)) (0, fun _ => 0)).2 0 = x
  have h0 : 0 ≤ imax 0 (imin 99 x) := imax0 _
  have h1 : imax 0 (imin 99 x) ≤ 99 := by
    unfold imax imin
    split <;> split <;> grind
  obtain ⟨j, hj, e⟩ := nI_of2 (M := 99) (n := 99) (by decide) (Int32.not_lt.mpr h0) h1
  exact ⟨j, hj, e⟩
theorem dueR_le (E : EV) (L : LW) (r : Nat → Int32) (hh rn : Int32) (h : Nat) : ∃ p, p ≤ 99 ∧ dueR E L r hh rn h = nI p := by
  unfold dueR
  split
  · exact ⟨0, by omega, nI_0.symm⟩
  · exact due_le _ _ _ _ _ _ _
theorem tide_lt {E : EV} {L : LW} {hh rn : Int32} {r : Nat → Int32} {k : Nat} (hk : k < 56) : tideR E L hh rn r k = passR E hh r k := by
  unfold tideR
  rw [if_neg (by omega)]
theorem tide56 {E : EV} {L : LW} {hh rn : Int32} {r : Nat → Int32} {h : Nat} (hO : EvOK E) (hl : h < eH E) : tideR E L hh rn r (56 + h) = r (56 + h) + dueR E L r hh rn h := by
  have := hO.1.1
  unfold tideR
  rw [if_pos (by omega), show 56 + h - 56 = h by omega]
theorem tide62 {E : EV} {L : LW} {hh rn : Int32} {r : Nat → Int32} : tideR E L hh rn r 62 = r 62 + 1 := by
  unfold tideR
  rw [if_neg (by omega), pass62]
theorem tide_hi {E : EV} {L : LW} {hh rn : Int32} {r : Nat → Int32} {k : Nat} (hk : 63 ≤ k) : tideR E L hh rn r k = r k := by
  unfold tideR
  rw [if_neg (by omega), pass50 (by omega) (by omega)]
theorem pass_ok {E : EV} {hh : Int32} {r : Nat → Int32} {b : Nat} (hO : EvOK E) (hr : RowOK E b r) : (∀ t, t < eT E → passR E hh r t = -1 ∨ ∃ h, h < eH E ∧ passR E hh r t = nI h) ∧ (∀ t, t < eT E → passR E hh r (10 + t) = 0 ∨ passR E hh r (10 + t) = 1) ∧ (∀ t, t < eT E → passR E hh r (20 + t) = 0 ∨ passR E hh r (20 + t) = 1) ∧
  (∀ t, t < eT E → 0 ≤ passR E hh r (40 + t) ∧ passR E hh r (40 + t) ≤ 40) ∧ (∀ h, h < eH E → 0 ≤ passR E hh r (50 + h) ∧ passR E hh r (50 + h) ≤ 9) := by
  have hd := hO.1.1
  have hd1 := hO.1.2.1
  obtain ⟨r1, r2, r3, r4, r5, -, -⟩ := hr
  refine ⟨fun t ht => ?_, fun t ht => ?_, fun t ht => ?_, fun t ht => ?_, fun h hl => ?_⟩
  · rw [pass0 (by omega)]
    by_cases q : t < eT E ∧ isA E r hh t = true ∧ r (20 + t) = 0
    · rw [if_pos q]
      obtain ⟨h, hl, e⟩ := isW_h (r1 t ht) (isA_W q.2.1)
      rw [e, nI_1]
      by_cases z : nI (eH E) ≤ nI (h + 1)
      · rw [if_pos z]
        exact Or.inl rfl
      · rw [if_neg z]
        rw [nI_leI (by omega) (by omega)] at z
        exact Or.inr ⟨h + 1, by omega, rfl⟩
    · rw [if_neg q]
      exact r1 t ht
  · rw [pass10 (by omega)]
    exact r2 t ht
  · rw [pass20 (by omega)]
    by_cases q : t < eT E ∧ isA E r hh t = true ∧ r (20 + t) ≠ 0
    · rw [if_pos q]
      by_cases z : eP E ≤ r (30 + t) + 1
      · rw [if_pos z]
        exact Or.inl rfl
      · rw [if_neg z]
        exact r3 t ht
    · rw [if_neg q]
      exact r3 t ht
  · rw [pass40 (by omega)]
    obtain ⟨z1, z2⟩ := r4 t ht
    by_cases q : t < eT E ∧ isW E r hh t = true
    · rw [if_pos q]
      unfold imax
      split <;> constructor <;> grind
    · rw [if_neg q]
      exact r4 t ht
  · rw [pass50 (by omega) (by omega)]
    exact r5 h hl
theorem tide_ok {E : EV} {L : LW} {hh rn : Int32} {r : Nat → Int32} {b : Nat} (hO : EvOK E) (hr : RowOK E b r) : RowOK E (b + 1) (tideR E L hh rn r) := by
  have hd := hO.1.1
  have hd1 := hO.1.2.1
  obtain ⟨p1, p2, p3, p4, p5⟩ := pass_ok (hh := hh) hO hr
  refine ⟨fun t ht => ?_, fun t ht => ?_, fun t ht => ?_, fun t ht => ?_, fun h hl => ?_, ⟨fun h hl => ?_, fun t ht z => ?_⟩, ?_⟩
  · rw [tide_lt (by omega)]
    exact p1 t ht
  · rw [tide_lt (by omega)]
    exact p2 t ht
  · rw [tide_lt (by omega)]
    exact p3 t ht
  · rw [tide_lt (by omega)]
    exact p4 t ht
  · rw [tide_lt (by omega)]
    exact p5 h hl
  · rw [tide56 hO hl]
    obtain ⟨p, a, ⟨hp, ha, ea⟩, e⟩ := hr.2.2.2.2.2.1.1 h hl
    obtain ⟨q, hq, e'⟩ := dueR_le E L r hh rn h
    exact ⟨p + q, a + 1, ⟨by omega, by omega, by rw [tide62, ea, nI_1]⟩, by rw [e, e', nI_add]⟩
  · rw [tide_lt (by omega), pass20 (by omega)] at z
    rw [tide_lt (by omega), pass30 (by omega)]
    by_cases c : t < eT E ∧ isA E r hh t = true ∧ r (20 + t) ≠ 0
    · rw [if_pos c] at z ⊢
      by_cases d : eP E ≤ r (30 + t) + 1
      · rw [if_pos d]
      · rw [if_neg d] at z
        exact absurd z c.2.2
    · rw [if_neg c] at z ⊢
      exact hr.2.2.2.2.2.1.2 t ht z
  · rw [tide62]
    obtain ⟨a, ha, e⟩ := hr.2.2.2.2.2.2
    exact ⟨a + 1, by omega, by rw [e, nI_1]⟩
theorem RowOK.up {E : EV} {r : Nat → Int32} {b c : Nat} (h : RowOK E b r) (hb : b ≤ c) : RowOK E c r := by
  obtain ⟨r1, r2, r3, r4, r5, r6, r7⟩ := h
  refine ⟨r1, r2, r3, r4, r5, ⟨fun h hl => ?_, r6.2⟩, ?_⟩
  · obtain ⟨p, a, ⟨hp, ha, ea⟩, e⟩ := r6.1 h hl
    exact ⟨p, a, ⟨hp, by omega, ea⟩, e⟩
  · obtain ⟨a, ha, e⟩ := r7
    exact ⟨a, by omega, e⟩
theorem RowOK.congr {E : EV} {r r' : Nat → Int32} {b : Nat} (hO : EvOK E) (h : RowOK E b r) (e : ∀ k, k < 63 → r' k = r k) : RowOK E b r' := by
  have hd := hO.1.1
  have hd1 := hO.1.2.1
  obtain ⟨r1, r2, r3, r4, r5, r6, r7⟩ := h
  refine ⟨fun t ht => ?_, fun t ht => ?_, fun t ht => ?_, fun t ht => ?_, fun h hl => ?_, ⟨fun h hl => ?_, fun t ht z => ?_⟩, ?_⟩
  · rw [e _ (by omega)]
    exact r1 t ht
  · rw [e _ (by omega)]
    exact r2 t ht
  · rw [e _ (by omega)]
    exact r3 t ht
  · rw [e _ (by omega)]
    exact r4 t ht
  · rw [e _ (by omega)]
    exact r5 h hl
  · obtain ⟨p, a, ⟨hp, ha, ea⟩, e2⟩ := r6.1 h hl
    exact ⟨p, a, ⟨hp, ha, (e 62 (by omega)).trans ea⟩, (e _ (by omega)).trans e2⟩
  · rw [e _ (by omega)] at z ⊢
    exact r6.2 t ht z
  · rw [e _ (by omega)]
    exact r7
theorem RC0.congr {E : EV} {c r r' : Nat → Int32} (hO : EvOK E) (h : RC0 E c r) (e : ∀ k, k < 63 → r' k = r k) : RC0 E c r' := by
  have hd := hO.1.1
  obtain ⟨r1, r2, r3, r4⟩ := h
  refine ⟨fun k hk => ?_, fun h hl => ?_, fun h hl => ?_, ?_⟩
  · rw [e _ (by omega)]
    exact r1 k hk
  · rw [e _ (by omega)]
    exact r2 h hl
  · rw [e _ (by omega)]
    exact r3 h hl
  · rw [e _ (by omega)]
    exact r4
theorem RCP.congr {c r r' : Nat → Int32} (h : RCP c r) (e : ∀ k, k < 63 → r' k = r k) : RCP c r' := by
  intro h' hl
  rw [e _ (by omega)]
  exact h h' hl
/-- a TIDE at the height that is told, and a wind -/
def tide1 (E : EV) (L : LW) (wd rn : Int32) (r : Nat → Int32) : Nat → Int32 := tideR E L (hgt E (ix (r 62)) + wd) rn r
/-- a TIDE by the class, with its dues -/
theorem sp_tideC {E : EV} {L : LW} {μ : Mem} {r : Nat → Int32} {th b : Nat} {hh rn : Int32} (hth : th = 43 ∨ th = 52) (hE : EvC E μ) (hO : EvOK E) (hL : LwOK L) (hR : LwC L μ) (hc : RC0 E (μ (th + 1)) r) (hp : RCP (μ (th + 1)) r) (hr : RowOK E b r) :
    P_X5_pass th hh μ ∧ P_X5_payDues th rn (M_X5_pass th hh μ) ∧ RC0 E (M_X5_payDues th rn (M_X5_pass th hh μ) (th + 1)) (tideR E L hh rn r) ∧ RCP (M_X5_payDues th rn (M_X5_pass th hh μ) (th + 1)) (tideR E L hh rn r) ∧
    ∀ h, h ≠ 24 → h ≠ 25 → h ≠ th + 1 → h ≠ th + 2 → h ≠ th + 3 → h ≠ th + 4 → M_X5_payDues th rn (M_X5_pass th hh μ) h = μ h := by
  have hd := hO.1.1
  obtain ⟨a1, a2, a3, a4, a5⟩ := sp_pass (hh := hh) hth hE hO hc hr
  have hE' : EvC E (M_X5_pass th hh μ) := hE.mono fun h hl => a5 h (by omega) (by omega) (by omega) (by omega)
  have hR' : LwC L (M_X5_pass th hh μ) := hR.mono (by rw [a5 21 (by omega) (by omega) (by omega) (by omega)]) (a5 22 (by omega) (by omega) (by omega) (by omega)) (a5 23 (by omega) (by omega) (by omega) (by omega))
  obtain ⟨b1, b2, b3⟩ := sp_payDues (rn := rn) (r := r) (hh := hh) hth hE' hO hL hR' (by rw [a2.2.2.2, pass62]) a4
  refine ⟨a1, b1, ⟨fun k hk => ?_, fun h hl => ?_, fun h hl => ?_, ?_⟩, fun h hl => ?_, fun h q1 q2 q3 q4 q5 q6 => ?_⟩
  · rw [b2, if_neg (by omega), a2.1 k hk, tide_lt (by omega)]
  · rw [b2, if_neg (by omega), a2.2.1 h hl, tide_lt (by omega)]
  · rw [b2, if_neg (by omega), a2.2.2.1 h hl, tide_lt (by omega)]
  · rw [b2, if_neg (by omega), a2.2.2.2, tide62, pass62]
  · rw [b2, a3 h hl, hp h hl]
    by_cases q : h < eH E
    · rw [if_pos (by omega), tide56 hO q, show 62 + h - 62 = h by omega]
    · rw [if_neg (by omega)]
      unfold tideR
      rw [if_neg (by omega), pass50 (by omega) (by omega)]
  · rw [b3 h q3 q1 q2, a5 h q3 q4 q5 q6]
def seaR (E : EV) (L : LW) (rn : Int32) (n : Nat) (r : Nat → Int32) : Nat → Int32 := fo n (fun _ s => tide1 E L 0 rn s) r
theorem sea_s (E : EV) (L : LW) (rn : Int32) (n : Nat) (r : Nat → Int32) : seaR E L rn (n + 1) r = tide1 E L 0 rn (seaR E L rn n r) := rfl
theorem sea_ok {E : EV} {L : LW} {rn : Int32} {r : Nat → Int32} {b : Nat} (hO : EvOK E) (hr : RowOK E b r) (n : Nat) : RowOK E (b + n) (seaR E L rn n r) := by
  induction n with
  | zero => exact hr
  | succ n ih =>
    rw [sea_s]
    exact tide_ok hO ih
theorem sea62 {E : EV} {L : LW} {rn : Int32} {r : Nat → Int32} {a : Nat} (n : Nat) (h : r 62 = nI a) : seaR E L rn n r 62 = nI (a + n) := by
  induction n with
  | zero => exact h
  | succ n ih =>
    rw [sea_s]
    unfold tide1
    rw [tide62, ih, nI_1]
    rfl
theorem sea_hi {E : EV} {L : LW} {rn : Int32} {r : Nat → Int32} {k : Nat} (n : Nat) (hk : 63 ≤ k) : seaR E L rn n r k = r k := by
  induction n with
  | zero => rfl
  | succ n ih =>
    rw [sea_s]
    unfold tide1
    rw [tide_hi hk, ih]
