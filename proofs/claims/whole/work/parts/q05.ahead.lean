/-! what comes: helpers of both sides -/
theorem sp_waterAhead {E : EV} {μ : Mem} {r : Nat → Int32} {a h n : Nat} (hE : EvC E μ) (hO : EvOK E) (hc : RC0 E (μ 44) r) (ht : r 62 = nI a) (hl : h < eH E) (hn : a + n < 2 ^ 31) :
    P_X0_waterAhead (nI h) (nI n) μ ∧ F_X0_waterAhead (nI h) (nI n) μ = wat E r (hgt E (a + n)) h ∧ P_X0_heightAhead (nI n) μ ∧ F_X0_heightAhead (nI n) μ = hgt E (a + n) := by
  have e : F_X5_tideToCome 43 μ = nI a := by rw [ofT, hc.2.2.2, ht]
  obtain ⟨c1, c2⟩ := sp_heightOf (a := a + n) hE hO hn
  have hw := sp_waterC (th := 43) (hh := hgt E (a + n)) hO hl (hc.2.1 h hl)
  unfold P_X0_waterAhead F_X0_waterAhead P_X0_heightAhead F_X0_heightAhead
  rw [e, nI_add, c2]
  exact ⟨c1, hw, c1, rfl⟩
theorem sp_heightAhead {E : EV} {μ : Mem} {r : Nat → Int32} {a n : Nat} (hE : EvC E μ) (hO : EvOK E) (hc : RC0 E (μ 44) r) (ht : r 62 = nI a) (hn : a + n < 2 ^ 31) :
    P_X0_heightAhead (nI n) μ ∧ F_X0_heightAhead (nI n) μ = hgt E (a + n) := by
  have e : F_X5_tideToCome 43 μ = nI a := by rw [ofT, hc.2.2.2, ht]
  obtain ⟨c1, c2⟩ := sp_heightOf (a := a + n) hE hO hn
  unfold P_X0_heightAhead F_X0_heightAhead
  rw [e, nI_add, c2]
  exact ⟨c1, rfl⟩
theorem RC0.tide {E : EV} {L : LW} {c r : Nat → Int32} {hh rn : Int32} (hO : EvOK E) (h : RC0 E c (passR E hh r)) : RC0 E c (tideR E L hh rn r) := by
  have hd := hO.1.1
  obtain ⟨r1, r2, r3, r4⟩ := h
  refine ⟨fun k hk => ?_, fun h hl => ?_, fun h hl => ?_, ?_⟩
  · rw [tide_lt (by omega)]
    exact r1 k hk
  · rw [tide_lt (by omega)]
    exact r2 h hl
  · rw [tide_lt (by omega)]
    exact r3 h hl
  · rw [tide62, r4, pass62]
/-- a TIDE goes by on the class's stand of its own -/
theorem sp_passNext {E : EV} {L : LW} {μ : Mem} {r : Nat → Int32} {a b : Nat} {rn : Int32} (hE : EvC E μ) (hO : EvOK E) (hc : RC0 E (μ 53) r) (hr : RowOK E b r) (ha : a < 2 ^ 31) (ht : r 62 = nI a) :
    P_X0_passNext μ ∧ RC0 E (M_X0_passNext μ 53) (tide1 E L 0 rn r) ∧ ∀ h, h ≠ 53 → h ≠ 54 → h ≠ 55 → h ≠ 56 → M_X0_passNext μ h = μ h := by
  obtain ⟨q1, q2⟩ := sp_heightOf (a := a) hE hO ha
  have e : F_X5_tideToCome 52 μ = nI a := by rw [ofT, hc.2.2.2, ht]
  obtain ⟨a1, a2, -, -, a5⟩ := sp_pass (th := 52) (hh := hgt E a) (Or.inr rfl) hE hO hc hr
  unfold P_X0_passNext M_X0_passNext muX0_passNext_1 tide1
  rw [e, q2, ht, nI_ix ha, Int32.add_zero]
  exact ⟨⟨q1, a1⟩, a2.tide hO, a5⟩
theorem sea50 {E : EV} {L : LW} {rn : Int32} {r : Nat → Int32} {h : Nat} (n : Nat) (hh : h < 6) : seaR E L rn n r (50 + h) = r (50 + h) := by
  induction n with
  | zero => rfl
  | succ n ih =>
    rw [sea_s]
    unfold tide1
    rw [tide_lt (by omega), pass50 (by omega) (by omega), ih]
/-- the reference's row of its own, behind copies -/
theorem sp_tri {E : EV} {L : LW} {ν : Mem} (hI : Inv E L ν) :
    P_X10_copies 521 522 ν ∧ EvM E (M_X10_copies 521 522 ν) ∧ LwR L (M_X10_copies 521 522 ν) ∧ RowOK E 500 (M_X10_copies 521 522 ν 522) ∧ (∀ h, h ≠ 522 → M_X10_copies 521 522 ν h = ν h) ∧ (∀ k, k < 63 → M_X10_copies 521 522 ν 522 k = ν 521 k) := by
  obtain ⟨p, e⟩ := sp_copies (μ := ν) (fr := 521) (to := 522) (by decide)
  have o : ∀ h, h ≠ 522 → M_X10_copies 521 522 ν h = ν h := fun h hh => by rw [e, upr_other hh]
  have k : ∀ k, k < 63 → M_X10_copies 521 522 ν 522 k = ν 521 k := fun k hk => by rw [e, upr_same, cut_lt hk]
  refine ⟨p, hI.M.mono (fun h hh => o h (by omega)) hI.1, hI.LM.mono hI.LO (by rw [o 57 (by decide)]) (fun q _ _ => o q (by omega)), hI.S.2.2.congr hI.1 k, o, k⟩
theorem KM.tri {E : EV} {L : LW} {ν M : Mem} (hI : Inv E L ν) (h : ∀ q, q ≠ 522 → q ≠ 438 → q ≠ 439 → q ≠ 523 → q ≠ 524 → q ≠ 525 → M q = M_X10_copies 521 522 ν q) : KM ν M :=
  KM.off fun q q1 q2 q3 _ => by rw [h q (by omega) q1 q2 (by omega) (by omega) (by omega), (sp_tri hI).2.2.2.2.1 q (by omega)]
theorem KQ.ahead {μ M : Mem} (h : ∀ q, q ≠ 24 → q ≠ 25 → q ≠ 53 → q ≠ 54 → q ≠ 55 → q ≠ 56 → M q = μ q) : KQ μ M := KQ.offC fun q q1 q2 _ _ q5 => h q q1 q2 (by omega) (by omega) (by omega) (by omega)
theorem i_sub_self (x y : Int32) : x + y - x = y := by
  rw [Int32.add_comm]
  exact Int32.add_sub_cancel y x
