/-! questions: what holds behind the gates -/
def KM (ν M : Mem) : Prop := KQ ν M ∧ M 57 0 = ν 57 0 ∧ M 548 0 = ν 548 0
theorem KM.rfl (ν : Mem) : KM ν ν := ⟨KQ.rfl ν, Eq.refl _, Eq.refl _⟩
theorem km {ν M : Mem} (h : KM (upm ν 57 0 0) M) : KQ ν M ∧ M 57 0 = 0 ∧ M 548 0 = ν 548 0 := ⟨zero57.trans h.1, by rw [h.2.1, z57], by rw [h.2.2, z548]⟩
theorem KM.off {ν M : Mem} (h : ∀ q, q ≠ 438 → q ≠ 439 → (q < 522 ∨ 525 < q) → q ≠ 547 → M q = ν q) : KM ν M :=
  ⟨⟨fun q _ _ _ _ _ _ q7 q8 q9 q10 _ => h q q7 q8 q9 q10, fun k _ _ _ => by rw [h 57 (by decide) (by decide) (by decide) (by decide)]⟩, by rw [h 57 (by decide) (by decide) (by decide) (by decide)], by rw [h 548 (by decide) (by decide) (by decide) (by decide)]⟩
theorem KQ.offC {μ M : Mem} (h : ∀ q, q ≠ 24 → q ≠ 25 → q ≠ 39 → (q < 45 ∨ 47 < q) → (q < 53 ∨ 56 < q) → M q = μ q) : KQ μ M :=
  ⟨fun q q1 q2 q3 q4 q5 _ _ _ _ _ _ => h q q1 q2 q3 q4 q5, fun k _ _ _ => by rw [h 57 (by decide) (by decide) (by decide) (by decide) (by decide)]⟩
theorem KQ.at {μ ν : Mem} (h : KQ μ ν) (q : Nat) (hq : (q ≤ 23 ∨ (26 ≤ q ∧ q ≤ 38) ∨ (40 ≤ q ∧ q ≤ 44) ∨ (48 ≤ q ∧ q ≤ 52) ∨ (58 ≤ q ∧ q ≤ 437) ∨ (440 ≤ q ∧ q ≤ 521) ∨ (526 ≤ q ∧ q ≤ 546))) : ν q = μ q := h.1 q (by omega) (by omega) (by omega) (by omega) (by omega) (by omega) (by omega) (by omega) (by omega) (by omega) (by omega)
theorem nu_of {E : EV} {L : LW} {μ ν : Mem} (hI : Inv E L μ) (hν : KQ μ ν) : Inv E L (upm ν 57 0 0) ∧ KQ μ (upm ν 57 0 0) := ⟨hI.keep (hν.trans zero57), hν.trans zero57⟩
theorem Inv.E {E : EV} {L : LW} {μ : Mem} (hI : Inv E L μ) : EvC E μ := hI.2.2.1
theorem Inv.M {E : EV} {L : LW} {μ : Mem} (hI : Inv E L μ) : EvM E μ := hI.2.1
theorem Inv.S {E : EV} {L : LW} {μ : Mem} (hI : Inv E L μ) : RC0 E (μ 44) (μ 521) ∧ RCP (μ 44) (μ 521) ∧ RowOK E 500 (μ 521) := hI.2.2.2.2.2.2.2.2.2.1
theorem Inv.LO {E : EV} {L : LW} {μ : Mem} (hI : Inv E L μ) : LwOK L := hI.2.2.2.1
theorem Inv.LC {E : EV} {L : LW} {μ : Mem} (hI : Inv E L μ) : LwC L μ := hI.2.2.2.2.1
theorem Inv.LM {E : EV} {L : LW} {μ : Mem} (hI : Inv E L μ) : LwR L μ := hI.2.2.2.2.2.1
theorem Inv.wd {E : EV} {L : LW} {μ : Mem} (hI : Inv E L μ) : μ 57 43 = 0 := hI.2.2.2.2.2.2.2.2.2.2.2.1
theorem Inv.rn {E : EV} {L : LW} {μ : Mem} (hI : Inv E L μ) : μ 57 44 = eR E := hI.2.2.2.2.2.2.2.2.2.2.2.2
theorem Inv.mk {E : EV} {L : LW} {μ : Mem} (hI : Inv E L μ) : MkR E μ := hI.2.2.2.2.2.2.2.1
/-- the class's things of a house, as bits -/
def bitsR (E : EV) (r : Nat → Int32) (h : Int32) : Int32 := fo (eT E) (fun t s => if r t = h then s ||| ((1 : Int32) <<< ((nI t) &&& 31)) else s) 0
theorem sp_thingsIn {E : EV} {μ : Mem} {r : Nat → Int32} {th : Nat} {h : Int32} (hE : EvC E μ) (hO : EvOK E) (hc : RC0 E (μ (th + 1)) r) : P_X5_thingsIn th h μ ∧ F_X5_thingsIn th h μ = bitsR E r h := by
  have hd := hO.1.2.1
  have hN : NX5_thingsIn_5 th h μ = eT E := by
    unfold NX5_thingsIn_5
    rw [hE.2.1, nI_ix (by omega)]
  unfold P_X5_thingsIn F_X5_thingsIn SX5_thingsIn_5 bitsR
  rw [hN, hE.2.1]
  refine ⟨⟨fun j hj => ?_, fun _ => trivial, fun q => absurd q n_lt⟩, fo_congr _ _ _ _ fun i hi s => ?_⟩
  · unfold Pb_X5_thingsIn_5
    rw [hE.2.1]
    exact ⟨fun q => absurd q (nI_ge hj (by omega)), fun _ => trivial⟩
  · unfold g_X5_thingsIn_5 VX5_thingsIn_5_1
    rw [of0 (by omega), hc.1 i (by omega)]
    by_cases q : r i = h
    · rw [if_neg (not_not_intro q), if_pos q]
    · rw [if_pos q, if_neg q]
