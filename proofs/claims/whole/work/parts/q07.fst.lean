/-! first places, both sides -/
theorem fst_congr {n : Nat} {c d : Nat → Bool} (h : ∀ j, j < n → c j = d j) : fst n c = fst n d := by
  rcases Nat.lt_or_ge (fst n d) n with hd | hd
  · exact fst_eq hd (by rw [h _ hd]; exact fst_hit hd) fun j hj => by rw [h j (by omega)]; exact fst_min hj
  · have e : fst n d = n := Nat.le_antisymm (fst_le n d) hd
    rw [e]
    exact fst_end fun j hj => by rw [h j hj]; exact fst_min (n := n) (by omega)
theorem fst_lt {n : Nat} {c : Nat → Bool} {k : Nat} (hk : k < n) (h : c k = true) : fst n c ≤ k := by
  rcases Nat.lt_or_ge k (fst n c) with q | q
  · have := fst_min q
    rw [h] at this
    cases this
  · exact q
def dC (E : EV) (r : Nat → Int32) (a h : Nat) (j : Nat) : Bool := decide (60 ≤ j ∨ 0 < wat E r (hgt E (a + j)) h)
theorem sp_firstInto {E : EV} {μ : Mem} {r : Nat → Int32} {a h : Nat} (hE : EvC E μ) (hO : EvOK E) (hc : RC0 E (μ 44) r) (ht : r 62 = nI a) (hl : h < eH E) (ha : a < 10000) :
    P_X0_firstInto (nI h) μ ∧ F_X0_firstInto (nI h) μ = if 60 ≤ fst 61 (dC E r a h) then -1 else nI (fst 61 (dC E r a h)) := by
  have hw : ∀ n, n < 100 → P_X0_waterAhead (nI h) (nI n) μ ∧ F_X0_waterAhead (nI h) (nI n) μ = wat E r (hgt E (a + n)) h := fun n hn =>
    ⟨(sp_waterAhead hE hO hc ht hl (by omega)).1, (sp_waterAhead hE hO hc ht hl (by omega)).2.1⟩
  have e60 : ∀ n, n < 100 → ((60 : Int32) ≤ nI n ↔ 60 ≤ n) := fun n hn => nI_leI (a := 60) (by omega) (by omega)
  have l60 : ∀ n, n < 100 → (nI n < (60 : Int32) ↔ n < 60) := fun n hn => nI_ltI (b := 60) (by omega) (by omega)
  have hN : NX0_firstInto_2 (nI h) μ = fst 61 (dC E r a h) := by
    unfold NX0_firstInto_2
    refine fst_congr fun j hj => ?_
    unfold Cb_X0_firstInto_2 dC
    rw [(hw j (by omega)).2]
    by_cases h1 : 60 ≤ j
    · rw [if_pos ((e60 j (by omega)).mpr h1), decide_eq_true (Or.inl h1)]
      rfl
    · rw [if_neg (fun q => h1 ((e60 j (by omega)).mp q))]
      by_cases h2 : wat E r (hgt E (a + j)) h ≤ 0
      · rw [if_pos h2, decide_eq_false (fun q => q.elim h1 (Int32.not_lt.mpr h2))]
        rfl
      · rw [if_neg h2, decide_eq_true (Or.inr (Int32.not_le.mp h2))]
        rfl
  have h60 : fst 61 (dC E r a h) ≤ 60 := fst_lt (by omega) (decide_eq_true (Or.inl (Nat.le_refl 60)))
  have hmin : ∀ j, j < fst 61 (dC E r a h) → ¬ (60 ≤ j ∨ 0 < wat E r (hgt E (a + j)) h) := fun j hj => of_decide_eq_false (fst_min hj)
  have hhit := of_decide_eq_true (fst_hit (n := 61) (c := dC E r a h) (by omega))
  unfold P_X0_firstInto F_X0_firstInto
  rw [hN, (hw _ (by omega)).2]
  generalize fst 61 (dC E r a h) = N at *
  refine ⟨⟨fun j hj => ?_, fun _ => trivial, fun q => ⟨(hw N (by omega)).1, fun z => ?_, fun _ => trivial⟩⟩, ?_⟩
  · have := hmin j hj
    unfold Pb_X0_firstInto_2
    rw [(hw j (by omega)).2]
    refine ⟨fun q => this (Or.inl ((e60 j (by omega)).mp q)), fun _ => ⟨(hw j (by omega)).1, fun _ => trivial, fun q => this (Or.inr q)⟩⟩
  · rcases hhit with k | k
    · have := (l60 N (by omega)).mp q
      omega
    · exact Int32.not_le.mpr k z
  · by_cases k : 60 ≤ N
    · rw [if_pos ((e60 N (by omega)).mpr k), if_pos k]
    · rw [if_neg (fun q => k ((e60 N (by omega)).mp q)), if_neg k]
def bS (E : EV) (a : Nat) : Nat → Nat := fun n => fo n (fun i s => if hgt E (a + (1 + i)) ≤ hgt E (a + s) then s else 1 + i) 0
theorem bS_le (E : EV) (a n : Nat) : bS E a n ≤ n := by
  induction n with
  | zero => exact Nat.le_refl 0
  | succ n ih =>
    show (if hgt E (a + (1 + n)) ≤ hgt E (a + bS E a n) then bS E a n else 1 + n) ≤ n + 1
    split <;> omega
theorem sp_highest {E : EV} {μ : Mem} {r : Nat → Int32} {a : Nat} (hE : EvC E μ) (hO : EvOK E) (hc : RC0 E (μ 44) r) (ht : r 62 = nI a) (ha : a < 10000) :
    P_X0_highestAhead μ ∧ F_X0_highestAhead μ = nI (bS E a 23) := by
  have hw : ∀ n, n < 100 → P_X0_heightAhead (nI n) μ ∧ F_X0_heightAhead (nI n) μ = hgt E (a + n) := fun n hn => sp_heightAhead hE hO hc ht (by omega)
  have key := fo_all (fun i (s : Int32) => s = nI (bS E a i)) (Pb_X0_highestAhead_4 μ) 23 (g_X0_highestAhead_4 μ) 0 rfl ?_
  · unfold P_X0_highestAhead F_X0_highestAhead
    have hS : SX0_highestAhead_4 μ = fo 23 (g_X0_highestAhead_4 μ) 0 := rfl
    have hN : NX0_highestAhead_4 μ = 23 := rfl
    rw [hS, hN]
    exact ⟨⟨key.1, fun _ => trivial, fun q => absurd q (by decide)⟩, key.2⟩
  · intro i hi s hs
    have hb := bS_le E a i
    subst hs
    refine ⟨⟨fun q => absurd q (nI_ge (b := 24) (by omega) (by omega)), fun _ => ⟨(hw (1 + i) (by omega)).1, (hw _ (by omega)).1⟩⟩, ?_⟩
    unfold g_X0_highestAhead_4 VX0_highestAhead_4_1
    rw [(hw (1 + i) (by omega)).2, (hw _ (by omega)).2]
    show _ = nI (if hgt E (a + (1 + i)) ≤ hgt E (a + bS E a i) then bS E a i else 1 + i)
    split <;> rfl
