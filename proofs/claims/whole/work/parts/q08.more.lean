/-! questions: comes, spring, soaked, snaps, rent -/

theorem q_comes {E : EV} {L : LW} {μ : Mem} (hI : Inv E L μ) (p1 : Int32) : Q w1 jN μ (K_X9_comes p1 μ) (F_X9_comes p1 μ) (M_X9_comes p1 μ) (P_X9_comes p1 μ) (F_X10_comes p1) (M_X10_comes p1) (P_X10_comes p1) := by
  rcases gate_comes hI p1 with ⟨h1, hK, s1, hg⟩ | h
  · have hO := hI.1
    have hE := hI.E
    have hS := hI.S
    obtain ⟨a, ha, e521, e44⟩ := hI.row
    have hd := hO.1
    obtain ⟨h, hl, rfl⟩ := inR_el (by omega) h1
    obtain ⟨f1, f2⟩ := sp_firstInto hE hO hS.1 e521 hl (by omega)
    refine Or.inl ⟨hK, ?_, ?_, fun ν hν => ?_⟩
    · unfold P_X9_comes
      rw [s1]
      exact fun _ => f1
    · unfold M_X9_comes
      rw [s1]
      exact KQ.rfl μ
    · obtain ⟨bp2, bf2, m3⟩ := hg ν hν
      have m1 : muX10_comes_1 (nI h) ν = upm ν 57 0 0 := rfl
      obtain ⟨hI0, hk0⟩ := nu_of hI hν
      have r521 := hk0.at 521 (by omega)
      have hM := hI0.M
      have hw : ∀ n, n < 100 → P_X10_heightIn (upm ν 57 0 0 521 62 + nI n) (upm ν 57 0 0) ∧ F_X10_heightIn (upm ν 57 0 0 521 62 + nI n) (upm ν 57 0 0) = hgt E (a + n) := fun n hn => by
        rw [r521, e521, nI_add]
        exact sp_heightIn hM hO (by omega)
      have hb : ∀ n, P_X10_waterBy 521 (nI h) (hgt E (a + n)) (upm ν 57 0 0) ∧ F_X10_waterBy 521 (nI h) (hgt E (a + n)) (upm ν 57 0 0) = wat E (μ 521) (hgt E (a + n)) h := fun n => by
        have := sp_waterBy (row := 521) (hh := hgt E (a + n)) hM hO hl
        rw [r521] at this
        exact this
      have e60 : ∀ n, n < 100 → ((60 : Int32) ≤ nI n ↔ 60 ≤ n) := fun n hn => nI_leI (a := 60) (by omega) (by omega)
      have l60 : ∀ n, n < 100 → (nI n < (60 : Int32) ↔ n < 60) := fun n hn => nI_ltI (b := 60) (by omega) (by omega)
      have hN : NX10_comes_31 (nI h) ν = fst 61 (dC E (μ 521) a h) := by
        unfold NX10_comes_31
        refine fst_congr fun j hj => ?_
        unfold Cb_X10_comes_31 dC
        rw [m3, (hw j (by omega)).2, (hb j).2]
        by_cases k1 : 60 ≤ j
        · rw [if_pos ((e60 j (by omega)).mpr k1), decide_eq_true (Or.inl k1)]
          rfl
        · rw [if_neg (fun q => k1 ((e60 j (by omega)).mp q))]
          by_cases k2 : wat E (μ 521) (hgt E (a + j)) h ≤ 0
          · rw [if_pos k2, decide_eq_false (fun q => q.elim k1 (Int32.not_lt.mpr k2))]
            rfl
          · rw [if_neg k2, decide_eq_true (Or.inr (Int32.not_le.mp k2))]
            rfl
      have h60 : fst 61 (dC E (μ 521) a h) ≤ 60 := fst_lt (by omega) (decide_eq_true (Or.inl (Nat.le_refl 60)))
      have hmin : ∀ j, j < fst 61 (dC E (μ 521) a h) → ¬ (60 ≤ j ∨ 0 < wat E (μ 521) (hgt E (a + j)) h) := fun j hj => of_decide_eq_false (fst_min hj)
      have hhit := of_decide_eq_true (fst_hit (n := 61) (c := dC E (μ 521) a h) (by omega))
      obtain ⟨km1, km2, km3⟩ : KQ ν (M_X10_comes (nI h) ν) ∧ M_X10_comes (nI h) ν 57 0 = 0 ∧ M_X10_comes (nI h) ν 548 0 = ν 548 0 := by
        unfold M_X10_comes
        rw [m3]
        exact km (KM.rfl _)
      refine ⟨?_, ?_, km1, km2, km3⟩
      · unfold P_X10_comes
        rw [m3, hN, (hw _ (by omega)).2, (hb _).2]
        generalize fst 61 (dC E (μ 521) a h) = N at *
        refine ⟨bp2, fun _ => ⟨fun j hj => ?_, fun _ => trivial, fun q => ⟨(hw N (by omega)).1, (hb N).1, fun z => ?_, fun _ => trivial⟩⟩, fun _ => trivial⟩
        · have := hmin j hj
          unfold Pb_X10_comes_31
          rw [(hw j (by omega)).2, (hb j).2]
          exact ⟨fun q => this (Or.inl ((e60 j (by omega)).mp q)), fun _ => ⟨(hw j (by omega)).1, (hb j).1, fun _ => trivial, fun q => this (Or.inr q)⟩⟩
        · rcases hhit with k | k
          · have := (l60 N (by omega)).mp q
            omega
          · exact Int32.not_le.mpr k z
      · unfold F_X10_comes F_X9_comes
        rw [m1, if_pos bf2, s1, f2, hN]
        generalize fst 61 (dC E (μ 521) a h) = N at *
        by_cases k : 60 ≤ N
        · rw [if_pos ((e60 N (by omega)).mpr k), if_pos k]
        · rw [if_neg (fun q => k ((e60 N (by omega)).mp q)), if_neg k]
  · exact Or.inr h
theorem case_comes {E : EV} {L : LW} {μ : Mem} (hI : Inv E L μ) (p1 : Int32) : P_W_15 p1 μ ∧ Inv E L (M_W_15 p1 μ) := by
  have h := wrapN (K_X9_comes p1 μ) (F_X9_comes p1 μ) (M_X9_comes p1 μ) (P_X9_comes p1 μ) (F_X10_comes p1) (M_X10_comes p1) (P_X10_comes p1) hI (q_comes hI p1)
  unfold P_W_15 M_W_15 muL_law_c15_2 muL_law_c15_1 M_L_comes W_L_comes F_X10_thrown
  exact h

theorem q_spring {E : EV} {L : LW} {μ : Mem} (hI : Inv E L μ) (p1 : Int32) : Q w1 jI μ (K_X9_spring p1 μ) (F_X9_spring p1 μ) (M_X9_spring p1 μ) (P_X9_spring p1 μ) (F_X10_spring p1) (M_X10_spring p1) (P_X10_spring p1) := by
  rcases gate_spring hI p1 with ⟨h1, hK, s1, hg⟩ | h
  · have hO := hI.1
    have hE := hI.E
    have hS := hI.S
    obtain ⟨a, ha, e521, e44⟩ := hI.row
    have hd := hO.1
    obtain ⟨f1, f2⟩ := sp_highest hE hO hS.1 e521 (by omega)
    have hb23 := bS_le E a 23
    obtain ⟨f3, f4⟩ := sp_heightAhead (n := bS E a 23) hE hO hS.1 e521 (by omega)
    refine Or.inl ⟨hK, ?_, ?_, fun ν hν => ?_⟩
    · unfold P_X9_spring
      rw [s1, f2]
      exact fun _ => ⟨f1, fun _ => f3, fun _ => trivial⟩
    · unfold M_X9_spring
      rw [s1]
      exact KQ.rfl μ
    · obtain ⟨bp2, bf2, m3⟩ := hg ν hν
      have m1 : muX10_spring_1 p1 ν = upm ν 57 0 0 := rfl
      obtain ⟨hI0, hk0⟩ := nu_of hI hν
      have r521 := hk0.at 521 (by omega)
      have hM := hI0.M
      have hw : ∀ n, n < 100 → P_X10_heightIn (upm ν 57 0 0 521 62 + nI n) (upm ν 57 0 0) ∧ F_X10_heightIn (upm ν 57 0 0 521 62 + nI n) (upm ν 57 0 0) = hgt E (a + n) := fun n hn => by
        rw [r521, e521, nI_add]
        exact sp_heightIn hM hO (by omega)
      have key := fo_all (fun i (s : Int32) => s = nI (bS E a i)) (Pb_X10_spring_34 p1 (upm ν 57 0 0)) 23 (g_X10_spring_34 p1 (upm ν 57 0 0)) 0 rfl (fun i hi s hs => by
        have hb := bS_le E a i
        subst hs
        refine ⟨⟨fun q => absurd q (nI_ge (b := 24) (by omega) (by omega)), fun _ => ⟨(hw (1 + i) (by omega)).1, (hw _ (by omega)).1⟩⟩, ?_⟩
        unfold g_X10_spring_34 VX10_spring_34_1
        rw [(hw (1 + i) (by omega)).2, (hw _ (by omega)).2]
        show _ = nI (if hgt E (a + (1 + i)) ≤ hgt E (a + bS E a i) then bS E a i else 1 + i)
        split <;> rfl)
      have hS' : SX10_spring_34 p1 ν = nI (bS E a 23) := by
        unfold SX10_spring_34
        rw [m3]
        exact key.2
      have hN : NX10_spring_34 p1 ν = 23 := rfl
      obtain ⟨km1, km2, km3⟩ : KQ ν (M_X10_spring p1 ν) ∧ M_X10_spring p1 ν 57 0 = 0 ∧ M_X10_spring p1 ν 548 0 = ν 548 0 := by
        unfold M_X10_spring
        rw [m3]
        exact km (KM.rfl _)
      refine ⟨?_, ?_, km1, km2, km3⟩
      · unfold P_X10_spring
        rw [m3, hS', hN]
        exact ⟨bp2, fun _ => ⟨key.1, fun _ => ⟨fun _ => (hw _ (by omega)).1, fun _ => trivial⟩, fun q => absurd q (by decide)⟩, fun _ => trivial⟩
      · unfold F_X10_spring F_X9_spring
        rw [m1, m3, if_pos bf2, s1, f2, hS', (hw _ (by omega)).2, f4]
  · exact Or.inr h
theorem case_spring {E : EV} {L : LW} {μ : Mem} (hI : Inv E L μ) (p1 : Int32) : P_W_16 p1 μ ∧ Inv E L (M_W_16 p1 μ) := by
  have h := wrapI (K_X9_spring p1 μ) (F_X9_spring p1 μ) (M_X9_spring p1 μ) (P_X9_spring p1 μ) (F_X10_spring p1) (M_X10_spring p1) (P_X10_spring p1) hI (q_spring hI p1)
  unfold P_W_16 M_W_16 muL_law_c16_2 muL_law_c16_1 M_L_spring W_L_spring F_X10_thrown
  exact h
