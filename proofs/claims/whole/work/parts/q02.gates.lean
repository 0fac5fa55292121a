/-! questions' gates, by program (wip/tools/gen_gate.py) -/
def mskE (E : EV) : Int32 := ((1 : Int32) <<< (nI (eH E) &&& 31)) - 1
theorem nhK {E : EV} {μ : Mem} (hE : EvC E μ) (hO : EvOK E) (x : Int32) : K_X9_needHouse x μ = if inR x 0 (nI (eH E) - 1) = true then 0 else 1 := by
  have := hO.1.1
  unfold K_X9_needHouse
  rw [hE.1]
  exact neK μ (by omega)
theorem nhM {E : EV} {μ : Mem} (hE : EvC E μ) (hO : EvOK E) (x : Int32) : M_X9_needHouse x μ = if inR x 0 (nI (eH E) - 1) = true then μ else M_needR 12 μ := by
  have := hO.1.1
  unfold M_X9_needHouse muX9_needHouse_1
  rw [hE.1]
  exact neM μ (by omega)
theorem nsK {E : EV} {μ : Mem} (hE : EvC E μ) (x : Int32) : K_X9_needHouses x μ = if inR x 0 (mskE E) = true then 0 else 2 := by
  unfold K_X9_needHouses
  rw [hE.1, nrK]
  rfl
theorem nsM {E : EV} {μ : Mem} (hE : EvC E μ) (x : Int32) : M_X9_needHouses x μ = if inR x 0 (mskE E) = true then μ else M_needR 13 μ := by
  unfold M_X9_needHouses muX9_needHouses_1
  rw [hE.1, nrM]
  rfl
theorem nyK (a b c : Int32) (μ : Mem) : K_X9_needYear a b c μ = if inR a 1 96 = true then (if inR b 0 16 = true then (if inR c 0 20 = true then 0 else 2) else 2) else 2 := by
  unfold K_X9_needYear
  simp only [nrK]
  by_cases h1 : inR a 1 96 = true
  · by_cases h2 : inR b 0 16 = true
    · by_cases h3 : inR c 0 20 = true <;> simp [h1, h2, h3]
    · simp [h1, h2]
  · simp [h1]
theorem nyM (a b c : Int32) (μ : Mem) : M_X9_needYear a b c μ = if inR a 1 96 = true then (if inR b 0 16 = true then (if inR c 0 20 = true then μ else M_needR 13 μ) else M_needR 13 μ) else M_needR 13 μ := by
  unfold M_X9_needYear muX9_needYear_3 muX9_needYear_2 muX9_needYear_1
  simp only [nrK, nrM]
  by_cases h1 : inR a 1 96 = true
  · by_cases h2 : inR b 0 16 = true
    · by_cases h3 : inR c 0 20 = true <;> simp [h1, h2, h3]
    · simp [h1, h2]
  · simp [h1]
theorem gate_house {E : EV} {L : LW} {μ : Mem} (hI : Inv E L μ) (p1 p2 : Int32) : (inR p1 0 (nI (eH E) - 1) = true ∧ inR p2 0 4 = true ∧ K_X9_house p1 p2 μ = 0 ∧ (muX9_house_1 p1 p2 μ = μ ∧ muX9_house_2 p1 p2 μ = μ) ∧ (∀ ν, KQ μ ν → (P_X10_bad (VX10_house_2 p1 p2 ν) 1 0 (upm ν 57 0 0) ∧ F_X10_bad (VX10_house_2 p1 p2 ν) 1 0 (upm ν 57 0 0) = 0 ∧ muX10_house_3 p1 p2 ν = upm ν 57 0 0) ∧ (P_X10_bad (VX10_house_4 p1 p2 ν) 2 1 (upm ν 57 0 0) ∧ F_X10_bad (VX10_house_4 p1 p2 ν) 2 1 (upm ν 57 0 0) = 0 ∧ muX10_house_5 p1 p2 ν = upm ν 57 0 0))) ∨ ∃ j, jB j ∧ QNo w2 μ (K_X9_house p1 p2 μ) (M_X9_house p1 p2 μ) (P_X9_house p1 p2 μ) (M_X10_house p1 p2) (P_X10_house p1 p2) j := by
  have hE := hI.2.2.1
  have hM := hI.2.1
  have hO := hI.1
  have d1 := hO.1.1
  have d2 := hO.1.2.1
  have d3 := hO.1.2.2.2
  cases h1 : inR p1 0 (nI (eH E) - 1) with
  | false =>
    have k1 : K_X9_needHouse p1 μ = 1 := by
      simp [nhK hE hO, h1]
    have s1 : muX9_house_1 p1 p2 μ = M_needR 12 μ := by
      simp [muX9_house_1, nhM hE hO, h1]
    refine Or.inr ⟨0, by first | rfl | exact Or.inl rfl | exact Or.inr rfl, by simp [K_X9_house, k1], by simp [P_X9_house, k1], by (unfold M_X9_house; first | exact s1 | (rw [if_neg (by rw [k1]; decide)]; exact s1)), fun ν hν => ?_⟩
    have e61 : ν 61 = μ 61 := hν 61 (by decide)
    have v2 : VX10_house_2 p1 p2 ν = 1 := by
      simp [VX10_house_2, muX10_house_1, F_X10_isHouse, F_X10_isThing, F_X10_areHouses, F_X10_isYear, isIn_eq, upm_other, e61, hM.1, hM.2.1, hM.2.2.2.1, h1]
    obtain ⟨bp2, bf2, bm2⟩ := bad_no (ν := ν) (w := 1) (b := 0) v2 (by decide) (Or.inl rfl)
    have m3 : muX10_house_3 p1 p2 ν = thr 1 0 ν := by
      unfold muX10_house_3
      exact bm2
    have m1 : muX10_house_1 p1 p2 ν = upm ν 57 0 0 := rfl
    exact ⟨by simp [P_X10_house, m1, m3, bp2, bf2], by simp [M_X10_house, m1, m3, bp2, bf2, w1, w2, nI]⟩
  | true =>
    cases h2 : inR p2 0 4 with
    | false =>
      have k1 : K_X9_needHouse p1 μ = 0 := by
        simp [nhK hE hO, h1]
      have s1 : muX9_house_1 p1 p2 μ = μ := by
        simp [muX9_house_1, nhM hE hO, h1]
      have k2 : K_X9_needRange p2 0 4 (muX9_house_1 p1 p2 μ) = 2 := by
        simp [s1, nrK, h1, h2]
      have s2 : muX9_house_2 p1 p2 μ = M_needR 13 μ := by
        simp [muX9_house_2, s1, nrM, h1, h2]
      refine Or.inr ⟨1, by first | rfl | exact Or.inl rfl | exact Or.inr rfl, by simp [K_X9_house, k1, k2], by simp [P_X9_house, k1, k2], by (unfold M_X9_house; rw [if_pos k1]; first | exact s2 | (rw [if_neg (by rw [k2]; decide)]; exact s2)), fun ν hν => ?_⟩
      have e61 : ν 61 = μ 61 := hν 61 (by decide)
      have v2 : VX10_house_2 p1 p2 ν = 0 := by
        simp [VX10_house_2, muX10_house_1, F_X10_isHouse, F_X10_isThing, F_X10_areHouses, F_X10_isYear, isIn_eq, upm_other, e61, hM.1, hM.2.1, hM.2.2.2.1, h1]
      obtain ⟨bp2, bf2, bm2⟩ := bad_ok (ν := ν) (w := 1) (b := 0) v2 (Or.inl rfl)
      have m3 : muX10_house_3 p1 p2 ν = upm ν 57 0 0 := by
        unfold muX10_house_3
        exact bm2
      have v4 : VX10_house_4 p1 p2 ν = 1 := by
        simp [VX10_house_4, muX10_house_1, F_X10_isHouse, F_X10_isThing, F_X10_areHouses, F_X10_isYear, isIn_eq, upm_other, e61, hM.1, hM.2.1, hM.2.2.2.1, m3, h1, h2]
      obtain ⟨bp4, bf4, bm4⟩ := bad_no (ν := ν) (w := 2) (b := 1) v4 (by decide) (Or.inr rfl)
      have m5 : muX10_house_5 p1 p2 ν = thr 2 1 ν := by
        unfold muX10_house_5
        rw [m3]
        exact bm4
      have m1 : muX10_house_1 p1 p2 ν = upm ν 57 0 0 := rfl
      exact ⟨by simp [P_X10_house, m1, m3, m5, bp2, bf2, bp4, bf4], by simp [M_X10_house, m1, m3, m5, bp2, bf2, bp4, bf4, w1, w2, nI]⟩
    | true =>
      have k1 : K_X9_needHouse p1 μ = 0 := by
        simp [nhK hE hO, h1]
      have s1 : muX9_house_1 p1 p2 μ = μ := by
        simp [muX9_house_1, nhM hE hO, h1]
      have k2 : K_X9_needRange p2 0 4 (muX9_house_1 p1 p2 μ) = 0 := by
        simp [s1, nrK, h1, h2]
      have s2 : muX9_house_2 p1 p2 μ = μ := by
        simp [muX9_house_2, s1, nrM, h1, h2]
      refine Or.inl ⟨rfl, rfl, by simp [K_X9_house, k1, k2], ⟨s1, s2⟩, fun ν hν => ?_⟩
      have e61 : ν 61 = μ 61 := hν.1 61 (by decide) (by decide) (by decide) (by decide) (by decide) (by decide) (by decide) (by decide) (by decide) (by decide) (by decide)
      have v2 : VX10_house_2 p1 p2 ν = 0 := by
        simp [VX10_house_2, muX10_house_1, F_X10_isHouse, F_X10_isThing, F_X10_areHouses, F_X10_isYear, isIn_eq, upm_other, e61, hM.1, hM.2.1, hM.2.2.2.1, h1]
      obtain ⟨bp2, bf2, bm2⟩ := bad_ok (ν := ν) (w := 1) (b := 0) v2 (Or.inl rfl)
      have m3 : muX10_house_3 p1 p2 ν = upm ν 57 0 0 := by
        unfold muX10_house_3
        exact bm2
      have v4 : VX10_house_4 p1 p2 ν = 0 := by
        simp [VX10_house_4, muX10_house_1, F_X10_isHouse, F_X10_isThing, F_X10_areHouses, F_X10_isYear, isIn_eq, upm_other, e61, hM.1, hM.2.1, hM.2.2.2.1, m3, h1, h2]
      obtain ⟨bp4, bf4, bm4⟩ := bad_ok (ν := ν) (w := 2) (b := 1) v4 (Or.inr rfl)
      have m5 : muX10_house_5 p1 p2 ν = upm ν 57 0 0 := by
        unfold muX10_house_5
        rw [m3]
        exact bm4
      exact ⟨⟨bp2, bf2, m3⟩, ⟨bp4, bf4, m5⟩⟩
theorem gate_thing {E : EV} {L : LW} {μ : Mem} (hI : Inv E L μ) (p1 p2 : Int32) : (inR p1 0 (nI (eT E) - 1) = true ∧ inR p2 0 6 = true ∧ K_X9_thing p1 p2 μ = 0 ∧ (muX9_thing_1 p1 p2 μ = μ ∧ muX9_thing_2 p1 p2 μ = μ) ∧ (∀ ν, KQ μ ν → (P_X10_bad (VX10_thing_2 p1 p2 ν) 1 0 (upm ν 57 0 0) ∧ F_X10_bad (VX10_thing_2 p1 p2 ν) 1 0 (upm ν 57 0 0) = 0 ∧ muX10_thing_3 p1 p2 ν = upm ν 57 0 0) ∧ (P_X10_bad (VX10_thing_4 p1 p2 ν) 2 1 (upm ν 57 0 0) ∧ F_X10_bad (VX10_thing_4 p1 p2 ν) 2 1 (upm ν 57 0 0) = 0 ∧ muX10_thing_5 p1 p2 ν = upm ν 57 0 0))) ∨ ∃ j, jB j ∧ QNo w2 μ (K_X9_thing p1 p2 μ) (M_X9_thing p1 p2 μ) True (M_X10_thing p1 p2) (P_X10_thing p1 p2) j := by
  have hE := hI.2.2.1
  have hM := hI.2.1
  have hO := hI.1
  have d1 := hO.1.1
  have d2 := hO.1.2.1
  have d3 := hO.1.2.2.2
  cases h1 : inR p1 0 (nI (eT E) - 1) with
  | false =>
    have k1 : K_X9_needElement p1 (μ 3 9) μ = 1 := by
      simp [hE.2.1, neK _ (by omega : eT E < 2 ^ 31), h1]
    have s1 : muX9_thing_1 p1 p2 μ = M_needR 12 μ := by
      simp [muX9_thing_1, hE.2.1, neM _ (by omega : eT E < 2 ^ 31), h1]
    refine Or.inr ⟨0, by first | rfl | exact Or.inl rfl | exact Or.inr rfl, by simp [K_X9_thing, k1], by trivial, by (unfold M_X9_thing; first | exact s1 | (rw [if_neg (by rw [k1]; decide)]; exact s1)), fun ν hν => ?_⟩
    have e61 : ν 61 = μ 61 := hν 61 (by decide)
    have v2 : VX10_thing_2 p1 p2 ν = 1 := by
      simp [VX10_thing_2, muX10_thing_1, F_X10_isHouse, F_X10_isThing, F_X10_areHouses, F_X10_isYear, isIn_eq, upm_other, e61, hM.1, hM.2.1, hM.2.2.2.1, h1]
    obtain ⟨bp2, bf2, bm2⟩ := bad_no (ν := ν) (w := 1) (b := 0) v2 (by decide) (Or.inl rfl)
    have m3 : muX10_thing_3 p1 p2 ν = thr 1 0 ν := by
      unfold muX10_thing_3
      exact bm2
    have m1 : muX10_thing_1 p1 p2 ν = upm ν 57 0 0 := rfl
    exact ⟨by simp [P_X10_thing, m1, m3, bp2, bf2], by simp [M_X10_thing, m1, m3, bp2, bf2, w1, w2, nI]⟩
  | true =>
    cases h2 : inR p2 0 6 with
    | false =>
      have k1 : K_X9_needElement p1 (μ 3 9) μ = 0 := by
        simp [hE.2.1, neK _ (by omega : eT E < 2 ^ 31), h1]
      have s1 : muX9_thing_1 p1 p2 μ = μ := by
        simp [muX9_thing_1, hE.2.1, neM _ (by omega : eT E < 2 ^ 31), h1]
      have k2 : K_X9_needRange p2 0 6 (muX9_thing_1 p1 p2 μ) = 2 := by
        simp [s1, nrK, h1, h2]
      have s2 : muX9_thing_2 p1 p2 μ = M_needR 13 μ := by
        simp [muX9_thing_2, s1, nrM, h1, h2]
      refine Or.inr ⟨1, by first | rfl | exact Or.inl rfl | exact Or.inr rfl, by simp [K_X9_thing, k1, k2], by trivial, by (unfold M_X9_thing; rw [if_pos k1]; first | exact s2 | (rw [if_neg (by rw [k2]; decide)]; exact s2)), fun ν hν => ?_⟩
      have e61 : ν 61 = μ 61 := hν 61 (by decide)
      have v2 : VX10_thing_2 p1 p2 ν = 0 := by
        simp [VX10_thing_2, muX10_thing_1, F_X10_isHouse, F_X10_isThing, F_X10_areHouses, F_X10_isYear, isIn_eq, upm_other, e61, hM.1, hM.2.1, hM.2.2.2.1, h1]
      obtain ⟨bp2, bf2, bm2⟩ := bad_ok (ν := ν) (w := 1) (b := 0) v2 (Or.inl rfl)
      have m3 : muX10_thing_3 p1 p2 ν = upm ν 57 0 0 := by
        unfold muX10_thing_3
        exact bm2
      have v4 : VX10_thing_4 p1 p2 ν = 1 := by
        simp [VX10_thing_4, muX10_thing_1, F_X10_isHouse, F_X10_isThing, F_X10_areHouses, F_X10_isYear, isIn_eq, upm_other, e61, hM.1, hM.2.1, hM.2.2.2.1, m3, h1, h2]
      obtain ⟨bp4, bf4, bm4⟩ := bad_no (ν := ν) (w := 2) (b := 1) v4 (by decide) (Or.inr rfl)
      have m5 : muX10_thing_5 p1 p2 ν = thr 2 1 ν := by
        unfold muX10_thing_5
        rw [m3]
        exact bm4
      have m1 : muX10_thing_1 p1 p2 ν = upm ν 57 0 0 := rfl
      exact ⟨by simp [P_X10_thing, m1, m3, m5, bp2, bf2, bp4, bf4], by simp [M_X10_thing, m1, m3, m5, bp2, bf2, bp4, bf4, w1, w2, nI]⟩
    | true =>
      have k1 : K_X9_needElement p1 (μ 3 9) μ = 0 := by
        simp [hE.2.1, neK _ (by omega : eT E < 2 ^ 31), h1]
      have s1 : muX9_thing_1 p1 p2 μ = μ := by
        simp [muX9_thing_1, hE.2.1, neM _ (by omega : eT E < 2 ^ 31), h1]
      have k2 : K_X9_needRange p2 0 6 (muX9_thing_1 p1 p2 μ) = 0 := by
        simp [s1, nrK, h1, h2]
      have s2 : muX9_thing_2 p1 p2 μ = μ := by
        simp [muX9_thing_2, s1, nrM, h1, h2]
      refine Or.inl ⟨rfl, rfl, by simp [K_X9_thing, k1, k2], ⟨s1, s2⟩, fun ν hν => ?_⟩
      have e61 : ν 61 = μ 61 := hν.1 61 (by decide) (by decide) (by decide) (by decide) (by decide) (by decide) (by decide) (by decide) (by decide) (by decide) (by decide)
      have v2 : VX10_thing_2 p1 p2 ν = 0 := by
        simp [VX10_thing_2, muX10_thing_1, F_X10_isHouse, F_X10_isThing, F_X10_areHouses, F_X10_isYear, isIn_eq, upm_other, e61, hM.1, hM.2.1, hM.2.2.2.1, h1]
      obtain ⟨bp2, bf2, bm2⟩ := bad_ok (ν := ν) (w := 1) (b := 0) v2 (Or.inl rfl)
      have m3 : muX10_thing_3 p1 p2 ν = upm ν 57 0 0 := by
        unfold muX10_thing_3
        exact bm2
      have v4 : VX10_thing_4 p1 p2 ν = 0 := by
        simp [VX10_thing_4, muX10_thing_1, F_X10_isHouse, F_X10_isThing, F_X10_areHouses, F_X10_isYear, isIn_eq, upm_other, e61, hM.1, hM.2.1, hM.2.2.2.1, m3, h1, h2]
      obtain ⟨bp4, bf4, bm4⟩ := bad_ok (ν := ν) (w := 2) (b := 1) v4 (Or.inr rfl)
      have m5 : muX10_thing_5 p1 p2 ν = upm ν 57 0 0 := by
        unfold muX10_thing_5
        rw [m3]
        exact bm4
      exact ⟨⟨bp2, bf2, m3⟩, ⟨bp4, bf4, m5⟩⟩
theorem gate_height {E : EV} {L : LW} {μ : Mem} (hI : Inv E L μ) (p1 : Int32) : (inR p1 0 99 = true ∧ K_X9_height p1 μ = 0 ∧ (muX9_height_1 p1 μ = μ) ∧ (∀ ν, KQ μ ν → (P_X10_bad (VX10_height_2 p1 ν) 1 1 (upm ν 57 0 0) ∧ F_X10_bad (VX10_height_2 p1 ν) 1 1 (upm ν 57 0 0) = 0 ∧ muX10_height_3 p1 ν = upm ν 57 0 0))) ∨ ∃ j, jI j ∧ QNo w1 μ (K_X9_height p1 μ) (M_X9_height p1 μ) (P_X9_height p1 μ) (M_X10_height p1) (P_X10_height p1) j := by
  have hE := hI.2.2.1
  have hM := hI.2.1
  have hO := hI.1
  have d1 := hO.1.1
  have d2 := hO.1.2.1
  have d3 := hO.1.2.2.2
  cases h1 : inR p1 0 99 with
  | false =>
    have k1 : K_X9_needRange p1 0 99 μ = 2 := by
      simp [nrK, h1]
    have s1 : muX9_height_1 p1 μ = M_needR 13 μ := by
      simp [muX9_height_1, nrM, h1]
    refine Or.inr ⟨1, by first | rfl | exact Or.inl rfl | exact Or.inr rfl, by simp [K_X9_height, k1], by simp [P_X9_height, k1], by (unfold M_X9_height; first | exact s1 | (rw [if_neg (by rw [k1]; decide)]; exact s1)), fun ν hν => ?_⟩
    have e61 : ν 61 = μ 61 := hν 61 (by decide)
    have v2 : VX10_height_2 p1 ν = 1 := by
      simp [VX10_height_2, muX10_height_1, F_X10_isHouse, F_X10_isThing, F_X10_areHouses, F_X10_isYear, isIn_eq, upm_other, e61, hM.1, hM.2.1, hM.2.2.2.1, h1]
    obtain ⟨bp2, bf2, bm2⟩ := bad_no (ν := ν) (w := 1) (b := 1) v2 (by decide) (Or.inr rfl)
    have m3 : muX10_height_3 p1 ν = thr 1 1 ν := by
      unfold muX10_height_3
      exact bm2
    have m1 : muX10_height_1 p1 ν = upm ν 57 0 0 := rfl
    exact ⟨by simp [P_X10_height, m1, m3, bp2, bf2], by simp [M_X10_height, m1, m3, bp2, bf2, w1, w2, nI]⟩
  | true =>
    have k1 : K_X9_needRange p1 0 99 μ = 0 := by
      simp [nrK, h1]
    have s1 : muX9_height_1 p1 μ = μ := by
      simp [muX9_height_1, nrM, h1]
    refine Or.inl ⟨rfl, by simp [K_X9_height, k1], s1, fun ν hν => ?_⟩
    have e61 : ν 61 = μ 61 := hν.1 61 (by decide) (by decide) (by decide) (by decide) (by decide) (by decide) (by decide) (by decide) (by decide) (by decide) (by decide)
    have v2 : VX10_height_2 p1 ν = 0 := by
      simp [VX10_height_2, muX10_height_1, F_X10_isHouse, F_X10_isThing, F_X10_areHouses, F_X10_isYear, isIn_eq, upm_other, e61, hM.1, hM.2.1, hM.2.2.2.1, h1]
    obtain ⟨bp2, bf2, bm2⟩ := bad_ok (ν := ν) (w := 1) (b := 1) v2 (Or.inr rfl)
    have m3 : muX10_height_3 p1 ν = upm ν 57 0 0 := by
      unfold muX10_height_3
      exact bm2
    exact ⟨bp2, bf2, m3⟩
theorem gate_find {E : EV} {L : LW} {μ : Mem} (hI : Inv E L μ) (p1 p2 : Int32) : (inR p1 0 (nI (eF E) - 1) = true ∧ inR p2 0 1 = true ∧ K_X9_find p1 p2 μ = 0 ∧ (muX9_find_1 p1 p2 μ = μ ∧ muX9_find_2 p1 p2 μ = μ) ∧ (∀ ν, KQ μ ν → (P_X10_bad (VX10_find_2 p1 p2 ν) 1 0 (upm ν 57 0 0) ∧ F_X10_bad (VX10_find_2 p1 p2 ν) 1 0 (upm ν 57 0 0) = 0 ∧ muX10_find_3 p1 p2 ν = upm ν 57 0 0) ∧ (P_X10_bad (VX10_find_4 p1 p2 ν) 2 1 (upm ν 57 0 0) ∧ F_X10_bad (VX10_find_4 p1 p2 ν) 2 1 (upm ν 57 0 0) = 0 ∧ muX10_find_5 p1 p2 ν = upm ν 57 0 0))) ∨ ∃ j, jB j ∧ QNo w2 μ (K_X9_find p1 p2 μ) (M_X9_find p1 p2 μ) True (M_X10_find p1 p2) (P_X10_find p1 p2) j := by
  have hE := hI.2.2.1
  have hM := hI.2.1
  have hO := hI.1
  have d1 := hO.1.1
  have d2 := hO.1.2.1
  have d3 := hO.1.2.2.2
  cases h1 : inR p1 0 (nI (eF E) - 1) with
  | false =>
    have k1 : K_X9_needElement p1 (μ 3 11) μ = 1 := by
      simp [hE.2.2.2.1, neK _ (by omega : eF E < 2 ^ 31), h1]
    have s1 : muX9_find_1 p1 p2 μ = M_needR 12 μ := by
      simp [muX9_find_1, hE.2.2.2.1, neM _ (by omega : eF E < 2 ^ 31), h1]
    refine Or.inr ⟨0, by first | rfl | exact Or.inl rfl | exact Or.inr rfl, by simp [K_X9_find, k1], by trivial, by (unfold M_X9_find; first | exact s1 | (rw [if_neg (by rw [k1]; decide)]; exact s1)), fun ν hν => ?_⟩
    have e61 : ν 61 = μ 61 := hν 61 (by decide)
    have v2 : VX10_find_2 p1 p2 ν = 1 := by
      simp [VX10_find_2, muX10_find_1, F_X10_isHouse, F_X10_isThing, F_X10_areHouses, F_X10_isYear, isIn_eq, upm_other, e61, hM.1, hM.2.1, hM.2.2.2.1, h1]
    obtain ⟨bp2, bf2, bm2⟩ := bad_no (ν := ν) (w := 1) (b := 0) v2 (by decide) (Or.inl rfl)
    have m3 : muX10_find_3 p1 p2 ν = thr 1 0 ν := by
      unfold muX10_find_3
      exact bm2
    have m1 : muX10_find_1 p1 p2 ν = upm ν 57 0 0 := rfl
    exact ⟨by simp [P_X10_find, m1, m3, bp2, bf2], by simp [M_X10_find, m1, m3, bp2, bf2, w1, w2, nI]⟩
  | true =>
    cases h2 : inR p2 0 1 with
    | false =>
      have k1 : K_X9_needElement p1 (μ 3 11) μ = 0 := by
        simp [hE.2.2.2.1, neK _ (by omega : eF E < 2 ^ 31), h1]
      have s1 : muX9_find_1 p1 p2 μ = μ := by
        simp [muX9_find_1, hE.2.2.2.1, neM _ (by omega : eF E < 2 ^ 31), h1]
      have k2 : K_X9_needRange p2 0 1 (muX9_find_1 p1 p2 μ) = 2 := by
        simp [s1, nrK, h1, h2]
      have s2 : muX9_find_2 p1 p2 μ = M_needR 13 μ := by
        simp [muX9_find_2, s1, nrM, h1, h2]
      refine Or.inr ⟨1, by first | rfl | exact Or.inl rfl | exact Or.inr rfl, by simp [K_X9_find, k1, k2], by trivial, by (unfold M_X9_find; rw [if_pos k1]; first | exact s2 | (rw [if_neg (by rw [k2]; decide)]; exact s2)), fun ν hν => ?_⟩
      have e61 : ν 61 = μ 61 := hν 61 (by decide)
      have v2 : VX10_find_2 p1 p2 ν = 0 := by
        simp [VX10_find_2, muX10_find_1, F_X10_isHouse, F_X10_isThing, F_X10_areHouses, F_X10_isYear, isIn_eq, upm_other, e61, hM.1, hM.2.1, hM.2.2.2.1, h1]
      obtain ⟨bp2, bf2, bm2⟩ := bad_ok (ν := ν) (w := 1) (b := 0) v2 (Or.inl rfl)
      have m3 : muX10_find_3 p1 p2 ν = upm ν 57 0 0 := by
        unfold muX10_find_3
        exact bm2
      have v4 : VX10_find_4 p1 p2 ν = 1 := by
        simp [VX10_find_4, muX10_find_1, F_X10_isHouse, F_X10_isThing, F_X10_areHouses, F_X10_isYear, isIn_eq, upm_other, e61, hM.1, hM.2.1, hM.2.2.2.1, m3, h1, h2]
      obtain ⟨bp4, bf4, bm4⟩ := bad_no (ν := ν) (w := 2) (b := 1) v4 (by decide) (Or.inr rfl)
      have m5 : muX10_find_5 p1 p2 ν = thr 2 1 ν := by
        unfold muX10_find_5
        rw [m3]
        exact bm4
      have m1 : muX10_find_1 p1 p2 ν = upm ν 57 0 0 := rfl
      exact ⟨by simp [P_X10_find, m1, m3, m5, bp2, bf2, bp4, bf4], by simp [M_X10_find, m1, m3, m5, bp2, bf2, bp4, bf4, w1, w2, nI]⟩
    | true =>
      have k1 : K_X9_needElement p1 (μ 3 11) μ = 0 := by
        simp [hE.2.2.2.1, neK _ (by omega : eF E < 2 ^ 31), h1]
      have s1 : muX9_find_1 p1 p2 μ = μ := by
        simp [muX9_find_1, hE.2.2.2.1, neM _ (by omega : eF E < 2 ^ 31), h1]
      have k2 : K_X9_needRange p2 0 1 (muX9_find_1 p1 p2 μ) = 0 := by
        simp [s1, nrK, h1, h2]
      have s2 : muX9_find_2 p1 p2 μ = μ := by
        simp [muX9_find_2, s1, nrM, h1, h2]
      refine Or.inl ⟨rfl, rfl, by simp [K_X9_find, k1, k2], ⟨s1, s2⟩, fun ν hν => ?_⟩
      have e61 : ν 61 = μ 61 := hν.1 61 (by decide) (by decide) (by decide) (by decide) (by decide) (by decide) (by decide) (by decide) (by decide) (by decide) (by decide)
      have v2 : VX10_find_2 p1 p2 ν = 0 := by
        simp [VX10_find_2, muX10_find_1, F_X10_isHouse, F_X10_isThing, F_X10_areHouses, F_X10_isYear, isIn_eq, upm_other, e61, hM.1, hM.2.1, hM.2.2.2.1, h1]
      obtain ⟨bp2, bf2, bm2⟩ := bad_ok (ν := ν) (w := 1) (b := 0) v2 (Or.inl rfl)
      have m3 : muX10_find_3 p1 p2 ν = upm ν 57 0 0 := by
        unfold muX10_find_3
        exact bm2
      have v4 : VX10_find_4 p1 p2 ν = 0 := by
        simp [VX10_find_4, muX10_find_1, F_X10_isHouse, F_X10_isThing, F_X10_areHouses, F_X10_isYear, isIn_eq, upm_other, e61, hM.1, hM.2.1, hM.2.2.2.1, m3, h1, h2]
      obtain ⟨bp4, bf4, bm4⟩ := bad_ok (ν := ν) (w := 2) (b := 1) v4 (Or.inr rfl)
      have m5 : muX10_find_5 p1 p2 ν = upm ν 57 0 0 := by
        unfold muX10_find_5
        rw [m3]
        exact bm4
      exact ⟨⟨bp2, bf2, m3⟩, ⟨bp4, bf4, m5⟩⟩
theorem gate_due {E : EV} {L : LW} {μ : Mem} (hI : Inv E L μ) (p1 : Int32) : (inR p1 0 (nI (eH E) - 1) = true ∧ K_X9_due p1 μ = 0 ∧ (muX9_due_1 p1 μ = μ) ∧ (∀ ν, KQ μ ν → (P_X10_bad (VX10_due_2 p1 ν) 1 0 (upm ν 57 0 0) ∧ F_X10_bad (VX10_due_2 p1 ν) 1 0 (upm ν 57 0 0) = 0 ∧ muX10_due_3 p1 ν = upm ν 57 0 0))) ∨ ∃ j, jN j ∧ QNo w1 μ (K_X9_due p1 μ) (M_X9_due p1 μ) (P_X9_due p1 μ) (M_X10_due p1) (P_X10_due p1) j := by
  have hE := hI.2.2.1
  have hM := hI.2.1
  have hO := hI.1
  have d1 := hO.1.1
  have d2 := hO.1.2.1
  have d3 := hO.1.2.2.2
  cases h1 : inR p1 0 (nI (eH E) - 1) with
  | false =>
    have k1 : K_X9_needHouse p1 μ = 1 := by
      simp [nhK hE hO, h1]
    have s1 : muX9_due_1 p1 μ = M_needR 12 μ := by
      simp [muX9_due_1, nhM hE hO, h1]
    refine Or.inr ⟨0, by first | rfl | exact Or.inl rfl | exact Or.inr rfl, by simp [K_X9_due, k1], by simp [P_X9_due, k1], by (unfold M_X9_due; first | exact s1 | (rw [if_neg (by rw [k1]; decide)]; exact s1)), fun ν hν => ?_⟩
    have e61 : ν 61 = μ 61 := hν 61 (by decide)
    have v2 : VX10_due_2 p1 ν = 1 := by
      simp [VX10_due_2, muX10_due_1, F_X10_isHouse, F_X10_isThing, F_X10_areHouses, F_X10_isYear, isIn_eq, upm_other, e61, hM.1, hM.2.1, hM.2.2.2.1, h1]
    obtain ⟨bp2, bf2, bm2⟩ := bad_no (ν := ν) (w := 1) (b := 0) v2 (by decide) (Or.inl rfl)
    have m3 : muX10_due_3 p1 ν = thr 1 0 ν := by
      unfold muX10_due_3
      exact bm2
    have m1 : muX10_due_1 p1 ν = upm ν 57 0 0 := rfl
    exact ⟨by simp [P_X10_due, m1, m3, bp2, bf2], by simp [M_X10_due, m1, m3, bp2, bf2, w1, w2, nI]⟩
  | true =>
    have k1 : K_X9_needHouse p1 μ = 0 := by
      simp [nhK hE hO, h1]
    have s1 : muX9_due_1 p1 μ = μ := by
      simp [muX9_due_1, nhM hE hO, h1]
    refine Or.inl ⟨rfl, by simp [K_X9_due, k1], s1, fun ν hν => ?_⟩
    have e61 : ν 61 = μ 61 := hν.1 61 (by decide) (by decide) (by decide) (by decide) (by decide) (by decide) (by decide) (by decide) (by decide) (by decide) (by decide)
    have v2 : VX10_due_2 p1 ν = 0 := by
      simp [VX10_due_2, muX10_due_1, F_X10_isHouse, F_X10_isThing, F_X10_areHouses, F_X10_isYear, isIn_eq, upm_other, e61, hM.1, hM.2.1, hM.2.2.2.1, h1]
    obtain ⟨bp2, bf2, bm2⟩ := bad_ok (ν := ν) (w := 1) (b := 0) v2 (Or.inl rfl)
    have m3 : muX10_due_3 p1 ν = upm ν 57 0 0 := by
      unfold muX10_due_3
      exact bm2
    exact ⟨bp2, bf2, m3⟩
theorem gate_would {E : EV} {L : LW} {μ : Mem} (hI : Inv E L μ) (p1 p2 p3 p4 p5 p6 : Int32) : (inR p1 1 60 = true ∧ inR p2 0 10 = true ∧ inR p3 0 10 = true ∧ inR p4 0 999 = true ∧ inR p5 0 40 = true ∧ inR p6 0 5 = true ∧ K_X9_would p1 p2 p3 p4 p5 p6 μ = 0 ∧ (muX9_would_1 p1 p2 p3 p4 p5 p6 μ = μ ∧ muX9_would_2 p1 p2 p3 p4 p5 p6 μ = μ ∧ muX9_would_3 p1 p2 p3 p4 p5 p6 μ = μ ∧ muX9_would_4 p1 p2 p3 p4 p5 p6 μ = μ ∧ muX9_would_5 p1 p2 p3 p4 p5 p6 μ = μ ∧ muX9_would_6 p1 p2 p3 p4 p5 p6 μ = μ) ∧ (∀ ν, KQ μ ν → (P_X10_bad (VX10_would_2 p1 p2 p3 p4 p5 p6 ν) 1 1 (upm ν 57 0 0) ∧ F_X10_bad (VX10_would_2 p1 p2 p3 p4 p5 p6 ν) 1 1 (upm ν 57 0 0) = 0 ∧ muX10_would_3 p1 p2 p3 p4 p5 p6 ν = upm ν 57 0 0))) ∨ ∃ j, jI j ∧ QNo w1 μ (K_X9_would p1 p2 p3 p4 p5 p6 μ) (M_X9_would p1 p2 p3 p4 p5 p6 μ) (P_X9_would p1 p2 p3 p4 p5 p6 μ) (M_X10_would p1 p2 p3 p4 p5 p6) (P_X10_would p1 p2 p3 p4 p5 p6) j := by
  have hE := hI.2.2.1
  have hM := hI.2.1
  have hO := hI.1
  have d1 := hO.1.1
  have d2 := hO.1.2.1
  have d3 := hO.1.2.2.2
  cases h1 : inR p1 1 60 with
  | false =>
    have k1 : K_X9_needRange p1 1 60 μ = 2 := by
      simp [nrK, h1]
    have s1 : muX9_would_1 p1 p2 p3 p4 p5 p6 μ = M_needR 13 μ := by
      simp [muX9_would_1, nrM, h1]
    refine Or.inr ⟨1, by first | rfl | exact Or.inl rfl | exact Or.inr rfl, by simp [K_X9_would, k1], by simp [P_X9_would, k1], by (unfold M_X9_would; first | exact s1 | (rw [if_neg (by rw [k1]; decide)]; exact s1)), fun ν hν => ?_⟩
    have e61 : ν 61 = μ 61 := hν 61 (by decide)
    have v2 : VX10_would_2 p1 p2 p3 p4 p5 p6 ν = 1 := by
      simp [VX10_would_2, muX10_would_1, F_X10_isHouse, F_X10_isThing, F_X10_areHouses, F_X10_isYear, isIn_eq, upm_other, e61, hM.1, hM.2.1, hM.2.2.2.1, h1]
    obtain ⟨bp2, bf2, bm2⟩ := bad_no (ν := ν) (w := 1) (b := 1) v2 (by decide) (Or.inr rfl)
    have m3 : muX10_would_3 p1 p2 p3 p4 p5 p6 ν = thr 1 1 ν := by
      unfold muX10_would_3
      exact bm2
    have m1 : muX10_would_1 p1 p2 p3 p4 p5 p6 ν = upm ν 57 0 0 := rfl
    exact ⟨by simp [P_X10_would, m1, m3, bp2, bf2], by simp [M_X10_would, m1, m3, bp2, bf2, w1, w2, nI]⟩
  | true =>
    cases h2 : inR p2 0 10 with
    | false =>
      have k1 : K_X9_needRange p1 1 60 μ = 0 := by
        simp [nrK, h1]
      have s1 : muX9_would_1 p1 p2 p3 p4 p5 p6 μ = μ := by
        simp [muX9_would_1, nrM, h1]
      have k2 : K_X9_needRange p2 0 10 (muX9_would_1 p1 p2 p3 p4 p5 p6 μ) = 2 := by
        simp [s1, nrK, h1, h2]
      have s2 : muX9_would_2 p1 p2 p3 p4 p5 p6 μ = M_needR 13 μ := by
        simp [muX9_would_2, s1, nrM, h1, h2]
      refine Or.inr ⟨1, by first | rfl | exact Or.inl rfl | exact Or.inr rfl, by simp [K_X9_would, k1, k2], by simp [P_X9_would, k1, k2], by (unfold M_X9_would; rw [if_pos k1]; first | exact s2 | (rw [if_neg (by rw [k2]; decide)]; exact s2)), fun ν hν => ?_⟩
      have e61 : ν 61 = μ 61 := hν 61 (by decide)
      have v2 : VX10_would_2 p1 p2 p3 p4 p5 p6 ν = 1 := by
        simp [VX10_would_2, muX10_would_1, F_X10_isHouse, F_X10_isThing, F_X10_areHouses, F_X10_isYear, isIn_eq, upm_other, e61, hM.1, hM.2.1, hM.2.2.2.1, h1, h2]
      obtain ⟨bp2, bf2, bm2⟩ := bad_no (ν := ν) (w := 1) (b := 1) v2 (by decide) (Or.inr rfl)
      have m3 : muX10_would_3 p1 p2 p3 p4 p5 p6 ν = thr 1 1 ν := by
        unfold muX10_would_3
        exact bm2
      have m1 : muX10_would_1 p1 p2 p3 p4 p5 p6 ν = upm ν 57 0 0 := rfl
      exact ⟨by simp [P_X10_would, m1, m3, bp2, bf2], by simp [M_X10_would, m1, m3, bp2, bf2, w1, w2, nI]⟩
    | true =>
      cases h3 : inR p3 0 10 with
      | false =>
        have k1 : K_X9_needRange p1 1 60 μ = 0 := by
          simp [nrK, h1]
        have s1 : muX9_would_1 p1 p2 p3 p4 p5 p6 μ = μ := by
          simp [muX9_would_1, nrM, h1]
        have k2 : K_X9_needRange p2 0 10 (muX9_would_1 p1 p2 p3 p4 p5 p6 μ) = 0 := by
          simp [s1, nrK, h1, h2]
        have s2 : muX9_would_2 p1 p2 p3 p4 p5 p6 μ = μ := by
          simp [muX9_would_2, s1, nrM, h1, h2]
        have k3 : K_X9_needRange p3 0 10 (muX9_would_2 p1 p2 p3 p4 p5 p6 μ) = 2 := by
          simp [s1, s2, nrK, h1, h2, h3]
        have s3 : muX9_would_3 p1 p2 p3 p4 p5 p6 μ = M_needR 13 μ := by
          simp [muX9_would_3, s1, s2, nrM, h1, h2, h3]
        refine Or.inr ⟨1, by first | rfl | exact Or.inl rfl | exact Or.inr rfl, by simp [K_X9_would, k1, k2, k3], by simp [P_X9_would, k1, k2, k3], by (unfold M_X9_would; rw [if_pos k1]; rw [if_pos k2]; first | exact s3 | (rw [if_neg (by rw [k3]; decide)]; exact s3)), fun ν hν => ?_⟩
        have e61 : ν 61 = μ 61 := hν 61 (by decide)
        have v2 : VX10_would_2 p1 p2 p3 p4 p5 p6 ν = 1 := by
          simp [VX10_would_2, muX10_would_1, F_X10_isHouse, F_X10_isThing, F_X10_areHouses, F_X10_isYear, isIn_eq, upm_other, e61, hM.1, hM.2.1, hM.2.2.2.1, h1, h2, h3]
        obtain ⟨bp2, bf2, bm2⟩ := bad_no (ν := ν) (w := 1) (b := 1) v2 (by decide) (Or.inr rfl)
        have m3 : muX10_would_3 p1 p2 p3 p4 p5 p6 ν = thr 1 1 ν := by
          unfold muX10_would_3
          exact bm2
        have m1 : muX10_would_1 p1 p2 p3 p4 p5 p6 ν = upm ν 57 0 0 := rfl
        exact ⟨by simp [P_X10_would, m1, m3, bp2, bf2], by simp [M_X10_would, m1, m3, bp2, bf2, w1, w2, nI]⟩
      | true =>
        cases h4 : inR p4 0 999 with
        | false =>
          have k1 : K_X9_needRange p1 1 60 μ = 0 := by
            simp [nrK, h1]
          have s1 : muX9_would_1 p1 p2 p3 p4 p5 p6 μ = μ := by
            simp [muX9_would_1, nrM, h1]
          have k2 : K_X9_needRange p2 0 10 (muX9_would_1 p1 p2 p3 p4 p5 p6 μ) = 0 := by
            simp [s1, nrK, h1, h2]
          have s2 : muX9_would_2 p1 p2 p3 p4 p5 p6 μ = μ := by
            simp [muX9_would_2, s1, nrM, h1, h2]
          have k3 : K_X9_needRange p3 0 10 (muX9_would_2 p1 p2 p3 p4 p5 p6 μ) = 0 := by
            simp [s1, s2, nrK, h1, h2, h3]
          have s3 : muX9_would_3 p1 p2 p3 p4 p5 p6 μ = μ := by
            simp [muX9_would_3, s1, s2, nrM, h1, h2, h3]
          have k4 : K_X9_needRange p4 0 999 (muX9_would_3 p1 p2 p3 p4 p5 p6 μ) = 2 := by
            simp [s1, s2, s3, nrK, h1, h2, h3, h4]
          have s4 : muX9_would_4 p1 p2 p3 p4 p5 p6 μ = M_needR 13 μ := by
            simp [muX9_would_4, s1, s2, s3, nrM, h1, h2, h3, h4]
          refine Or.inr ⟨1, by first | rfl | exact Or.inl rfl | exact Or.inr rfl, by simp [K_X9_would, k1, k2, k3, k4], by simp [P_X9_would, k1, k2, k3, k4], by (unfold M_X9_would; rw [if_pos k1]; rw [if_pos k2]; rw [if_pos k3]; first | exact s4 | (rw [if_neg (by rw [k4]; decide)]; exact s4)), fun ν hν => ?_⟩
          have e61 : ν 61 = μ 61 := hν 61 (by decide)
          have v2 : VX10_would_2 p1 p2 p3 p4 p5 p6 ν = 1 := by
            simp [VX10_would_2, muX10_would_1, F_X10_isHouse, F_X10_isThing, F_X10_areHouses, F_X10_isYear, isIn_eq, upm_other, e61, hM.1, hM.2.1, hM.2.2.2.1, h1, h2, h3, h4]
          obtain ⟨bp2, bf2, bm2⟩ := bad_no (ν := ν) (w := 1) (b := 1) v2 (by decide) (Or.inr rfl)
          have m3 : muX10_would_3 p1 p2 p3 p4 p5 p6 ν = thr 1 1 ν := by
            unfold muX10_would_3
            exact bm2
          have m1 : muX10_would_1 p1 p2 p3 p4 p5 p6 ν = upm ν 57 0 0 := rfl
          exact ⟨by simp [P_X10_would, m1, m3, bp2, bf2], by simp [M_X10_would, m1, m3, bp2, bf2, w1, w2, nI]⟩
        | true =>
          cases h5 : inR p5 0 40 with
          | false =>
            have k1 : K_X9_needRange p1 1 60 μ = 0 := by
              simp [nrK, h1]
            have s1 : muX9_would_1 p1 p2 p3 p4 p5 p6 μ = μ := by
              simp [muX9_would_1, nrM, h1]
            have k2 : K_X9_needRange p2 0 10 (muX9_would_1 p1 p2 p3 p4 p5 p6 μ) = 0 := by
              simp [s1, nrK, h1, h2]
            have s2 : muX9_would_2 p1 p2 p3 p4 p5 p6 μ = μ := by
              simp [muX9_would_2, s1, nrM, h1, h2]
            have k3 : K_X9_needRange p3 0 10 (muX9_would_2 p1 p2 p3 p4 p5 p6 μ) = 0 := by
              simp [s1, s2, nrK, h1, h2, h3]
            have s3 : muX9_would_3 p1 p2 p3 p4 p5 p6 μ = μ := by
              simp [muX9_would_3, s1, s2, nrM, h1, h2, h3]
            have k4 : K_X9_needRange p4 0 999 (muX9_would_3 p1 p2 p3 p4 p5 p6 μ) = 0 := by
              simp [s1, s2, s3, nrK, h1, h2, h3, h4]
            have s4 : muX9_would_4 p1 p2 p3 p4 p5 p6 μ = μ := by
              simp [muX9_would_4, s1, s2, s3, nrM, h1, h2, h3, h4]
            have k5 : K_X9_needRange p5 0 40 (muX9_would_4 p1 p2 p3 p4 p5 p6 μ) = 2 := by
              simp [s1, s2, s3, s4, nrK, h1, h2, h3, h4, h5]
            have s5 : muX9_would_5 p1 p2 p3 p4 p5 p6 μ = M_needR 13 μ := by
              simp [muX9_would_5, s1, s2, s3, s4, nrM, h1, h2, h3, h4, h5]
            refine Or.inr ⟨1, by first | rfl | exact Or.inl rfl | exact Or.inr rfl, by simp [K_X9_would, k1, k2, k3, k4, k5], by simp [P_X9_would, k1, k2, k3, k4, k5], by (unfold M_X9_would; rw [if_pos k1]; rw [if_pos k2]; rw [if_pos k3]; rw [if_pos k4]; first | exact s5 | (rw [if_neg (by rw [k5]; decide)]; exact s5)), fun ν hν => ?_⟩
            have e61 : ν 61 = μ 61 := hν 61 (by decide)
            have v2 : VX10_would_2 p1 p2 p3 p4 p5 p6 ν = 1 := by
              simp [VX10_would_2, muX10_would_1, F_X10_isHouse, F_X10_isThing, F_X10_areHouses, F_X10_isYear, isIn_eq, upm_other, e61, hM.1, hM.2.1, hM.2.2.2.1, h1, h2, h3, h4, h5]
            obtain ⟨bp2, bf2, bm2⟩ := bad_no (ν := ν) (w := 1) (b := 1) v2 (by decide) (Or.inr rfl)
            have m3 : muX10_would_3 p1 p2 p3 p4 p5 p6 ν = thr 1 1 ν := by
              unfold muX10_would_3
              exact bm2
            have m1 : muX10_would_1 p1 p2 p3 p4 p5 p6 ν = upm ν 57 0 0 := rfl
            exact ⟨by simp [P_X10_would, m1, m3, bp2, bf2], by simp [M_X10_would, m1, m3, bp2, bf2, w1, w2, nI]⟩
          | true =>
            cases h6 : inR p6 0 5 with
            | false =>
              have k1 : K_X9_needRange p1 1 60 μ = 0 := by
                simp [nrK, h1]
              have s1 : muX9_would_1 p1 p2 p3 p4 p5 p6 μ = μ := by
                simp [muX9_would_1, nrM, h1]
              have k2 : K_X9_needRange p2 0 10 (muX9_would_1 p1 p2 p3 p4 p5 p6 μ) = 0 := by
                simp [s1, nrK, h1, h2]
              have s2 : muX9_would_2 p1 p2 p3 p4 p5 p6 μ = μ := by
                simp [muX9_would_2, s1, nrM, h1, h2]
              have k3 : K_X9_needRange p3 0 10 (muX9_would_2 p1 p2 p3 p4 p5 p6 μ) = 0 := by
                simp [s1, s2, nrK, h1, h2, h3]
              have s3 : muX9_would_3 p1 p2 p3 p4 p5 p6 μ = μ := by
                simp [muX9_would_3, s1, s2, nrM, h1, h2, h3]
              have k4 : K_X9_needRange p4 0 999 (muX9_would_3 p1 p2 p3 p4 p5 p6 μ) = 0 := by
                simp [s1, s2, s3, nrK, h1, h2, h3, h4]
              have s4 : muX9_would_4 p1 p2 p3 p4 p5 p6 μ = μ := by
                simp [muX9_would_4, s1, s2, s3, nrM, h1, h2, h3, h4]
              have k5 : K_X9_needRange p5 0 40 (muX9_would_4 p1 p2 p3 p4 p5 p6 μ) = 0 := by
                simp [s1, s2, s3, s4, nrK, h1, h2, h3, h4, h5]
              have s5 : muX9_would_5 p1 p2 p3 p4 p5 p6 μ = μ := by
                simp [muX9_would_5, s1, s2, s3, s4, nrM, h1, h2, h3, h4, h5]
              have k6 : K_X9_needRange p6 0 5 (muX9_would_5 p1 p2 p3 p4 p5 p6 μ) = 2 := by
                simp [s1, s2, s3, s4, s5, nrK, h1, h2, h3, h4, h5, h6]
              have s6 : muX9_would_6 p1 p2 p3 p4 p5 p6 μ = M_needR 13 μ := by
                simp [muX9_would_6, s1, s2, s3, s4, s5, nrM, h1, h2, h3, h4, h5, h6]
              refine Or.inr ⟨1, by first | rfl | exact Or.inl rfl | exact Or.inr rfl, by simp [K_X9_would, k1, k2, k3, k4, k5, k6], by simp [P_X9_would, k1, k2, k3, k4, k5, k6], by (unfold M_X9_would; rw [if_pos k1]; rw [if_pos k2]; rw [if_pos k3]; rw [if_pos k4]; rw [if_pos k5]; first | exact s6 | (rw [if_neg (by rw [k6]; decide)]; exact s6)), fun ν hν => ?_⟩
              have e61 : ν 61 = μ 61 := hν 61 (by decide)
              have v2 : VX10_would_2 p1 p2 p3 p4 p5 p6 ν = 1 := by
                simp [VX10_would_2, muX10_would_1, F_X10_isHouse, F_X10_isThing, F_X10_areHouses, F_X10_isYear, isIn_eq, upm_other, e61, hM.1, hM.2.1, hM.2.2.2.1, h1, h2, h3, h4, h5, h6]
              obtain ⟨bp2, bf2, bm2⟩ := bad_no (ν := ν) (w := 1) (b := 1) v2 (by decide) (Or.inr rfl)
              have m3 : muX10_would_3 p1 p2 p3 p4 p5 p6 ν = thr 1 1 ν := by
                unfold muX10_would_3
                exact bm2
              have m1 : muX10_would_1 p1 p2 p3 p4 p5 p6 ν = upm ν 57 0 0 := rfl
              exact ⟨by simp [P_X10_would, m1, m3, bp2, bf2], by simp [M_X10_would, m1, m3, bp2, bf2, w1, w2, nI]⟩
            | true =>
              have k1 : K_X9_needRange p1 1 60 μ = 0 := by
                simp [nrK, h1]
              have s1 : muX9_would_1 p1 p2 p3 p4 p5 p6 μ = μ := by
                simp [muX9_would_1, nrM, h1]
              have k2 : K_X9_needRange p2 0 10 (muX9_would_1 p1 p2 p3 p4 p5 p6 μ) = 0 := by
                simp [s1, nrK, h1, h2]
              have s2 : muX9_would_2 p1 p2 p3 p4 p5 p6 μ = μ := by
                simp [muX9_would_2, s1, nrM, h1, h2]
              have k3 : K_X9_needRange p3 0 10 (muX9_would_2 p1 p2 p3 p4 p5 p6 μ) = 0 := by
                simp [s1, s2, nrK, h1, h2, h3]
              have s3 : muX9_would_3 p1 p2 p3 p4 p5 p6 μ = μ := by
                simp [muX9_would_3, s1, s2, nrM, h1, h2, h3]
              have k4 : K_X9_needRange p4 0 999 (muX9_would_3 p1 p2 p3 p4 p5 p6 μ) = 0 := by
                simp [s1, s2, s3, nrK, h1, h2, h3, h4]
              have s4 : muX9_would_4 p1 p2 p3 p4 p5 p6 μ = μ := by
                simp [muX9_would_4, s1, s2, s3, nrM, h1, h2, h3, h4]
              have k5 : K_X9_needRange p5 0 40 (muX9_would_4 p1 p2 p3 p4 p5 p6 μ) = 0 := by
                simp [s1, s2, s3, s4, nrK, h1, h2, h3, h4, h5]
              have s5 : muX9_would_5 p1 p2 p3 p4 p5 p6 μ = μ := by
                simp [muX9_would_5, s1, s2, s3, s4, nrM, h1, h2, h3, h4, h5]
              have k6 : K_X9_needRange p6 0 5 (muX9_would_5 p1 p2 p3 p4 p5 p6 μ) = 0 := by
                simp [s1, s2, s3, s4, s5, nrK, h1, h2, h3, h4, h5, h6]
              have s6 : muX9_would_6 p1 p2 p3 p4 p5 p6 μ = μ := by
                simp [muX9_would_6, s1, s2, s3, s4, s5, nrM, h1, h2, h3, h4, h5, h6]
              refine Or.inl ⟨rfl, rfl, rfl, rfl, rfl, rfl, by simp [K_X9_would, k1, k2, k3, k4, k5, k6], ⟨s1, s2, s3, s4, s5, s6⟩, fun ν hν => ?_⟩
              have e61 : ν 61 = μ 61 := hν.1 61 (by decide) (by decide) (by decide) (by decide) (by decide) (by decide) (by decide) (by decide) (by decide) (by decide) (by decide)
              have v2 : VX10_would_2 p1 p2 p3 p4 p5 p6 ν = 0 := by
                simp [VX10_would_2, muX10_would_1, F_X10_isHouse, F_X10_isThing, F_X10_areHouses, F_X10_isYear, isIn_eq, upm_other, e61, hM.1, hM.2.1, hM.2.2.2.1, h1, h2, h3, h4, h5, h6]
              obtain ⟨bp2, bf2, bm2⟩ := bad_ok (ν := ν) (w := 1) (b := 1) v2 (Or.inr rfl)
              have m3 : muX10_would_3 p1 p2 p3 p4 p5 p6 ν = upm ν 57 0 0 := by
                unfold muX10_would_3
                exact bm2
              exact ⟨bp2, bf2, m3⟩
theorem gate_ahead {E : EV} {L : LW} {μ : Mem} (hI : Inv E L μ) (p1 p2 : Int32) : (inR p1 0 60 = true ∧ inR p2 0 3 = true ∧ K_X9_ahead p1 p2 μ = 0 ∧ (muX9_ahead_1 p1 p2 μ = μ ∧ muX9_ahead_2 p1 p2 μ = μ) ∧ (∀ ν, KQ μ ν → (P_X10_bad (VX10_ahead_2 p1 p2 ν) 1 1 (upm ν 57 0 0) ∧ F_X10_bad (VX10_ahead_2 p1 p2 ν) 1 1 (upm ν 57 0 0) = 0 ∧ muX10_ahead_3 p1 p2 ν = upm ν 57 0 0))) ∨ ∃ j, jI j ∧ QNo w1 μ (K_X9_ahead p1 p2 μ) (M_X9_ahead p1 p2 μ) (P_X9_ahead p1 p2 μ) (M_X10_ahead p1 p2) (P_X10_ahead p1 p2) j := by
  have hE := hI.2.2.1
  have hM := hI.2.1
  have hO := hI.1
  have d1 := hO.1.1
  have d2 := hO.1.2.1
  have d3 := hO.1.2.2.2
  cases h1 : inR p1 0 60 with
  | false =>
    have k1 : K_X9_needRange p1 0 60 μ = 2 := by
      simp [nrK, h1]
    have s1 : muX9_ahead_1 p1 p2 μ = M_needR 13 μ := by
      simp [muX9_ahead_1, nrM, h1]
    refine Or.inr ⟨1, by first | rfl | exact Or.inl rfl | exact Or.inr rfl, by simp [K_X9_ahead, k1], by simp [P_X9_ahead, k1], by (unfold M_X9_ahead; first | exact s1 | (rw [if_neg (by rw [k1]; decide)]; exact s1)), fun ν hν => ?_⟩
    have e61 : ν 61 = μ 61 := hν 61 (by decide)
    have v2 : VX10_ahead_2 p1 p2 ν = 1 := by
      simp [VX10_ahead_2, muX10_ahead_1, F_X10_isHouse, F_X10_isThing, F_X10_areHouses, F_X10_isYear, isIn_eq, upm_other, e61, hM.1, hM.2.1, hM.2.2.2.1, h1]
    obtain ⟨bp2, bf2, bm2⟩ := bad_no (ν := ν) (w := 1) (b := 1) v2 (by decide) (Or.inr rfl)
    have m3 : muX10_ahead_3 p1 p2 ν = thr 1 1 ν := by
      unfold muX10_ahead_3
      exact bm2
    have m1 : muX10_ahead_1 p1 p2 ν = upm ν 57 0 0 := rfl
    exact ⟨by simp [P_X10_ahead, m1, m3, bp2, bf2], by simp [M_X10_ahead, m1, m3, bp2, bf2, w1, w2, nI]⟩
  | true =>
    cases h2 : inR p2 0 3 with
    | false =>
      have k1 : K_X9_needRange p1 0 60 μ = 0 := by
        simp [nrK, h1]
      have s1 : muX9_ahead_1 p1 p2 μ = μ := by
        simp [muX9_ahead_1, nrM, h1]
      have k2 : K_X9_needRange p2 0 3 (muX9_ahead_1 p1 p2 μ) = 2 := by
        simp [s1, nrK, h1, h2]
      have s2 : muX9_ahead_2 p1 p2 μ = M_needR 13 μ := by
        simp [muX9_ahead_2, s1, nrM, h1, h2]
      refine Or.inr ⟨1, by first | rfl | exact Or.inl rfl | exact Or.inr rfl, by simp [K_X9_ahead, k1, k2], by simp [P_X9_ahead, k1, k2], by (unfold M_X9_ahead; rw [if_pos k1]; first | exact s2 | (rw [if_neg (by rw [k2]; decide)]; exact s2)), fun ν hν => ?_⟩
      have e61 : ν 61 = μ 61 := hν 61 (by decide)
      have v2 : VX10_ahead_2 p1 p2 ν = 1 := by
        simp [VX10_ahead_2, muX10_ahead_1, F_X10_isHouse, F_X10_isThing, F_X10_areHouses, F_X10_isYear, isIn_eq, upm_other, e61, hM.1, hM.2.1, hM.2.2.2.1, h1, h2]
      obtain ⟨bp2, bf2, bm2⟩ := bad_no (ν := ν) (w := 1) (b := 1) v2 (by decide) (Or.inr rfl)
      have m3 : muX10_ahead_3 p1 p2 ν = thr 1 1 ν := by
        unfold muX10_ahead_3
        exact bm2
      have m1 : muX10_ahead_1 p1 p2 ν = upm ν 57 0 0 := rfl
      exact ⟨by simp [P_X10_ahead, m1, m3, bp2, bf2], by simp [M_X10_ahead, m1, m3, bp2, bf2, w1, w2, nI]⟩
    | true =>
      have k1 : K_X9_needRange p1 0 60 μ = 0 := by
        simp [nrK, h1]
      have s1 : muX9_ahead_1 p1 p2 μ = μ := by
        simp [muX9_ahead_1, nrM, h1]
      have k2 : K_X9_needRange p2 0 3 (muX9_ahead_1 p1 p2 μ) = 0 := by
        simp [s1, nrK, h1, h2]
      have s2 : muX9_ahead_2 p1 p2 μ = μ := by
        simp [muX9_ahead_2, s1, nrM, h1, h2]
      refine Or.inl ⟨rfl, rfl, by simp [K_X9_ahead, k1, k2], ⟨s1, s2⟩, fun ν hν => ?_⟩
      have e61 : ν 61 = μ 61 := hν.1 61 (by decide) (by decide) (by decide) (by decide) (by decide) (by decide) (by decide) (by decide) (by decide) (by decide) (by decide)
      have v2 : VX10_ahead_2 p1 p2 ν = 0 := by
        simp [VX10_ahead_2, muX10_ahead_1, F_X10_isHouse, F_X10_isThing, F_X10_areHouses, F_X10_isYear, isIn_eq, upm_other, e61, hM.1, hM.2.1, hM.2.2.2.1, h1, h2]
      obtain ⟨bp2, bf2, bm2⟩ := bad_ok (ν := ν) (w := 1) (b := 1) v2 (Or.inr rfl)
      have m3 : muX10_ahead_3 p1 p2 ν = upm ν 57 0 0 := by
        unfold muX10_ahead_3
        exact bm2
      exact ⟨bp2, bf2, m3⟩
theorem gate_comes {E : EV} {L : LW} {μ : Mem} (hI : Inv E L μ) (p1 : Int32) : (inR p1 0 (nI (eH E) - 1) = true ∧ K_X9_comes p1 μ = 0 ∧ (muX9_comes_1 p1 μ = μ) ∧ (∀ ν, KQ μ ν → (P_X10_bad (VX10_comes_2 p1 ν) 1 0 (upm ν 57 0 0) ∧ F_X10_bad (VX10_comes_2 p1 ν) 1 0 (upm ν 57 0 0) = 0 ∧ muX10_comes_3 p1 ν = upm ν 57 0 0))) ∨ ∃ j, jN j ∧ QNo w1 μ (K_X9_comes p1 μ) (M_X9_comes p1 μ) (P_X9_comes p1 μ) (M_X10_comes p1) (P_X10_comes p1) j := by
  have hE := hI.2.2.1
  have hM := hI.2.1
  have hO := hI.1
  have d1 := hO.1.1
  have d2 := hO.1.2.1
  have d3 := hO.1.2.2.2
  cases h1 : inR p1 0 (nI (eH E) - 1) with
  | false =>
    have k1 : K_X9_needHouse p1 μ = 1 := by
      simp [nhK hE hO, h1]
    have s1 : muX9_comes_1 p1 μ = M_needR 12 μ := by
      simp [muX9_comes_1, nhM hE hO, h1]
    refine Or.inr ⟨0, by first | rfl | exact Or.inl rfl | exact Or.inr rfl, by simp [K_X9_comes, k1], by simp [P_X9_comes, k1], by (unfold M_X9_comes; first | exact s1 | (rw [if_neg (by rw [k1]; decide)]; exact s1)), fun ν hν => ?_⟩
    have e61 : ν 61 = μ 61 := hν 61 (by decide)
    have v2 : VX10_comes_2 p1 ν = 1 := by
      simp [VX10_comes_2, muX10_comes_1, F_X10_isHouse, F_X10_isThing, F_X10_areHouses, F_X10_isYear, isIn_eq, upm_other, e61, hM.1, hM.2.1, hM.2.2.2.1, h1]
    obtain ⟨bp2, bf2, bm2⟩ := bad_no (ν := ν) (w := 1) (b := 0) v2 (by decide) (Or.inl rfl)
    have m3 : muX10_comes_3 p1 ν = thr 1 0 ν := by
      unfold muX10_comes_3
      exact bm2
    have m1 : muX10_comes_1 p1 ν = upm ν 57 0 0 := rfl
    exact ⟨by simp [P_X10_comes, m1, m3, bp2, bf2], by simp [M_X10_comes, m1, m3, bp2, bf2, w1, w2, nI]⟩
  | true =>
    have k1 : K_X9_needHouse p1 μ = 0 := by
      simp [nhK hE hO, h1]
    have s1 : muX9_comes_1 p1 μ = μ := by
      simp [muX9_comes_1, nhM hE hO, h1]
    refine Or.inl ⟨rfl, by simp [K_X9_comes, k1], s1, fun ν hν => ?_⟩
    have e61 : ν 61 = μ 61 := hν.1 61 (by decide) (by decide) (by decide) (by decide) (by decide) (by decide) (by decide) (by decide) (by decide) (by decide) (by decide)
    have v2 : VX10_comes_2 p1 ν = 0 := by
      simp [VX10_comes_2, muX10_comes_1, F_X10_isHouse, F_X10_isThing, F_X10_areHouses, F_X10_isYear, isIn_eq, upm_other, e61, hM.1, hM.2.1, hM.2.2.2.1, h1]
    obtain ⟨bp2, bf2, bm2⟩ := bad_ok (ν := ν) (w := 1) (b := 0) v2 (Or.inl rfl)
    have m3 : muX10_comes_3 p1 ν = upm ν 57 0 0 := by
      unfold muX10_comes_3
      exact bm2
    exact ⟨bp2, bf2, m3⟩
theorem gate_spring {E : EV} {L : LW} {μ : Mem} (hI : Inv E L μ) (p1 : Int32) : (inR p1 0 1 = true ∧ K_X9_spring p1 μ = 0 ∧ (muX9_spring_1 p1 μ = μ) ∧ (∀ ν, KQ μ ν → (P_X10_bad (VX10_spring_2 p1 ν) 1 1 (upm ν 57 0 0) ∧ F_X10_bad (VX10_spring_2 p1 ν) 1 1 (upm ν 57 0 0) = 0 ∧ muX10_spring_3 p1 ν = upm ν 57 0 0))) ∨ ∃ j, jI j ∧ QNo w1 μ (K_X9_spring p1 μ) (M_X9_spring p1 μ) (P_X9_spring p1 μ) (M_X10_spring p1) (P_X10_spring p1) j := by
  have hE := hI.2.2.1
  have hM := hI.2.1
  have hO := hI.1
  have d1 := hO.1.1
  have d2 := hO.1.2.1
  have d3 := hO.1.2.2.2
  cases h1 : inR p1 0 1 with
  | false =>
    have k1 : K_X9_needRange p1 0 1 μ = 2 := by
      simp [nrK, h1]
    have s1 : muX9_spring_1 p1 μ = M_needR 13 μ := by
      simp [muX9_spring_1, nrM, h1]
    refine Or.inr ⟨1, by first | rfl | exact Or.inl rfl | exact Or.inr rfl, by simp [K_X9_spring, k1], by simp [P_X9_spring, k1], by (unfold M_X9_spring; first | exact s1 | (rw [if_neg (by rw [k1]; decide)]; exact s1)), fun ν hν => ?_⟩
    have e61 : ν 61 = μ 61 := hν 61 (by decide)
    have v2 : VX10_spring_2 p1 ν = 1 := by
      simp [VX10_spring_2, muX10_spring_1, F_X10_isHouse, F_X10_isThing, F_X10_areHouses, F_X10_isYear, isIn_eq, upm_other, e61, hM.1, hM.2.1, hM.2.2.2.1, h1]
    obtain ⟨bp2, bf2, bm2⟩ := bad_no (ν := ν) (w := 1) (b := 1) v2 (by decide) (Or.inr rfl)
    have m3 : muX10_spring_3 p1 ν = thr 1 1 ν := by
      unfold muX10_spring_3
      exact bm2
    have m1 : muX10_spring_1 p1 ν = upm ν 57 0 0 := rfl
    exact ⟨by simp [P_X10_spring, m1, m3, bp2, bf2], by simp [M_X10_spring, m1, m3, bp2, bf2, w1, w2, nI]⟩
  | true =>
    have k1 : K_X9_needRange p1 0 1 μ = 0 := by
      simp [nrK, h1]
    have s1 : muX9_spring_1 p1 μ = μ := by
      simp [muX9_spring_1, nrM, h1]
    refine Or.inl ⟨rfl, by simp [K_X9_spring, k1], s1, fun ν hν => ?_⟩
    have e61 : ν 61 = μ 61 := hν.1 61 (by decide) (by decide) (by decide) (by decide) (by decide) (by decide) (by decide) (by decide) (by decide) (by decide) (by decide)
    have v2 : VX10_spring_2 p1 ν = 0 := by
      simp [VX10_spring_2, muX10_spring_1, F_X10_isHouse, F_X10_isThing, F_X10_areHouses, F_X10_isYear, isIn_eq, upm_other, e61, hM.1, hM.2.1, hM.2.2.2.1, h1]
    obtain ⟨bp2, bf2, bm2⟩ := bad_ok (ν := ν) (w := 1) (b := 1) v2 (Or.inr rfl)
    have m3 : muX10_spring_3 p1 ν = upm ν 57 0 0 := by
      unfold muX10_spring_3
      exact bm2
    exact ⟨bp2, bf2, m3⟩
theorem gate_carry {E : EV} {L : LW} {μ : Mem} (hI : Inv E L μ) (p1 p2 p3 : Int32) : (inR p1 0 99 = true ∧ inR p2 0 24 = true ∧ inR p3 0 1 = true ∧ K_X9_carry p1 p2 p3 μ = 0 ∧ (muX9_carry_1 p1 p2 p3 μ = μ ∧ muX9_carry_2 p1 p2 p3 μ = μ ∧ muX9_carry_3 p1 p2 p3 μ = μ) ∧ (∀ ν, KQ μ ν → (P_X10_bad (VX10_carry_2 p1 p2 p3 ν) 1 1 (upm ν 57 0 0) ∧ F_X10_bad (VX10_carry_2 p1 p2 p3 ν) 1 1 (upm ν 57 0 0) = 0 ∧ muX10_carry_3 p1 p2 p3 ν = upm ν 57 0 0))) ∨ ∃ j, jI j ∧ QNo w1 μ (K_X9_carry p1 p2 p3 μ) (M_X9_carry p1 p2 p3 μ) (P_X9_carry p1 p2 p3 μ) (M_X10_carry p1 p2 p3) (P_X10_carry p1 p2 p3) j := by
  have hE := hI.2.2.1
  have hM := hI.2.1
  have hO := hI.1
  have d1 := hO.1.1
  have d2 := hO.1.2.1
  have d3 := hO.1.2.2.2
  cases h1 : inR p1 0 99 with
  | false =>
    have k1 : K_X9_needRange p1 0 99 μ = 2 := by
      simp [nrK, h1]
    have s1 : muX9_carry_1 p1 p2 p3 μ = M_needR 13 μ := by
      simp [muX9_carry_1, nrM, h1]
    refine Or.inr ⟨1, by first | rfl | exact Or.inl rfl | exact Or.inr rfl, by simp [K_X9_carry, k1], by simp [P_X9_carry, k1], by (unfold M_X9_carry; first | exact s1 | (rw [if_neg (by rw [k1]; decide)]; exact s1)), fun ν hν => ?_⟩
    have e61 : ν 61 = μ 61 := hν 61 (by decide)
    have v2 : VX10_carry_2 p1 p2 p3 ν = 1 := by
      simp [VX10_carry_2, muX10_carry_1, F_X10_isHouse, F_X10_isThing, F_X10_areHouses, F_X10_isYear, isIn_eq, upm_other, e61, hM.1, hM.2.1, hM.2.2.2.1, h1]
    obtain ⟨bp2, bf2, bm2⟩ := bad_no (ν := ν) (w := 1) (b := 1) v2 (by decide) (Or.inr rfl)
    have m3 : muX10_carry_3 p1 p2 p3 ν = thr 1 1 ν := by
      unfold muX10_carry_3
      exact bm2
    have m1 : muX10_carry_1 p1 p2 p3 ν = upm ν 57 0 0 := rfl
    exact ⟨by simp [P_X10_carry, m1, m3, bp2, bf2], by simp [M_X10_carry, m1, m3, bp2, bf2, w1, w2, nI]⟩
  | true =>
    cases h2 : inR p2 0 24 with
    | false =>
      have k1 : K_X9_needRange p1 0 99 μ = 0 := by
        simp [nrK, h1]
      have s1 : muX9_carry_1 p1 p2 p3 μ = μ := by
        simp [muX9_carry_1, nrM, h1]
      have k2 : K_X9_needRange p2 0 24 (muX9_carry_1 p1 p2 p3 μ) = 2 := by
        simp [s1, nrK, h1, h2]
      have s2 : muX9_carry_2 p1 p2 p3 μ = M_needR 13 μ := by
        simp [muX9_carry_2, s1, nrM, h1, h2]
      refine Or.inr ⟨1, by first | rfl | exact Or.inl rfl | exact Or.inr rfl, by simp [K_X9_carry, k1, k2], by simp [P_X9_carry, k1, k2], by (unfold M_X9_carry; rw [if_pos k1]; first | exact s2 | (rw [if_neg (by rw [k2]; decide)]; exact s2)), fun ν hν => ?_⟩
      have e61 : ν 61 = μ 61 := hν 61 (by decide)
      have v2 : VX10_carry_2 p1 p2 p3 ν = 1 := by
        simp [VX10_carry_2, muX10_carry_1, F_X10_isHouse, F_X10_isThing, F_X10_areHouses, F_X10_isYear, isIn_eq, upm_other, e61, hM.1, hM.2.1, hM.2.2.2.1, h1, h2]
      obtain ⟨bp2, bf2, bm2⟩ := bad_no (ν := ν) (w := 1) (b := 1) v2 (by decide) (Or.inr rfl)
      have m3 : muX10_carry_3 p1 p2 p3 ν = thr 1 1 ν := by
        unfold muX10_carry_3
        exact bm2
      have m1 : muX10_carry_1 p1 p2 p3 ν = upm ν 57 0 0 := rfl
      exact ⟨by simp [P_X10_carry, m1, m3, bp2, bf2], by simp [M_X10_carry, m1, m3, bp2, bf2, w1, w2, nI]⟩
    | true =>
      cases h3 : inR p3 0 1 with
      | false =>
        have k1 : K_X9_needRange p1 0 99 μ = 0 := by
          simp [nrK, h1]
        have s1 : muX9_carry_1 p1 p2 p3 μ = μ := by
          simp [muX9_carry_1, nrM, h1]
        have k2 : K_X9_needRange p2 0 24 (muX9_carry_1 p1 p2 p3 μ) = 0 := by
          simp [s1, nrK, h1, h2]
        have s2 : muX9_carry_2 p1 p2 p3 μ = μ := by
          simp [muX9_carry_2, s1, nrM, h1, h2]
        have k3 : K_X9_needRange p3 0 1 (muX9_carry_2 p1 p2 p3 μ) = 2 := by
          simp [s1, s2, nrK, h1, h2, h3]
        have s3 : muX9_carry_3 p1 p2 p3 μ = M_needR 13 μ := by
          simp [muX9_carry_3, s1, s2, nrM, h1, h2, h3]
        refine Or.inr ⟨1, by first | rfl | exact Or.inl rfl | exact Or.inr rfl, by simp [K_X9_carry, k1, k2, k3], by simp [P_X9_carry, k1, k2, k3], by (unfold M_X9_carry; rw [if_pos k1]; rw [if_pos k2]; first | exact s3 | (rw [if_neg (by rw [k3]; decide)]; exact s3)), fun ν hν => ?_⟩
        have e61 : ν 61 = μ 61 := hν 61 (by decide)
        have v2 : VX10_carry_2 p1 p2 p3 ν = 1 := by
          simp [VX10_carry_2, muX10_carry_1, F_X10_isHouse, F_X10_isThing, F_X10_areHouses, F_X10_isYear, isIn_eq, upm_other, e61, hM.1, hM.2.1, hM.2.2.2.1, h1, h2, h3]
        obtain ⟨bp2, bf2, bm2⟩ := bad_no (ν := ν) (w := 1) (b := 1) v2 (by decide) (Or.inr rfl)
        have m3 : muX10_carry_3 p1 p2 p3 ν = thr 1 1 ν := by
          unfold muX10_carry_3
          exact bm2
        have m1 : muX10_carry_1 p1 p2 p3 ν = upm ν 57 0 0 := rfl
        exact ⟨by simp [P_X10_carry, m1, m3, bp2, bf2], by simp [M_X10_carry, m1, m3, bp2, bf2, w1, w2, nI]⟩
      | true =>
        have k1 : K_X9_needRange p1 0 99 μ = 0 := by
          simp [nrK, h1]
        have s1 : muX9_carry_1 p1 p2 p3 μ = μ := by
          simp [muX9_carry_1, nrM, h1]
        have k2 : K_X9_needRange p2 0 24 (muX9_carry_1 p1 p2 p3 μ) = 0 := by
          simp [s1, nrK, h1, h2]
        have s2 : muX9_carry_2 p1 p2 p3 μ = μ := by
          simp [muX9_carry_2, s1, nrM, h1, h2]
        have k3 : K_X9_needRange p3 0 1 (muX9_carry_2 p1 p2 p3 μ) = 0 := by
          simp [s1, s2, nrK, h1, h2, h3]
        have s3 : muX9_carry_3 p1 p2 p3 μ = μ := by
          simp [muX9_carry_3, s1, s2, nrM, h1, h2, h3]
        refine Or.inl ⟨rfl, rfl, rfl, by simp [K_X9_carry, k1, k2, k3], ⟨s1, s2, s3⟩, fun ν hν => ?_⟩
        have e61 : ν 61 = μ 61 := hν.1 61 (by decide) (by decide) (by decide) (by decide) (by decide) (by decide) (by decide) (by decide) (by decide) (by decide) (by decide)
        have v2 : VX10_carry_2 p1 p2 p3 ν = 0 := by
          simp [VX10_carry_2, muX10_carry_1, F_X10_isHouse, F_X10_isThing, F_X10_areHouses, F_X10_isYear, isIn_eq, upm_other, e61, hM.1, hM.2.1, hM.2.2.2.1, h1, h2, h3]
        obtain ⟨bp2, bf2, bm2⟩ := bad_ok (ν := ν) (w := 1) (b := 1) v2 (Or.inr rfl)
        have m3 : muX10_carry_3 p1 p2 p3 ν = upm ν 57 0 0 := by
          unfold muX10_carry_3
          exact bm2
        exact ⟨bp2, bf2, m3⟩
theorem gate_rent {E : EV} {L : LW} {μ : Mem} (hI : Inv E L μ) (p1 p2 : Int32) : (inR p1 0 9999 = true ∧ inR p2 0 24 = true ∧ K_X9_rent p1 p2 μ = 0 ∧ (muX9_rent_1 p1 p2 μ = μ ∧ muX9_rent_2 p1 p2 μ = μ) ∧ (∀ ν, KQ μ ν → (P_X10_bad (VX10_rent_2 p1 p2 ν) 1 1 (upm ν 57 0 0) ∧ F_X10_bad (VX10_rent_2 p1 p2 ν) 1 1 (upm ν 57 0 0) = 0 ∧ muX10_rent_3 p1 p2 ν = upm ν 57 0 0))) ∨ ∃ j, jI j ∧ QNo w1 μ (K_X9_rent p1 p2 μ) (M_X9_rent p1 p2 μ) (P_X9_rent p1 p2 μ) (M_X10_rent p1 p2) (P_X10_rent p1 p2) j := by
  have hE := hI.2.2.1
  have hM := hI.2.1
  have hO := hI.1
  have d1 := hO.1.1
  have d2 := hO.1.2.1
  have d3 := hO.1.2.2.2
  cases h1 : inR p1 0 9999 with
  | false =>
    have k1 : K_X9_needRange p1 0 9999 μ = 2 := by
      simp [nrK, h1]
    have s1 : muX9_rent_1 p1 p2 μ = M_needR 13 μ := by
      simp [muX9_rent_1, nrM, h1]
    refine Or.inr ⟨1, by first | rfl | exact Or.inl rfl | exact Or.inr rfl, by simp [K_X9_rent, k1], by simp [P_X9_rent, k1], by (unfold M_X9_rent; first | exact s1 | (rw [if_neg (by rw [k1]; decide)]; exact s1)), fun ν hν => ?_⟩
    have e61 : ν 61 = μ 61 := hν 61 (by decide)
    have v2 : VX10_rent_2 p1 p2 ν = 1 := by
      simp [VX10_rent_2, muX10_rent_1, F_X10_isHouse, F_X10_isThing, F_X10_areHouses, F_X10_isYear, isIn_eq, upm_other, e61, hM.1, hM.2.1, hM.2.2.2.1, h1]
    obtain ⟨bp2, bf2, bm2⟩ := bad_no (ν := ν) (w := 1) (b := 1) v2 (by decide) (Or.inr rfl)
    have m3 : muX10_rent_3 p1 p2 ν = thr 1 1 ν := by
      unfold muX10_rent_3
      exact bm2
    have m1 : muX10_rent_1 p1 p2 ν = upm ν 57 0 0 := rfl
    exact ⟨by simp [P_X10_rent, m1, m3, bp2, bf2], by simp [M_X10_rent, m1, m3, bp2, bf2, w1, w2, nI]⟩
  | true =>
    cases h2 : inR p2 0 24 with
    | false =>
      have k1 : K_X9_needRange p1 0 9999 μ = 0 := by
        simp [nrK, h1]
      have s1 : muX9_rent_1 p1 p2 μ = μ := by
        simp [muX9_rent_1, nrM, h1]
      have k2 : K_X9_needRange p2 0 24 (muX9_rent_1 p1 p2 μ) = 2 := by
        simp [s1, nrK, h1, h2]
      have s2 : muX9_rent_2 p1 p2 μ = M_needR 13 μ := by
        simp [muX9_rent_2, s1, nrM, h1, h2]
      refine Or.inr ⟨1, by first | rfl | exact Or.inl rfl | exact Or.inr rfl, by simp [K_X9_rent, k1, k2], by simp [P_X9_rent, k1, k2], by (unfold M_X9_rent; rw [if_pos k1]; first | exact s2 | (rw [if_neg (by rw [k2]; decide)]; exact s2)), fun ν hν => ?_⟩
      have e61 : ν 61 = μ 61 := hν 61 (by decide)
      have v2 : VX10_rent_2 p1 p2 ν = 1 := by
        simp [VX10_rent_2, muX10_rent_1, F_X10_isHouse, F_X10_isThing, F_X10_areHouses, F_X10_isYear, isIn_eq, upm_other, e61, hM.1, hM.2.1, hM.2.2.2.1, h1, h2]
      obtain ⟨bp2, bf2, bm2⟩ := bad_no (ν := ν) (w := 1) (b := 1) v2 (by decide) (Or.inr rfl)
      have m3 : muX10_rent_3 p1 p2 ν = thr 1 1 ν := by
        unfold muX10_rent_3
        exact bm2
      have m1 : muX10_rent_1 p1 p2 ν = upm ν 57 0 0 := rfl
      exact ⟨by simp [P_X10_rent, m1, m3, bp2, bf2], by simp [M_X10_rent, m1, m3, bp2, bf2, w1, w2, nI]⟩
    | true =>
      have k1 : K_X9_needRange p1 0 9999 μ = 0 := by
        simp [nrK, h1]
      have s1 : muX9_rent_1 p1 p2 μ = μ := by
        simp [muX9_rent_1, nrM, h1]
      have k2 : K_X9_needRange p2 0 24 (muX9_rent_1 p1 p2 μ) = 0 := by
        simp [s1, nrK, h1, h2]
      have s2 : muX9_rent_2 p1 p2 μ = μ := by
        simp [muX9_rent_2, s1, nrM, h1, h2]
      refine Or.inl ⟨rfl, rfl, by simp [K_X9_rent, k1, k2], ⟨s1, s2⟩, fun ν hν => ?_⟩
      have e61 : ν 61 = μ 61 := hν.1 61 (by decide) (by decide) (by decide) (by decide) (by decide) (by decide) (by decide) (by decide) (by decide) (by decide) (by decide)
      have v2 : VX10_rent_2 p1 p2 ν = 0 := by
        simp [VX10_rent_2, muX10_rent_1, F_X10_isHouse, F_X10_isThing, F_X10_areHouses, F_X10_isYear, isIn_eq, upm_other, e61, hM.1, hM.2.1, hM.2.2.2.1, h1, h2]
      obtain ⟨bp2, bf2, bm2⟩ := bad_ok (ν := ν) (w := 1) (b := 1) v2 (Or.inr rfl)
      have m3 : muX10_rent_3 p1 p2 ν = upm ν 57 0 0 := by
        unfold muX10_rent_3
        exact bm2
      exact ⟨bp2, bf2, m3⟩
theorem gate_bags {E : EV} {L : LW} {μ : Mem} (hI : Inv E L μ) (p1 p2 : Int32) : (inR p1 0 (mskE E) = true ∧ inR p2 0 24 = true ∧ K_X9_bags p1 p2 μ = 0 ∧ (muX9_bags_1 p1 p2 μ = μ ∧ muX9_bags_2 p1 p2 μ = μ) ∧ (∀ ν, KQ μ ν → (P_X10_bad (VX10_bags_2 p1 p2 ν) 1 1 (upm ν 57 0 0) ∧ F_X10_bad (VX10_bags_2 p1 p2 ν) 1 1 (upm ν 57 0 0) = 0 ∧ muX10_bags_3 p1 p2 ν = upm ν 57 0 0))) ∨ ∃ j, jI j ∧ QNo w1 μ (K_X9_bags p1 p2 μ) (M_X9_bags p1 p2 μ) (P_X9_bags p1 p2 μ) (M_X10_bags p1 p2) (P_X10_bags p1 p2) j := by
  have hE := hI.2.2.1
  have hM := hI.2.1
  have hO := hI.1
  have d1 := hO.1.1
  have d2 := hO.1.2.1
  have d3 := hO.1.2.2.2
  cases h1 : inR p1 0 (mskE E) with
  | false =>
    have k1 : K_X9_needHouses p1 μ = 2 := by
      simp [nsK hE, h1]
    have s1 : muX9_bags_1 p1 p2 μ = M_needR 13 μ := by
      simp [muX9_bags_1, nsM hE, h1]
    refine Or.inr ⟨1, by first | rfl | exact Or.inl rfl | exact Or.inr rfl, by simp [K_X9_bags, k1], by simp [P_X9_bags, k1], by (unfold M_X9_bags; first | exact s1 | (rw [if_neg (by rw [k1]; decide)]; exact s1)), fun ν hν => ?_⟩
    have e61 : ν 61 = μ 61 := hν 61 (by decide)
    have v2 : VX10_bags_2 p1 p2 ν = 1 := by
      simp [VX10_bags_2, muX10_bags_1, F_X10_isHouse, F_X10_isThing, F_X10_areHouses, F_X10_isYear, isIn_eq, upm_other, e61, hM.1, hM.2.1, hM.2.2.2.1, (show inR p1 0 (((1 : Int32) <<< (nI (eH E) &&& 31)) - 1) = _ from h1)]
    obtain ⟨bp2, bf2, bm2⟩ := bad_no (ν := ν) (w := 1) (b := 1) v2 (by decide) (Or.inr rfl)
    have m3 : muX10_bags_3 p1 p2 ν = thr 1 1 ν := by
      unfold muX10_bags_3
      exact bm2
    have m1 : muX10_bags_1 p1 p2 ν = upm ν 57 0 0 := rfl
    exact ⟨by simp [P_X10_bags, m1, m3, bp2, bf2], by simp [M_X10_bags, m1, m3, bp2, bf2, w1, w2, nI]⟩
  | true =>
    cases h2 : inR p2 0 24 with
    | false =>
      have k1 : K_X9_needHouses p1 μ = 0 := by
        simp [nsK hE, h1]
      have s1 : muX9_bags_1 p1 p2 μ = μ := by
        simp [muX9_bags_1, nsM hE, h1]
      have k2 : K_X9_needRange p2 0 24 (muX9_bags_1 p1 p2 μ) = 2 := by
        simp [s1, nrK, h1, h2]
      have s2 : muX9_bags_2 p1 p2 μ = M_needR 13 μ := by
        simp [muX9_bags_2, s1, nrM, h1, h2]
      refine Or.inr ⟨1, by first | rfl | exact Or.inl rfl | exact Or.inr rfl, by simp [K_X9_bags, k1, k2], by simp [P_X9_bags, k1, k2], by (unfold M_X9_bags; rw [if_pos k1]; first | exact s2 | (rw [if_neg (by rw [k2]; decide)]; exact s2)), fun ν hν => ?_⟩
      have e61 : ν 61 = μ 61 := hν 61 (by decide)
      have v2 : VX10_bags_2 p1 p2 ν = 1 := by
        simp [VX10_bags_2, muX10_bags_1, F_X10_isHouse, F_X10_isThing, F_X10_areHouses, F_X10_isYear, isIn_eq, upm_other, e61, hM.1, hM.2.1, hM.2.2.2.1, (show inR p1 0 (((1 : Int32) <<< (nI (eH E) &&& 31)) - 1) = _ from h1), h2]
      obtain ⟨bp2, bf2, bm2⟩ := bad_no (ν := ν) (w := 1) (b := 1) v2 (by decide) (Or.inr rfl)
      have m3 : muX10_bags_3 p1 p2 ν = thr 1 1 ν := by
        unfold muX10_bags_3
        exact bm2
      have m1 : muX10_bags_1 p1 p2 ν = upm ν 57 0 0 := rfl
      exact ⟨by simp [P_X10_bags, m1, m3, bp2, bf2], by simp [M_X10_bags, m1, m3, bp2, bf2, w1, w2, nI]⟩
    | true =>
      have k1 : K_X9_needHouses p1 μ = 0 := by
        simp [nsK hE, h1]
      have s1 : muX9_bags_1 p1 p2 μ = μ := by
        simp [muX9_bags_1, nsM hE, h1]
      have k2 : K_X9_needRange p2 0 24 (muX9_bags_1 p1 p2 μ) = 0 := by
        simp [s1, nrK, h1, h2]
      have s2 : muX9_bags_2 p1 p2 μ = μ := by
        simp [muX9_bags_2, s1, nrM, h1, h2]
      refine Or.inl ⟨rfl, rfl, by simp [K_X9_bags, k1, k2], ⟨s1, s2⟩, fun ν hν => ?_⟩
      have e61 : ν 61 = μ 61 := hν.1 61 (by decide) (by decide) (by decide) (by decide) (by decide) (by decide) (by decide) (by decide) (by decide) (by decide) (by decide)
      have v2 : VX10_bags_2 p1 p2 ν = 0 := by
        simp [VX10_bags_2, muX10_bags_1, F_X10_isHouse, F_X10_isThing, F_X10_areHouses, F_X10_isYear, isIn_eq, upm_other, e61, hM.1, hM.2.1, hM.2.2.2.1, (show inR p1 0 (((1 : Int32) <<< (nI (eH E) &&& 31)) - 1) = _ from h1), h2]
      obtain ⟨bp2, bf2, bm2⟩ := bad_ok (ν := ν) (w := 1) (b := 1) v2 (Or.inr rfl)
      have m3 : muX10_bags_3 p1 p2 ν = upm ν 57 0 0 := by
        unfold muX10_bags_3
        exact bm2
      exact ⟨bp2, bf2, m3⟩
theorem gate_parlour {E : EV} {L : LW} {μ : Mem} (hI : Inv E L μ) (p1 p2 p3 : Int32) : (inR p1 0 12 = true ∧ inR p2 0 16 = true ∧ inR p3 0 2 = true ∧ K_X9_parlour p1 p2 p3 μ = 0 ∧ (muX9_parlour_1 p1 p2 p3 μ = μ ∧ muX9_parlour_2 p1 p2 p3 μ = μ ∧ muX9_parlour_3 p1 p2 p3 μ = μ) ∧ (∀ ν, KQ μ ν → (P_X10_bad (VX10_parlour_2 p1 p2 p3 ν) 1 1 (upm ν 57 0 0) ∧ F_X10_bad (VX10_parlour_2 p1 p2 p3 ν) 1 1 (upm ν 57 0 0) = 0 ∧ muX10_parlour_3 p1 p2 p3 ν = upm ν 57 0 0))) ∨ ∃ j, jI j ∧ QNo w1 μ (K_X9_parlour p1 p2 p3 μ) (M_X9_parlour p1 p2 p3 μ) (P_X9_parlour p1 p2 p3 μ) (M_X10_parlour p1 p2 p3) (P_X10_parlour p1 p2 p3) j := by
  have hE := hI.2.2.1
  have hM := hI.2.1
  have hO := hI.1
  have d1 := hO.1.1
  have d2 := hO.1.2.1
  have d3 := hO.1.2.2.2
  cases h1 : inR p1 0 12 with
  | false =>
    have k1 : K_X9_needRange p1 0 12 μ = 2 := by
      simp [nrK, h1]
    have s1 : muX9_parlour_1 p1 p2 p3 μ = M_needR 13 μ := by
      simp [muX9_parlour_1, nrM, h1]
    refine Or.inr ⟨1, by first | rfl | exact Or.inl rfl | exact Or.inr rfl, by simp [K_X9_parlour, k1], by simp [P_X9_parlour, k1], by (unfold M_X9_parlour; first | exact s1 | (rw [if_neg (by rw [k1]; decide)]; exact s1)), fun ν hν => ?_⟩
    have e61 : ν 61 = μ 61 := hν 61 (by decide)
    have v2 : VX10_parlour_2 p1 p2 p3 ν = 1 := by
      simp [VX10_parlour_2, muX10_parlour_1, F_X10_isHouse, F_X10_isThing, F_X10_areHouses, F_X10_isYear, isIn_eq, upm_other, e61, hM.1, hM.2.1, hM.2.2.2.1, h1]
    obtain ⟨bp2, bf2, bm2⟩ := bad_no (ν := ν) (w := 1) (b := 1) v2 (by decide) (Or.inr rfl)
    have m3 : muX10_parlour_3 p1 p2 p3 ν = thr 1 1 ν := by
      unfold muX10_parlour_3
      exact bm2
    have m1 : muX10_parlour_1 p1 p2 p3 ν = upm ν 57 0 0 := rfl
    exact ⟨by simp [P_X10_parlour, m1, m3, bp2, bf2], by simp [M_X10_parlour, m1, m3, bp2, bf2, w1, w2, nI]⟩
  | true =>
    cases h2 : inR p2 0 16 with
    | false =>
      have k1 : K_X9_needRange p1 0 12 μ = 0 := by
        simp [nrK, h1]
      have s1 : muX9_parlour_1 p1 p2 p3 μ = μ := by
        simp [muX9_parlour_1, nrM, h1]
      have k2 : K_X9_needRange p2 0 16 (muX9_parlour_1 p1 p2 p3 μ) = 2 := by
        simp [s1, nrK, h1, h2]
      have s2 : muX9_parlour_2 p1 p2 p3 μ = M_needR 13 μ := by
        simp [muX9_parlour_2, s1, nrM, h1, h2]
      refine Or.inr ⟨1, by first | rfl | exact Or.inl rfl | exact Or.inr rfl, by simp [K_X9_parlour, k1, k2], by simp [P_X9_parlour, k1, k2], by (unfold M_X9_parlour; rw [if_pos k1]; first | exact s2 | (rw [if_neg (by rw [k2]; decide)]; exact s2)), fun ν hν => ?_⟩
      have e61 : ν 61 = μ 61 := hν 61 (by decide)
      have v2 : VX10_parlour_2 p1 p2 p3 ν = 1 := by
        simp [VX10_parlour_2, muX10_parlour_1, F_X10_isHouse, F_X10_isThing, F_X10_areHouses, F_X10_isYear, isIn_eq, upm_other, e61, hM.1, hM.2.1, hM.2.2.2.1, h1, h2]
      obtain ⟨bp2, bf2, bm2⟩ := bad_no (ν := ν) (w := 1) (b := 1) v2 (by decide) (Or.inr rfl)
      have m3 : muX10_parlour_3 p1 p2 p3 ν = thr 1 1 ν := by
        unfold muX10_parlour_3
        exact bm2
      have m1 : muX10_parlour_1 p1 p2 p3 ν = upm ν 57 0 0 := rfl
      exact ⟨by simp [P_X10_parlour, m1, m3, bp2, bf2], by simp [M_X10_parlour, m1, m3, bp2, bf2, w1, w2, nI]⟩
    | true =>
      cases h3 : inR p3 0 2 with
      | false =>
        have k1 : K_X9_needRange p1 0 12 μ = 0 := by
          simp [nrK, h1]
        have s1 : muX9_parlour_1 p1 p2 p3 μ = μ := by
          simp [muX9_parlour_1, nrM, h1]
        have k2 : K_X9_needRange p2 0 16 (muX9_parlour_1 p1 p2 p3 μ) = 0 := by
          simp [s1, nrK, h1, h2]
        have s2 : muX9_parlour_2 p1 p2 p3 μ = μ := by
          simp [muX9_parlour_2, s1, nrM, h1, h2]
        have k3 : K_X9_needRange p3 0 2 (muX9_parlour_2 p1 p2 p3 μ) = 2 := by
          simp [s1, s2, nrK, h1, h2, h3]
        have s3 : muX9_parlour_3 p1 p2 p3 μ = M_needR 13 μ := by
          simp [muX9_parlour_3, s1, s2, nrM, h1, h2, h3]
        refine Or.inr ⟨1, by first | rfl | exact Or.inl rfl | exact Or.inr rfl, by simp [K_X9_parlour, k1, k2, k3], by simp [P_X9_parlour, k1, k2, k3], by (unfold M_X9_parlour; rw [if_pos k1]; rw [if_pos k2]; first | exact s3 | (rw [if_neg (by rw [k3]; decide)]; exact s3)), fun ν hν => ?_⟩
        have e61 : ν 61 = μ 61 := hν 61 (by decide)
        have v2 : VX10_parlour_2 p1 p2 p3 ν = 1 := by
          simp [VX10_parlour_2, muX10_parlour_1, F_X10_isHouse, F_X10_isThing, F_X10_areHouses, F_X10_isYear, isIn_eq, upm_other, e61, hM.1, hM.2.1, hM.2.2.2.1, h1, h2, h3]
        obtain ⟨bp2, bf2, bm2⟩ := bad_no (ν := ν) (w := 1) (b := 1) v2 (by decide) (Or.inr rfl)
        have m3 : muX10_parlour_3 p1 p2 p3 ν = thr 1 1 ν := by
          unfold muX10_parlour_3
          exact bm2
        have m1 : muX10_parlour_1 p1 p2 p3 ν = upm ν 57 0 0 := rfl
        exact ⟨by simp [P_X10_parlour, m1, m3, bp2, bf2], by simp [M_X10_parlour, m1, m3, bp2, bf2, w1, w2, nI]⟩
      | true =>
        have k1 : K_X9_needRange p1 0 12 μ = 0 := by
          simp [nrK, h1]
        have s1 : muX9_parlour_1 p1 p2 p3 μ = μ := by
          simp [muX9_parlour_1, nrM, h1]
        have k2 : K_X9_needRange p2 0 16 (muX9_parlour_1 p1 p2 p3 μ) = 0 := by
          simp [s1, nrK, h1, h2]
        have s2 : muX9_parlour_2 p1 p2 p3 μ = μ := by
          simp [muX9_parlour_2, s1, nrM, h1, h2]
        have k3 : K_X9_needRange p3 0 2 (muX9_parlour_2 p1 p2 p3 μ) = 0 := by
          simp [s1, s2, nrK, h1, h2, h3]
        have s3 : muX9_parlour_3 p1 p2 p3 μ = μ := by
          simp [muX9_parlour_3, s1, s2, nrM, h1, h2, h3]
        refine Or.inl ⟨rfl, rfl, rfl, by simp [K_X9_parlour, k1, k2, k3], ⟨s1, s2, s3⟩, fun ν hν => ?_⟩
        have e61 : ν 61 = μ 61 := hν.1 61 (by decide) (by decide) (by decide) (by decide) (by decide) (by decide) (by decide) (by decide) (by decide) (by decide) (by decide)
        have v2 : VX10_parlour_2 p1 p2 p3 ν = 0 := by
          simp [VX10_parlour_2, muX10_parlour_1, F_X10_isHouse, F_X10_isThing, F_X10_areHouses, F_X10_isYear, isIn_eq, upm_other, e61, hM.1, hM.2.1, hM.2.2.2.1, h1, h2, h3]
        obtain ⟨bp2, bf2, bm2⟩ := bad_ok (ν := ν) (w := 1) (b := 1) v2 (Or.inr rfl)
        have m3 : muX10_parlour_3 p1 p2 p3 ν = upm ν 57 0 0 := by
          unfold muX10_parlour_3
          exact bm2
        exact ⟨bp2, bf2, m3⟩
theorem gate_in {E : EV} {L : LW} {μ : Mem} (hI : Inv E L μ) (p1 : Int32) : (inR p1 0 2 = true ∧ K_X9_in p1 μ = 0 ∧ (muX9_in_1 p1 μ = μ) ∧ (∀ ν, KQ μ ν → (P_X10_bad (VX10_in_2 p1 ν) 1 1 (upm ν 57 0 0) ∧ F_X10_bad (VX10_in_2 p1 ν) 1 1 (upm ν 57 0 0) = 0 ∧ muX10_in_3 p1 ν = upm ν 57 0 0))) ∨ ∃ j, jI j ∧ QNo w1 μ (K_X9_in p1 μ) (M_X9_in p1 μ) (P_X9_in p1 μ) (M_X10_in p1) (P_X10_in p1) j := by
  have hE := hI.2.2.1
  have hM := hI.2.1
  have hO := hI.1
  have d1 := hO.1.1
  have d2 := hO.1.2.1
  have d3 := hO.1.2.2.2
  cases h1 : inR p1 0 2 with
  | false =>
    have k1 : K_X9_needRange p1 0 2 μ = 2 := by
      simp [nrK, h1]
    have s1 : muX9_in_1 p1 μ = M_needR 13 μ := by
      simp [muX9_in_1, nrM, h1]
    refine Or.inr ⟨1, by first | rfl | exact Or.inl rfl | exact Or.inr rfl, by simp [K_X9_in, k1], by simp [P_X9_in, k1], by (unfold M_X9_in; first | exact s1 | (rw [if_neg (by rw [k1]; decide)]; exact s1)), fun ν hν => ?_⟩
    have e61 : ν 61 = μ 61 := hν 61 (by decide)
    have v2 : VX10_in_2 p1 ν = 1 := by
      simp [VX10_in_2, muX10_in_1, F_X10_isHouse, F_X10_isThing, F_X10_areHouses, F_X10_isYear, isIn_eq, upm_other, e61, hM.1, hM.2.1, hM.2.2.2.1, h1]
    obtain ⟨bp2, bf2, bm2⟩ := bad_no (ν := ν) (w := 1) (b := 1) v2 (by decide) (Or.inr rfl)
    have m3 : muX10_in_3 p1 ν = thr 1 1 ν := by
      unfold muX10_in_3
      exact bm2
    have m1 : muX10_in_1 p1 ν = upm ν 57 0 0 := rfl
    exact ⟨by simp [P_X10_in, m1, m3, bp2, bf2], by simp [M_X10_in, m1, m3, bp2, bf2, w1, w2, nI]⟩
  | true =>
    have k1 : K_X9_needRange p1 0 2 μ = 0 := by
      simp [nrK, h1]
    have s1 : muX9_in_1 p1 μ = μ := by
      simp [muX9_in_1, nrM, h1]
    refine Or.inl ⟨rfl, by simp [K_X9_in, k1], s1, fun ν hν => ?_⟩
    have e61 : ν 61 = μ 61 := hν.1 61 (by decide) (by decide) (by decide) (by decide) (by decide) (by decide) (by decide) (by decide) (by decide) (by decide) (by decide)
    have v2 : VX10_in_2 p1 ν = 0 := by
      simp [VX10_in_2, muX10_in_1, F_X10_isHouse, F_X10_isThing, F_X10_areHouses, F_X10_isYear, isIn_eq, upm_other, e61, hM.1, hM.2.1, hM.2.2.2.1, h1]
    obtain ⟨bp2, bf2, bm2⟩ := bad_ok (ν := ν) (w := 1) (b := 1) v2 (Or.inr rfl)
    have m3 : muX10_in_3 p1 ν = upm ν 57 0 0 := by
      unfold muX10_in_3
      exact bm2
    exact ⟨bp2, bf2, m3⟩
theorem gate_board {E : EV} {L : LW} {μ : Mem} (hI : Inv E L μ) (p1 : Int32) : (inR p1 0 1 = true ∧ K_X9_board p1 μ = 0 ∧ (muX9_board_1 p1 μ = μ) ∧ (∀ ν, KQ μ ν → (P_X10_bad (VX10_board_2 p1 ν) 1 1 (upm ν 57 0 0) ∧ F_X10_bad (VX10_board_2 p1 ν) 1 1 (upm ν 57 0 0) = 0 ∧ muX10_board_3 p1 ν = upm ν 57 0 0))) ∨ ∃ j, jI j ∧ QNo w1 μ (K_X9_board p1 μ) (M_X9_board p1 μ) (P_X9_board p1 μ) (M_X10_board p1) (P_X10_board p1) j := by
  have hE := hI.2.2.1
  have hM := hI.2.1
  have hO := hI.1
  have d1 := hO.1.1
  have d2 := hO.1.2.1
  have d3 := hO.1.2.2.2
  cases h1 : inR p1 0 1 with
  | false =>
    have k1 : K_X9_needRange p1 0 1 μ = 2 := by
      simp [nrK, h1]
    have s1 : muX9_board_1 p1 μ = M_needR 13 μ := by
      simp [muX9_board_1, nrM, h1]
    refine Or.inr ⟨1, by first | rfl | exact Or.inl rfl | exact Or.inr rfl, by simp [K_X9_board, k1], by simp [P_X9_board, k1], by (unfold M_X9_board; first | exact s1 | (rw [if_neg (by rw [k1]; decide)]; exact s1)), fun ν hν => ?_⟩
    have e61 : ν 61 = μ 61 := hν 61 (by decide)
    have v2 : VX10_board_2 p1 ν = 1 := by
      simp [VX10_board_2, muX10_board_1, F_X10_isHouse, F_X10_isThing, F_X10_areHouses, F_X10_isYear, isIn_eq, upm_other, e61, hM.1, hM.2.1, hM.2.2.2.1, h1]
    obtain ⟨bp2, bf2, bm2⟩ := bad_no (ν := ν) (w := 1) (b := 1) v2 (by decide) (Or.inr rfl)
    have m3 : muX10_board_3 p1 ν = thr 1 1 ν := by
      unfold muX10_board_3
      exact bm2
    have m1 : muX10_board_1 p1 ν = upm ν 57 0 0 := rfl
    exact ⟨by simp [P_X10_board, m1, m3, bp2, bf2], by simp [M_X10_board, m1, m3, bp2, bf2, w1, w2, nI]⟩
  | true =>
    have k1 : K_X9_needRange p1 0 1 μ = 0 := by
      simp [nrK, h1]
    have s1 : muX9_board_1 p1 μ = μ := by
      simp [muX9_board_1, nrM, h1]
    refine Or.inl ⟨rfl, by simp [K_X9_board, k1], s1, fun ν hν => ?_⟩
    have e61 : ν 61 = μ 61 := hν.1 61 (by decide) (by decide) (by decide) (by decide) (by decide) (by decide) (by decide) (by decide) (by decide) (by decide) (by decide)
    have v2 : VX10_board_2 p1 ν = 0 := by
      simp [VX10_board_2, muX10_board_1, F_X10_isHouse, F_X10_isThing, F_X10_areHouses, F_X10_isYear, isIn_eq, upm_other, e61, hM.1, hM.2.1, hM.2.2.2.1, h1]
    obtain ⟨bp2, bf2, bm2⟩ := bad_ok (ν := ν) (w := 1) (b := 1) v2 (Or.inr rfl)
    have m3 : muX10_board_3 p1 ν = upm ν 57 0 0 := by
      unfold muX10_board_3
      exact bm2
    exact ⟨bp2, bf2, m3⟩
theorem gate_drift {E : EV} {L : LW} {μ : Mem} (hI : Inv E L μ) (p1 p2 p3 : Int32) : (inR p1 0 (nI (eH E) - 1) = true ∧ inR p2 1 20 = true ∧ inR p3 0 24 = true ∧ K_X9_drift p1 p2 p3 μ = 0 ∧ (muX9_drift_1 p1 p2 p3 μ = μ ∧ muX9_drift_2 p1 p2 p3 μ = μ ∧ muX9_drift_3 p1 p2 p3 μ = μ) ∧ (∀ ν, KQ μ ν → (P_X10_bad (VX10_drift_2 p1 p2 p3 ν) 1 0 (upm ν 57 0 0) ∧ F_X10_bad (VX10_drift_2 p1 p2 p3 ν) 1 0 (upm ν 57 0 0) = 0 ∧ muX10_drift_3 p1 p2 p3 ν = upm ν 57 0 0) ∧ (P_X10_bad (VX10_drift_4 p1 p2 p3 ν) 2 1 (upm ν 57 0 0) ∧ F_X10_bad (VX10_drift_4 p1 p2 p3 ν) 2 1 (upm ν 57 0 0) = 0 ∧ muX10_drift_5 p1 p2 p3 ν = upm ν 57 0 0))) ∨ ∃ j, jB j ∧ QNo w2 μ (K_X9_drift p1 p2 p3 μ) (M_X9_drift p1 p2 p3 μ) (P_X9_drift p1 p2 p3 μ) (M_X10_drift p1 p2 p3) (P_X10_drift p1 p2 p3) j := by
  have hE := hI.2.2.1
  have hM := hI.2.1
  have hO := hI.1
  have d1 := hO.1.1
  have d2 := hO.1.2.1
  have d3 := hO.1.2.2.2
  cases h1 : inR p1 0 (nI (eH E) - 1) with
  | false =>
    have k1 : K_X9_needHouse p1 μ = 1 := by
      simp [nhK hE hO, h1]
    have s1 : muX9_drift_1 p1 p2 p3 μ = M_needR 12 μ := by
      simp [muX9_drift_1, nhM hE hO, h1]
    refine Or.inr ⟨0, by first | rfl | exact Or.inl rfl | exact Or.inr rfl, by simp [K_X9_drift, k1], by simp [P_X9_drift, k1], by (unfold M_X9_drift; first | exact s1 | (rw [if_neg (by rw [k1]; decide)]; exact s1)), fun ν hν => ?_⟩
    have e61 : ν 61 = μ 61 := hν 61 (by decide)
    have v2 : VX10_drift_2 p1 p2 p3 ν = 1 := by
      simp [VX10_drift_2, muX10_drift_1, F_X10_isHouse, F_X10_isThing, F_X10_areHouses, F_X10_isYear, isIn_eq, upm_other, e61, hM.1, hM.2.1, hM.2.2.2.1, h1]
    obtain ⟨bp2, bf2, bm2⟩ := bad_no (ν := ν) (w := 1) (b := 0) v2 (by decide) (Or.inl rfl)
    have m3 : muX10_drift_3 p1 p2 p3 ν = thr 1 0 ν := by
      unfold muX10_drift_3
      exact bm2
    have m1 : muX10_drift_1 p1 p2 p3 ν = upm ν 57 0 0 := rfl
    exact ⟨by simp [P_X10_drift, m1, m3, bp2, bf2], by simp [M_X10_drift, m1, m3, bp2, bf2, w1, w2, nI]⟩
  | true =>
    cases h2 : inR p2 1 20 with
    | false =>
      have k1 : K_X9_needHouse p1 μ = 0 := by
        simp [nhK hE hO, h1]
      have s1 : muX9_drift_1 p1 p2 p3 μ = μ := by
        simp [muX9_drift_1, nhM hE hO, h1]
      have k2 : K_X9_needRange p2 1 20 (muX9_drift_1 p1 p2 p3 μ) = 2 := by
        simp [s1, nrK, h1, h2]
      have s2 : muX9_drift_2 p1 p2 p3 μ = M_needR 13 μ := by
        simp [muX9_drift_2, s1, nrM, h1, h2]
      refine Or.inr ⟨1, by first | rfl | exact Or.inl rfl | exact Or.inr rfl, by simp [K_X9_drift, k1, k2], by simp [P_X9_drift, k1, k2], by (unfold M_X9_drift; rw [if_pos k1]; first | exact s2 | (rw [if_neg (by rw [k2]; decide)]; exact s2)), fun ν hν => ?_⟩
      have e61 : ν 61 = μ 61 := hν 61 (by decide)
      have v2 : VX10_drift_2 p1 p2 p3 ν = 0 := by
        simp [VX10_drift_2, muX10_drift_1, F_X10_isHouse, F_X10_isThing, F_X10_areHouses, F_X10_isYear, isIn_eq, upm_other, e61, hM.1, hM.2.1, hM.2.2.2.1, h1]
      obtain ⟨bp2, bf2, bm2⟩ := bad_ok (ν := ν) (w := 1) (b := 0) v2 (Or.inl rfl)
      have m3 : muX10_drift_3 p1 p2 p3 ν = upm ν 57 0 0 := by
        unfold muX10_drift_3
        exact bm2
      have v4 : VX10_drift_4 p1 p2 p3 ν = 1 := by
        simp [VX10_drift_4, muX10_drift_1, F_X10_isHouse, F_X10_isThing, F_X10_areHouses, F_X10_isYear, isIn_eq, upm_other, e61, hM.1, hM.2.1, hM.2.2.2.1, m3, h1, h2]
      obtain ⟨bp4, bf4, bm4⟩ := bad_no (ν := ν) (w := 2) (b := 1) v4 (by decide) (Or.inr rfl)
      have m5 : muX10_drift_5 p1 p2 p3 ν = thr 2 1 ν := by
        unfold muX10_drift_5
        rw [m3]
        exact bm4
      have m1 : muX10_drift_1 p1 p2 p3 ν = upm ν 57 0 0 := rfl
      exact ⟨by simp [P_X10_drift, m1, m3, m5, bp2, bf2, bp4, bf4], by simp [M_X10_drift, m1, m3, m5, bp2, bf2, bp4, bf4, w1, w2, nI]⟩
    | true =>
      cases h3 : inR p3 0 24 with
      | false =>
        have k1 : K_X9_needHouse p1 μ = 0 := by
          simp [nhK hE hO, h1]
        have s1 : muX9_drift_1 p1 p2 p3 μ = μ := by
          simp [muX9_drift_1, nhM hE hO, h1]
        have k2 : K_X9_needRange p2 1 20 (muX9_drift_1 p1 p2 p3 μ) = 0 := by
          simp [s1, nrK, h1, h2]
        have s2 : muX9_drift_2 p1 p2 p3 μ = μ := by
          simp [muX9_drift_2, s1, nrM, h1, h2]
        have k3 : K_X9_needRange p3 0 24 (muX9_drift_2 p1 p2 p3 μ) = 2 := by
          simp [s1, s2, nrK, h1, h2, h3]
        have s3 : muX9_drift_3 p1 p2 p3 μ = M_needR 13 μ := by
          simp [muX9_drift_3, s1, s2, nrM, h1, h2, h3]
        refine Or.inr ⟨1, by first | rfl | exact Or.inl rfl | exact Or.inr rfl, by simp [K_X9_drift, k1, k2, k3], by simp [P_X9_drift, k1, k2, k3], by (unfold M_X9_drift; rw [if_pos k1]; rw [if_pos k2]; first | exact s3 | (rw [if_neg (by rw [k3]; decide)]; exact s3)), fun ν hν => ?_⟩
        have e61 : ν 61 = μ 61 := hν 61 (by decide)
        have v2 : VX10_drift_2 p1 p2 p3 ν = 0 := by
          simp [VX10_drift_2, muX10_drift_1, F_X10_isHouse, F_X10_isThing, F_X10_areHouses, F_X10_isYear, isIn_eq, upm_other, e61, hM.1, hM.2.1, hM.2.2.2.1, h1]
        obtain ⟨bp2, bf2, bm2⟩ := bad_ok (ν := ν) (w := 1) (b := 0) v2 (Or.inl rfl)
        have m3 : muX10_drift_3 p1 p2 p3 ν = upm ν 57 0 0 := by
          unfold muX10_drift_3
          exact bm2
        have v4 : VX10_drift_4 p1 p2 p3 ν = 1 := by
          simp [VX10_drift_4, muX10_drift_1, F_X10_isHouse, F_X10_isThing, F_X10_areHouses, F_X10_isYear, isIn_eq, upm_other, e61, hM.1, hM.2.1, hM.2.2.2.1, m3, h1, h2, h3]
        obtain ⟨bp4, bf4, bm4⟩ := bad_no (ν := ν) (w := 2) (b := 1) v4 (by decide) (Or.inr rfl)
        have m5 : muX10_drift_5 p1 p2 p3 ν = thr 2 1 ν := by
          unfold muX10_drift_5
          rw [m3]
          exact bm4
        have m1 : muX10_drift_1 p1 p2 p3 ν = upm ν 57 0 0 := rfl
        exact ⟨by simp [P_X10_drift, m1, m3, m5, bp2, bf2, bp4, bf4], by simp [M_X10_drift, m1, m3, m5, bp2, bf2, bp4, bf4, w1, w2, nI]⟩
      | true =>
        have k1 : K_X9_needHouse p1 μ = 0 := by
          simp [nhK hE hO, h1]
        have s1 : muX9_drift_1 p1 p2 p3 μ = μ := by
          simp [muX9_drift_1, nhM hE hO, h1]
        have k2 : K_X9_needRange p2 1 20 (muX9_drift_1 p1 p2 p3 μ) = 0 := by
          simp [s1, nrK, h1, h2]
        have s2 : muX9_drift_2 p1 p2 p3 μ = μ := by
          simp [muX9_drift_2, s1, nrM, h1, h2]
        have k3 : K_X9_needRange p3 0 24 (muX9_drift_2 p1 p2 p3 μ) = 0 := by
          simp [s1, s2, nrK, h1, h2, h3]
        have s3 : muX9_drift_3 p1 p2 p3 μ = μ := by
          simp [muX9_drift_3, s1, s2, nrM, h1, h2, h3]
        refine Or.inl ⟨rfl, rfl, rfl, by simp [K_X9_drift, k1, k2, k3], ⟨s1, s2, s3⟩, fun ν hν => ?_⟩
        have e61 : ν 61 = μ 61 := hν.1 61 (by decide) (by decide) (by decide) (by decide) (by decide) (by decide) (by decide) (by decide) (by decide) (by decide) (by decide)
        have v2 : VX10_drift_2 p1 p2 p3 ν = 0 := by
          simp [VX10_drift_2, muX10_drift_1, F_X10_isHouse, F_X10_isThing, F_X10_areHouses, F_X10_isYear, isIn_eq, upm_other, e61, hM.1, hM.2.1, hM.2.2.2.1, h1]
        obtain ⟨bp2, bf2, bm2⟩ := bad_ok (ν := ν) (w := 1) (b := 0) v2 (Or.inl rfl)
        have m3 : muX10_drift_3 p1 p2 p3 ν = upm ν 57 0 0 := by
          unfold muX10_drift_3
          exact bm2
        have v4 : VX10_drift_4 p1 p2 p3 ν = 0 := by
          simp [VX10_drift_4, muX10_drift_1, F_X10_isHouse, F_X10_isThing, F_X10_areHouses, F_X10_isYear, isIn_eq, upm_other, e61, hM.1, hM.2.1, hM.2.2.2.1, m3, h1, h2, h3]
        obtain ⟨bp4, bf4, bm4⟩ := bad_ok (ν := ν) (w := 2) (b := 1) v4 (Or.inr rfl)
        have m5 : muX10_drift_5 p1 p2 p3 ν = upm ν 57 0 0 := by
          unfold muX10_drift_5
          rw [m3]
          exact bm4
        exact ⟨⟨bp2, bf2, m3⟩, ⟨bp4, bf4, m5⟩⟩
theorem gate_whence {E : EV} {L : LW} {μ : Mem} (hI : Inv E L μ) (p1 p2 p3 : Int32) : (inR p1 0 (nI (eH E) - 1) = true ∧ inR p2 0 24 = true ∧ inR p3 0 2 = true ∧ K_X9_whence p1 p2 p3 μ = 0 ∧ (muX9_whence_1 p1 p2 p3 μ = μ ∧ muX9_whence_2 p1 p2 p3 μ = μ ∧ muX9_whence_3 p1 p2 p3 μ = μ) ∧ (∀ ν, KQ μ ν → (P_X10_bad (VX10_whence_2 p1 p2 p3 ν) 1 0 (upm ν 57 0 0) ∧ F_X10_bad (VX10_whence_2 p1 p2 p3 ν) 1 0 (upm ν 57 0 0) = 0 ∧ muX10_whence_3 p1 p2 p3 ν = upm ν 57 0 0) ∧ (P_X10_bad (VX10_whence_4 p1 p2 p3 ν) 2 1 (upm ν 57 0 0) ∧ F_X10_bad (VX10_whence_4 p1 p2 p3 ν) 2 1 (upm ν 57 0 0) = 0 ∧ muX10_whence_5 p1 p2 p3 ν = upm ν 57 0 0))) ∨ ∃ j, jB j ∧ QNo w2 μ (K_X9_whence p1 p2 p3 μ) (M_X9_whence p1 p2 p3 μ) (P_X9_whence p1 p2 p3 μ) (M_X10_whence p1 p2 p3) (P_X10_whence p1 p2 p3) j := by
  have hE := hI.2.2.1
  have hM := hI.2.1
  have hO := hI.1
  have d1 := hO.1.1
  have d2 := hO.1.2.1
  have d3 := hO.1.2.2.2
  cases h1 : inR p1 0 (nI (eH E) - 1) with
  | false =>
    have k1 : K_X9_needHouse p1 μ = 1 := by
      simp [nhK hE hO, h1]
    have s1 : muX9_whence_1 p1 p2 p3 μ = M_needR 12 μ := by
      simp [muX9_whence_1, nhM hE hO, h1]
    refine Or.inr ⟨0, by first | rfl | exact Or.inl rfl | exact Or.inr rfl, by simp [K_X9_whence, k1], by simp [P_X9_whence, k1], by (unfold M_X9_whence; first | exact s1 | (rw [if_neg (by rw [k1]; decide)]; exact s1)), fun ν hν => ?_⟩
    have e61 : ν 61 = μ 61 := hν 61 (by decide)
    have v2 : VX10_whence_2 p1 p2 p3 ν = 1 := by
      simp [VX10_whence_2, muX10_whence_1, F_X10_isHouse, F_X10_isThing, F_X10_areHouses, F_X10_isYear, isIn_eq, upm_other, e61, hM.1, hM.2.1, hM.2.2.2.1, h1]
    obtain ⟨bp2, bf2, bm2⟩ := bad_no (ν := ν) (w := 1) (b := 0) v2 (by decide) (Or.inl rfl)
    have m3 : muX10_whence_3 p1 p2 p3 ν = thr 1 0 ν := by
      unfold muX10_whence_3
      exact bm2
    have m1 : muX10_whence_1 p1 p2 p3 ν = upm ν 57 0 0 := rfl
    exact ⟨by simp [P_X10_whence, m1, m3, bp2, bf2], by simp [M_X10_whence, m1, m3, bp2, bf2, w1, w2, nI]⟩
  | true =>
    cases h2 : inR p2 0 24 with
    | false =>
      have k1 : K_X9_needHouse p1 μ = 0 := by
        simp [nhK hE hO, h1]
      have s1 : muX9_whence_1 p1 p2 p3 μ = μ := by
        simp [muX9_whence_1, nhM hE hO, h1]
      have k2 : K_X9_needRange p2 0 24 (muX9_whence_1 p1 p2 p3 μ) = 2 := by
        simp [s1, nrK, h1, h2]
      have s2 : muX9_whence_2 p1 p2 p3 μ = M_needR 13 μ := by
        simp [muX9_whence_2, s1, nrM, h1, h2]
      refine Or.inr ⟨1, by first | rfl | exact Or.inl rfl | exact Or.inr rfl, by simp [K_X9_whence, k1, k2], by simp [P_X9_whence, k1, k2], by (unfold M_X9_whence; rw [if_pos k1]; first | exact s2 | (rw [if_neg (by rw [k2]; decide)]; exact s2)), fun ν hν => ?_⟩
      have e61 : ν 61 = μ 61 := hν 61 (by decide)
      have v2 : VX10_whence_2 p1 p2 p3 ν = 0 := by
        simp [VX10_whence_2, muX10_whence_1, F_X10_isHouse, F_X10_isThing, F_X10_areHouses, F_X10_isYear, isIn_eq, upm_other, e61, hM.1, hM.2.1, hM.2.2.2.1, h1]
      obtain ⟨bp2, bf2, bm2⟩ := bad_ok (ν := ν) (w := 1) (b := 0) v2 (Or.inl rfl)
      have m3 : muX10_whence_3 p1 p2 p3 ν = upm ν 57 0 0 := by
        unfold muX10_whence_3
        exact bm2
      have v4 : VX10_whence_4 p1 p2 p3 ν = 1 := by
        simp [VX10_whence_4, muX10_whence_1, F_X10_isHouse, F_X10_isThing, F_X10_areHouses, F_X10_isYear, isIn_eq, upm_other, e61, hM.1, hM.2.1, hM.2.2.2.1, m3, h1, h2]
      obtain ⟨bp4, bf4, bm4⟩ := bad_no (ν := ν) (w := 2) (b := 1) v4 (by decide) (Or.inr rfl)
      have m5 : muX10_whence_5 p1 p2 p3 ν = thr 2 1 ν := by
        unfold muX10_whence_5
        rw [m3]
        exact bm4
      have m1 : muX10_whence_1 p1 p2 p3 ν = upm ν 57 0 0 := rfl
      exact ⟨by simp [P_X10_whence, m1, m3, m5, bp2, bf2, bp4, bf4], by simp [M_X10_whence, m1, m3, m5, bp2, bf2, bp4, bf4, w1, w2, nI]⟩
    | true =>
      cases h3 : inR p3 0 2 with
      | false =>
        have k1 : K_X9_needHouse p1 μ = 0 := by
          simp [nhK hE hO, h1]
        have s1 : muX9_whence_1 p1 p2 p3 μ = μ := by
          simp [muX9_whence_1, nhM hE hO, h1]
        have k2 : K_X9_needRange p2 0 24 (muX9_whence_1 p1 p2 p3 μ) = 0 := by
          simp [s1, nrK, h1, h2]
        have s2 : muX9_whence_2 p1 p2 p3 μ = μ := by
          simp [muX9_whence_2, s1, nrM, h1, h2]
        have k3 : K_X9_needRange p3 0 2 (muX9_whence_2 p1 p2 p3 μ) = 2 := by
          simp [s1, s2, nrK, h1, h2, h3]
        have s3 : muX9_whence_3 p1 p2 p3 μ = M_needR 13 μ := by
          simp [muX9_whence_3, s1, s2, nrM, h1, h2, h3]
        refine Or.inr ⟨1, by first | rfl | exact Or.inl rfl | exact Or.inr rfl, by simp [K_X9_whence, k1, k2, k3], by simp [P_X9_whence, k1, k2, k3], by (unfold M_X9_whence; rw [if_pos k1]; rw [if_pos k2]; first | exact s3 | (rw [if_neg (by rw [k3]; decide)]; exact s3)), fun ν hν => ?_⟩
        have e61 : ν 61 = μ 61 := hν 61 (by decide)
        have v2 : VX10_whence_2 p1 p2 p3 ν = 0 := by
          simp [VX10_whence_2, muX10_whence_1, F_X10_isHouse, F_X10_isThing, F_X10_areHouses, F_X10_isYear, isIn_eq, upm_other, e61, hM.1, hM.2.1, hM.2.2.2.1, h1]
        obtain ⟨bp2, bf2, bm2⟩ := bad_ok (ν := ν) (w := 1) (b := 0) v2 (Or.inl rfl)
        have m3 : muX10_whence_3 p1 p2 p3 ν = upm ν 57 0 0 := by
          unfold muX10_whence_3
          exact bm2
        have v4 : VX10_whence_4 p1 p2 p3 ν = 1 := by
          simp [VX10_whence_4, muX10_whence_1, F_X10_isHouse, F_X10_isThing, F_X10_areHouses, F_X10_isYear, isIn_eq, upm_other, e61, hM.1, hM.2.1, hM.2.2.2.1, m3, h1, h2, h3]
        obtain ⟨bp4, bf4, bm4⟩ := bad_no (ν := ν) (w := 2) (b := 1) v4 (by decide) (Or.inr rfl)
        have m5 : muX10_whence_5 p1 p2 p3 ν = thr 2 1 ν := by
          unfold muX10_whence_5
          rw [m3]
          exact bm4
        have m1 : muX10_whence_1 p1 p2 p3 ν = upm ν 57 0 0 := rfl
        exact ⟨by simp [P_X10_whence, m1, m3, m5, bp2, bf2, bp4, bf4], by simp [M_X10_whence, m1, m3, m5, bp2, bf2, bp4, bf4, w1, w2, nI]⟩
      | true =>
        have k1 : K_X9_needHouse p1 μ = 0 := by
          simp [nhK hE hO, h1]
        have s1 : muX9_whence_1 p1 p2 p3 μ = μ := by
          simp [muX9_whence_1, nhM hE hO, h1]
        have k2 : K_X9_needRange p2 0 24 (muX9_whence_1 p1 p2 p3 μ) = 0 := by
          simp [s1, nrK, h1, h2]
        have s2 : muX9_whence_2 p1 p2 p3 μ = μ := by
          simp [muX9_whence_2, s1, nrM, h1, h2]
        have k3 : K_X9_needRange p3 0 2 (muX9_whence_2 p1 p2 p3 μ) = 0 := by
          simp [s1, s2, nrK, h1, h2, h3]
        have s3 : muX9_whence_3 p1 p2 p3 μ = μ := by
          simp [muX9_whence_3, s1, s2, nrM, h1, h2, h3]
        refine Or.inl ⟨rfl, rfl, rfl, by simp [K_X9_whence, k1, k2, k3], ⟨s1, s2, s3⟩, fun ν hν => ?_⟩
        have e61 : ν 61 = μ 61 := hν.1 61 (by decide) (by decide) (by decide) (by decide) (by decide) (by decide) (by decide) (by decide) (by decide) (by decide) (by decide)
        have v2 : VX10_whence_2 p1 p2 p3 ν = 0 := by
          simp [VX10_whence_2, muX10_whence_1, F_X10_isHouse, F_X10_isThing, F_X10_areHouses, F_X10_isYear, isIn_eq, upm_other, e61, hM.1, hM.2.1, hM.2.2.2.1, h1]
        obtain ⟨bp2, bf2, bm2⟩ := bad_ok (ν := ν) (w := 1) (b := 0) v2 (Or.inl rfl)
        have m3 : muX10_whence_3 p1 p2 p3 ν = upm ν 57 0 0 := by
          unfold muX10_whence_3
          exact bm2
        have v4 : VX10_whence_4 p1 p2 p3 ν = 0 := by
          simp [VX10_whence_4, muX10_whence_1, F_X10_isHouse, F_X10_isThing, F_X10_areHouses, F_X10_isYear, isIn_eq, upm_other, e61, hM.1, hM.2.1, hM.2.2.2.1, m3, h1, h2, h3]
        obtain ⟨bp4, bf4, bm4⟩ := bad_ok (ν := ν) (w := 2) (b := 1) v4 (Or.inr rfl)
        have m5 : muX10_whence_5 p1 p2 p3 ν = upm ν 57 0 0 := by
          unfold muX10_whence_5
          rw [m3]
          exact bm4
        exact ⟨⟨bp2, bf2, m3⟩, ⟨bp4, bf4, m5⟩⟩
theorem gate_gain {E : EV} {L : LW} {μ : Mem} (hI : Inv E L μ) (p1 p2 p3 : Int32) : (inR p1 0 (nI (eH E) - 1) = true ∧ inR p2 0 60 = true ∧ inR p3 0 1 = true ∧ K_X9_gain p1 p2 p3 μ = 0 ∧ (muX9_gain_1 p1 p2 p3 μ = μ ∧ muX9_gain_2 p1 p2 p3 μ = μ ∧ muX9_gain_3 p1 p2 p3 μ = μ) ∧ (∀ ν, KQ μ ν → (P_X10_bad (VX10_gain_2 p1 p2 p3 ν) 1 0 (upm ν 57 0 0) ∧ F_X10_bad (VX10_gain_2 p1 p2 p3 ν) 1 0 (upm ν 57 0 0) = 0 ∧ muX10_gain_3 p1 p2 p3 ν = upm ν 57 0 0) ∧ (P_X10_bad (VX10_gain_4 p1 p2 p3 ν) 2 1 (upm ν 57 0 0) ∧ F_X10_bad (VX10_gain_4 p1 p2 p3 ν) 2 1 (upm ν 57 0 0) = 0 ∧ muX10_gain_5 p1 p2 p3 ν = upm ν 57 0 0))) ∨ ∃ j, jB j ∧ QNo w2 μ (K_X9_gain p1 p2 p3 μ) (M_X9_gain p1 p2 p3 μ) (P_X9_gain p1 p2 p3 μ) (M_X10_gain p1 p2 p3) (P_X10_gain p1 p2 p3) j := by
  have hE := hI.2.2.1
  have hM := hI.2.1
  have hO := hI.1
  have d1 := hO.1.1
  have d2 := hO.1.2.1
  have d3 := hO.1.2.2.2
  cases h1 : inR p1 0 (nI (eH E) - 1) with
  | false =>
    have k1 : K_X9_needHouse p1 μ = 1 := by
      simp [nhK hE hO, h1]
    have s1 : muX9_gain_1 p1 p2 p3 μ = M_needR 12 μ := by
      simp [muX9_gain_1, nhM hE hO, h1]
    refine Or.inr ⟨0, by first | rfl | exact Or.inl rfl | exact Or.inr rfl, by simp [K_X9_gain, k1], by simp [P_X9_gain, k1], by (unfold M_X9_gain; first | exact s1 | (rw [if_neg (by rw [k1]; decide)]; exact s1)), fun ν hν => ?_⟩
    have e61 : ν 61 = μ 61 := hν 61 (by decide)
    have v2 : VX10_gain_2 p1 p2 p3 ν = 1 := by
      simp [VX10_gain_2, muX10_gain_1, F_X10_isHouse, F_X10_isThing, F_X10_areHouses, F_X10_isYear, isIn_eq, upm_other, e61, hM.1, hM.2.1, hM.2.2.2.1, h1]
    obtain ⟨bp2, bf2, bm2⟩ := bad_no (ν := ν) (w := 1) (b := 0) v2 (by decide) (Or.inl rfl)
    have m3 : muX10_gain_3 p1 p2 p3 ν = thr 1 0 ν := by
      unfold muX10_gain_3
      exact bm2
    have m1 : muX10_gain_1 p1 p2 p3 ν = upm ν 57 0 0 := rfl
    exact ⟨by simp [P_X10_gain, m1, m3, bp2, bf2], by simp [M_X10_gain, m1, m3, bp2, bf2, w1, w2, nI]⟩
  | true =>
    cases h2 : inR p2 0 60 with
    | false =>
      have k1 : K_X9_needHouse p1 μ = 0 := by
        simp [nhK hE hO, h1]
      have s1 : muX9_gain_1 p1 p2 p3 μ = μ := by
        simp [muX9_gain_1, nhM hE hO, h1]
      have k2 : K_X9_needRange p2 0 60 (muX9_gain_1 p1 p2 p3 μ) = 2 := by
        simp [s1, nrK, h1, h2]
      have s2 : muX9_gain_2 p1 p2 p3 μ = M_needR 13 μ := by
        simp [muX9_gain_2, s1, nrM, h1, h2]
      refine Or.inr ⟨1, by first | rfl | exact Or.inl rfl | exact Or.inr rfl, by simp [K_X9_gain, k1, k2], by simp [P_X9_gain, k1, k2], by (unfold M_X9_gain; rw [if_pos k1]; first | exact s2 | (rw [if_neg (by rw [k2]; decide)]; exact s2)), fun ν hν => ?_⟩
      have e61 : ν 61 = μ 61 := hν 61 (by decide)
      have v2 : VX10_gain_2 p1 p2 p3 ν = 0 := by
        simp [VX10_gain_2, muX10_gain_1, F_X10_isHouse, F_X10_isThing, F_X10_areHouses, F_X10_isYear, isIn_eq, upm_other, e61, hM.1, hM.2.1, hM.2.2.2.1, h1]
      obtain ⟨bp2, bf2, bm2⟩ := bad_ok (ν := ν) (w := 1) (b := 0) v2 (Or.inl rfl)
      have m3 : muX10_gain_3 p1 p2 p3 ν = upm ν 57 0 0 := by
        unfold muX10_gain_3
        exact bm2
      have v4 : VX10_gain_4 p1 p2 p3 ν = 1 := by
        simp [VX10_gain_4, muX10_gain_1, F_X10_isHouse, F_X10_isThing, F_X10_areHouses, F_X10_isYear, isIn_eq, upm_other, e61, hM.1, hM.2.1, hM.2.2.2.1, m3, h1, h2]
      obtain ⟨bp4, bf4, bm4⟩ := bad_no (ν := ν) (w := 2) (b := 1) v4 (by decide) (Or.inr rfl)
      have m5 : muX10_gain_5 p1 p2 p3 ν = thr 2 1 ν := by
        unfold muX10_gain_5
        rw [m3]
        exact bm4
      have m1 : muX10_gain_1 p1 p2 p3 ν = upm ν 57 0 0 := rfl
      exact ⟨by simp [P_X10_gain, m1, m3, m5, bp2, bf2, bp4, bf4], by simp [M_X10_gain, m1, m3, m5, bp2, bf2, bp4, bf4, w1, w2, nI]⟩
    | true =>
      cases h3 : inR p3 0 1 with
      | false =>
        have k1 : K_X9_needHouse p1 μ = 0 := by
          simp [nhK hE hO, h1]
        have s1 : muX9_gain_1 p1 p2 p3 μ = μ := by
          simp [muX9_gain_1, nhM hE hO, h1]
        have k2 : K_X9_needRange p2 0 60 (muX9_gain_1 p1 p2 p3 μ) = 0 := by
          simp [s1, nrK, h1, h2]
        have s2 : muX9_gain_2 p1 p2 p3 μ = μ := by
          simp [muX9_gain_2, s1, nrM, h1, h2]
        have k3 : K_X9_needRange p3 0 1 (muX9_gain_2 p1 p2 p3 μ) = 2 := by
          simp [s1, s2, nrK, h1, h2, h3]
        have s3 : muX9_gain_3 p1 p2 p3 μ = M_needR 13 μ := by
          simp [muX9_gain_3, s1, s2, nrM, h1, h2, h3]
        refine Or.inr ⟨1, by first | rfl | exact Or.inl rfl | exact Or.inr rfl, by simp [K_X9_gain, k1, k2, k3], by simp [P_X9_gain, k1, k2, k3], by (unfold M_X9_gain; rw [if_pos k1]; rw [if_pos k2]; first | exact s3 | (rw [if_neg (by rw [k3]; decide)]; exact s3)), fun ν hν => ?_⟩
        have e61 : ν 61 = μ 61 := hν 61 (by decide)
        have v2 : VX10_gain_2 p1 p2 p3 ν = 0 := by
          simp [VX10_gain_2, muX10_gain_1, F_X10_isHouse, F_X10_isThing, F_X10_areHouses, F_X10_isYear, isIn_eq, upm_other, e61, hM.1, hM.2.1, hM.2.2.2.1, h1]
        obtain ⟨bp2, bf2, bm2⟩ := bad_ok (ν := ν) (w := 1) (b := 0) v2 (Or.inl rfl)
        have m3 : muX10_gain_3 p1 p2 p3 ν = upm ν 57 0 0 := by
          unfold muX10_gain_3
          exact bm2
        have v4 : VX10_gain_4 p1 p2 p3 ν = 1 := by
          simp [VX10_gain_4, muX10_gain_1, F_X10_isHouse, F_X10_isThing, F_X10_areHouses, F_X10_isYear, isIn_eq, upm_other, e61, hM.1, hM.2.1, hM.2.2.2.1, m3, h1, h2, h3]
        obtain ⟨bp4, bf4, bm4⟩ := bad_no (ν := ν) (w := 2) (b := 1) v4 (by decide) (Or.inr rfl)
        have m5 : muX10_gain_5 p1 p2 p3 ν = thr 2 1 ν := by
          unfold muX10_gain_5
          rw [m3]
          exact bm4
        have m1 : muX10_gain_1 p1 p2 p3 ν = upm ν 57 0 0 := rfl
        exact ⟨by simp [P_X10_gain, m1, m3, m5, bp2, bf2, bp4, bf4], by simp [M_X10_gain, m1, m3, m5, bp2, bf2, bp4, bf4, w1, w2, nI]⟩
      | true =>
        have k1 : K_X9_needHouse p1 μ = 0 := by
          simp [nhK hE hO, h1]
        have s1 : muX9_gain_1 p1 p2 p3 μ = μ := by
          simp [muX9_gain_1, nhM hE hO, h1]
        have k2 : K_X9_needRange p2 0 60 (muX9_gain_1 p1 p2 p3 μ) = 0 := by
          simp [s1, nrK, h1, h2]
        have s2 : muX9_gain_2 p1 p2 p3 μ = μ := by
          simp [muX9_gain_2, s1, nrM, h1, h2]
        have k3 : K_X9_needRange p3 0 1 (muX9_gain_2 p1 p2 p3 μ) = 0 := by
          simp [s1, s2, nrK, h1, h2, h3]
        have s3 : muX9_gain_3 p1 p2 p3 μ = μ := by
          simp [muX9_gain_3, s1, s2, nrM, h1, h2, h3]
        refine Or.inl ⟨rfl, rfl, rfl, by simp [K_X9_gain, k1, k2, k3], ⟨s1, s2, s3⟩, fun ν hν => ?_⟩
        have e61 : ν 61 = μ 61 := hν.1 61 (by decide) (by decide) (by decide) (by decide) (by decide) (by decide) (by decide) (by decide) (by decide) (by decide) (by decide)
        have v2 : VX10_gain_2 p1 p2 p3 ν = 0 := by
          simp [VX10_gain_2, muX10_gain_1, F_X10_isHouse, F_X10_isThing, F_X10_areHouses, F_X10_isYear, isIn_eq, upm_other, e61, hM.1, hM.2.1, hM.2.2.2.1, h1]
        obtain ⟨bp2, bf2, bm2⟩ := bad_ok (ν := ν) (w := 1) (b := 0) v2 (Or.inl rfl)
        have m3 : muX10_gain_3 p1 p2 p3 ν = upm ν 57 0 0 := by
          unfold muX10_gain_3
          exact bm2
        have v4 : VX10_gain_4 p1 p2 p3 ν = 0 := by
          simp [VX10_gain_4, muX10_gain_1, F_X10_isHouse, F_X10_isThing, F_X10_areHouses, F_X10_isYear, isIn_eq, upm_other, e61, hM.1, hM.2.1, hM.2.2.2.1, m3, h1, h2, h3]
        obtain ⟨bp4, bf4, bm4⟩ := bad_ok (ν := ν) (w := 2) (b := 1) v4 (Or.inr rfl)
        have m5 : muX10_gain_5 p1 p2 p3 ν = upm ν 57 0 0 := by
          unfold muX10_gain_5
          rw [m3]
          exact bm4
        exact ⟨⟨bp2, bf2, m3⟩, ⟨bp4, bf4, m5⟩⟩
theorem gate_share {E : EV} {L : LW} {μ : Mem} (hI : Inv E L μ) (p1 p2 p3 : Int32) : (inR p1 0 (nI (eH E) - 1) = true ∧ inR p2 0 (mskE E) = true ∧ inR p3 0 999 = true ∧ K_X9_share p1 p2 p3 μ = 0 ∧ (muX9_share_1 p1 p2 p3 μ = μ ∧ muX9_share_2 p1 p2 p3 μ = μ ∧ muX9_share_3 p1 p2 p3 μ = μ) ∧ (∀ ν, KQ μ ν → (P_X10_bad (VX10_share_2 p1 p2 p3 ν) 1 0 (upm ν 57 0 0) ∧ F_X10_bad (VX10_share_2 p1 p2 p3 ν) 1 0 (upm ν 57 0 0) = 0 ∧ muX10_share_3 p1 p2 p3 ν = upm ν 57 0 0) ∧ (P_X10_bad (VX10_share_4 p1 p2 p3 ν) 2 1 (upm ν 57 0 0) ∧ F_X10_bad (VX10_share_4 p1 p2 p3 ν) 2 1 (upm ν 57 0 0) = 0 ∧ muX10_share_5 p1 p2 p3 ν = upm ν 57 0 0))) ∨ ∃ j, jB j ∧ QNo w2 μ (K_X9_share p1 p2 p3 μ) (M_X9_share p1 p2 p3 μ) (P_X9_share p1 p2 p3 μ) (M_X10_share p1 p2 p3) (P_X10_share p1 p2 p3) j := by
  have hE := hI.2.2.1
  have hM := hI.2.1
  have hO := hI.1
  have d1 := hO.1.1
  have d2 := hO.1.2.1
  have d3 := hO.1.2.2.2
  cases h1 : inR p1 0 (nI (eH E) - 1) with
  | false =>
    have k1 : K_X9_needHouse p1 μ = 1 := by
      simp [nhK hE hO, h1]
    have s1 : muX9_share_1 p1 p2 p3 μ = M_needR 12 μ := by
      simp [muX9_share_1, nhM hE hO, h1]
    refine Or.inr ⟨0, by first | rfl | exact Or.inl rfl | exact Or.inr rfl, by simp [K_X9_share, k1], by simp [P_X9_share, k1], by (unfold M_X9_share; first | exact s1 | (rw [if_neg (by rw [k1]; decide)]; exact s1)), fun ν hν => ?_⟩
    have e61 : ν 61 = μ 61 := hν 61 (by decide)
    have v2 : VX10_share_2 p1 p2 p3 ν = 1 := by
      simp [VX10_share_2, muX10_share_1, F_X10_isHouse, F_X10_isThing, F_X10_areHouses, F_X10_isYear, isIn_eq, upm_other, e61, hM.1, hM.2.1, hM.2.2.2.1, h1]
    obtain ⟨bp2, bf2, bm2⟩ := bad_no (ν := ν) (w := 1) (b := 0) v2 (by decide) (Or.inl rfl)
    have m3 : muX10_share_3 p1 p2 p3 ν = thr 1 0 ν := by
      unfold muX10_share_3
      exact bm2
    have m1 : muX10_share_1 p1 p2 p3 ν = upm ν 57 0 0 := rfl
    exact ⟨by simp [P_X10_share, m1, m3, bp2, bf2], by simp [M_X10_share, m1, m3, bp2, bf2, w1, w2, nI]⟩
  | true =>
    cases h2 : inR p2 0 (mskE E) with
    | false =>
      have k1 : K_X9_needHouse p1 μ = 0 := by
        simp [nhK hE hO, h1]
      have s1 : muX9_share_1 p1 p2 p3 μ = μ := by
        simp [muX9_share_1, nhM hE hO, h1]
      have k2 : K_X9_needHouses p2 (muX9_share_1 p1 p2 p3 μ) = 2 := by
        simp [s1, nsK hE, h1, h2]
      have s2 : muX9_share_2 p1 p2 p3 μ = M_needR 13 μ := by
        simp [muX9_share_2, s1, nsM hE, h1, h2]
      refine Or.inr ⟨1, by first | rfl | exact Or.inl rfl | exact Or.inr rfl, by simp [K_X9_share, k1, k2], by simp [P_X9_share, k1, k2], by (unfold M_X9_share; rw [if_pos k1]; first | exact s2 | (rw [if_neg (by rw [k2]; decide)]; exact s2)), fun ν hν => ?_⟩
      have e61 : ν 61 = μ 61 := hν 61 (by decide)
      have v2 : VX10_share_2 p1 p2 p3 ν = 0 := by
        simp [VX10_share_2, muX10_share_1, F_X10_isHouse, F_X10_isThing, F_X10_areHouses, F_X10_isYear, isIn_eq, upm_other, e61, hM.1, hM.2.1, hM.2.2.2.1, h1]
      obtain ⟨bp2, bf2, bm2⟩ := bad_ok (ν := ν) (w := 1) (b := 0) v2 (Or.inl rfl)
      have m3 : muX10_share_3 p1 p2 p3 ν = upm ν 57 0 0 := by
        unfold muX10_share_3
        exact bm2
      have v4 : VX10_share_4 p1 p2 p3 ν = 1 := by
        simp [VX10_share_4, muX10_share_1, F_X10_isHouse, F_X10_isThing, F_X10_areHouses, F_X10_isYear, isIn_eq, upm_other, e61, hM.1, hM.2.1, hM.2.2.2.1, m3, h1, (show inR p2 0 (((1 : Int32) <<< (nI (eH E) &&& 31)) - 1) = _ from h2)]
      obtain ⟨bp4, bf4, bm4⟩ := bad_no (ν := ν) (w := 2) (b := 1) v4 (by decide) (Or.inr rfl)
      have m5 : muX10_share_5 p1 p2 p3 ν = thr 2 1 ν := by
        unfold muX10_share_5
        rw [m3]
        exact bm4
      have m1 : muX10_share_1 p1 p2 p3 ν = upm ν 57 0 0 := rfl
      exact ⟨by simp [P_X10_share, m1, m3, m5, bp2, bf2, bp4, bf4], by simp [M_X10_share, m1, m3, m5, bp2, bf2, bp4, bf4, w1, w2, nI]⟩
    | true =>
      cases h3 : inR p3 0 999 with
      | false =>
        have k1 : K_X9_needHouse p1 μ = 0 := by
          simp [nhK hE hO, h1]
        have s1 : muX9_share_1 p1 p2 p3 μ = μ := by
          simp [muX9_share_1, nhM hE hO, h1]
        have k2 : K_X9_needHouses p2 (muX9_share_1 p1 p2 p3 μ) = 0 := by
          simp [s1, nsK hE, h1, h2]
        have s2 : muX9_share_2 p1 p2 p3 μ = μ := by
          simp [muX9_share_2, s1, nsM hE, h1, h2]
        have k3 : K_X9_needRange p3 0 999 (muX9_share_2 p1 p2 p3 μ) = 2 := by
          simp [s1, s2, nrK, h1, h2, h3]
        have s3 : muX9_share_3 p1 p2 p3 μ = M_needR 13 μ := by
          simp [muX9_share_3, s1, s2, nrM, h1, h2, h3]
        refine Or.inr ⟨1, by first | rfl | exact Or.inl rfl | exact Or.inr rfl, by simp [K_X9_share, k1, k2, k3], by simp [P_X9_share, k1, k2, k3], by (unfold M_X9_share; rw [if_pos k1]; rw [if_pos k2]; first | exact s3 | (rw [if_neg (by rw [k3]; decide)]; exact s3)), fun ν hν => ?_⟩
        have e61 : ν 61 = μ 61 := hν 61 (by decide)
        have v2 : VX10_share_2 p1 p2 p3 ν = 0 := by
          simp [VX10_share_2, muX10_share_1, F_X10_isHouse, F_X10_isThing, F_X10_areHouses, F_X10_isYear, isIn_eq, upm_other, e61, hM.1, hM.2.1, hM.2.2.2.1, h1]
        obtain ⟨bp2, bf2, bm2⟩ := bad_ok (ν := ν) (w := 1) (b := 0) v2 (Or.inl rfl)
        have m3 : muX10_share_3 p1 p2 p3 ν = upm ν 57 0 0 := by
          unfold muX10_share_3
          exact bm2
        have v4 : VX10_share_4 p1 p2 p3 ν = 1 := by
          simp [VX10_share_4, muX10_share_1, F_X10_isHouse, F_X10_isThing, F_X10_areHouses, F_X10_isYear, isIn_eq, upm_other, e61, hM.1, hM.2.1, hM.2.2.2.1, m3, h1, (show inR p2 0 (((1 : Int32) <<< (nI (eH E) &&& 31)) - 1) = _ from h2), h3]
        obtain ⟨bp4, bf4, bm4⟩ := bad_no (ν := ν) (w := 2) (b := 1) v4 (by decide) (Or.inr rfl)
        have m5 : muX10_share_5 p1 p2 p3 ν = thr 2 1 ν := by
          unfold muX10_share_5
          rw [m3]
          exact bm4
        have m1 : muX10_share_1 p1 p2 p3 ν = upm ν 57 0 0 := rfl
        exact ⟨by simp [P_X10_share, m1, m3, m5, bp2, bf2, bp4, bf4], by simp [M_X10_share, m1, m3, m5, bp2, bf2, bp4, bf4, w1, w2, nI]⟩
      | true =>
        have k1 : K_X9_needHouse p1 μ = 0 := by
          simp [nhK hE hO, h1]
        have s1 : muX9_share_1 p1 p2 p3 μ = μ := by
          simp [muX9_share_1, nhM hE hO, h1]
        have k2 : K_X9_needHouses p2 (muX9_share_1 p1 p2 p3 μ) = 0 := by
          simp [s1, nsK hE, h1, h2]
        have s2 : muX9_share_2 p1 p2 p3 μ = μ := by
          simp [muX9_share_2, s1, nsM hE, h1, h2]
        have k3 : K_X9_needRange p3 0 999 (muX9_share_2 p1 p2 p3 μ) = 0 := by
          simp [s1, s2, nrK, h1, h2, h3]
        have s3 : muX9_share_3 p1 p2 p3 μ = μ := by
          simp [muX9_share_3, s1, s2, nrM, h1, h2, h3]
        refine Or.inl ⟨rfl, rfl, rfl, by simp [K_X9_share, k1, k2, k3], ⟨s1, s2, s3⟩, fun ν hν => ?_⟩
        have e61 : ν 61 = μ 61 := hν.1 61 (by decide) (by decide) (by decide) (by decide) (by decide) (by decide) (by decide) (by decide) (by decide) (by decide) (by decide)
        have v2 : VX10_share_2 p1 p2 p3 ν = 0 := by
          simp [VX10_share_2, muX10_share_1, F_X10_isHouse, F_X10_isThing, F_X10_areHouses, F_X10_isYear, isIn_eq, upm_other, e61, hM.1, hM.2.1, hM.2.2.2.1, h1]
        obtain ⟨bp2, bf2, bm2⟩ := bad_ok (ν := ν) (w := 1) (b := 0) v2 (Or.inl rfl)
        have m3 : muX10_share_3 p1 p2 p3 ν = upm ν 57 0 0 := by
          unfold muX10_share_3
          exact bm2
        have v4 : VX10_share_4 p1 p2 p3 ν = 0 := by
          simp [VX10_share_4, muX10_share_1, F_X10_isHouse, F_X10_isThing, F_X10_areHouses, F_X10_isYear, isIn_eq, upm_other, e61, hM.1, hM.2.1, hM.2.2.2.1, m3, h1, (show inR p2 0 (((1 : Int32) <<< (nI (eH E) &&& 31)) - 1) = _ from h2), h3]
        obtain ⟨bp4, bf4, bm4⟩ := bad_ok (ν := ν) (w := 2) (b := 1) v4 (Or.inr rfl)
        have m5 : muX10_share_5 p1 p2 p3 ν = upm ν 57 0 0 := by
          unfold muX10_share_5
          rw [m3]
          exact bm4
        exact ⟨⟨bp2, bf2, m3⟩, ⟨bp4, bf4, m5⟩⟩
theorem gate_soaked {E : EV} {L : LW} {μ : Mem} (hI : Inv E L μ) (p1 p2 : Int32) : (inR p1 0 (nI (eT E) - 1) = true ∧ inR p2 0 60 = true ∧ K_X9_soaked p1 p2 μ = 0 ∧ (muX9_soaked_1 p1 p2 μ = μ ∧ muX9_soaked_2 p1 p2 μ = μ) ∧ (∀ ν, KQ μ ν → (P_X10_bad (VX10_soaked_2 p1 p2 ν) 1 0 (upm ν 57 0 0) ∧ F_X10_bad (VX10_soaked_2 p1 p2 ν) 1 0 (upm ν 57 0 0) = 0 ∧ muX10_soaked_3 p1 p2 ν = upm ν 57 0 0) ∧ (P_X10_bad (VX10_soaked_4 p1 p2 ν) 2 1 (upm ν 57 0 0) ∧ F_X10_bad (VX10_soaked_4 p1 p2 ν) 2 1 (upm ν 57 0 0) = 0 ∧ muX10_soaked_5 p1 p2 ν = upm ν 57 0 0))) ∨ ∃ j, jB j ∧ QNo w2 μ (K_X9_soaked p1 p2 μ) (M_X9_soaked p1 p2 μ) (P_X9_soaked p1 p2 μ) (M_X10_soaked p1 p2) (P_X10_soaked p1 p2) j := by
  have hE := hI.2.2.1
  have hM := hI.2.1
  have hO := hI.1
  have d1 := hO.1.1
  have d2 := hO.1.2.1
  have d3 := hO.1.2.2.2
  cases h1 : inR p1 0 (nI (eT E) - 1) with
  | false =>
    have k1 : K_X9_needElement p1 (μ 3 9) μ = 1 := by
      simp [hE.2.1, neK _ (by omega : eT E < 2 ^ 31), h1]
    have s1 : muX9_soaked_1 p1 p2 μ = M_needR 12 μ := by
      simp [muX9_soaked_1, hE.2.1, neM _ (by omega : eT E < 2 ^ 31), h1]
    refine Or.inr ⟨0, by first | rfl | exact Or.inl rfl | exact Or.inr rfl, by simp [K_X9_soaked, k1], by simp [P_X9_soaked, k1], by (unfold M_X9_soaked; first | exact s1 | (rw [if_neg (by rw [k1]; decide)]; exact s1)), fun ν hν => ?_⟩
    have e61 : ν 61 = μ 61 := hν 61 (by decide)
    have v2 : VX10_soaked_2 p1 p2 ν = 1 := by
      simp [VX10_soaked_2, muX10_soaked_1, F_X10_isHouse, F_X10_isThing, F_X10_areHouses, F_X10_isYear, isIn_eq, upm_other, e61, hM.1, hM.2.1, hM.2.2.2.1, h1]
    obtain ⟨bp2, bf2, bm2⟩ := bad_no (ν := ν) (w := 1) (b := 0) v2 (by decide) (Or.inl rfl)
    have m3 : muX10_soaked_3 p1 p2 ν = thr 1 0 ν := by
      unfold muX10_soaked_3
      exact bm2
    have m1 : muX10_soaked_1 p1 p2 ν = upm ν 57 0 0 := rfl
    exact ⟨by simp [P_X10_soaked, m1, m3, bp2, bf2], by simp [M_X10_soaked, m1, m3, bp2, bf2, w1, w2, nI]⟩
  | true =>
    cases h2 : inR p2 0 60 with
    | false =>
      have k1 : K_X9_needElement p1 (μ 3 9) μ = 0 := by
        simp [hE.2.1, neK _ (by omega : eT E < 2 ^ 31), h1]
      have s1 : muX9_soaked_1 p1 p2 μ = μ := by
        simp [muX9_soaked_1, hE.2.1, neM _ (by omega : eT E < 2 ^ 31), h1]
      have k2 : K_X9_needRange p2 0 60 (muX9_soaked_1 p1 p2 μ) = 2 := by
        simp [s1, nrK, h1, h2]
      have s2 : muX9_soaked_2 p1 p2 μ = M_needR 13 μ := by
        simp [muX9_soaked_2, s1, nrM, h1, h2]
      refine Or.inr ⟨1, by first | rfl | exact Or.inl rfl | exact Or.inr rfl, by simp [K_X9_soaked, k1, k2], by simp [P_X9_soaked, k1, k2], by (unfold M_X9_soaked; rw [if_pos k1]; first | exact s2 | (rw [if_neg (by rw [k2]; decide)]; exact s2)), fun ν hν => ?_⟩
      have e61 : ν 61 = μ 61 := hν 61 (by decide)
      have v2 : VX10_soaked_2 p1 p2 ν = 0 := by
        simp [VX10_soaked_2, muX10_soaked_1, F_X10_isHouse, F_X10_isThing, F_X10_areHouses, F_X10_isYear, isIn_eq, upm_other, e61, hM.1, hM.2.1, hM.2.2.2.1, h1]
      obtain ⟨bp2, bf2, bm2⟩ := bad_ok (ν := ν) (w := 1) (b := 0) v2 (Or.inl rfl)
      have m3 : muX10_soaked_3 p1 p2 ν = upm ν 57 0 0 := by
        unfold muX10_soaked_3
        exact bm2
      have v4 : VX10_soaked_4 p1 p2 ν = 1 := by
        simp [VX10_soaked_4, muX10_soaked_1, F_X10_isHouse, F_X10_isThing, F_X10_areHouses, F_X10_isYear, isIn_eq, upm_other, e61, hM.1, hM.2.1, hM.2.2.2.1, m3, h1, h2]
      obtain ⟨bp4, bf4, bm4⟩ := bad_no (ν := ν) (w := 2) (b := 1) v4 (by decide) (Or.inr rfl)
      have m5 : muX10_soaked_5 p1 p2 ν = thr 2 1 ν := by
        unfold muX10_soaked_5
        rw [m3]
        exact bm4
      have m1 : muX10_soaked_1 p1 p2 ν = upm ν 57 0 0 := rfl
      exact ⟨by simp [P_X10_soaked, m1, m3, m5, bp2, bf2, bp4, bf4], by simp [M_X10_soaked, m1, m3, m5, bp2, bf2, bp4, bf4, w1, w2, nI]⟩
    | true =>
      have k1 : K_X9_needElement p1 (μ 3 9) μ = 0 := by
        simp [hE.2.1, neK _ (by omega : eT E < 2 ^ 31), h1]
      have s1 : muX9_soaked_1 p1 p2 μ = μ := by
        simp [muX9_soaked_1, hE.2.1, neM _ (by omega : eT E < 2 ^ 31), h1]
      have k2 : K_X9_needRange p2 0 60 (muX9_soaked_1 p1 p2 μ) = 0 := by
        simp [s1, nrK, h1, h2]
      have s2 : muX9_soaked_2 p1 p2 μ = μ := by
        simp [muX9_soaked_2, s1, nrM, h1, h2]
      refine Or.inl ⟨rfl, rfl, by simp [K_X9_soaked, k1, k2], ⟨s1, s2⟩, fun ν hν => ?_⟩
      have e61 : ν 61 = μ 61 := hν.1 61 (by decide) (by decide) (by decide) (by decide) (by decide) (by decide) (by decide) (by decide) (by decide) (by decide) (by decide)
      have v2 : VX10_soaked_2 p1 p2 ν = 0 := by
        simp [VX10_soaked_2, muX10_soaked_1, F_X10_isHouse, F_X10_isThing, F_X10_areHouses, F_X10_isYear, isIn_eq, upm_other, e61, hM.1, hM.2.1, hM.2.2.2.1, h1]
      obtain ⟨bp2, bf2, bm2⟩ := bad_ok (ν := ν) (w := 1) (b := 0) v2 (Or.inl rfl)
      have m3 : muX10_soaked_3 p1 p2 ν = upm ν 57 0 0 := by
        unfold muX10_soaked_3
        exact bm2
      have v4 : VX10_soaked_4 p1 p2 ν = 0 := by
        simp [VX10_soaked_4, muX10_soaked_1, F_X10_isHouse, F_X10_isThing, F_X10_areHouses, F_X10_isYear, isIn_eq, upm_other, e61, hM.1, hM.2.1, hM.2.2.2.1, m3, h1, h2]
      obtain ⟨bp4, bf4, bm4⟩ := bad_ok (ν := ν) (w := 2) (b := 1) v4 (Or.inr rfl)
      have m5 : muX10_soaked_5 p1 p2 ν = upm ν 57 0 0 := by
        unfold muX10_soaked_5
        rw [m3]
        exact bm4
      exact ⟨⟨bp2, bf2, m3⟩, ⟨bp4, bf4, m5⟩⟩
theorem gate_snaps {E : EV} {L : LW} {μ : Mem} (hI : Inv E L μ) (p1 : Int32) : (inR p1 0 (nI (eT E) - 1) = true ∧ K_X9_snaps p1 μ = 0 ∧ (muX9_snaps_1 p1 μ = μ) ∧ (∀ ν, KQ μ ν → (P_X10_bad (VX10_snaps_2 p1 ν) 1 0 (upm ν 57 0 0) ∧ F_X10_bad (VX10_snaps_2 p1 ν) 1 0 (upm ν 57 0 0) = 0 ∧ muX10_snaps_3 p1 ν = upm ν 57 0 0))) ∨ ∃ j, jN j ∧ QNo w1 μ (K_X9_snaps p1 μ) (M_X9_snaps p1 μ) (P_X9_snaps p1 μ) (M_X10_snaps p1) (P_X10_snaps p1) j := by
  have hE := hI.2.2.1
  have hM := hI.2.1
  have hO := hI.1
  have d1 := hO.1.1
  have d2 := hO.1.2.1
  have d3 := hO.1.2.2.2
  cases h1 : inR p1 0 (nI (eT E) - 1) with
  | false =>
    have k1 : K_X9_needElement p1 (μ 3 9) μ = 1 := by
      simp [hE.2.1, neK _ (by omega : eT E < 2 ^ 31), h1]
    have s1 : muX9_snaps_1 p1 μ = M_needR 12 μ := by
      simp [muX9_snaps_1, hE.2.1, neM _ (by omega : eT E < 2 ^ 31), h1]
    refine Or.inr ⟨0, by first | rfl | exact Or.inl rfl | exact Or.inr rfl, by simp [K_X9_snaps, k1], by simp [P_X9_snaps, k1], by (unfold M_X9_snaps; first | exact s1 | (rw [if_neg (by rw [k1]; decide)]; exact s1)), fun ν hν => ?_⟩
    have e61 : ν 61 = μ 61 := hν 61 (by decide)
    have v2 : VX10_snaps_2 p1 ν = 1 := by
      simp [VX10_snaps_2, muX10_snaps_1, F_X10_isHouse, F_X10_isThing, F_X10_areHouses, F_X10_isYear, isIn_eq, upm_other, e61, hM.1, hM.2.1, hM.2.2.2.1, h1]
    obtain ⟨bp2, bf2, bm2⟩ := bad_no (ν := ν) (w := 1) (b := 0) v2 (by decide) (Or.inl rfl)
    have m3 : muX10_snaps_3 p1 ν = thr 1 0 ν := by
      unfold muX10_snaps_3
      exact bm2
    have m1 : muX10_snaps_1 p1 ν = upm ν 57 0 0 := rfl
    exact ⟨by simp [P_X10_snaps, m1, m3, bp2, bf2], by simp [M_X10_snaps, m1, m3, bp2, bf2, w1, w2, nI]⟩
  | true =>
    have k1 : K_X9_needElement p1 (μ 3 9) μ = 0 := by
      simp [hE.2.1, neK _ (by omega : eT E < 2 ^ 31), h1]
    have s1 : muX9_snaps_1 p1 μ = μ := by
      simp [muX9_snaps_1, hE.2.1, neM _ (by omega : eT E < 2 ^ 31), h1]
    refine Or.inl ⟨rfl, by simp [K_X9_snaps, k1], s1, fun ν hν => ?_⟩
    have e61 : ν 61 = μ 61 := hν.1 61 (by decide) (by decide) (by decide) (by decide) (by decide) (by decide) (by decide) (by decide) (by decide) (by decide) (by decide)
    have v2 : VX10_snaps_2 p1 ν = 0 := by
      simp [VX10_snaps_2, muX10_snaps_1, F_X10_isHouse, F_X10_isThing, F_X10_areHouses, F_X10_isYear, isIn_eq, upm_other, e61, hM.1, hM.2.1, hM.2.2.2.1, h1]
    obtain ⟨bp2, bf2, bm2⟩ := bad_ok (ν := ν) (w := 1) (b := 0) v2 (Or.inl rfl)
    have m3 : muX10_snaps_3 p1 ν = upm ν 57 0 0 := by
      unfold muX10_snaps_3
      exact bm2
    exact ⟨bp2, bf2, m3⟩
theorem gate_fullest {E : EV} {L : LW} {μ : Mem} (hI : Inv E L μ) (p1 : Int32) : (inR p1 0 1 = true ∧ K_X9_fullest p1 μ = 0 ∧ (muX9_fullest_1 p1 μ = μ) ∧ (∀ ν, KQ μ ν → (P_X10_bad (VX10_fullest_2 p1 ν) 1 1 (upm ν 57 0 0) ∧ F_X10_bad (VX10_fullest_2 p1 ν) 1 1 (upm ν 57 0 0) = 0 ∧ muX10_fullest_3 p1 ν = upm ν 57 0 0))) ∨ ∃ j, jI j ∧ QNo w1 μ (K_X9_fullest p1 μ) (M_X9_fullest p1 μ) (P_X9_fullest p1 μ) (M_X10_fullest p1) (P_X10_fullest p1) j := by
  have hE := hI.2.2.1
  have hM := hI.2.1
  have hO := hI.1
  have d1 := hO.1.1
  have d2 := hO.1.2.1
  have d3 := hO.1.2.2.2
  cases h1 : inR p1 0 1 with
  | false =>
    have k1 : K_X9_needRange p1 0 1 μ = 2 := by
      simp [nrK, h1]
    have s1 : muX9_fullest_1 p1 μ = M_needR 13 μ := by
      simp [muX9_fullest_1, nrM, h1]
    refine Or.inr ⟨1, by first | rfl | exact Or.inl rfl | exact Or.inr rfl, by simp [K_X9_fullest, k1], by simp [P_X9_fullest, k1], by (unfold M_X9_fullest; first | exact s1 | (rw [if_neg (by rw [k1]; decide)]; exact s1)), fun ν hν => ?_⟩
    have e61 : ν 61 = μ 61 := hν 61 (by decide)
    have v2 : VX10_fullest_2 p1 ν = 1 := by
      simp [VX10_fullest_2, muX10_fullest_1, F_X10_isHouse, F_X10_isThing, F_X10_areHouses, F_X10_isYear, isIn_eq, upm_other, e61, hM.1, hM.2.1, hM.2.2.2.1, h1]
    obtain ⟨bp2, bf2, bm2⟩ := bad_no (ν := ν) (w := 1) (b := 1) v2 (by decide) (Or.inr rfl)
    have m3 : muX10_fullest_3 p1 ν = thr 1 1 ν := by
      unfold muX10_fullest_3
      exact bm2
    have m1 : muX10_fullest_1 p1 ν = upm ν 57 0 0 := rfl
    exact ⟨by simp [P_X10_fullest, m1, m3, bp2, bf2], by simp [M_X10_fullest, m1, m3, bp2, bf2, w1, w2, nI]⟩
  | true =>
    have k1 : K_X9_needRange p1 0 1 μ = 0 := by
      simp [nrK, h1]
    have s1 : muX9_fullest_1 p1 μ = μ := by
      simp [muX9_fullest_1, nrM, h1]
    refine Or.inl ⟨rfl, by simp [K_X9_fullest, k1], s1, fun ν hν => ?_⟩
    have e61 : ν 61 = μ 61 := hν.1 61 (by decide) (by decide) (by decide) (by decide) (by decide) (by decide) (by decide) (by decide) (by decide) (by decide) (by decide)
    have v2 : VX10_fullest_2 p1 ν = 0 := by
      simp [VX10_fullest_2, muX10_fullest_1, F_X10_isHouse, F_X10_isThing, F_X10_areHouses, F_X10_isYear, isIn_eq, upm_other, e61, hM.1, hM.2.1, hM.2.2.2.1, h1]
    obtain ⟨bp2, bf2, bm2⟩ := bad_ok (ν := ν) (w := 1) (b := 1) v2 (Or.inr rfl)
    have m3 : muX10_fullest_3 p1 ν = upm ν 57 0 0 := by
      unfold muX10_fullest_3
      exact bm2
    exact ⟨bp2, bf2, m3⟩
theorem gate_pays {E : EV} {L : LW} {μ : Mem} (hI : Inv E L μ) (p1 p2 : Int32) : (inR p1 0 (nI (eH E) - 1) = true ∧ inR p2 0 60 = true ∧ K_X9_pays p1 p2 μ = 0 ∧ (muX9_pays_1 p1 p2 μ = μ ∧ muX9_pays_2 p1 p2 μ = μ) ∧ (∀ ν, KQ μ ν → (P_X10_bad (VX10_pays_2 p1 p2 ν) 1 0 (upm ν 57 0 0) ∧ F_X10_bad (VX10_pays_2 p1 p2 ν) 1 0 (upm ν 57 0 0) = 0 ∧ muX10_pays_3 p1 p2 ν = upm ν 57 0 0) ∧ (P_X10_bad (VX10_pays_4 p1 p2 ν) 2 1 (upm ν 57 0 0) ∧ F_X10_bad (VX10_pays_4 p1 p2 ν) 2 1 (upm ν 57 0 0) = 0 ∧ muX10_pays_5 p1 p2 ν = upm ν 57 0 0))) ∨ ∃ j, jB j ∧ QNo w2 μ (K_X9_pays p1 p2 μ) (M_X9_pays p1 p2 μ) (P_X9_pays p1 p2 μ) (M_X10_pays p1 p2) (P_X10_pays p1 p2) j := by
  have hE := hI.2.2.1
  have hM := hI.2.1
  have hO := hI.1
  have d1 := hO.1.1
  have d2 := hO.1.2.1
  have d3 := hO.1.2.2.2
  cases h1 : inR p1 0 (nI (eH E) - 1) with
  | false =>
    have k1 : K_X9_needHouse p1 μ = 1 := by
      simp [nhK hE hO, h1]
    have s1 : muX9_pays_1 p1 p2 μ = M_needR 12 μ := by
      simp [muX9_pays_1, nhM hE hO, h1]
    refine Or.inr ⟨0, by first | rfl | exact Or.inl rfl | exact Or.inr rfl, by simp [K_X9_pays, k1], by simp [P_X9_pays, k1], by (unfold M_X9_pays; first | exact s1 | (rw [if_neg (by rw [k1]; decide)]; exact s1)), fun ν hν => ?_⟩
    have e61 : ν 61 = μ 61 := hν 61 (by decide)
    have v2 : VX10_pays_2 p1 p2 ν = 1 := by
      simp [VX10_pays_2, muX10_pays_1, F_X10_isHouse, F_X10_isThing, F_X10_areHouses, F_X10_isYear, isIn_eq, upm_other, e61, hM.1, hM.2.1, hM.2.2.2.1, h1]
    obtain ⟨bp2, bf2, bm2⟩ := bad_no (ν := ν) (w := 1) (b := 0) v2 (by decide) (Or.inl rfl)
    have m3 : muX10_pays_3 p1 p2 ν = thr 1 0 ν := by
      unfold muX10_pays_3
      exact bm2
    have m1 : muX10_pays_1 p1 p2 ν = upm ν 57 0 0 := rfl
    exact ⟨by simp [P_X10_pays, m1, m3, bp2, bf2], by simp [M_X10_pays, m1, m3, bp2, bf2, w1, w2, nI]⟩
  | true =>
    cases h2 : inR p2 0 60 with
    | false =>
      have k1 : K_X9_needHouse p1 μ = 0 := by
        simp [nhK hE hO, h1]
      have s1 : muX9_pays_1 p1 p2 μ = μ := by
        simp [muX9_pays_1, nhM hE hO, h1]
      have k2 : K_X9_needRange p2 0 60 (muX9_pays_1 p1 p2 μ) = 2 := by
        simp [s1, nrK, h1, h2]
      have s2 : muX9_pays_2 p1 p2 μ = M_needR 13 μ := by
        simp [muX9_pays_2, s1, nrM, h1, h2]
      refine Or.inr ⟨1, by first | rfl | exact Or.inl rfl | exact Or.inr rfl, by simp [K_X9_pays, k1, k2], by simp [P_X9_pays, k1, k2], by (unfold M_X9_pays; rw [if_pos k1]; first | exact s2 | (rw [if_neg (by rw [k2]; decide)]; exact s2)), fun ν hν => ?_⟩
      have e61 : ν 61 = μ 61 := hν 61 (by decide)
      have v2 : VX10_pays_2 p1 p2 ν = 0 := by
        simp [VX10_pays_2, muX10_pays_1, F_X10_isHouse, F_X10_isThing, F_X10_areHouses, F_X10_isYear, isIn_eq, upm_other, e61, hM.1, hM.2.1, hM.2.2.2.1, h1]
      obtain ⟨bp2, bf2, bm2⟩ := bad_ok (ν := ν) (w := 1) (b := 0) v2 (Or.inl rfl)
      have m3 : muX10_pays_3 p1 p2 ν = upm ν 57 0 0 := by
        unfold muX10_pays_3
        exact bm2
      have v4 : VX10_pays_4 p1 p2 ν = 1 := by
        simp [VX10_pays_4, muX10_pays_1, F_X10_isHouse, F_X10_isThing, F_X10_areHouses, F_X10_isYear, isIn_eq, upm_other, e61, hM.1, hM.2.1, hM.2.2.2.1, m3, h1, h2]
      obtain ⟨bp4, bf4, bm4⟩ := bad_no (ν := ν) (w := 2) (b := 1) v4 (by decide) (Or.inr rfl)
      have m5 : muX10_pays_5 p1 p2 ν = thr 2 1 ν := by
        unfold muX10_pays_5
        rw [m3]
        exact bm4
      have m1 : muX10_pays_1 p1 p2 ν = upm ν 57 0 0 := rfl
      exact ⟨by simp [P_X10_pays, m1, m3, m5, bp2, bf2, bp4, bf4], by simp [M_X10_pays, m1, m3, m5, bp2, bf2, bp4, bf4, w1, w2, nI]⟩
    | true =>
      have k1 : K_X9_needHouse p1 μ = 0 := by
        simp [nhK hE hO, h1]
      have s1 : muX9_pays_1 p1 p2 μ = μ := by
        simp [muX9_pays_1, nhM hE hO, h1]
      have k2 : K_X9_needRange p2 0 60 (muX9_pays_1 p1 p2 μ) = 0 := by
        simp [s1, nrK, h1, h2]
      have s2 : muX9_pays_2 p1 p2 μ = μ := by
        simp [muX9_pays_2, s1, nrM, h1, h2]
      refine Or.inl ⟨rfl, rfl, by simp [K_X9_pays, k1, k2], ⟨s1, s2⟩, fun ν hν => ?_⟩
      have e61 : ν 61 = μ 61 := hν.1 61 (by decide) (by decide) (by decide) (by decide) (by decide) (by decide) (by decide) (by decide) (by decide) (by decide) (by decide)
      have v2 : VX10_pays_2 p1 p2 ν = 0 := by
        simp [VX10_pays_2, muX10_pays_1, F_X10_isHouse, F_X10_isThing, F_X10_areHouses, F_X10_isYear, isIn_eq, upm_other, e61, hM.1, hM.2.1, hM.2.2.2.1, h1]
      obtain ⟨bp2, bf2, bm2⟩ := bad_ok (ν := ν) (w := 1) (b := 0) v2 (Or.inl rfl)
      have m3 : muX10_pays_3 p1 p2 ν = upm ν 57 0 0 := by
        unfold muX10_pays_3
        exact bm2
      have v4 : VX10_pays_4 p1 p2 ν = 0 := by
        simp [VX10_pays_4, muX10_pays_1, F_X10_isHouse, F_X10_isThing, F_X10_areHouses, F_X10_isYear, isIn_eq, upm_other, e61, hM.1, hM.2.1, hM.2.2.2.1, m3, h1, h2]
      obtain ⟨bp4, bf4, bm4⟩ := bad_ok (ν := ν) (w := 2) (b := 1) v4 (Or.inr rfl)
      have m5 : muX10_pays_5 p1 p2 ν = upm ν 57 0 0 := by
        unfold muX10_pays_5
        rw [m3]
        exact bm4
      exact ⟨⟨bp2, bf2, m3⟩, ⟨bp4, bf4, m5⟩⟩
theorem gate_neap {E : EV} {L : LW} {μ : Mem} (hI : Inv E L μ) (p1 : Int32) : (inR p1 0 1 = true ∧ K_X9_neap p1 μ = 0 ∧ (muX9_neap_1 p1 μ = μ) ∧ (∀ ν, KQ μ ν → (P_X10_bad (VX10_neap_2 p1 ν) 1 1 (upm ν 57 0 0) ∧ F_X10_bad (VX10_neap_2 p1 ν) 1 1 (upm ν 57 0 0) = 0 ∧ muX10_neap_3 p1 ν = upm ν 57 0 0))) ∨ ∃ j, jI j ∧ QNo w1 μ (K_X9_neap p1 μ) (M_X9_neap p1 μ) (P_X9_neap p1 μ) (M_X10_neap p1) (P_X10_neap p1) j := by
  have hE := hI.2.2.1
  have hM := hI.2.1
  have hO := hI.1
  have d1 := hO.1.1
  have d2 := hO.1.2.1
  have d3 := hO.1.2.2.2
  cases h1 : inR p1 0 1 with
  | false =>
    have k1 : K_X9_needRange p1 0 1 μ = 2 := by
      simp [nrK, h1]
    have s1 : muX9_neap_1 p1 μ = M_needR 13 μ := by
      simp [muX9_neap_1, nrM, h1]
    refine Or.inr ⟨1, by first | rfl | exact Or.inl rfl | exact Or.inr rfl, by simp [K_X9_neap, k1], by simp [P_X9_neap, k1], by (unfold M_X9_neap; first | exact s1 | (rw [if_neg (by rw [k1]; decide)]; exact s1)), fun ν hν => ?_⟩
    have e61 : ν 61 = μ 61 := hν 61 (by decide)
    have v2 : VX10_neap_2 p1 ν = 1 := by
      simp [VX10_neap_2, muX10_neap_1, F_X10_isHouse, F_X10_isThing, F_X10_areHouses, F_X10_isYear, isIn_eq, upm_other, e61, hM.1, hM.2.1, hM.2.2.2.1, h1]
    obtain ⟨bp2, bf2, bm2⟩ := bad_no (ν := ν) (w := 1) (b := 1) v2 (by decide) (Or.inr rfl)
    have m3 : muX10_neap_3 p1 ν = thr 1 1 ν := by
      unfold muX10_neap_3
      exact bm2
    have m1 : muX10_neap_1 p1 ν = upm ν 57 0 0 := rfl
    exact ⟨by simp [P_X10_neap, m1, m3, bp2, bf2], by simp [M_X10_neap, m1, m3, bp2, bf2, w1, w2, nI]⟩
  | true =>
    have k1 : K_X9_needRange p1 0 1 μ = 0 := by
      simp [nrK, h1]
    have s1 : muX9_neap_1 p1 μ = μ := by
      simp [muX9_neap_1, nrM, h1]
    refine Or.inl ⟨rfl, by simp [K_X9_neap, k1], s1, fun ν hν => ?_⟩
    have e61 : ν 61 = μ 61 := hν.1 61 (by decide) (by decide) (by decide) (by decide) (by decide) (by decide) (by decide) (by decide) (by decide) (by decide) (by decide)
    have v2 : VX10_neap_2 p1 ν = 0 := by
      simp [VX10_neap_2, muX10_neap_1, F_X10_isHouse, F_X10_isThing, F_X10_areHouses, F_X10_isYear, isIn_eq, upm_other, e61, hM.1, hM.2.1, hM.2.2.2.1, h1]
    obtain ⟨bp2, bf2, bm2⟩ := bad_ok (ν := ν) (w := 1) (b := 1) v2 (Or.inr rfl)
    have m3 : muX10_neap_3 p1 ν = upm ν 57 0 0 := by
      unfold muX10_neap_3
      exact bm2
    exact ⟨bp2, bf2, m3⟩
theorem gate_loads {E : EV} {L : LW} {μ : Mem} (hI : Inv E L μ) (p1 p2 : Int32) : (inR p1 0 (nI (eH E) - 1) = true ∧ inR p2 0 1 = true ∧ K_X9_loads p1 p2 μ = 0 ∧ (muX9_loads_1 p1 p2 μ = μ ∧ muX9_loads_2 p1 p2 μ = μ) ∧ (∀ ν, KQ μ ν → (P_X10_bad (VX10_loads_2 p1 p2 ν) 1 0 (upm ν 57 0 0) ∧ F_X10_bad (VX10_loads_2 p1 p2 ν) 1 0 (upm ν 57 0 0) = 0 ∧ muX10_loads_3 p1 p2 ν = upm ν 57 0 0) ∧ (P_X10_bad (VX10_loads_4 p1 p2 ν) 2 1 (upm ν 57 0 0) ∧ F_X10_bad (VX10_loads_4 p1 p2 ν) 2 1 (upm ν 57 0 0) = 0 ∧ muX10_loads_5 p1 p2 ν = upm ν 57 0 0))) ∨ ∃ j, jB j ∧ QNo w2 μ (K_X9_loads p1 p2 μ) (M_X9_loads p1 p2 μ) (P_X9_loads p1 p2 μ) (M_X10_loads p1 p2) (P_X10_loads p1 p2) j := by
  have hE := hI.2.2.1
  have hM := hI.2.1
  have hO := hI.1
  have d1 := hO.1.1
  have d2 := hO.1.2.1
  have d3 := hO.1.2.2.2
  cases h1 : inR p1 0 (nI (eH E) - 1) with
  | false =>
    have k1 : K_X9_needHouse p1 μ = 1 := by
      simp [nhK hE hO, h1]
    have s1 : muX9_loads_1 p1 p2 μ = M_needR 12 μ := by
      simp [muX9_loads_1, nhM hE hO, h1]
    refine Or.inr ⟨0, by first | rfl | exact Or.inl rfl | exact Or.inr rfl, by simp [K_X9_loads, k1], by simp [P_X9_loads, k1], by (unfold M_X9_loads; first | exact s1 | (rw [if_neg (by rw [k1]; decide)]; exact s1)), fun ν hν => ?_⟩
    have e61 : ν 61 = μ 61 := hν 61 (by decide)
    have v2 : VX10_loads_2 p1 p2 ν = 1 := by
      simp [VX10_loads_2, muX10_loads_1, F_X10_isHouse, F_X10_isThing, F_X10_areHouses, F_X10_isYear, isIn_eq, upm_other, e61, hM.1, hM.2.1, hM.2.2.2.1, h1]
    obtain ⟨bp2, bf2, bm2⟩ := bad_no (ν := ν) (w := 1) (b := 0) v2 (by decide) (Or.inl rfl)
    have m3 : muX10_loads_3 p1 p2 ν = thr 1 0 ν := by
      unfold muX10_loads_3
      exact bm2
    have m1 : muX10_loads_1 p1 p2 ν = upm ν 57 0 0 := rfl
    exact ⟨by simp [P_X10_loads, m1, m3, bp2, bf2], by simp [M_X10_loads, m1, m3, bp2, bf2, w1, w2, nI]⟩
  | true =>
    cases h2 : inR p2 0 1 with
    | false =>
      have k1 : K_X9_needHouse p1 μ = 0 := by
        simp [nhK hE hO, h1]
      have s1 : muX9_loads_1 p1 p2 μ = μ := by
        simp [muX9_loads_1, nhM hE hO, h1]
      have k2 : K_X9_needRange p2 0 1 (muX9_loads_1 p1 p2 μ) = 2 := by
        simp [s1, nrK, h1, h2]
      have s2 : muX9_loads_2 p1 p2 μ = M_needR 13 μ := by
        simp [muX9_loads_2, s1, nrM, h1, h2]
      refine Or.inr ⟨1, by first | rfl | exact Or.inl rfl | exact Or.inr rfl, by simp [K_X9_loads, k1, k2], by simp [P_X9_loads, k1, k2], by (unfold M_X9_loads; rw [if_pos k1]; first | exact s2 | (rw [if_neg (by rw [k2]; decide)]; exact s2)), fun ν hν => ?_⟩
      have e61 : ν 61 = μ 61 := hν 61 (by decide)
      have v2 : VX10_loads_2 p1 p2 ν = 0 := by
        simp [VX10_loads_2, muX10_loads_1, F_X10_isHouse, F_X10_isThing, F_X10_areHouses, F_X10_isYear, isIn_eq, upm_other, e61, hM.1, hM.2.1, hM.2.2.2.1, h1]
      obtain ⟨bp2, bf2, bm2⟩ := bad_ok (ν := ν) (w := 1) (b := 0) v2 (Or.inl rfl)
      have m3 : muX10_loads_3 p1 p2 ν = upm ν 57 0 0 := by
        unfold muX10_loads_3
        exact bm2
      have v4 : VX10_loads_4 p1 p2 ν = 1 := by
        simp [VX10_loads_4, muX10_loads_1, F_X10_isHouse, F_X10_isThing, F_X10_areHouses, F_X10_isYear, isIn_eq, upm_other, e61, hM.1, hM.2.1, hM.2.2.2.1, m3, h1, h2]
      obtain ⟨bp4, bf4, bm4⟩ := bad_no (ν := ν) (w := 2) (b := 1) v4 (by decide) (Or.inr rfl)
      have m5 : muX10_loads_5 p1 p2 ν = thr 2 1 ν := by
        unfold muX10_loads_5
        rw [m3]
        exact bm4
      have m1 : muX10_loads_1 p1 p2 ν = upm ν 57 0 0 := rfl
      exact ⟨by simp [P_X10_loads, m1, m3, m5, bp2, bf2, bp4, bf4], by simp [M_X10_loads, m1, m3, m5, bp2, bf2, bp4, bf4, w1, w2, nI]⟩
    | true =>
      have k1 : K_X9_needHouse p1 μ = 0 := by
        simp [nhK hE hO, h1]
      have s1 : muX9_loads_1 p1 p2 μ = μ := by
        simp [muX9_loads_1, nhM hE hO, h1]
      have k2 : K_X9_needRange p2 0 1 (muX9_loads_1 p1 p2 μ) = 0 := by
        simp [s1, nrK, h1, h2]
      have s2 : muX9_loads_2 p1 p2 μ = μ := by
        simp [muX9_loads_2, s1, nrM, h1, h2]
      refine Or.inl ⟨rfl, rfl, by simp [K_X9_loads, k1, k2], ⟨s1, s2⟩, fun ν hν => ?_⟩
      have e61 : ν 61 = μ 61 := hν.1 61 (by decide) (by decide) (by decide) (by decide) (by decide) (by decide) (by decide) (by decide) (by decide) (by decide) (by decide)
      have v2 : VX10_loads_2 p1 p2 ν = 0 := by
        simp [VX10_loads_2, muX10_loads_1, F_X10_isHouse, F_X10_isThing, F_X10_areHouses, F_X10_isYear, isIn_eq, upm_other, e61, hM.1, hM.2.1, hM.2.2.2.1, h1]
      obtain ⟨bp2, bf2, bm2⟩ := bad_ok (ν := ν) (w := 1) (b := 0) v2 (Or.inl rfl)
      have m3 : muX10_loads_3 p1 p2 ν = upm ν 57 0 0 := by
        unfold muX10_loads_3
        exact bm2
      have v4 : VX10_loads_4 p1 p2 ν = 0 := by
        simp [VX10_loads_4, muX10_loads_1, F_X10_isHouse, F_X10_isThing, F_X10_areHouses, F_X10_isYear, isIn_eq, upm_other, e61, hM.1, hM.2.1, hM.2.2.2.1, m3, h1, h2]
      obtain ⟨bp4, bf4, bm4⟩ := bad_ok (ν := ν) (w := 2) (b := 1) v4 (Or.inr rfl)
      have m5 : muX10_loads_5 p1 p2 ν = upm ν 57 0 0 := by
        unfold muX10_loads_5
        rw [m3]
        exact bm4
      exact ⟨⟨bp2, bf2, m3⟩, ⟨bp4, bf4, m5⟩⟩
theorem gate_dearest {E : EV} {L : LW} {μ : Mem} (hI : Inv E L μ) (p1 : Int32) : (inR p1 0 1 = true ∧ K_X9_dearest p1 μ = 0 ∧ (muX9_dearest_1 p1 μ = μ) ∧ (∀ ν, KQ μ ν → (P_X10_bad (VX10_dearest_2 p1 ν) 1 1 (upm ν 57 0 0) ∧ F_X10_bad (VX10_dearest_2 p1 ν) 1 1 (upm ν 57 0 0) = 0 ∧ muX10_dearest_3 p1 ν = upm ν 57 0 0))) ∨ ∃ j, jI j ∧ QNo w1 μ (K_X9_dearest p1 μ) (M_X9_dearest p1 μ) (P_X9_dearest p1 μ) (M_X10_dearest p1) (P_X10_dearest p1) j := by
  have hE := hI.2.2.1
  have hM := hI.2.1
  have hO := hI.1
  have d1 := hO.1.1
  have d2 := hO.1.2.1
  have d3 := hO.1.2.2.2
  cases h1 : inR p1 0 1 with
  | false =>
    have k1 : K_X9_needRange p1 0 1 μ = 2 := by
      simp [nrK, h1]
    have s1 : muX9_dearest_1 p1 μ = M_needR 13 μ := by
      simp [muX9_dearest_1, nrM, h1]
    refine Or.inr ⟨1, by first | rfl | exact Or.inl rfl | exact Or.inr rfl, by simp [K_X9_dearest, k1], by simp [P_X9_dearest, k1], by (unfold M_X9_dearest; first | exact s1 | (rw [if_neg (by rw [k1]; decide)]; exact s1)), fun ν hν => ?_⟩
    have e61 : ν 61 = μ 61 := hν 61 (by decide)
    have v2 : VX10_dearest_2 p1 ν = 1 := by
      simp [VX10_dearest_2, muX10_dearest_1, F_X10_isHouse, F_X10_isThing, F_X10_areHouses, F_X10_isYear, isIn_eq, upm_other, e61, hM.1, hM.2.1, hM.2.2.2.1, h1]
    obtain ⟨bp2, bf2, bm2⟩ := bad_no (ν := ν) (w := 1) (b := 1) v2 (by decide) (Or.inr rfl)
    have m3 : muX10_dearest_3 p1 ν = thr 1 1 ν := by
      unfold muX10_dearest_3
      exact bm2
    have m1 : muX10_dearest_1 p1 ν = upm ν 57 0 0 := rfl
    exact ⟨by simp [P_X10_dearest, m1, m3, bp2, bf2], by simp [M_X10_dearest, m1, m3, bp2, bf2, w1, w2, nI]⟩
  | true =>
    have k1 : K_X9_needRange p1 0 1 μ = 0 := by
      simp [nrK, h1]
    have s1 : muX9_dearest_1 p1 μ = μ := by
      simp [muX9_dearest_1, nrM, h1]
    refine Or.inl ⟨rfl, by simp [K_X9_dearest, k1], s1, fun ν hν => ?_⟩
    have e61 : ν 61 = μ 61 := hν.1 61 (by decide) (by decide) (by decide) (by decide) (by decide) (by decide) (by decide) (by decide) (by decide) (by decide) (by decide)
    have v2 : VX10_dearest_2 p1 ν = 0 := by
      simp [VX10_dearest_2, muX10_dearest_1, F_X10_isHouse, F_X10_isThing, F_X10_areHouses, F_X10_isYear, isIn_eq, upm_other, e61, hM.1, hM.2.1, hM.2.2.2.1, h1]
    obtain ⟨bp2, bf2, bm2⟩ := bad_ok (ν := ν) (w := 1) (b := 1) v2 (Or.inr rfl)
    have m3 : muX10_dearest_3 p1 ν = upm ν 57 0 0 := by
      unfold muX10_dearest_3
      exact bm2
    exact ⟨bp2, bf2, m3⟩
theorem gate_dry {E : EV} {L : LW} {μ : Mem} (hI : Inv E L μ) (p1 p2 : Int32) : (inR p1 0 (mskE E) = true ∧ inR p2 0 60 = true ∧ K_X9_dry p1 p2 μ = 0 ∧ (muX9_dry_1 p1 p2 μ = μ ∧ muX9_dry_2 p1 p2 μ = μ) ∧ (∀ ν, KQ μ ν → (P_X10_bad (VX10_dry_2 p1 p2 ν) 1 1 (upm ν 57 0 0) ∧ F_X10_bad (VX10_dry_2 p1 p2 ν) 1 1 (upm ν 57 0 0) = 0 ∧ muX10_dry_3 p1 p2 ν = upm ν 57 0 0))) ∨ ∃ j, jI j ∧ QNo w1 μ (K_X9_dry p1 p2 μ) (M_X9_dry p1 p2 μ) (P_X9_dry p1 p2 μ) (M_X10_dry p1 p2) (P_X10_dry p1 p2) j := by
  have hE := hI.2.2.1
  have hM := hI.2.1
  have hO := hI.1
  have d1 := hO.1.1
  have d2 := hO.1.2.1
  have d3 := hO.1.2.2.2
  cases h1 : inR p1 0 (mskE E) with
  | false =>
    have k1 : K_X9_needHouses p1 μ = 2 := by
      simp [nsK hE, h1]
    have s1 : muX9_dry_1 p1 p2 μ = M_needR 13 μ := by
      simp [muX9_dry_1, nsM hE, h1]
    refine Or.inr ⟨1, by first | rfl | exact Or.inl rfl | exact Or.inr rfl, by simp [K_X9_dry, k1], by simp [P_X9_dry, k1], by (unfold M_X9_dry; first | exact s1 | (rw [if_neg (by rw [k1]; decide)]; exact s1)), fun ν hν => ?_⟩
    have e61 : ν 61 = μ 61 := hν 61 (by decide)
    have v2 : VX10_dry_2 p1 p2 ν = 1 := by
      simp [VX10_dry_2, muX10_dry_1, F_X10_isHouse, F_X10_isThing, F_X10_areHouses, F_X10_isYear, isIn_eq, upm_other, e61, hM.1, hM.2.1, hM.2.2.2.1, (show inR p1 0 (((1 : Int32) <<< (nI (eH E) &&& 31)) - 1) = _ from h1)]
    obtain ⟨bp2, bf2, bm2⟩ := bad_no (ν := ν) (w := 1) (b := 1) v2 (by decide) (Or.inr rfl)
    have m3 : muX10_dry_3 p1 p2 ν = thr 1 1 ν := by
      unfold muX10_dry_3
      exact bm2
    have m1 : muX10_dry_1 p1 p2 ν = upm ν 57 0 0 := rfl
    exact ⟨by simp [P_X10_dry, m1, m3, bp2, bf2], by simp [M_X10_dry, m1, m3, bp2, bf2, w1, w2, nI]⟩
  | true =>
    cases h2 : inR p2 0 60 with
    | false =>
      have k1 : K_X9_needHouses p1 μ = 0 := by
        simp [nsK hE, h1]
      have s1 : muX9_dry_1 p1 p2 μ = μ := by
        simp [muX9_dry_1, nsM hE, h1]
      have k2 : K_X9_needRange p2 0 60 (muX9_dry_1 p1 p2 μ) = 2 := by
        simp [s1, nrK, h1, h2]
      have s2 : muX9_dry_2 p1 p2 μ = M_needR 13 μ := by
        simp [muX9_dry_2, s1, nrM, h1, h2]
      refine Or.inr ⟨1, by first | rfl | exact Or.inl rfl | exact Or.inr rfl, by simp [K_X9_dry, k1, k2], by simp [P_X9_dry, k1, k2], by (unfold M_X9_dry; rw [if_pos k1]; first | exact s2 | (rw [if_neg (by rw [k2]; decide)]; exact s2)), fun ν hν => ?_⟩
      have e61 : ν 61 = μ 61 := hν 61 (by decide)
      have v2 : VX10_dry_2 p1 p2 ν = 1 := by
        simp [VX10_dry_2, muX10_dry_1, F_X10_isHouse, F_X10_isThing, F_X10_areHouses, F_X10_isYear, isIn_eq, upm_other, e61, hM.1, hM.2.1, hM.2.2.2.1, (show inR p1 0 (((1 : Int32) <<< (nI (eH E) &&& 31)) - 1) = _ from h1), h2]
      obtain ⟨bp2, bf2, bm2⟩ := bad_no (ν := ν) (w := 1) (b := 1) v2 (by decide) (Or.inr rfl)
      have m3 : muX10_dry_3 p1 p2 ν = thr 1 1 ν := by
        unfold muX10_dry_3
        exact bm2
      have m1 : muX10_dry_1 p1 p2 ν = upm ν 57 0 0 := rfl
      exact ⟨by simp [P_X10_dry, m1, m3, bp2, bf2], by simp [M_X10_dry, m1, m3, bp2, bf2, w1, w2, nI]⟩
    | true =>
      have k1 : K_X9_needHouses p1 μ = 0 := by
        simp [nsK hE, h1]
      have s1 : muX9_dry_1 p1 p2 μ = μ := by
        simp [muX9_dry_1, nsM hE, h1]
      have k2 : K_X9_needRange p2 0 60 (muX9_dry_1 p1 p2 μ) = 0 := by
        simp [s1, nrK, h1, h2]
      have s2 : muX9_dry_2 p1 p2 μ = μ := by
        simp [muX9_dry_2, s1, nrM, h1, h2]
      refine Or.inl ⟨rfl, rfl, by simp [K_X9_dry, k1, k2], ⟨s1, s2⟩, fun ν hν => ?_⟩
      have e61 : ν 61 = μ 61 := hν.1 61 (by decide) (by decide) (by decide) (by decide) (by decide) (by decide) (by decide) (by decide) (by decide) (by decide) (by decide)
      have v2 : VX10_dry_2 p1 p2 ν = 0 := by
        simp [VX10_dry_2, muX10_dry_1, F_X10_isHouse, F_X10_isThing, F_X10_areHouses, F_X10_isYear, isIn_eq, upm_other, e61, hM.1, hM.2.1, hM.2.2.2.1, (show inR p1 0 (((1 : Int32) <<< (nI (eH E) &&& 31)) - 1) = _ from h1), h2]
      obtain ⟨bp2, bf2, bm2⟩ := bad_ok (ν := ν) (w := 1) (b := 1) v2 (Or.inr rfl)
      have m3 : muX10_dry_3 p1 p2 ν = upm ν 57 0 0 := by
        unfold muX10_dry_3
        exact bm2
      exact ⟨bp2, bf2, m3⟩
theorem gate_year {E : EV} {L : LW} {μ : Mem} (hI : Inv E L μ) (p1 p2 p3 p4 p5 : Int32) : (inR p2 1 96 = true ∧ inR p3 0 16 = true ∧ inR p4 0 20 = true ∧ inR p5 0 3 = true ∧ K_X9_year p1 p2 p3 p4 p5 μ = 0 ∧ (muX9_year_1 p1 p2 p3 p4 p5 μ = μ ∧ muX9_year_2 p1 p2 p3 p4 p5 μ = μ) ∧ (∀ ν, KQ μ ν → (P_X10_bad (VX10_year_2 p1 p2 p3 p4 p5 ν) 1 1 (upm ν 57 0 0) ∧ F_X10_bad (VX10_year_2 p1 p2 p3 p4 p5 ν) 1 1 (upm ν 57 0 0) = 0 ∧ muX10_year_3 p1 p2 p3 p4 p5 ν = upm ν 57 0 0))) ∨ ∃ j, jI j ∧ QNo w1 μ (K_X9_year p1 p2 p3 p4 p5 μ) (M_X9_year p1 p2 p3 p4 p5 μ) (P_X9_year p1 p2 p3 p4 p5 μ) (M_X10_year p1 p2 p3 p4 p5) (P_X10_year p1 p2 p3 p4 p5) j := by
  have hE := hI.2.2.1
  have hM := hI.2.1
  have hO := hI.1
  have d1 := hO.1.1
  have d2 := hO.1.2.1
  have d3 := hO.1.2.2.2
  cases h1 : inR p2 1 96 with
  | false =>
    have k1 : K_X9_needYear p2 p3 p4 μ = 2 := by
      simp [nyK, h1]
    have s1 : muX9_year_1 p1 p2 p3 p4 p5 μ = M_needR 13 μ := by
      simp [muX9_year_1, nyM, h1]
    refine Or.inr ⟨1, by first | rfl | exact Or.inl rfl | exact Or.inr rfl, by simp [K_X9_year, k1], by simp [P_X9_year, k1], by (unfold M_X9_year; first | exact s1 | (rw [if_neg (by rw [k1]; decide)]; exact s1)), fun ν hν => ?_⟩
    have e61 : ν 61 = μ 61 := hν 61 (by decide)
    have v2 : VX10_year_2 p1 p2 p3 p4 p5 ν = 1 := by
      simp [VX10_year_2, muX10_year_1, F_X10_isHouse, F_X10_isThing, F_X10_areHouses, F_X10_isYear, isIn_eq, upm_other, e61, hM.1, hM.2.1, hM.2.2.2.1, h1]
    obtain ⟨bp2, bf2, bm2⟩ := bad_no (ν := ν) (w := 1) (b := 1) v2 (by decide) (Or.inr rfl)
    have m3 : muX10_year_3 p1 p2 p3 p4 p5 ν = thr 1 1 ν := by
      unfold muX10_year_3
      exact bm2
    have m1 : muX10_year_1 p1 p2 p3 p4 p5 ν = upm ν 57 0 0 := rfl
    exact ⟨by simp [P_X10_year, m1, m3, bp2, bf2], by simp [M_X10_year, m1, m3, bp2, bf2, w1, w2, nI]⟩
  | true =>
    cases h2 : inR p3 0 16 with
    | false =>
      have k1 : K_X9_needYear p2 p3 p4 μ = 2 := by
        simp [nyK, h1, h2]
      have s1 : muX9_year_1 p1 p2 p3 p4 p5 μ = M_needR 13 μ := by
        simp [muX9_year_1, nyM, h1, h2]
      refine Or.inr ⟨1, by first | rfl | exact Or.inl rfl | exact Or.inr rfl, by simp [K_X9_year, k1], by simp [P_X9_year, k1], by (unfold M_X9_year; first | exact s1 | (rw [if_neg (by rw [k1]; decide)]; exact s1)), fun ν hν => ?_⟩
      have e61 : ν 61 = μ 61 := hν 61 (by decide)
      have v2 : VX10_year_2 p1 p2 p3 p4 p5 ν = 1 := by
        simp [VX10_year_2, muX10_year_1, F_X10_isHouse, F_X10_isThing, F_X10_areHouses, F_X10_isYear, isIn_eq, upm_other, e61, hM.1, hM.2.1, hM.2.2.2.1, h1, h2]
      obtain ⟨bp2, bf2, bm2⟩ := bad_no (ν := ν) (w := 1) (b := 1) v2 (by decide) (Or.inr rfl)
      have m3 : muX10_year_3 p1 p2 p3 p4 p5 ν = thr 1 1 ν := by
        unfold muX10_year_3
        exact bm2
      have m1 : muX10_year_1 p1 p2 p3 p4 p5 ν = upm ν 57 0 0 := rfl
      exact ⟨by simp [P_X10_year, m1, m3, bp2, bf2], by simp [M_X10_year, m1, m3, bp2, bf2, w1, w2, nI]⟩
    | true =>
      cases h3 : inR p4 0 20 with
      | false =>
        have k1 : K_X9_needYear p2 p3 p4 μ = 2 := by
          simp [nyK, h1, h2, h3]
        have s1 : muX9_year_1 p1 p2 p3 p4 p5 μ = M_needR 13 μ := by
          simp [muX9_year_1, nyM, h1, h2, h3]
        refine Or.inr ⟨1, by first | rfl | exact Or.inl rfl | exact Or.inr rfl, by simp [K_X9_year, k1], by simp [P_X9_year, k1], by (unfold M_X9_year; first | exact s1 | (rw [if_neg (by rw [k1]; decide)]; exact s1)), fun ν hν => ?_⟩
        have e61 : ν 61 = μ 61 := hν 61 (by decide)
        have v2 : VX10_year_2 p1 p2 p3 p4 p5 ν = 1 := by
          simp [VX10_year_2, muX10_year_1, F_X10_isHouse, F_X10_isThing, F_X10_areHouses, F_X10_isYear, isIn_eq, upm_other, e61, hM.1, hM.2.1, hM.2.2.2.1, h1, h2, h3]
        obtain ⟨bp2, bf2, bm2⟩ := bad_no (ν := ν) (w := 1) (b := 1) v2 (by decide) (Or.inr rfl)
        have m3 : muX10_year_3 p1 p2 p3 p4 p5 ν = thr 1 1 ν := by
          unfold muX10_year_3
          exact bm2
        have m1 : muX10_year_1 p1 p2 p3 p4 p5 ν = upm ν 57 0 0 := rfl
        exact ⟨by simp [P_X10_year, m1, m3, bp2, bf2], by simp [M_X10_year, m1, m3, bp2, bf2, w1, w2, nI]⟩
      | true =>
        cases h4 : inR p5 0 3 with
        | false =>
          have k1 : K_X9_needYear p2 p3 p4 μ = 0 := by
            simp [nyK, h1, h2, h3]
          have s1 : muX9_year_1 p1 p2 p3 p4 p5 μ = μ := by
            simp [muX9_year_1, nyM, h1, h2, h3]
          have k2 : K_X9_needRange p5 0 3 (muX9_year_1 p1 p2 p3 p4 p5 μ) = 2 := by
            simp [s1, nrK, h1, h2, h3, h4]
          have s2 : muX9_year_2 p1 p2 p3 p4 p5 μ = M_needR 13 μ := by
            simp [muX9_year_2, s1, nrM, h1, h2, h3, h4]
          refine Or.inr ⟨1, by first | rfl | exact Or.inl rfl | exact Or.inr rfl, by simp [K_X9_year, k1, k2], by simp [P_X9_year, k1, k2], by (unfold M_X9_year; rw [if_pos k1]; first | exact s2 | (rw [if_neg (by rw [k2]; decide)]; exact s2)), fun ν hν => ?_⟩
          have e61 : ν 61 = μ 61 := hν 61 (by decide)
          have v2 : VX10_year_2 p1 p2 p3 p4 p5 ν = 1 := by
            simp [VX10_year_2, muX10_year_1, F_X10_isHouse, F_X10_isThing, F_X10_areHouses, F_X10_isYear, isIn_eq, upm_other, e61, hM.1, hM.2.1, hM.2.2.2.1, h1, h2, h3, h4]
          obtain ⟨bp2, bf2, bm2⟩ := bad_no (ν := ν) (w := 1) (b := 1) v2 (by decide) (Or.inr rfl)
          have m3 : muX10_year_3 p1 p2 p3 p4 p5 ν = thr 1 1 ν := by
            unfold muX10_year_3
            exact bm2
          have m1 : muX10_year_1 p1 p2 p3 p4 p5 ν = upm ν 57 0 0 := rfl
          exact ⟨by simp [P_X10_year, m1, m3, bp2, bf2], by simp [M_X10_year, m1, m3, bp2, bf2, w1, w2, nI]⟩
        | true =>
          have k1 : K_X9_needYear p2 p3 p4 μ = 0 := by
            simp [nyK, h1, h2, h3]
          have s1 : muX9_year_1 p1 p2 p3 p4 p5 μ = μ := by
            simp [muX9_year_1, nyM, h1, h2, h3]
          have k2 : K_X9_needRange p5 0 3 (muX9_year_1 p1 p2 p3 p4 p5 μ) = 0 := by
            simp [s1, nrK, h1, h2, h3, h4]
          have s2 : muX9_year_2 p1 p2 p3 p4 p5 μ = μ := by
            simp [muX9_year_2, s1, nrM, h1, h2, h3, h4]
          refine Or.inl ⟨rfl, rfl, rfl, rfl, by simp [K_X9_year, k1, k2], ⟨s1, s2⟩, fun ν hν => ?_⟩
          have e61 : ν 61 = μ 61 := hν.1 61 (by decide) (by decide) (by decide) (by decide) (by decide) (by decide) (by decide) (by decide) (by decide) (by decide) (by decide)
          have v2 : VX10_year_2 p1 p2 p3 p4 p5 ν = 0 := by
            simp [VX10_year_2, muX10_year_1, F_X10_isHouse, F_X10_isThing, F_X10_areHouses, F_X10_isYear, isIn_eq, upm_other, e61, hM.1, hM.2.1, hM.2.2.2.1, h1, h2, h3, h4]
          obtain ⟨bp2, bf2, bm2⟩ := bad_ok (ν := ν) (w := 1) (b := 1) v2 (Or.inr rfl)
          have m3 : muX10_year_3 p1 p2 p3 p4 p5 ν = upm ν 57 0 0 := by
            unfold muX10_year_3
            exact bm2
          exact ⟨bp2, bf2, m3⟩
theorem gate_span {E : EV} {L : LW} {μ : Mem} (hI : Inv E L μ) (p1 p2 p3 p4 p5 p6 p7 : Int32) : (inR p2 1 20 = true ∧ inR p3 1 96 = true ∧ inR p4 0 16 = true ∧ inR p5 0 20 = true ∧ inR p6 0 2 = true ∧ inR p7 0 (nI (eT E) - 1) = true ∧ K_X9_span p1 p2 p3 p4 p5 p6 p7 μ = 0 ∧ (muX9_span_1 p1 p2 p3 p4 p5 p6 p7 μ = μ ∧ muX9_span_2 p1 p2 p3 p4 p5 p6 p7 μ = μ ∧ muX9_span_3 p1 p2 p3 p4 p5 p6 p7 μ = μ ∧ muX9_span_4 p1 p2 p3 p4 p5 p6 p7 μ = μ) ∧ (∀ ν, KQ μ ν → (P_X10_bad (VX10_span_2 p1 p2 p3 p4 p5 p6 p7 ν) 1 1 (upm ν 57 0 0) ∧ F_X10_bad (VX10_span_2 p1 p2 p3 p4 p5 p6 p7 ν) 1 1 (upm ν 57 0 0) = 0 ∧ muX10_span_3 p1 p2 p3 p4 p5 p6 p7 ν = upm ν 57 0 0))) ∨ ∃ j, jI j ∧ QNo w1 μ (K_X9_span p1 p2 p3 p4 p5 p6 p7 μ) (M_X9_span p1 p2 p3 p4 p5 p6 p7 μ) (P_X9_span p1 p2 p3 p4 p5 p6 p7 μ) (M_X10_span p1 p2 p3 p4 p5 p6 p7) (P_X10_span p1 p2 p3 p4 p5 p6 p7) j := by
  have hE := hI.2.2.1
  have hM := hI.2.1
  have hO := hI.1
  have d1 := hO.1.1
  have d2 := hO.1.2.1
  have d3 := hO.1.2.2.2
  cases h1 : inR p2 1 20 with
  | false =>
    have k1 : K_X9_needRange p2 1 20 μ = 2 := by
      simp [nrK, h1]
    have s1 : muX9_span_1 p1 p2 p3 p4 p5 p6 p7 μ = M_needR 13 μ := by
      simp [muX9_span_1, nrM, h1]
    refine Or.inr ⟨1, by first | rfl | exact Or.inl rfl | exact Or.inr rfl, by simp [K_X9_span, k1], by simp [P_X9_span, k1], by (unfold M_X9_span; first | exact s1 | (rw [if_neg (by rw [k1]; decide)]; exact s1)), fun ν hν => ?_⟩
    have e61 : ν 61 = μ 61 := hν 61 (by decide)
    have v2 : VX10_span_2 p1 p2 p3 p4 p5 p6 p7 ν = 1 := by
      simp [VX10_span_2, muX10_span_1, F_X10_isHouse, F_X10_isThing, F_X10_areHouses, F_X10_isYear, isIn_eq, upm_other, e61, hM.1, hM.2.1, hM.2.2.2.1, h1]
    obtain ⟨bp2, bf2, bm2⟩ := bad_no (ν := ν) (w := 1) (b := 1) v2 (by decide) (Or.inr rfl)
    have m3 : muX10_span_3 p1 p2 p3 p4 p5 p6 p7 ν = thr 1 1 ν := by
      unfold muX10_span_3
      exact bm2
    have m1 : muX10_span_1 p1 p2 p3 p4 p5 p6 p7 ν = upm ν 57 0 0 := rfl
    exact ⟨by simp [P_X10_span, m1, m3, bp2, bf2], by simp [M_X10_span, m1, m3, bp2, bf2, w1, w2, nI]⟩
  | true =>
    cases h2 : inR p3 1 96 with
    | false =>
      have k1 : K_X9_needRange p2 1 20 μ = 0 := by
        simp [nrK, h1]
      have s1 : muX9_span_1 p1 p2 p3 p4 p5 p6 p7 μ = μ := by
        simp [muX9_span_1, nrM, h1]
      have k2 : K_X9_needYear p3 p4 p5 (muX9_span_1 p1 p2 p3 p4 p5 p6 p7 μ) = 2 := by
        simp [s1, nyK, h1, h2]
      have s2 : muX9_span_2 p1 p2 p3 p4 p5 p6 p7 μ = M_needR 13 μ := by
        simp [muX9_span_2, s1, nyM, h1, h2]
      refine Or.inr ⟨1, by first | rfl | exact Or.inl rfl | exact Or.inr rfl, by simp [K_X9_span, k1, k2], by simp [P_X9_span, k1, k2], by (unfold M_X9_span; rw [if_pos k1]; first | exact s2 | (rw [if_neg (by rw [k2]; decide)]; exact s2)), fun ν hν => ?_⟩
      have e61 : ν 61 = μ 61 := hν 61 (by decide)
      have v2 : VX10_span_2 p1 p2 p3 p4 p5 p6 p7 ν = 1 := by
        simp [VX10_span_2, muX10_span_1, F_X10_isHouse, F_X10_isThing, F_X10_areHouses, F_X10_isYear, isIn_eq, upm_other, e61, hM.1, hM.2.1, hM.2.2.2.1, h1, h2]
      obtain ⟨bp2, bf2, bm2⟩ := bad_no (ν := ν) (w := 1) (b := 1) v2 (by decide) (Or.inr rfl)
      have m3 : muX10_span_3 p1 p2 p3 p4 p5 p6 p7 ν = thr 1 1 ν := by
        unfold muX10_span_3
        exact bm2
      have m1 : muX10_span_1 p1 p2 p3 p4 p5 p6 p7 ν = upm ν 57 0 0 := rfl
      exact ⟨by simp [P_X10_span, m1, m3, bp2, bf2], by simp [M_X10_span, m1, m3, bp2, bf2, w1, w2, nI]⟩
    | true =>
      cases h3 : inR p4 0 16 with
      | false =>
        have k1 : K_X9_needRange p2 1 20 μ = 0 := by
          simp [nrK, h1]
        have s1 : muX9_span_1 p1 p2 p3 p4 p5 p6 p7 μ = μ := by
          simp [muX9_span_1, nrM, h1]
        have k2 : K_X9_needYear p3 p4 p5 (muX9_span_1 p1 p2 p3 p4 p5 p6 p7 μ) = 2 := by
          simp [s1, nyK, h1, h2, h3]
        have s2 : muX9_span_2 p1 p2 p3 p4 p5 p6 p7 μ = M_needR 13 μ := by
          simp [muX9_span_2, s1, nyM, h1, h2, h3]
        refine Or.inr ⟨1, by first | rfl | exact Or.inl rfl | exact Or.inr rfl, by simp [K_X9_span, k1, k2], by simp [P_X9_span, k1, k2], by (unfold M_X9_span; rw [if_pos k1]; first | exact s2 | (rw [if_neg (by rw [k2]; decide)]; exact s2)), fun ν hν => ?_⟩
        have e61 : ν 61 = μ 61 := hν 61 (by decide)
        have v2 : VX10_span_2 p1 p2 p3 p4 p5 p6 p7 ν = 1 := by
          simp [VX10_span_2, muX10_span_1, F_X10_isHouse, F_X10_isThing, F_X10_areHouses, F_X10_isYear, isIn_eq, upm_other, e61, hM.1, hM.2.1, hM.2.2.2.1, h1, h2, h3]
        obtain ⟨bp2, bf2, bm2⟩ := bad_no (ν := ν) (w := 1) (b := 1) v2 (by decide) (Or.inr rfl)
        have m3 : muX10_span_3 p1 p2 p3 p4 p5 p6 p7 ν = thr 1 1 ν := by
          unfold muX10_span_3
          exact bm2
        have m1 : muX10_span_1 p1 p2 p3 p4 p5 p6 p7 ν = upm ν 57 0 0 := rfl
        exact ⟨by simp [P_X10_span, m1, m3, bp2, bf2], by simp [M_X10_span, m1, m3, bp2, bf2, w1, w2, nI]⟩
      | true =>
        cases h4 : inR p5 0 20 with
        | false =>
          have k1 : K_X9_needRange p2 1 20 μ = 0 := by
            simp [nrK, h1]
          have s1 : muX9_span_1 p1 p2 p3 p4 p5 p6 p7 μ = μ := by
            simp [muX9_span_1, nrM, h1]
          have k2 : K_X9_needYear p3 p4 p5 (muX9_span_1 p1 p2 p3 p4 p5 p6 p7 μ) = 2 := by
            simp [s1, nyK, h1, h2, h3, h4]
          have s2 : muX9_span_2 p1 p2 p3 p4 p5 p6 p7 μ = M_needR 13 μ := by
            simp [muX9_span_2, s1, nyM, h1, h2, h3, h4]
          refine Or.inr ⟨1, by first | rfl | exact Or.inl rfl | exact Or.inr rfl, by simp [K_X9_span, k1, k2], by simp [P_X9_span, k1, k2], by (unfold M_X9_span; rw [if_pos k1]; first | exact s2 | (rw [if_neg (by rw [k2]; decide)]; exact s2)), fun ν hν => ?_⟩
          have e61 : ν 61 = μ 61 := hν 61 (by decide)
          have v2 : VX10_span_2 p1 p2 p3 p4 p5 p6 p7 ν = 1 := by
            simp [VX10_span_2, muX10_span_1, F_X10_isHouse, F_X10_isThing, F_X10_areHouses, F_X10_isYear, isIn_eq, upm_other, e61, hM.1, hM.2.1, hM.2.2.2.1, h1, h2, h3, h4]
          obtain ⟨bp2, bf2, bm2⟩ := bad_no (ν := ν) (w := 1) (b := 1) v2 (by decide) (Or.inr rfl)
          have m3 : muX10_span_3 p1 p2 p3 p4 p5 p6 p7 ν = thr 1 1 ν := by
            unfold muX10_span_3
            exact bm2
          have m1 : muX10_span_1 p1 p2 p3 p4 p5 p6 p7 ν = upm ν 57 0 0 := rfl
          exact ⟨by simp [P_X10_span, m1, m3, bp2, bf2], by simp [M_X10_span, m1, m3, bp2, bf2, w1, w2, nI]⟩
        | true =>
          cases h5 : inR p6 0 2 with
          | false =>
            have k1 : K_X9_needRange p2 1 20 μ = 0 := by
              simp [nrK, h1]
            have s1 : muX9_span_1 p1 p2 p3 p4 p5 p6 p7 μ = μ := by
              simp [muX9_span_1, nrM, h1]
            have k2 : K_X9_needYear p3 p4 p5 (muX9_span_1 p1 p2 p3 p4 p5 p6 p7 μ) = 0 := by
              simp [s1, nyK, h1, h2, h3, h4]
            have s2 : muX9_span_2 p1 p2 p3 p4 p5 p6 p7 μ = μ := by
              simp [muX9_span_2, s1, nyM, h1, h2, h3, h4]
            have k3 : K_X9_needRange p6 0 2 (muX9_span_2 p1 p2 p3 p4 p5 p6 p7 μ) = 2 := by
              simp [s1, s2, nrK, h1, h2, h3, h4, h5]
            have s3 : muX9_span_3 p1 p2 p3 p4 p5 p6 p7 μ = M_needR 13 μ := by
              simp [muX9_span_3, s1, s2, nrM, h1, h2, h3, h4, h5]
            refine Or.inr ⟨1, by first | rfl | exact Or.inl rfl | exact Or.inr rfl, by simp [K_X9_span, k1, k2, k3], by simp [P_X9_span, k1, k2, k3], by (unfold M_X9_span; rw [if_pos k1]; rw [if_pos k2]; first | exact s3 | (rw [if_neg (by rw [k3]; decide)]; exact s3)), fun ν hν => ?_⟩
            have e61 : ν 61 = μ 61 := hν 61 (by decide)
            have v2 : VX10_span_2 p1 p2 p3 p4 p5 p6 p7 ν = 1 := by
              simp [VX10_span_2, muX10_span_1, F_X10_isHouse, F_X10_isThing, F_X10_areHouses, F_X10_isYear, isIn_eq, upm_other, e61, hM.1, hM.2.1, hM.2.2.2.1, h1, h2, h3, h4, h5]
            obtain ⟨bp2, bf2, bm2⟩ := bad_no (ν := ν) (w := 1) (b := 1) v2 (by decide) (Or.inr rfl)
            have m3 : muX10_span_3 p1 p2 p3 p4 p5 p6 p7 ν = thr 1 1 ν := by
              unfold muX10_span_3
              exact bm2
            have m1 : muX10_span_1 p1 p2 p3 p4 p5 p6 p7 ν = upm ν 57 0 0 := rfl
            exact ⟨by simp [P_X10_span, m1, m3, bp2, bf2], by simp [M_X10_span, m1, m3, bp2, bf2, w1, w2, nI]⟩
          | true =>
            cases h6 : inR p7 0 (nI (eT E) - 1) with
            | false =>
              have k1 : K_X9_needRange p2 1 20 μ = 0 := by
                simp [nrK, h1]
              have s1 : muX9_span_1 p1 p2 p3 p4 p5 p6 p7 μ = μ := by
                simp [muX9_span_1, nrM, h1]
              have k2 : K_X9_needYear p3 p4 p5 (muX9_span_1 p1 p2 p3 p4 p5 p6 p7 μ) = 0 := by
                simp [s1, nyK, h1, h2, h3, h4]
              have s2 : muX9_span_2 p1 p2 p3 p4 p5 p6 p7 μ = μ := by
                simp [muX9_span_2, s1, nyM, h1, h2, h3, h4]
              have k3 : K_X9_needRange p6 0 2 (muX9_span_2 p1 p2 p3 p4 p5 p6 p7 μ) = 0 := by
                simp [s1, s2, nrK, h1, h2, h3, h4, h5]
              have s3 : muX9_span_3 p1 p2 p3 p4 p5 p6 p7 μ = μ := by
                simp [muX9_span_3, s1, s2, nrM, h1, h2, h3, h4, h5]
              have k4 : K_X9_needRange p7 0 (((muX9_span_3 p1 p2 p3 p4 p5 p6 p7 μ) 3 9) - 1) (muX9_span_3 p1 p2 p3 p4 p5 p6 p7 μ) = 2 := by
                simp [s1, s2, s3, nrK, hE.2.1, h1, h2, h3, h4, h5, h6]
              have s4 : muX9_span_4 p1 p2 p3 p4 p5 p6 p7 μ = M_needR 13 μ := by
                simp [muX9_span_4, s1, s2, s3, nrM, hE.2.1, h1, h2, h3, h4, h5, h6]
              refine Or.inr ⟨1, by first | rfl | exact Or.inl rfl | exact Or.inr rfl, by simp [K_X9_span, k1, k2, k3, k4], by simp [P_X9_span, k1, k2, k3, k4], by (unfold M_X9_span; rw [if_pos k1]; rw [if_pos k2]; rw [if_pos k3]; first | exact s4 | (rw [if_neg (by rw [k4]; decide)]; exact s4)), fun ν hν => ?_⟩
              have e61 : ν 61 = μ 61 := hν 61 (by decide)
              have v2 : VX10_span_2 p1 p2 p3 p4 p5 p6 p7 ν = 1 := by
                simp [VX10_span_2, muX10_span_1, F_X10_isHouse, F_X10_isThing, F_X10_areHouses, F_X10_isYear, isIn_eq, upm_other, e61, hM.1, hM.2.1, hM.2.2.2.1, h1, h2, h3, h4, h5, h6]
              obtain ⟨bp2, bf2, bm2⟩ := bad_no (ν := ν) (w := 1) (b := 1) v2 (by decide) (Or.inr rfl)
              have m3 : muX10_span_3 p1 p2 p3 p4 p5 p6 p7 ν = thr 1 1 ν := by
                unfold muX10_span_3
                exact bm2
              have m1 : muX10_span_1 p1 p2 p3 p4 p5 p6 p7 ν = upm ν 57 0 0 := rfl
              exact ⟨by simp [P_X10_span, m1, m3, bp2, bf2], by simp [M_X10_span, m1, m3, bp2, bf2, w1, w2, nI]⟩
            | true =>
              have k1 : K_X9_needRange p2 1 20 μ = 0 := by
                simp [nrK, h1]
              have s1 : muX9_span_1 p1 p2 p3 p4 p5 p6 p7 μ = μ := by
                simp [muX9_span_1, nrM, h1]
              have k2 : K_X9_needYear p3 p4 p5 (muX9_span_1 p1 p2 p3 p4 p5 p6 p7 μ) = 0 := by
                simp [s1, nyK, h1, h2, h3, h4]
              have s2 : muX9_span_2 p1 p2 p3 p4 p5 p6 p7 μ = μ := by
                simp [muX9_span_2, s1, nyM, h1, h2, h3, h4]
              have k3 : K_X9_needRange p6 0 2 (muX9_span_2 p1 p2 p3 p4 p5 p6 p7 μ) = 0 := by
                simp [s1, s2, nrK, h1, h2, h3, h4, h5]
              have s3 : muX9_span_3 p1 p2 p3 p4 p5 p6 p7 μ = μ := by
                simp [muX9_span_3, s1, s2, nrM, h1, h2, h3, h4, h5]
              have k4 : K_X9_needRange p7 0 (((muX9_span_3 p1 p2 p3 p4 p5 p6 p7 μ) 3 9) - 1) (muX9_span_3 p1 p2 p3 p4 p5 p6 p7 μ) = 0 := by
                simp [s1, s2, s3, nrK, hE.2.1, h1, h2, h3, h4, h5, h6]
              have s4 : muX9_span_4 p1 p2 p3 p4 p5 p6 p7 μ = μ := by
                simp [muX9_span_4, s1, s2, s3, nrM, hE.2.1, h1, h2, h3, h4, h5, h6]
              refine Or.inl ⟨rfl, rfl, rfl, rfl, rfl, rfl, by simp [K_X9_span, k1, k2, k3, k4], ⟨s1, s2, s3, s4⟩, fun ν hν => ?_⟩
              have e61 : ν 61 = μ 61 := hν.1 61 (by decide) (by decide) (by decide) (by decide) (by decide) (by decide) (by decide) (by decide) (by decide) (by decide) (by decide)
              have v2 : VX10_span_2 p1 p2 p3 p4 p5 p6 p7 ν = 0 := by
                simp [VX10_span_2, muX10_span_1, F_X10_isHouse, F_X10_isThing, F_X10_areHouses, F_X10_isYear, isIn_eq, upm_other, e61, hM.1, hM.2.1, hM.2.2.2.1, h1, h2, h3, h4, h5, h6]
              obtain ⟨bp2, bf2, bm2⟩ := bad_ok (ν := ν) (w := 1) (b := 1) v2 (Or.inr rfl)
              have m3 : muX10_span_3 p1 p2 p3 p4 p5 p6 p7 ν = upm ν 57 0 0 := by
                unfold muX10_span_3
                exact bm2
              exact ⟨bp2, bf2, m3⟩
