/-! a street opens: the reference's side -/
theorem sp_laysT {μ : Mem} {n : Nat} (hn : n ≤ 10) : P_X10_lays_T (nI n) μ ∧ (∀ i, i < n → ∀ j, j < 4 → M_X10_lays_T (nI n) μ (78 + i) j = μ (67 + i) j) ∧ ∀ r, (r < 78 ∨ 87 < r) → M_X10_lays_T (nI n) μ r = μ r := by
  have ixn : ix (nI n) = n := nI_ix (by omega)
  have inn : ∀ i, i < 10 → ∀ (s : Mem) j, j ≤ 4 → (∀ k, k < j → fo j (g_X10_lays_T_10 (nI n) (nI i)) s (78 + i) k = s (67 + i) k) ∧ ∀ r, r ≠ 78 + i → fo j (g_X10_lays_T_10 (nI n) (nI i)) s r = s r := by
    intro i hi s j
    induction j with
    | zero => exact fun _ => ⟨fun k hk => absurd hk (by omega), fun _ _ => rfl⟩
    | succ j ih =>
      intro hj
      obtain ⟨i1, i2⟩ := ih (by omega)
      have e : fo (j + 1) (g_X10_lays_T_10 (nI n) (nI i)) s = upm (fo j (g_X10_lays_T_10 (nI n) (nI i)) s) (78 + i) j (fo j (g_X10_lays_T_10 (nI n) (nI i)) s (67 + i) j) := by
        show muX10_lays_T_10_1 (nI n) (nI i) j (fo j (g_X10_lays_T_10 (nI n) (nI i)) s) = _
        unfold muX10_lays_T_10_1
        rw [nI_ix (by omega), nI_ix (by omega)]
      rw [e]
      refine ⟨fun k hk => ?_, fun r hr => by rw [upm_other hr, i2 r hr]⟩
      rw [upm_rr]
      by_cases y : k = j
      · rw [if_pos y, i2 (67 + i) (by omega), y]
      · rw [if_neg y, i1 k (by omega)]
  have st : ∀ i, i ≤ n → (∀ k, k < i → ∀ j, j < 4 → fo i (g_X10_lays_T_2 (nI n)) μ (78 + k) j = μ (67 + k) j) ∧ ∀ r, (r < 78 ∨ 87 < r) → fo i (g_X10_lays_T_2 (nI n)) μ r = μ r := by
    intro i
    induction i with
    | zero => exact fun _ => ⟨fun k hk => absurd hk (by omega), fun _ _ => rfl⟩
    | succ i ih =>
      intro hi
      obtain ⟨i1, i2⟩ := ih (by omega)
      have e : fo (i + 1) (g_X10_lays_T_2 (nI n)) μ = fo 4 (g_X10_lays_T_10 (nI n) (nI i)) (fo i (g_X10_lays_T_2 (nI n)) μ) := rfl
      obtain ⟨a1, a2⟩ := inn i (by omega) (fo i (g_X10_lays_T_2 (nI n)) μ) 4 (Nat.le_refl _)
      rw [e]
      refine ⟨fun k hk j hj => ?_, fun r hr => by rw [a2 r (by omega), i2 r hr]⟩
      by_cases y : k = i
      · rw [y, a1 j hj, i2 (67 + i) (by omega)]
      · rw [a2 (78 + k) (by omega), i1 k (by omega) j hj]
  have eN : NX10_lays_T_2 (nI n) μ = n := ixn
  have eM : M_X10_lays_T (nI n) μ = fo n (g_X10_lays_T_2 (nI n)) μ := by
    unfold M_X10_lays_T SX10_lays_T_2
    rw [eN]
  obtain ⟨s1, s2⟩ := st n (Nat.le_refl _)
  rw [eM]
  refine ⟨⟨fun j hj => ?_, fun _ => trivial, fun z => absurd z (by rw [eN]; exact Int32.not_lt.mpr (Int32.le_refl _))⟩, s1, s2⟩
  rw [eN] at hj
  have v : vp_in (nI j) 10 := vp_in_nI (by omega) (by decide)
  refine ⟨fun z => absurd z (nI_ge hj (by omega)), fun _ => ⟨fun k hk => ?_, v, fun _ => trivial, fun z => absurd z (show ¬ (nI 4 : Int32) < 4 by decide)⟩⟩
  have hk' : k < 4 := hk
  have v2 : vp_in (nI k) 4 := vp_in_nI hk' (by decide)
  exact ⟨v, fun z => absurd z (nI_ge (b := 4) hk' (by decide)), fun _ => ⟨v, v, v2, v2⟩⟩
theorem sp_laysF {μ : Mem} {n : Nat} (hn : n ≤ 6) : P_X10_lays_F (nI n) μ ∧ (∀ i, i < n → ∀ j, j < 2 → M_X10_lays_F (nI n) μ (96 + i) j = μ (89 + i) j) ∧ ∀ r, (r < 96 ∨ 101 < r) → M_X10_lays_F (nI n) μ r = μ r := by
  have ixn : ix (nI n) = n := nI_ix (by omega)
  have inn : ∀ i, i < 6 → ∀ (s : Mem) j, j ≤ 2 → (∀ k, k < j → fo j (g_X10_lays_F_10 (nI n) (nI i)) s (96 + i) k = s (89 + i) k) ∧ ∀ r, r ≠ 96 + i → fo j (g_X10_lays_F_10 (nI n) (nI i)) s r = s r := by
    intro i hi s j
    induction j with
    | zero => exact fun _ => ⟨fun k hk => absurd hk (by omega), fun _ _ => rfl⟩
    | succ j ih =>
      intro hj
      obtain ⟨i1, i2⟩ := ih (by omega)
      have e : fo (j + 1) (g_X10_lays_F_10 (nI n) (nI i)) s = upm (fo j (g_X10_lays_F_10 (nI n) (nI i)) s) (96 + i) j (fo j (g_X10_lays_F_10 (nI n) (nI i)) s (89 + i) j) := by
        show muX10_lays_F_10_1 (nI n) (nI i) j (fo j (g_X10_lays_F_10 (nI n) (nI i)) s) = _
        unfold muX10_lays_F_10_1
        rw [nI_ix (by omega), nI_ix (by omega)]
      rw [e]
      refine ⟨fun k hk => ?_, fun r hr => by rw [upm_other hr, i2 r hr]⟩
      rw [upm_rr]
      by_cases y : k = j
      · rw [if_pos y, i2 (89 + i) (by omega), y]
      · rw [if_neg y, i1 k (by omega)]
  have st : ∀ i, i ≤ n → (∀ k, k < i → ∀ j, j < 2 → fo i (g_X10_lays_F_2 (nI n)) μ (96 + k) j = μ (89 + k) j) ∧ ∀ r, (r < 96 ∨ 101 < r) → fo i (g_X10_lays_F_2 (nI n)) μ r = μ r := by
    intro i
    induction i with
    | zero => exact fun _ => ⟨fun k hk => absurd hk (by omega), fun _ _ => rfl⟩
    | succ i ih =>
      intro hi
      obtain ⟨i1, i2⟩ := ih (by omega)
      have e : fo (i + 1) (g_X10_lays_F_2 (nI n)) μ = fo 2 (g_X10_lays_F_10 (nI n) (nI i)) (fo i (g_X10_lays_F_2 (nI n)) μ) := rfl
      obtain ⟨a1, a2⟩ := inn i (by omega) (fo i (g_X10_lays_F_2 (nI n)) μ) 2 (Nat.le_refl _)
      rw [e]
      refine ⟨fun k hk j hj => ?_, fun r hr => by rw [a2 r (by omega), i2 r hr]⟩
      by_cases y : k = i
      · rw [y, a1 j hj, i2 (89 + i) (by omega)]
      · rw [a2 (96 + k) (by omega), i1 k (by omega) j hj]
  have eN : NX10_lays_F_2 (nI n) μ = n := ixn
  have eM : M_X10_lays_F (nI n) μ = fo n (g_X10_lays_F_2 (nI n)) μ := by
    unfold M_X10_lays_F SX10_lays_F_2
    rw [eN]
  obtain ⟨s1, s2⟩ := st n (Nat.le_refl _)
  rw [eM]
  refine ⟨⟨fun j hj => ?_, fun _ => trivial, fun z => absurd z (by rw [eN]; exact Int32.not_lt.mpr (Int32.le_refl _))⟩, s1, s2⟩
  rw [eN] at hj
  have v : vp_in (nI j) 6 := vp_in_nI (by omega) (by decide)
  refine ⟨fun z => absurd z (nI_ge hj (by omega)), fun _ => ⟨fun k hk => ?_, v, fun _ => trivial, fun z => absurd z (show ¬ (nI 2 : Int32) < 2 by decide)⟩⟩
  have hk' : k < 2 := hk
  have v2 : vp_in (nI k) 2 := vp_in_nI hk' (by decide)
  exact ⟨v, fun z => absurd z (nI_ge (b := 2) hk' (by decide)), fun _ => ⟨v, v, v2, v2⟩⟩
theorem sp_anew {E : EV} {μc μ : Mem} (hR : RdR E μc μ) (hO : EvOK E) : P_X10_beginsAnew μ ∧ EvM E (M_X10_beginsAnew μ) ∧ (∀ k, k < 63 → M_X10_beginsAnew μ 521 k = opM E k) ∧ (M_X10_beginsAnew μ 57 44 = eR E ∧ M_X10_beginsAnew μ 57 21 = 0 ∧ M_X10_beginsAnew μ 57 38 = 0 ∧ M_X10_beginsAnew μ 57 39 = 0 ∧ M_X10_beginsAnew μ 57 40 = 0 ∧ M_X10_beginsAnew μ 57 41 = 0) ∧ (∀ k, k ≠ 44 → k ≠ 21 → k ≠ 38 → k ≠ 39 → k ≠ 40 → k ≠ 41 → M_X10_beginsAnew μ 57 k = μ 57 k) ∧ ∀ r, r ≠ 57 → r ≠ 61 → r ≠ 63 → r ≠ 65 → (r < 78 ∨ 87 < r) → (r < 96 ∨ 101 < r) → r ≠ 521 → M_X10_beginsAnew μ r = μ r := by
  obtain ⟨-, ⟨m0, m1, m2, m3, m4, m5⟩, r3, r4, r5, r6⟩ := hR
  have hH := hO.1.1
  have hT := hO.1.2.1
  have hD := hO.1.2.2.1
  have hF := hO.1.2.2.2
  -- what is told
  have s1 : ∀ n, n ≤ 6 → (∀ k, k < n → fo n g_X10_beginsAnew_2 μ 61 k = μ 60 k) ∧ ∀ r, r ≠ 61 → fo n g_X10_beginsAnew_2 μ r = μ r := by
    intro n
    induction n with
    | zero => exact fun _ => ⟨fun k hk => absurd hk (Nat.not_lt_zero _), fun r _ => by rw [fo_z]⟩
    | succ n ih =>
      intro hn
      obtain ⟨i1, i2⟩ := ih (by omega)
      have e : fo (n + 1) g_X10_beginsAnew_2 μ = upm (fo n g_X10_beginsAnew_2 μ) 61 n (fo n g_X10_beginsAnew_2 μ 60 n) := by
        rw [fo_succ]
        show upm (fo n g_X10_beginsAnew_2 μ) 61 (ix (nI n)) (fo n g_X10_beginsAnew_2 μ 60 (ix (nI n))) = _
        rw [nI_ix (by omega)]
      rw [e]
      refine ⟨fun k hk => ?_, fun r hr => by rw [upm_other hr, i2 r hr]⟩
      rw [upm_rr]
      by_cases y : k = n
      · rw [if_pos y, i2 60 (by decide), y]
      · rw [if_neg y, i1 k (by omega)]
  obtain ⟨a1, a2⟩ := s1 6 (Nat.le_refl _)
  have eA : SX10_beginsAnew_2 μ = fo 6 g_X10_beginsAnew_2 μ := rfl
  rw [← eA] at a1 a2
  have t0 : SX10_beginsAnew_2 μ 61 0 = nI (eH E) := by rw [a1 0 (by decide), m0]
  have t1 : SX10_beginsAnew_2 μ 61 1 = nI (eT E) := by rw [a1 1 (by decide), m1]
  have t2 : SX10_beginsAnew_2 μ 61 2 = nI (eD E) := by rw [a1 2 (by decide), m2]
  have t3 : SX10_beginsAnew_2 μ 61 3 = nI (eF E) := by rw [a1 3 (by decide), m3]
  -- the sills
  have s2 : ∀ n, n ≤ eH E → (∀ k, k < n → fo n g_X10_beginsAnew_28 (SX10_beginsAnew_2 μ) 63 k = eS E k) ∧ ∀ r, r ≠ 63 → fo n g_X10_beginsAnew_28 (SX10_beginsAnew_2 μ) r = SX10_beginsAnew_2 μ r := by
    intro n
    induction n with
    | zero => exact fun _ => ⟨fun k hk => absurd hk (Nat.not_lt_zero _), fun r _ => by rw [fo_z]⟩
    | succ n ih =>
      intro hn
      obtain ⟨i1, i2⟩ := ih (by omega)
      have e : fo (n + 1) g_X10_beginsAnew_28 (SX10_beginsAnew_2 μ) = upm (fo n g_X10_beginsAnew_28 (SX10_beginsAnew_2 μ)) 63 n (eS E n) := by
        rw [fo_succ]
        show upm (fo n g_X10_beginsAnew_28 (SX10_beginsAnew_2 μ)) 63 (ix (nI n)) (fo n g_X10_beginsAnew_28 (SX10_beginsAnew_2 μ) 62 (ix (nI n))) = _
        rw [nI_ix (by omega), i2 62 (by decide), a2 62 (by decide), (r3 n (by omega)).2]
      rw [e]
      refine ⟨fun k hk => ?_, fun r hr => by rw [upm_other hr, i2 r hr]⟩
      rw [upm_rr]
      by_cases y : k = n
      · rw [if_pos y, y]
      · rw [if_neg y, i1 k (by omega)]
  obtain ⟨b1, b2⟩ := s2 (eH E) (Nat.le_refl _)
  have nB : NX10_beginsAnew_28 μ = eH E := by
    unfold NX10_beginsAnew_28
    rw [t0, nI_ix (by omega)]
  have eB : SX10_beginsAnew_28 μ = fo (eH E) g_X10_beginsAnew_28 (SX10_beginsAnew_2 μ) := by
    unfold SX10_beginsAnew_28
    rw [nB]
  rw [← eB] at b1 b2
  -- the heights
  have s3 : ∀ n, n ≤ eD E → (∀ k, k < n → fo n g_X10_beginsAnew_58 (SX10_beginsAnew_28 μ) 65 k = eG E k) ∧ ∀ r, r ≠ 65 → fo n g_X10_beginsAnew_58 (SX10_beginsAnew_28 μ) r = SX10_beginsAnew_28 μ r := by
    intro n
    induction n with
    | zero => exact fun _ => ⟨fun k hk => absurd hk (Nat.not_lt_zero _), fun r _ => by rw [fo_z]⟩
    | succ n ih =>
      intro hn
      obtain ⟨i1, i2⟩ := ih (by omega)
      have e : fo (n + 1) g_X10_beginsAnew_58 (SX10_beginsAnew_28 μ) = upm (fo n g_X10_beginsAnew_58 (SX10_beginsAnew_28 μ)) 65 n (eG E n) := by
        rw [fo_succ]
        show upm (fo n g_X10_beginsAnew_58 (SX10_beginsAnew_28 μ)) 65 (ix (nI n)) (fo n g_X10_beginsAnew_58 (SX10_beginsAnew_28 μ) 64 (ix (nI n))) = _
        rw [nI_ix (by omega), i2 64 (by decide), b2 64 (by decide), a2 64 (by decide), (r4 n (by omega)).2]
      rw [e]
      refine ⟨fun k hk => ?_, fun r hr => by rw [upm_other hr, i2 r hr]⟩
      rw [upm_rr]
      by_cases y : k = n
      · rw [if_pos y, y]
      · rw [if_neg y, i1 k (by omega)]
  obtain ⟨c1, c2⟩ := s3 (eD E) (Nat.le_refl _)
  have nC : NX10_beginsAnew_58 μ = eD E := by
    unfold NX10_beginsAnew_58
    rw [b2 61 (by decide), t2, nI_ix (by omega)]
  have eC : SX10_beginsAnew_58 μ = fo (eD E) g_X10_beginsAnew_58 (SX10_beginsAnew_28 μ) := by
    unfold SX10_beginsAnew_58
    rw [nC]
  rw [← eC] at c1 c2
  -- things and finds
  have oC : ∀ r, r ≠ 61 → r ≠ 63 → r ≠ 65 → SX10_beginsAnew_58 μ r = μ r := fun r q1 q2 q3 => by rw [c2 r q3, b2 r q2, a2 r q1]
  have u1 : SX10_beginsAnew_58 μ 61 1 = nI (eT E) := by rw [c2 61 (by decide), b2 61 (by decide), t1]
  obtain ⟨d1, d2, d3⟩ := sp_laysT (μ := SX10_beginsAnew_58 μ) hT
  have e1 : muX10_beginsAnew_1 μ = M_X10_lays_T (nI (eT E)) (SX10_beginsAnew_58 μ) := by
    unfold muX10_beginsAnew_1
    rw [u1]
  rw [← e1] at d2 d3
  have u3 : muX10_beginsAnew_1 μ 61 3 = nI (eF E) := by rw [d3 61 (by decide), c2 61 (by decide), b2 61 (by decide), t3]
  obtain ⟨f1, f2, f3⟩ := sp_laysF (μ := muX10_beginsAnew_1 μ) hF
  have e2 : muX10_beginsAnew_2 μ = M_X10_lays_F (nI (eF E)) (muX10_beginsAnew_1 μ) := by
    unfold muX10_beginsAnew_2
    rw [u3]
  rw [← e2] at f2 f3
  have o2 : ∀ r, r ≠ 61 → r ≠ 63 → r ≠ 65 → (r < 78 ∨ 87 < r) → (r < 96 ∨ 101 < r) → muX10_beginsAnew_2 μ r = μ r := fun r q1 q2 q3 q4 q5 => by rw [f3 r q5, d3 r q4, oC r q1 q2 q3]
  -- the row
  have s4 : ∀ n, n ≤ 63 → (∀ k, k < n → fo n g_X10_beginsAnew_122 (muX10_beginsAnew_2 μ) 521 k = 0) ∧ ∀ r, r ≠ 521 → fo n g_X10_beginsAnew_122 (muX10_beginsAnew_2 μ) r = muX10_beginsAnew_2 μ r := by
    intro n
    induction n with
    | zero => exact fun _ => ⟨fun k hk => absurd hk (Nat.not_lt_zero _), fun r _ => by rw [fo_z]⟩
    | succ n ih =>
      intro hn
      obtain ⟨i1, i2⟩ := ih (by omega)
      have e : fo (n + 1) g_X10_beginsAnew_122 (muX10_beginsAnew_2 μ) = upm (fo n g_X10_beginsAnew_122 (muX10_beginsAnew_2 μ)) 521 n 0 := by
        rw [fo_succ]
        show upm (fo n g_X10_beginsAnew_122 (muX10_beginsAnew_2 μ)) 521 (ix (nI n)) 0 = _
        rw [nI_ix (by omega)]
      rw [e]
      refine ⟨fun k hk => ?_, fun r hr => by rw [upm_other hr, i2 r hr]⟩
      rw [upm_rr]
      by_cases y : k = n
      · rw [if_pos y]
      · rw [if_neg y, i1 k (by omega)]
  obtain ⟨g1, g2⟩ := s4 63 (Nat.le_refl _)
  have eG' : SX10_beginsAnew_122 μ = fo 63 g_X10_beginsAnew_122 (muX10_beginsAnew_2 μ) := rfl
  rw [← eG'] at g1 g2
  have x78 : ∀ t, t < eT E → ∀ i, i < 4 → SX10_beginsAnew_122 μ (78 + t) i = eX E t i := fun t ht i hi => by rw [g2 (78 + t) (by omega), f3 (78 + t) (by omega), d2 t ht i hi, oC (67 + t) (by omega) (by omega) (by omega), (r5 t ht).2 i hi]
  have s5 : ∀ n, n ≤ eT E → (∀ k, k < 63 → fo n g_X10_beginsAnew_143 (SX10_beginsAnew_122 μ) 521 k = if k < n then eX E k 0 else if 40 ≤ k ∧ k < 40 + n then eX E (k - 40) 3 else 0) ∧ ∀ r, r ≠ 521 → fo n g_X10_beginsAnew_143 (SX10_beginsAnew_122 μ) r = SX10_beginsAnew_122 μ r := by
    intro n
    induction n with
    | zero =>
      intro _
      refine ⟨fun k hk => ?_, fun r _ => by rw [fo_z]⟩
      rw [if_neg (by omega), if_neg (by omega), fo_z]
      exact g1 k hk
    | succ n ih =>
      intro hn
      obtain ⟨i1, i2⟩ := ih (by omega)
      have e : fo (n + 1) g_X10_beginsAnew_143 (SX10_beginsAnew_122 μ) = upm (upm (fo n g_X10_beginsAnew_143 (SX10_beginsAnew_122 μ)) 521 n (eX E n 0)) 521 (40 + n) (eX E n 3) := by
        have q1 : muX10_beginsAnew_143_1 n (fo n g_X10_beginsAnew_143 (SX10_beginsAnew_122 μ)) = upm (fo n g_X10_beginsAnew_143 (SX10_beginsAnew_122 μ)) 521 n (eX E n 0) := by
          unfold muX10_beginsAnew_143_1
          rw [c0, nI_ix (by omega), i2 (78 + n) (by omega), x78 n (by omega) 0 (by decide)]
        rw [fo_succ]
        show muX10_beginsAnew_143_2 n (fo n g_X10_beginsAnew_143 (SX10_beginsAnew_122 μ)) = _
        unfold muX10_beginsAnew_143_2
        rw [q1, c40, nI_ix (by omega), nI_ix (by omega), upm_other (by omega), i2 (78 + n) (by omega), x78 n (by omega) 3 (by decide)]
      rw [e]
      refine ⟨fun k hk => ?_, fun r hr => by rw [upm_other hr, upm_other hr, i2 r hr]⟩
      rw [upm_rr, upm_rr]
      by_cases y : k = 40 + n
      · rw [if_pos y, if_neg (by omega), if_pos (by omega), y, Nat.add_sub_cancel_left]
      · rw [if_neg y]
        by_cases y2 : k = n
        · rw [if_pos y2, if_pos (by omega), y2]
        · rw [if_neg y2, i1 k hk]
          by_cases z : k < n
          · rw [if_pos z, if_pos (by omega)]
          · rw [if_neg z, if_neg (show ¬ k < n + 1 by omega)]
            by_cases z2 : 40 ≤ k ∧ k < 40 + n
            · rw [if_pos z2, if_pos (by omega)]
            · rw [if_neg z2, if_neg (show ¬ (40 ≤ k ∧ k < 40 + (n + 1)) by omega)]
  obtain ⟨h1, h2⟩ := s5 (eT E) (Nat.le_refl _)
  have w61 : SX10_beginsAnew_122 μ 61 = SX10_beginsAnew_2 μ 61 := by rw [g2 61 (by decide), f3 61 (by decide), d3 61 (by decide), c2 61 (by decide), b2 61 (by decide)]
  have nH : NX10_beginsAnew_143 μ = eT E := by
    unfold NX10_beginsAnew_143
    rw [w61, t1, nI_ix (by omega)]
  have eHH : SX10_beginsAnew_143 μ = fo (eT E) g_X10_beginsAnew_143 (SX10_beginsAnew_122 μ) := by
    unfold SX10_beginsAnew_143
    rw [nH]
  rw [← eHH] at h1 h2
  have w4 : SX10_beginsAnew_143 μ 61 4 = eR E := by rw [h2 61 (by decide), w61, a1 4 (by decide), m4]
  have eM : M_X10_beginsAnew μ = upm (upm (upm (upm (upm (upm (SX10_beginsAnew_143 μ) 57 44 (eR E)) 57 21 0) 57 38 0) 57 39 0) 57 40 0) 57 41 0 := by
    unfold M_X10_beginsAnew muX10_beginsAnew_8 muX10_beginsAnew_7 muX10_beginsAnew_6 muX10_beginsAnew_5 muX10_beginsAnew_4 muX10_beginsAnew_3
    rw [w4]
  have oM : ∀ r, r ≠ 57 → M_X10_beginsAnew μ r = SX10_beginsAnew_143 μ r := fun r hr => by rw [eM, upm_other hr, upm_other hr, upm_other hr, upm_other hr, upm_other hr, upm_other hr]
  have b61 : ∀ j, j ≤ eH E → fo j g_X10_beginsAnew_28 (SX10_beginsAnew_2 μ) 61 0 = nI (eH E) := fun j hj => by rw [(s2 j hj).2 61 (by decide), t0]
  have c61 : ∀ j, j ≤ eD E → fo j g_X10_beginsAnew_58 (SX10_beginsAnew_28 μ) 61 2 = nI (eD E) := fun j hj => by rw [(s3 j hj).2 61 (by decide), b2 61 (by decide), t2]
  have h61 : ∀ j, j ≤ eT E → fo j g_X10_beginsAnew_143 (SX10_beginsAnew_122 μ) 61 1 = nI (eT E) := fun j hj => by rw [(s5 j hj).2 61 (by decide), w61, t1]
  have irf : ∀ n : Nat, ¬ nI n < nI n := fun n z => Int32.lt_irrefl z
  refine ⟨⟨fun j hj => ?_, fun _ => ⟨fun j hj => ?_, fun _ => ⟨fun j hj => ?_, fun _ => ⟨?_, ?_, fun j hj => ?_, fun _ => ⟨fun j hj => ?_, fun _ => trivial, fun z => absurd z ?_⟩, fun z => absurd z (show ¬ (nI 63 : Int32) < 63 by decide)⟩, fun z => absurd z ?_⟩, fun z => absurd z ?_⟩, fun z => absurd z (show ¬ (nI 6 : Int32) < 6 by decide)⟩, ?_, fun k hk => ?_, ⟨?_, ?_, ?_, ?_, ?_, ?_⟩, fun k k1 k2 k3 k4 k5 k6 => ?_, fun r r1 r2 r3 r4 r5 r6 r7 => ?_⟩
  · exact ⟨fun z => absurd z (nI_ge (b := 6) hj (by decide)), fun _ => ⟨vp_in_nI hj (by decide), vp_in_nI hj (by decide)⟩⟩
  · rw [nB] at hj
    exact ⟨fun z => absurd z (by rw [b61 j (by omega)]; exact nI_ge hj (by omega)), fun _ => ⟨vp_in_nI (by omega) (by decide), vp_in_nI (by omega) (by decide)⟩⟩
  · rw [nC] at hj
    exact ⟨fun z => absurd z (by rw [c61 j (by omega)]; exact nI_ge hj (by omega)), fun _ => ⟨vp_in_nI (by omega) (by decide), vp_in_nI (by omega) (by decide)⟩⟩
  · rw [u1]
    exact d1
  · rw [u3]
    exact f1
  · exact ⟨fun z => absurd z (nI_ge (b := 63) hj (by decide)), fun _ => vp_in_nI hj (by decide)⟩
  · rw [nH] at hj
    refine ⟨fun z => absurd z (by rw [h61 j (by omega)]; exact nI_ge hj (by omega)), fun _ => ⟨vp_in_nI (by omega) (by decide), ?_, vp_in_nI (by omega) (by decide), ?_⟩⟩
    · rw [c0]
      exact vp_in_nI (by omega) (by decide)
    · rw [c40]
      exact vp_in_nI (by omega) (by decide)
  · rw [nH, eHH, h61 _ (Nat.le_refl _)]
    exact irf _
  · rw [nC, eC, c61 _ (Nat.le_refl _)]
    exact irf _
  · rw [nB, eB, b61 _ (Nat.le_refl _)]
    exact irf _
  · unfold EvM
    rw [oM 61 (by decide), oM 63 (by decide), oM 65 (by decide), h2 61 (by decide), h2 63 (by decide), h2 65 (by decide), w61]
    refine ⟨t0, t1, t2, t3, by rw [a1 4 (by decide), m4], by rw [a1 5 (by decide), m5], fun h hh => ?_, fun k hk => ?_, fun t ht i hi => ?_, fun f hf i hi => ?_⟩
    · rw [g2 63 (by decide), f3 63 (by decide), d3 63 (by decide), c2 63 (by decide), b1 h hh]
    · rw [g2 65 (by decide), f3 65 (by decide), d3 65 (by decide), c1 k hk]
    · rw [oM (78 + t) (by omega), h2 (78 + t) (by omega), x78 t ht i hi]
    · rw [oM (96 + f) (by omega), h2 (96 + f) (by omega), g2 (96 + f) (by omega), f2 f hf i hi, d3 (89 + f) (by omega), oC (89 + f) (by omega) (by omega) (by omega), (r6 f hf).2 i hi]
  · rw [oM 521 (by decide), h1 k hk]
    unfold opM
    by_cases z1 : k < eT E
    · rw [if_pos z1, if_pos (by omega), if_pos z1]
    · rw [if_neg z1]
      by_cases z2 : k < 10
      · rw [if_neg (by omega), if_pos z2, if_neg z1]
      · rw [if_neg z2]
        by_cases z3 : 40 ≤ k ∧ k < 50
        · rw [if_pos z3]
          by_cases z4 : k - 40 < eT E
          · rw [if_pos (by omega), if_pos z4]
          · rw [if_neg (by omega), if_neg z4]
        · rw [if_neg z3, if_neg (by omega)]
  · simp [eM, upm_rr]
  · simp [eM, upm_rr]
  · simp [eM, upm_rr]
  · simp [eM, upm_rr]
  · simp [eM, upm_rr]
  · simp [eM, upm_rr]
  · rw [eM, upm_rr, if_neg k6, upm_rr, if_neg k5, upm_rr, if_neg k4, upm_rr, if_neg k3, upm_rr, if_neg k2, upm_rr, if_neg k1, h2 57 (by decide), g2 57 (by decide), o2 57 (by decide) (by decide) (by decide) (by decide) (by decide)]
  · rw [oM r r1, h2 r r7, g2 r r7, o2 r r2 r3 r4 r5 r6]
/-- the two rows as a street opens -/
theorem op_RwR {E : EV} (hO : EvOK E) {c r : Nat → Int32} (hc : ∀ k, k < 69 → c k = opC E k) (hr : ∀ k, k < 63 → r k = opM E k) : RwR E c r := by
  have hH := hO.1.1
  have hT := hO.1.2.1
  have rz : ∀ k, 10 ≤ k → (k < 40 ∨ 50 ≤ k) → k < 63 → r k = 0 := fun k h1 h2 h3 => by
    rw [hr k h3]
    unfold opM
    rw [if_neg (by omega), if_neg (by omega)]
  have cz : ∀ k, 10 ≤ k → (k < 40 ∨ 56 ≤ k) → k < 69 → c k = 0 := fun k h1 h2 h3 => by
    rw [hc k h3]
    unfold opC
    rw [if_neg (by omega), if_neg (by omega), if_neg (by omega)]
  refine ⟨⟨fun k hk => ?_, fun h hh => ?_, fun h hh => ?_, ?_⟩, fun h hh => ?_, ⟨fun t ht => ?_, fun t ht => ?_, fun t ht => ?_, fun t ht => ?_, fun h hh => ?_, ⟨fun h hh => ?_, fun t ht _ => rz (30 + t) (by omega) (by omega) (by omega)⟩, 0, Nat.zero_le _, ?_⟩⟩
  · rw [hc k (by omega), hr k (by omega)]
    unfold opC opM
    by_cases z1 : k < 10
    · rw [if_pos z1, if_pos z1]
    · rw [if_neg z1, if_neg z1]
      by_cases z2 : 40 ≤ k ∧ k < 50
      · rw [if_pos z2, if_pos z2]
      · rw [if_neg z2, if_neg z2, if_neg (by omega)]
  · rw [hc (50 + h) (by omega), rz (50 + h) (by omega) (by omega) (by omega)]
    unfold opC
    rw [if_neg (by omega), if_neg (by omega), if_pos (by omega), Nat.add_sub_cancel_left, if_pos hh]
    grind
  · rw [cz (56 + h) (by omega) (by omega) (by omega), rz (50 + h) (by omega) (by omega) (by omega)]
  · rw [cz 68 (by omega) (by omega) (by omega), rz 62 (by omega) (by omega) (by omega)]
  · rw [cz (62 + h) (by omega) (by omega) (by omega), rz (56 + h) (by omega) (by omega) (by omega)]
  · refine Or.inr ?_
    obtain ⟨h, h1, h2⟩ := (hO.2.2.2.1 t ht).1
    refine ⟨h, h1, ?_⟩
    rw [hr t (by omega)]
    unfold opM
    rw [if_pos (by omega), if_pos ht, h2]
  · exact Or.inl (rz (10 + t) (by omega) (by omega) (by omega))
  · exact Or.inl (rz (20 + t) (by omega) (by omega) (by omega))
  · rw [hr (40 + t) (by omega)]
    unfold opM
    rw [if_neg (by omega), if_pos (by omega), Nat.add_sub_cancel_left, if_pos ht]
    exact (hO.2.2.2.1 t ht).2.2.2
  · rw [rz (50 + h) (by omega) (by omega) (by omega)]
    decide
  · exact ⟨0, 0, ⟨Nat.zero_le _, Nat.zero_le _, rz 62 (by omega) (by omega) (by omega)⟩, rz (56 + h) (by omega) (by omega) (by omega)⟩
  · exact rz 62 (by omega) (by omega) (by omega)
