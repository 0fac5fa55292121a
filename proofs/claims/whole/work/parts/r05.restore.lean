/-! restore -/
theorem case_restore {E : EV} {L : LW} {μ : Mem} (hI : Inv E L μ) : P_W_38 μ ∧ Inv E L (M_W_38 μ) := by
  have hO := hI.1
  have hN := hI.2.2.2.2.2.2.2.2.2.2.1
  obtain ⟨w, m, p1, p2, p3, p4, p5, p6, p7, p8⟩ := hI.2.2.2.2.2.2.2.2.1
  cases m with
  | zero =>
    have z : μ 48 3 = 0 := p5
    have e1 : muL_law_c38_1 μ = μ := by
      show M_X9_restore μ = μ
      unfold M_X9_restore F_X4_takeImage muX9_restore_1 M_X4_takeImage
      rw [if_neg (not_not_intro z), if_neg (not_not_intro rfl), if_neg (not_not_intro z)]
    have e2 : (muX10_restore_1 μ) 57 41 = 0 := by
      show upm μ 57 0 0 57 41 = 0
      rw [upm_rr, if_neg (by decide)]
      exact p6
    refine ⟨⟨?_, ?_, fun _ => trivial, fun q => q ?_⟩, ?_⟩
    · show P_X4_takeImage μ
      exact ⟨fun q => absurd z q, fun _ => trivial⟩
    · rw [e1]
      exact ⟨fun q => absurd e2 q, fun _ => trivial⟩
    · rw [e1]
      unfold F_X9_restore F_X4_takeImage F_X10_restore
      rw [if_neg (not_not_intro z), if_neg (not_not_intro rfl), if_neg (not_not_intro e2)]
    · show Inv E L (M_X10_restore (muL_law_c38_1 μ))
      rw [e1]
      unfold M_X10_restore
      rw [if_neg (not_not_intro e2)]
      exact hI.keep zero57
  | succ m =>
    obtain ⟨v, v1, v2, v3, v4, v5⟩ := p8 m (by omega)
    have z : μ 48 3 ≠ 0 := fun q => absurd ((nI_eq (a := m + 1) (b := 0) (by omega) (by omega)).mp (p5.symm.trans q)) (by omega)
    have n0 : nI (m + 1) ≠ 0 := fun q => absurd ((nI_eq (a := m + 1) (b := 0) (by omega) (by omega)).mp q) (by omega)
    have q0 : nI m * 1174 = nI (1174 * m) := by
      show nI m * nI 1174 = _
      rw [nI_mul, Nat.mul_comm]
    have q1 : nI (1174 * m) + 1 = nI (1174 * m + 1) := nI_add _ 1
    have q70 : nI (1174 * m) + 70 = nI (1174 * m + 70) := nI_add _ 70
    have a1 : muX4_takeImage_1 μ = upm μ 48 3 (nI m) := by
      unfold muX4_takeImage_1
      rw [p5, nI_pred]
    have a13 : muX4_takeImage_1 μ 48 3 * 1174 = nI (1174 * m) := by rw [a1, upm_rr, if_pos rfl, q0]
    have a2 : muX4_takeImage_2 μ = upm (upm μ 48 3 (nI m)) 48 2 (nI v) := by
      unfold muX4_takeImage_2
      rw [a13, at_k (by omega) (by omega), a1, upm_other (show (50 : Nat) ≠ 48 by decide), v2]
    obtain ⟨c1, c2⟩ := sp_copyRow (μ := muX4_takeImage_2 μ) (fr := 50) (to := 44) (nf := 3522) (nt := 69) (sp := 1174 * m + 1) (dp := 0) (n := 69) (by omega) (by omega) (by omega) (by omega)
    have t2o : ∀ h, h ≠ 48 → muX4_takeImage_2 μ h = μ h := fun h hh => by rw [a2, upm_other hh, upm_other hh]
    have a3 : muX4_takeImage_3 μ = upr (muX4_takeImage_2 μ) 44 (va_cpy (μ 50) (μ 44) (1174 * m + 1) 0 69) := by
      unfold muX4_takeImage_3
      rw [a13, q1]
      have c2' : M_X9_copyRow 50 3522 (nI (1174 * m + 1)) 44 69 0 69 (muX4_takeImage_2 μ) = _ := c2
      rw [c2', t2o 50 (by decide), t2o 44 (by decide)]
    obtain ⟨f1, f2⟩ := sp_copyRow (μ := muX4_takeImage_3 μ) (fr := 50) (to := 49) (nf := 3522) (nt := 1104) (sp := 1174 * m + 70) (dp := 0) (n := 1104) (by omega) (by omega) (by omega) (by omega)
    have a4 : muX4_takeImage_4 μ = upr (muX4_takeImage_3 μ) 49 (va_cpy (μ 50) (μ 49) (1174 * m + 70) 0 1104) := by
      unfold muX4_takeImage_4
      rw [a13, q70]
      have f2' : M_X9_copyRow 50 3522 (nI (1174 * m + 70)) 49 1104 0 1104 (muX4_takeImage_3 μ) = _ := f2
      rw [f2', a3, upr_other (show (50 : Nat) ≠ 44 by decide), upr_other (show (49 : Nat) ≠ 44 by decide), t2o 50 (by decide), t2o 49 (by decide)]
    have e1 : muL_law_c38_1 μ = upm (muX4_takeImage_4 μ) 0 11 0 := by
      show M_X9_restore μ = _
      unfold M_X9_restore F_X4_takeImage muX9_restore_2 muX9_restore_1 M_X4_takeImage
      rw [if_pos z, if_pos (by decide), if_pos z]
    have ro : ∀ h, h ≠ 0 → h ≠ 44 → h ≠ 48 → h ≠ 49 → muL_law_c38_1 μ h = μ h := fun h h1 h2 h3 h4 => by
      rw [e1, upm_other h1, a4, upr_other h4, a3, upr_other h2, t2o h h3]
    have n57 : upm (muL_law_c38_1 μ) 57 0 0 57 41 = nI (m + 1) := by
      rw [upm_rr, if_neg (by decide), ro 57 (by decide) (by decide) (by decide) (by decide), p6]
    have b1 : muX10_restore_1 (muL_law_c38_1 μ) 57 41 = nI (m + 1) := n57
    have b2 : muX10_restore_2 (muL_law_c38_1 μ) = upm (upm (muL_law_c38_1 μ) 57 0 0) 57 41 (nI m) := by
      unfold muX10_restore_2
      rw [b1, nI_pred]
      rfl
    have b21 : upm (upm (muL_law_c38_1 μ) 57 0 0) 57 41 (nI m) 57 41 = nI m := by rw [upm_rr, if_pos rfl]
    obtain ⟨g1, ⟨g2, g3, g4, g5, g6, g7⟩⟩ := sp_putsAll1 (row := 544 + m) (μ := upm (upm (muL_law_c38_1 μ) 57 0 0) 57 41 (nI m)) (by omega)
    have b4 : muX10_restore_4 (muL_law_c38_1 μ) = upm (M_X10_putsAll (544 + m) 1 (upm (upm (muL_law_c38_1 μ) 57 0 0) 57 41 (nI m))) 57 40 0 := by
      unfold muX10_restore_4 muX10_restore_3
      rw [b2, b21, nI_ix (by omega)]
    have eM : M_W_38 μ = upm (M_X10_putsAll (544 + m) 1 (upm (upm (muL_law_c38_1 μ) 57 0 0) 57 41 (nI m))) 57 40 0 := by
      show M_X10_restore (muL_law_c38_1 μ) = _
      unfold M_X10_restore
      rw [b1, if_pos n0, b4]
    have lo : ∀ h, h ≠ 57 → upm (upm (muL_law_c38_1 μ) 57 0 0) 57 41 (nI m) h = muL_law_c38_1 μ h := fun h hh => by
      rw [upm_other hh, upm_other hh]
    have l57 : ∀ k, upm (upm (muL_law_c38_1 μ) 57 0 0) 57 41 (nI m) 57 k = if k = 41 then nI m else if k = 0 then 0 else μ 57 k := fun k => by
      rw [upm_rr, upm_rr, ro 57 (by decide) (by decide) (by decide) (by decide)]
    have lI : ∀ j, upm (upm (muL_law_c38_1 μ) 57 0 0) 57 41 (nI m) (544 + j) = μ (544 + j) := fun j => by
      rw [lo _ (by omega), ro _ (by omega) (by omega) (by omega) (by omega)]
    rw [lI m] at g3 g4 g5
    refine ⟨⟨?_, ?_, fun _ => trivial, fun q => q ?_⟩, ?_⟩
    · show P_X4_takeImage μ
      refine ⟨fun _ => ⟨?_, ?_⟩, fun q => absurd q z⟩
      · rw [a13, q1]
        exact c1
      · rw [a13, q70]
        exact f1
    · refine ⟨fun _ => ⟨?_, ?_⟩, fun q => absurd (b1.symm.trans q) n0⟩
      · rw [b2, b21]
        exact vp_in_nI (by omega) (by omega)
      · rw [b2, b21, nI_ix (by omega)]
        exact g1
    · have f9 : F_X9_restore μ = nI m := by
        have e1' : muX9_restore_2 μ = muL_law_c38_1 μ := by
          show _ = M_X9_restore μ
          unfold M_X9_restore F_X4_takeImage
          rw [if_pos z, if_pos (by decide)]
        unfold F_X9_restore F_X4_takeImage
        rw [if_pos z, if_pos (by decide), e1', e1, upm_other (by decide), a4, upr_other (by decide), a3, upr_other (by decide), a2, upm_rr, if_neg (by decide), upm_rr, if_pos rfl]
      unfold F_X10_restore
      rw [f9, b1, if_pos n0, b4, upm_rr, if_neg (by decide), g7 41 (by decide) (by decide), b21]
    · rw [eM]
      have o : ∀ h, h ≠ 57 → (h < 521 ∨ 542 < h) → h ≠ 0 → h ≠ 44 → h ≠ 48 → h ≠ 49 → upm (M_X10_putsAll (544 + m) 1 (upm (upm (muL_law_c38_1 μ) 57 0 0) 57 41 (nI m))) 57 40 0 h = μ h := fun h h1 h2 h3 h4 h5 h6 => by
        rw [upm_other h1, g6 h h1 (by omega), lo h h1, ro h h3 h4 h5 h6]
      have o57 : ∀ k, k ≠ 42 → k ≠ 39 → upm (M_X10_putsAll (544 + m) 1 (upm (upm (muL_law_c38_1 μ) 57 0 0) 57 41 (nI m))) 57 40 0 57 k = if k = 40 then 0 else if k = 41 then nI m else if k = 0 then 0 else μ 57 k := fun k hk h9 => by
        rw [upm_rr, g7 k hk h9, l57]
      have c9 : ∀ h, h < 50 → upm (M_X10_putsAll (544 + m) 1 (upm (upm (muL_law_c38_1 μ) 57 0 0) 57 41 (nI m))) 57 40 0 h = muL_law_c38_1 μ h := fun h hh => by
        rw [upm_other (by omega), g6 h (by omega) (by omega), lo h (by omega)]
      have x0 : ∀ k, upm (M_X10_putsAll (544 + m) 1 (upm (upm (muL_law_c38_1 μ) 57 0 0) 57 41 (nI m))) 57 40 0 0 k = if k = 11 then 0 else μ 0 k := fun k => by
        rw [c9 0 (by omega), e1, upm_rr, a4, upr_other (by decide), a3, upr_other (by decide), t2o 0 (by decide)]
      have x48 : ∀ k, upm (M_X10_putsAll (544 + m) 1 (upm (upm (muL_law_c38_1 μ) 57 0 0) 57 41 (nI m))) 57 40 0 48 k = if k = 2 then nI v else if k = 3 then nI m else μ 48 k := fun k => by
        rw [c9 48 (by omega), e1, upm_other (by decide), a4, upr_other (by decide), a3, upr_other (by decide), a2, upm_rr, upm_rr]
      have x44 : upm (M_X10_putsAll (544 + m) 1 (upm (upm (muL_law_c38_1 μ) 57 0 0) 57 41 (nI m))) 57 40 0 44 = va_cpy (μ 50) (μ 44) (1174 * m + 1) 0 69 := by
        rw [c9 44 (by omega), e1, upm_other (by decide), a4, upr_other (by decide), a3, upr_same]
      have x49 : upm (M_X10_putsAll (544 + m) 1 (upm (upm (muL_law_c38_1 μ) 57 0 0) 57 41 (nI m))) 57 40 0 49 = va_cpy (μ 50) (μ 49) (1174 * m + 70) 0 1104 := by
        rw [c9 49 (by omega), e1, upm_other (by decide), a4, upr_same]
      have x50 := o 50 (by decide) (by decide) (by decide) (by decide) (by decide) (by decide)
      refine hI.works (fun h hh => o h (by omega) (by omega) (by omega) (by omega) (by omega) (by omega)) (fun k k0 k1 k2 k3 k4 k5 k6 => by rw [o57 k k4 k1, if_neg k2, if_neg k3, if_neg k0]) (by rw [x0, if_neg (by decide)]) (by rw [x0, if_neg (by decide)]) ?_ ?_ ?_
      · refine ⟨v, m, v1, by omega, by rw [x48, if_pos rfl], ?_, by rw [x48, if_neg (by decide), if_pos rfl], by rw [o57 41 (by decide) (by decide), if_neg (by decide), if_pos rfl], fun i hi => ?_, fun j hj => ?_⟩
        · rw [upm_rr, if_neg (by decide), g3 (by decide), v3]
        · refine (v5 i hi).same hO (fun k hk => ?_) fun k hk => ?_
          · rw [x49]
            unfold va_cpy
            rw [if_pos (by omega)]
            exact congrArg _ (by omega)
          · rw [upm_other (by omega), g5 i k hk (by omega)]
        · rw [x50, o (544 + j) (by omega) (by omega) (by omega) (by omega) (by omega) (by omega)]
          exact p8 j (by omega)
      · unfold StR
        refine v4.same hO (fun k hk => ?_) fun k hk => ?_
        · rw [x44]
          unfold va_cpy
          rw [if_pos (by omega)]
          exact congrArg _ (by omega)
        · rw [upm_other (by decide), g4 k hk (by omega)]
      · rw [x0, if_pos rfl, o57 40 (by decide) (by decide), if_pos rfl]
