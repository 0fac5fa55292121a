/-! image, restore -/
theorem case_image {E : EV} {L : LW} {μ : Mem} (hI : Inv E L μ) : P_W_37 μ ∧ Inv E L (M_W_37 μ) := by
  have hO := hI.1
  have hN := hI.2.2.2.2.2.2.2.2.2.2.1
  have hS : StR E μ := hI.2.2.2.2.2.2.2.2.2.1
  obtain ⟨w, m, p1, p2, p3, p4, p5, p6, p7, p8⟩ := hI.2.2.2.2.2.2.2.2.1
  by_cases hm : m = 3
  · subst hm
    have z : ¬ μ 48 3 < 3 := by rw [p5]; exact n_lt
    have e1 : muL_law_c37_1 μ = μ := by
      show M_X4_addImage μ = μ
      unfold M_X4_addImage
      rw [if_neg z]
    have e2 : (muX10_image_1 μ) 57 41 = 3 := by
      show upm μ 57 0 0 57 41 = 3
      rw [upm_rr, if_neg (by decide)]
      exact p6
    refine ⟨⟨?_, ?_, fun _ => trivial, fun q => q ?_⟩, ?_⟩
    · show P_X4_addImage μ
      exact ⟨fun q => absurd q z, fun _ => trivial⟩
    · rw [e1]
      exact ⟨fun q => absurd e2 q, fun _ => trivial⟩
    · rw [e1]
      unfold F_X9_image F_X4_addImage F_X10_image
      rw [if_neg z, if_pos rfl, if_neg (not_not_intro e2)]
    · show Inv E L (M_X10_image (muL_law_c37_1 μ))
      rw [e1]
      unfold M_X10_image
      rw [if_neg (not_not_intro e2)]
      exact hI.keep zero57
  · have z : μ 48 3 < 3 := by rw [p5]; exact (nI_ltI (b := 3) (by omega) (by omega)).mpr (by omega)
    have q0 : nI m * 1174 = nI (1174 * m) := by
      show nI m * nI 1174 = _
      rw [nI_mul, Nat.mul_comm]
    have q1 : nI (1174 * m) + 1 = nI (1174 * m + 1) := nI_add _ 1
    have q70 : nI (1174 * m) + 70 = nI (1174 * m + 70) := nI_add _ 70
    have a1 : muX4_addImage_1 μ = upm μ 50 (1174 * m) (nI w) := by
      unfold muX4_addImage_1
      rw [p5, q0, put_k (by omega) (by omega), p3]
    obtain ⟨c1, c2⟩ := sp_copyRow (μ := upm μ 50 (1174 * m) (nI w)) (fr := 44) (to := 50) (nf := 69) (nt := 3522) (sp := 0) (dp := 1174 * m + 1) (n := 69) (by omega) (by omega) (by omega) (by omega)
    have a2 : muX4_addImage_2 μ = upr (upm μ 50 (1174 * m) (nI w)) 50 (va_cpy (μ 44) (upm μ 50 (1174 * m) (nI w) 50) 0 (1174 * m + 1) 69) := by
      unfold muX4_addImage_2
      rw [p5, q0, q1, a1]
      have c2' : M_X9_copyRow 44 69 0 50 3522 (nI (1174 * m + 1)) 69 (upm μ 50 (1174 * m) (nI w)) = _ := c2
      rw [c2', upm_other (show (44 : Nat) ≠ 50 by decide)]
    obtain ⟨f1, f2⟩ := sp_copyRow (μ := muX4_addImage_2 μ) (fr := 49) (to := 50) (nf := 1104) (nt := 3522) (sp := 0) (dp := 1174 * m + 70) (n := 1104) (by omega) (by omega) (by omega) (by omega)
    have b49 : muX4_addImage_2 μ 49 = μ 49 := by rw [a2, upr_other (by decide), upm_other (by decide)]
    have a3 : muX4_addImage_3 μ = upr (muX4_addImage_2 μ) 50 (va_cpy (μ 49) (muX4_addImage_2 μ 50) 0 (1174 * m + 70) 1104) := by
      unfold muX4_addImage_3
      rw [p5, q0, q70]
      have f2' : M_X9_copyRow 49 1104 0 50 3522 (nI (1174 * m + 70)) 1104 (muX4_addImage_2 μ) = _ := f2
      rw [f2', b49]
    have r50 : ∀ k, muX4_addImage_3 μ 50 k = if 1174 * m + 70 ≤ k ∧ k < 1174 * m + 1174 then μ 49 (k - (1174 * m + 70)) else if 1174 * m + 1 ≤ k ∧ k < 1174 * m + 70 then μ 44 (k - (1174 * m + 1)) else if k = 1174 * m then nI w else μ 50 k := by
      intro k
      rw [a3, upr_same]
      unfold va_cpy
      by_cases x : 1174 * m + 70 ≤ k ∧ k < 1174 * m + 1174
      · rw [if_pos x, if_pos (by omega), Nat.zero_add]
      · rw [if_neg x, if_neg (by omega), a2, upr_same]
        unfold va_cpy
        by_cases y : 1174 * m + 1 ≤ k ∧ k < 1174 * m + 70
        · rw [if_pos y, if_pos (by omega), Nat.zero_add]
        · rw [if_neg y, if_neg (by omega), upm_rr]
    have ro : ∀ h, h ≠ 50 → muX4_addImage_3 μ h = μ h := fun h hh => by
      rw [a3, upr_other hh, a2, upr_other hh, upm_other hh]
    have e1 : muL_law_c37_1 μ = upm (muX4_addImage_3 μ) 48 3 (nI (m + 1)) := by
      show M_X4_addImage μ = _
      unfold M_X4_addImage muX4_addImage_4
      rw [if_pos z, ro 48 (by decide), p5, nI_succ]
    have n57 : upm (muL_law_c37_1 μ) 57 0 0 57 41 = nI m := by
      rw [upm_rr, if_neg (by decide), e1, upm_other (by decide), ro 57 (by decide), p6]
    have n3 : nI m ≠ 3 := fun q => hm ((nI_eq (b := 3) (by omega) (by omega)).mp q)
    obtain ⟨g1, g2, g3, g4⟩ := sp_putsAll0 (row := 544 + m) (μ := upm (muL_law_c37_1 μ) 57 0 0) (by omega)
    have b2 : muX10_image_2 (muL_law_c37_1 μ) = M_X10_putsAll (544 + m) 0 (upm (muL_law_c37_1 μ) 57 0 0) := by
      unfold muX10_image_2
      show M_X10_putsAll (544 + ix (upm (muL_law_c37_1 μ) 57 0 0 57 41)) 0 (upm (muL_law_c37_1 μ) 57 0 0) = _
      rw [n57, nI_ix (by omega)]
    have b3 : muX10_image_3 (muL_law_c37_1 μ) = upm (M_X10_putsAll (544 + m) 0 (upm (muL_law_c37_1 μ) 57 0 0)) 57 41 (nI (m + 1)) := by
      unfold muX10_image_3
      rw [b2, g4 41 (by decide), n57, nI_succ]
    have b1 : muX10_image_1 (muL_law_c37_1 μ) 57 41 = nI m := n57
    have eM : M_W_37 μ = upm (M_X10_putsAll (544 + m) 0 (upm (muL_law_c37_1 μ) 57 0 0)) 57 41 (nI (m + 1)) := by
      show M_X10_image (muL_law_c37_1 μ) = _
      unfold M_X10_image
      rw [b1, if_pos n3, b3]
    have lo : ∀ h, h ≠ 57 → upm (muL_law_c37_1 μ) 57 0 0 h = if h = 48 then upd (μ 48) 3 (nI (m + 1)) else muX4_addImage_3 μ h := fun h hh => by
      rw [upm_other hh, e1]
      by_cases x : h = 48
      · rw [if_pos x, x, upm_row, ro 48 (by decide)]
      · rw [if_neg x, upm_other x]
    have l57 : ∀ k, upm (muL_law_c37_1 μ) 57 0 0 57 k = if k = 0 then 0 else μ 57 k := fun k => by
      rw [upm_rr, e1, upm_other (by decide), ro 57 (by decide)]
    refine ⟨⟨?_, ?_, fun _ => trivial, fun q => q ?_⟩, ?_⟩
    · show P_X4_addImage μ
      refine ⟨fun _ => ⟨?_, ?_⟩, fun q => absurd z (Int32.not_lt.mpr q)⟩
      · rw [p5, q0, q1, a1]
        exact c1
      · rw [p5, q0, q70]
        exact f1
    · refine ⟨fun _ => ⟨?_, ?_⟩, fun q => absurd (b1.symm.trans q) n3⟩
      · rw [b1]
        exact vp_in_nI (by omega) (by omega)
      · rw [b1, nI_ix (by omega)]
        exact g1
    · have f9 : F_X9_image μ = nI (m + 1) := by
        unfold F_X9_image F_X4_addImage
        rw [if_pos z, if_neg (by decide)]
        show muL_law_c37_1 μ 48 3 = _
        rw [e1, upm_rr, if_pos rfl]
      unfold F_X10_image
      rw [f9, b1, if_pos n3, b3, upm_rr, if_pos rfl]
    · rw [eM]
      have o : ∀ h, h ≠ 57 → h ≠ 544 + m → h ≠ 50 → h ≠ 48 → upm (M_X10_putsAll (544 + m) 0 (upm (muL_law_c37_1 μ) 57 0 0)) 57 41 (nI (m + 1)) h = μ h := fun h h1 h2 h3 h4 => by
        rw [upm_other h1, g3 h h2 h1, lo h h1, if_neg h4, ro h h3]
      have o57 : ∀ k, k ≠ 42 → upm (M_X10_putsAll (544 + m) 0 (upm (muL_law_c37_1 μ) 57 0 0)) 57 41 (nI (m + 1)) 57 k = if k = 41 then nI (m + 1) else if k = 0 then 0 else μ 57 k := fun k hk => by
        rw [upm_rr, g4 k hk, l57]
      have x48 : ∀ k, upm (M_X10_putsAll (544 + m) 0 (upm (muL_law_c37_1 μ) 57 0 0)) 57 41 (nI (m + 1)) 48 k = if k = 3 then nI (m + 1) else μ 48 k := fun k => by
        rw [upm_other (by decide), g3 48 (by omega) (by decide), lo 48 (by decide), if_pos rfl]
        rfl
      have x50 : upm (M_X10_putsAll (544 + m) 0 (upm (muL_law_c37_1 μ) 57 0 0)) 57 41 (nI (m + 1)) 50 = muX4_addImage_3 μ 50 := by
        rw [upm_other (by decide), g3 50 (by omega) (by decide), lo 50 (by decide), if_neg (by decide)]
      have xI : ∀ k, k < 1072 → upm (M_X10_putsAll (544 + m) 0 (upm (muL_law_c37_1 μ) 57 0 0)) 57 41 (nI (m + 1)) (544 + m) k = srcI (upm (muL_law_c37_1 μ) 57 0 0) k := fun k hk => by
        rw [upm_other (by omega), g2 k hk]
      have l5 : ∀ h, 521 ≤ h → upm (muL_law_c37_1 μ) 57 0 0 h = μ h := fun h hh => by
        rw [lo h (by omega), if_neg (by omega), ro h (by omega)]
      have x0 := o 0 (by decide) (by omega) (by decide) (by decide)
      have x44 := o 44 (by decide) (by omega) (by decide) (by decide)
      have x49 := o 49 (by decide) (by omega) (by decide) (by decide)
      have x521 := o 521 (by decide) (by omega) (by decide) (by decide)
      refine hI.works (fun h hh => o h (by omega) (by omega) (by omega) (by omega)) (fun k k0 k1 k2 k3 k4 k5 k6 => by rw [o57 k k4, if_neg k3, if_neg k0]) (by rw [x0]) (by rw [x0]) ?_ ?_ ?_
      · refine ⟨w, m + 1, p1, by omega, by rw [x48, if_neg (by decide)]; exact p3, by rw [o57 39 (by decide), if_neg (by decide), if_neg (by decide)]; exact p4, by rw [x48, if_pos rfl], by rw [o57 41 (by decide), if_pos rfl], fun i hi => ?_, fun j hj => ?_⟩
        · rw [x49, o (527 + i) (by omega) (by omega) (by omega) (by omega)]
          exact p7 i hi
        · rw [x50]
          by_cases hjm : j = m
          · subst hjm
            refine ⟨w, p1, by rw [r50, if_neg (by omega), if_neg (by omega), if_pos rfl], ?_, ?_, fun i hi => ?_⟩
            · rw [xI 0 (by decide)]
              show (if 0 = 0 then upm (muL_law_c37_1 μ) 57 0 0 57 39 else _) = _
              rw [if_pos rfl, l57, if_neg (by decide), p4]
            · refine hS.same hO (fun k hk => ?_) fun k hk => ?_
              · rw [r50, if_neg (by omega), if_pos (by omega)]
                exact congrArg _ (by omega)
              · rw [xI _ (by omega)]
                unfold srcI
                rw [if_neg (by omega), if_pos (by omega), l5 521 (by omega)]
                exact congrArg _ (by omega)
            · refine (p7 i hi).same hO (fun k hk => ?_) fun k hk => ?_
              · rw [r50, if_pos (by omega)]
                exact congrArg _ (by omega)
              · rw [xI _ (by omega), src_w hk, l5 _ (by omega)]
          · obtain ⟨v, v1, v2, v3, v4, v5⟩ := p8 j (by omega)
            have ej : ∀ k, 1174 * j ≤ k → k < 1174 * j + 1174 → muX4_addImage_3 μ 50 k = μ 50 k := fun k h1 h2 => by
              rw [r50, if_neg (by omega), if_neg (by omega), if_neg (by omega)]
            have xj := o (544 + j) (by omega) (by omega) (by omega) (by omega)
            refine ⟨v, v1, by rw [ej _ (by omega) (by omega)]; exact v2, by rw [xj]; exact v3, ?_, fun i hi => ?_⟩
            · exact v4.same hO (fun k hk => ej _ (by omega) (by omega)) fun k hk => by rw [xj]
            · exact (v5 i hi).same hO (fun k hk => ej _ (by omega) (by omega)) fun k hk => by rw [xj]
      · unfold StR
        rw [x44, x521]
        exact hS
      · rw [x0, o57 40 (by decide), if_neg (by decide), if_neg (by decide)]
        exact hN.1
