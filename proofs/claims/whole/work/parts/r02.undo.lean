/-! undo -/
theorem nI_mul (a b : Nat) : nI a * nI b = nI (a * b) := (Int32.ofNat_mul a b).symm
theorem case_undo {E : EV} {L : LW} {μ : Mem} (hI : Inv E L μ) : P_W_6 μ ∧ Inv E L (M_W_6 μ) := by
  have hO := hI.1
  have hN := hI.2.2.2.2.2.2.2.2.2.2.1
  have hS : StR E μ := hI.2.2.2.2.2.2.2.2.2.1
  obtain ⟨w, m, p1, p2, p3, p4, p5, p6, p7, p8⟩ := hI.2.2.2.2.2.2.2.2.1
  cases w with
  | zero =>
    have z : μ 48 2 = 0 := p3
    have e1 : muL_law_c6_1 μ = μ := by
      show M_X9_undo μ = μ
      unfold M_X9_undo F_X4_takeBack muX9_undo_1 M_X4_takeBack
      rw [if_neg (not_not_intro z), if_neg (not_not_intro rfl), if_neg (not_not_intro z)]
    have e2 : (muX10_undo_1 μ) 57 39 = 0 := by
      show upm μ 57 0 0 57 39 = 0
      rw [upm_rr, if_neg (by decide)]
      exact p4
    refine ⟨⟨?_, ?_, fun _ => trivial, fun q => q ?_⟩, ?_⟩
    · show P_X4_takeBack μ
      exact ⟨fun q => absurd z q, fun _ => trivial⟩
    · rw [e1]
      exact ⟨fun q => absurd e2 q, fun _ => trivial⟩
    · rw [e1]
      unfold F_X9_undo F_X4_takeBack F_X10_undo
      rw [if_neg (not_not_intro z), if_neg (not_not_intro rfl), if_neg (not_not_intro e2)]
    · show Inv E L (M_X10_undo (muL_law_c6_1 μ))
      rw [e1]
      unfold M_X10_undo
      rw [if_neg (not_not_intro e2)]
      exact hI.keep zero57
  | succ w =>
    have z : μ 48 2 ≠ 0 := fun q => absurd ((nI_eq (a := w + 1) (b := 0) (by omega) (by omega)).mp (p3.symm.trans q)) (by omega)
    have a1 : muX4_takeBack_1 μ = upm μ 48 2 (nI w) := by
      unfold muX4_takeBack_1
      rw [p3, nI_pred]
    have a2 : (upm μ 48 2 (nI w)) 48 2 * 69 = nI (69 * w) := by
      rw [upm_rr, if_pos rfl]
      show nI w * nI 69 = _
      rw [nI_mul, Nat.mul_comm]
    obtain ⟨c1, c2⟩ := sp_copyRow (μ := upm μ 48 2 (nI w)) (fr := 49) (to := 44) (nf := 1104) (nt := 69) (sp := 69 * w) (dp := 0) (n := 69) (by omega) (by omega) (by omega) (by omega)
    have e1 : muL_law_c6_1 μ = upm (upr (upm μ 48 2 (nI w)) 44 (va_cpy (μ 49) (μ 44) (69 * w) 0 69)) 0 11 0 := by
      show M_X9_undo μ = _
      unfold M_X9_undo F_X4_takeBack muX9_undo_2 muX9_undo_1 M_X4_takeBack muX4_takeBack_2
      rw [if_pos z, if_pos (by decide), a1, a2]
      have c2' : M_X9_copyRow 49 1104 (nI (69 * w)) 44 69 0 69 (upm μ 48 2 (nI w)) = _ := c2
      rw [c2', upm_other (show (49 : Nat) ≠ 48 by decide), upm_other (show (44 : Nat) ≠ 48 by decide), if_pos z]
    obtain ⟨d1, d2⟩ := sp_copies (μ := upm (upm (muL_law_c6_1 μ) 57 0 0) 57 39 (nI w)) (fr := 527 + w) (to := 521) (by omega)
    have b0 : ∀ k, (muL_law_c6_1 μ) 57 k = μ 57 k := fun k => by
      rw [e1, upm_other (by decide), upr_other (by decide), upm_other (by decide)]
    have b1 : muX10_undo_1 (muL_law_c6_1 μ) 57 39 = nI (w + 1) := by
      show upm (muL_law_c6_1 μ) 57 0 0 57 39 = _
      rw [upm_rr, if_neg (by decide), b0, p4]
    have b2 : muX10_undo_2 (muL_law_c6_1 μ) = upm (upm (muL_law_c6_1 μ) 57 0 0) 57 39 (nI w) := by
      unfold muX10_undo_2
      rw [b1, nI_pred]
      rfl
    have b3 : (upm (upm (muL_law_c6_1 μ) 57 0 0) 57 39 (nI w)) 57 39 = nI w := by rw [upm_rr, if_pos rfl]
    have b4 : muX10_undo_4 (muL_law_c6_1 μ) = upm (upr (upm (upm (muL_law_c6_1 μ) 57 0 0) 57 39 (nI w)) 521 (cutR (μ (527 + w)) (μ 521))) 57 40 0 := by
      unfold muX10_undo_4 muX10_undo_3
      rw [b2, b3, nI_ix (by omega), d2, upm_other (show 527 + w ≠ 57 by omega), upm_other (show 527 + w ≠ 57 by omega), upm_other (show (521 : Nat) ≠ 57 by omega), upm_other (show (521 : Nat) ≠ 57 by omega)]
      have q1 : (muL_law_c6_1 μ) (527 + w) = μ (527 + w) := by
        rw [e1, upm_other (show 527 + w ≠ 0 by omega), upr_other (show 527 + w ≠ 44 by omega), upm_other (show 527 + w ≠ 48 by omega)]
      have q2 : (muL_law_c6_1 μ) 521 = μ 521 := by
        rw [e1, upm_other (show 521 ≠ 0 by omega), upr_other (show 521 ≠ 44 by omega), upm_other (show 521 ≠ 48 by omega)]
      rw [q1, q2]
    have n0 : nI (w + 1) ≠ 0 := fun q => absurd ((nI_eq (a := w + 1) (b := 0) (by omega) (by omega)).mp q) (by omega)
    have eM : M_W_6 μ = upm (upr (upm (upm (muL_law_c6_1 μ) 57 0 0) 57 39 (nI w)) 521 (cutR (μ (527 + w)) (μ 521))) 57 40 0 := by
      show M_X10_undo (muL_law_c6_1 μ) = _
      unfold M_X10_undo
      rw [b1, if_pos n0, b4]
    refine ⟨⟨?_, ?_, fun _ => trivial, fun q => q ?_⟩, ?_⟩
    · show P_X4_takeBack μ
      refine ⟨fun _ => ?_, fun q => absurd q z⟩
      rw [a1, a2]
      exact c1
    · refine ⟨fun _ => ⟨?_, ?_⟩, fun q => absurd (b1.symm.trans q) n0⟩
      · rw [b2, b3]
        exact vp_in_nI (by omega) (by omega)
      · rw [b2, b3, nI_ix (by omega)]
        exact d1
    · have f9 : F_X9_undo μ = nI w := by
        have e1' : muX9_undo_2 μ = muL_law_c6_1 μ := by
          show _ = M_X9_undo μ
          unfold M_X9_undo F_X4_takeBack
          rw [if_pos z, if_pos (by decide)]
        unfold F_X9_undo F_X4_takeBack
        rw [if_pos z, if_pos (by decide), e1', e1, upm_other (by decide), upr_other (by decide), upm_rr, if_pos rfl]
      unfold F_X10_undo
      rw [f9, b1, if_pos n0, b4, upm_rr, if_neg (by decide), upr_other (by decide), upm_rr, if_pos rfl]
    · rw [eM]
      have o : ∀ h, h ≠ 57 → h ≠ 521 → h ≠ 0 → h ≠ 44 → h ≠ 48 → upm (upr (upm (upm (muL_law_c6_1 μ) 57 0 0) 57 39 (nI w)) 521 (cutR (μ (527 + w)) (μ 521))) 57 40 0 h = μ h := fun h h1 h2 h3 h4 h5 => by
        rw [upm_other h1, upr_other h2, upm_other h1, upm_other h1, e1, upm_other h3, upr_other h4, upm_other h5]
      have o57 : ∀ k, upm (upr (upm (upm (muL_law_c6_1 μ) 57 0 0) 57 39 (nI w)) 521 (cutR (μ (527 + w)) (μ 521))) 57 40 0 57 k = if k = 40 then 0 else if k = 39 then nI w else if k = 0 then 0 else μ 57 k := fun k => by
        rw [upm_rr, upr_other (show (57 : Nat) ≠ 521 by decide), upm_rr, upm_rr, b0]
      have x48 : ∀ k, upm (upr (upm (upm (muL_law_c6_1 μ) 57 0 0) 57 39 (nI w)) 521 (cutR (μ (527 + w)) (μ 521))) 57 40 0 48 k = if k = 2 then nI w else μ 48 k := fun k => by
        rw [upm_other (show (48 : Nat) ≠ 57 by decide), upr_other (show (48 : Nat) ≠ 521 by decide), upm_other (show (48 : Nat) ≠ 57 by decide), upm_other (show (48 : Nat) ≠ 57 by decide), e1, upm_other (show (48 : Nat) ≠ 0 by decide), upr_other (show (48 : Nat) ≠ 44 by decide), upm_rr]
      have x0 : ∀ k, upm (upr (upm (upm (muL_law_c6_1 μ) 57 0 0) 57 39 (nI w)) 521 (cutR (μ (527 + w)) (μ 521))) 57 40 0 0 k = if k = 11 then 0 else μ 0 k := fun k => by
        rw [upm_other (show (0 : Nat) ≠ 57 by decide), upr_other (show (0 : Nat) ≠ 521 by decide), upm_other (show (0 : Nat) ≠ 57 by decide), upm_other (show (0 : Nat) ≠ 57 by decide), e1, upm_rr, upr_other (show (0 : Nat) ≠ 44 by decide), upm_other (show (0 : Nat) ≠ 48 by decide)]
      have x44 : upm (upr (upm (upm (muL_law_c6_1 μ) 57 0 0) 57 39 (nI w)) 521 (cutR (μ (527 + w)) (μ 521))) 57 40 0 44 = va_cpy (μ 49) (μ 44) (69 * w) 0 69 := by
        rw [upm_other (show (44 : Nat) ≠ 57 by decide), upr_other (show (44 : Nat) ≠ 521 by decide), upm_other (show (44 : Nat) ≠ 57 by decide), upm_other (show (44 : Nat) ≠ 57 by decide), e1, upm_other (show (44 : Nat) ≠ 0 by decide), upr_same]
      have x521 : upm (upr (upm (upm (muL_law_c6_1 μ) 57 0 0) 57 39 (nI w)) 521 (cutR (μ (527 + w)) (μ 521))) 57 40 0 521 = cutR (μ (527 + w)) (μ 521) := by
        rw [upm_other (show (521 : Nat) ≠ 57 by decide), upr_same]
      refine hI.works (fun h hh => o h (by omega) (by omega) (by omega) (by omega) (by omega)) (fun k k0 k1 k2 k3 k4 k5 k6 => by rw [o57, if_neg k2, if_neg k1, if_neg k0]) (by rw [x0, if_neg (by decide)]) (by rw [x0, if_neg (by decide)]) ?_ ?_ ?_
      · refine ⟨w, m, by omega, p2, by rw [x48, if_pos rfl], by rw [o57, if_neg (by decide), if_pos rfl], by rw [x48, if_neg (by decide)]; exact p5, by rw [o57, if_neg (by decide), if_neg (by decide), if_neg (by decide)]; exact p6, fun i hi => ?_, fun j hj => ?_⟩
        · rw [o 49 (by decide) (by decide) (by decide) (by decide) (by decide), o (527 + i) (by omega) (by omega) (by omega) (by omega) (by omega)]
          exact p7 i (by omega)
        · rw [o 50 (by decide) (by decide) (by decide) (by decide) (by decide), o (544 + j) (by omega) (by omega) (by omega) (by omega) (by omega)]
          exact p8 j hj
      · unfold StR
        rw [x44, x521]
        refine (p7 w (by omega)).same hO (fun k hk => ?_) fun k hk => cut_lt hk
        unfold va_cpy
        rw [if_pos ⟨by omega, by omega⟩, Nat.sub_zero]
      · rw [x0, o57, if_pos rfl, if_pos rfl]
