theorem PsR.same {E : EV} {μ μ' : Mem} (hP : PsR E μ) (a : ∀ r, (48 ≤ r ∧ r ≤ 50) ∨ (527 ≤ r ∧ r ≤ 546) → μ' r = μ r) (b39 : μ' 57 39 = μ 57 39) (b41 : μ' 57 41 = μ 57 41) : PsR E μ' := by
  obtain ⟨w, m, p1, p2, p3, p4, p5, p6, p7, p8⟩ := hP
  have e48 := a 48 (by omega)
  have e49 := a 49 (by omega)
  have e50 := a 50 (by omega)
  refine ⟨w, m, p1, p2, by rw [e48]; exact p3, by rw [b39]; exact p4, by rw [e48]; exact p5, by rw [b41]; exact p6, fun i hi => ?_, fun j hj => ?_⟩
  · rw [e49, a (527 + i) (by omega)]
    exact p7 i hi
  · rw [e50, a (544 + j) (by omega)]
    exact p8 j hj
/-- the reference begins WORK's text -/
theorem work_start {E : EV} {L : LW} {μ ν : Mem} {N : Nat} (hI : Inv E L μ) (n2 : N ≤ 600) (n4 : inR (nI N) 0 (μ 1 1) = true) (n5 : nI N ≤ nI 150) (hN6 : ∀ k, k < N → k < 600) (hν : ∀ r, 57 ≤ r → r ≠ 548 → ν r = μ r) :
    P_X10_bad (VX10_work_2 (nI N) ν) 1 1 (muX10_work_1 (nI N) ν) ∧ F_X10_bad (VX10_work_2 (nI N) ν) 1 1 (muX10_work_1 (nI N) ν) = 0 ∧ muX10_work_3 (nI N) ν = upm ν 57 0 0 ∧ P_X10_starts (nI N) (muX10_work_3 (nI N) ν) ∧ TxM (μ 2) N (skp (μ 2) N 0) (muX10_work_5 (nI N) ν) ∧
    (muX10_work_5 (nI N) ν 57 5 = 0 ∧ muX10_work_5 (nI N) ν 57 8 = 0 ∧ muX10_work_5 (nI N) ν 57 30 = 0 ∧ muX10_work_5 (nI N) ν 57 1 = 0 ∧ muX10_work_5 (nI N) ν 57 0 = 0) ∧ (∀ k, 9 ≤ k → k ≠ 30 → muX10_work_5 (nI N) ν 57 k = μ 57 k) ∧ ∀ r, r ≠ 57 → muX10_work_5 (nI N) ν r = ν r := by
  have hT := hI.2.2.2.2.2.2.1
  have e57 := hν 57 (by decide) (by decide)
  have e58 := hν 58 (by decide) (by decide)
  have v2 : VX10_work_2 (nI N) ν = 0 := by
    unfold VX10_work_2 muX10_work_1
    rw [isIn_eq, upm_rr, if_neg (show ¬ (1 : Nat) = 0 by decide), e57, hT.1, n4, if_pos rfl, if_neg (by decide), if_pos (show nI N ≤ (150 : Int32) from n5)]
  obtain ⟨b1, b2, b3⟩ := bad_ok (ν := ν) (c := VX10_work_2 (nI N) ν) (w := 1) (b := 1) v2 (Or.inr rfl)
  have m3 : muX10_work_3 (nI N) ν = upm ν 57 0 0 := b3
  obtain ⟨c1, c2, ⟨c3, c4, c5, c6, c7⟩, c8, c9⟩ := sp_starts (t := μ 2) (μ := upm ν 57 0 0) n2 (fun k hk => by rw [upm_other (by decide), e58]; exact (hT.2.2.1 k (hN6 k hk)).1)
  have m5 : muX10_work_5 (nI N) ν = upm (M_X10_starts (nI N) (upm ν 57 0 0)) 57 30 0 := by
    unfold muX10_work_5 muX10_work_4
    rw [m3]
  refine ⟨b1, b2, m3, by rw [m3]; exact c1, c2.mono ?_ ?_ ?_, ⟨?_, ?_, ?_, ?_, ?_⟩, fun k hk h30 => ?_, fun r hr => ?_⟩
  · rw [m5, upm_rr, if_neg (by decide)]
  · rw [m5, upm_rr, if_neg (by decide)]
  · rw [m5, upm_other (by decide)]
  · rw [m5, upm_rr, if_neg (by decide), c3]
  · rw [m5, upm_rr, if_neg (by decide), c7]
  · rw [m5, upm_rr, if_pos rfl]
  · rw [m5, upm_rr, if_neg (by decide), c5]
  · rw [m5, upm_rr, if_neg (by decide), c8 0 (by decide) (by decide) (by decide) (by decide) (by decide) (by decide) (by decide), upm_rr, if_pos rfl]
  · rw [m5, upm_rr, if_neg h30, c8 k (by omega) (by omega) (by omega) (by omega) (by omega) (by omega) (by omega), upm_rr, if_neg (by omega), e57]
  · rw [m5, upm_other hr, c9 r hr, upm_other hr]
/-- the class keeps its stand -/
theorem keep_C {R : Mem} {w : Nat} (hw : R 48 2 = nI w) (hw16 : w < 16) : P_X4_keep R ∧ M_X4_keep R = upm (upr R 49 (va_cpy (R 44) (R 49) 0 (69 * w) 69)) 48 2 (nI (w + 1)) := by
  have e : R 48 2 * 69 = nI (69 * w) := by
    rw [hw]
    show nI w * nI 69 = _
    rw [nI_mul, Nat.mul_comm]
  obtain ⟨c1, c2⟩ := sp_copyRow (μ := R) (fr := 44) (to := 49) (nf := 69) (nt := 1104) (sp := 0) (dp := 69 * w) (n := 69) (by omega) (by omega) (by omega) (by omega)
  have e1 : muX4_keep_1 R = upr R 49 (va_cpy (R 44) (R 49) 0 (69 * w) 69) := by
    unfold muX4_keep_1
    rw [e]
    exact c2
  refine ⟨?_, ?_⟩
  · unfold P_X4_keep
    rw [e]
    exact c1
  · unfold M_X4_keep muX4_keep_2
    rw [e1, upr_other (by decide), hw, nI_succ]
/-- the reference keeps its own, and does the STEPS -/
theorem keep_M {N w : Nat} {ν S B19 : Mem} (eS : SX10_work_72 (nI N) ν = S) (eB : muX10_work_19 (nI N) ν = B19) (h39 : S 57 39 = nI w) (hw : w < 16) :
    vp_in (muX10_work_14 (nI N) ν 57 39) 16 ∧ P_X10_copies 521 (527 + (ix (muX10_work_14 (nI N) ν 57 39))) (muX10_work_14 (nI N) ν) ∧
    (∀ k, k ≠ 3 → k ≠ 39 → k ≠ 40 → k ≠ 45 → k ≠ 46 → B19 57 k = S 57 k) ∧ B19 57 3 = -1 ∧ B19 57 39 = nI (w + 1) ∧ B19 57 40 = 0 ∧ B19 57 45 = 0 ∧ B19 57 46 = 0 ∧ (∀ r, r ≠ 57 → r ≠ 527 + w → B19 r = S r) ∧ B19 (527 + w) = cutR (S 521) (S (527 + w)) := by
  have e14 : muX10_work_14 (nI N) ν = upm S 57 3 (-1) := by
    unfold muX10_work_14
    rw [eS]
  have a39 : muX10_work_14 (nI N) ν 57 39 = nI w := by rw [e14, upm_rr, if_neg (by decide), h39]
  have ei : ix (muX10_work_14 (nI N) ν 57 39) = w := by rw [a39, nI_ix (by omega)]
  obtain ⟨c1, c2⟩ := sp_copies (μ := muX10_work_14 (nI N) ν) (fr := 521) (to := 527 + w) (by omega)
  have e15 : muX10_work_15 (nI N) ν = upr (upm S 57 3 (-1)) (527 + w) (cutR (S 521) (S (527 + w))) := by
    unfold muX10_work_15
    rw [ei, c2, e14, upm_other (by decide), upm_other (by omega)]
  have e19 : B19 = upm (upm (upm (upm (upr (upm S 57 3 (-1)) (527 + w) (cutR (S 521) (S (527 + w)))) 57 39 (nI (w + 1))) 57 45 0) 57 46 0) 57 40 0 := by
    rw [← eB]
    unfold muX10_work_19 muX10_work_18 muX10_work_17 muX10_work_16
    rw [e15, upr_other (by omega), upm_rr, if_neg (by decide), h39, nI_succ]
  refine ⟨by rw [a39]; exact vp_in_nI hw (by decide), by rw [ei]; exact c1, fun k k1 k2 k3 k4 k5 => ?_, ?_, ?_, ?_, ?_, ?_, fun r hr hr2 => ?_, ?_⟩
  · rw [e19, upm_rr, if_neg k3, upm_rr, if_neg k5, upm_rr, if_neg k4, upm_rr, if_neg k2, upr_other (by omega), upm_rr, if_neg k1]
  · rw [e19, upm_rr, if_neg (by decide), upm_rr, if_neg (by decide), upm_rr, if_neg (by decide), upm_rr, if_neg (by decide), upr_other (by omega), upm_rr, if_pos rfl]
  · rw [e19, upm_rr, if_neg (by decide), upm_rr, if_neg (by decide), upm_rr, if_neg (by decide), upm_rr, if_pos rfl]
  · rw [e19, upm_rr, if_pos rfl]
  · rw [e19, upm_rr, if_neg (by decide), upm_rr, if_neg (by decide), upm_rr, if_pos rfl]
  · rw [e19, upm_rr, if_neg (by decide), upm_rr, if_pos rfl]
  · rw [e19, upm_other hr, upm_other hr, upm_other hr, upm_other hr, upr_other hr2, upm_other hr]
  · rw [e19, upm_other (by omega), upm_other (by omega), upm_other (by omega), upm_other (by omega), upr_same]
