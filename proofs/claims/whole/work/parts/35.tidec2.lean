/-! a TIDE by the class, whole -/
theorem sp_pass {E : EV} {μ : Mem} {r : Nat → Int32} {th b : Nat} {hh : Int32} (hth : th = 43 ∨ th = 52) (hE : EvC E μ) (hO : EvOK E) (hc : RC0 E (μ (th + 1)) r) (hr : RowOK E b r) :
    P_X5_pass th hh μ ∧ RC0 E (M_X5_pass th hh μ (th + 1)) (passR E hh r) ∧ (∀ h, h < 6 → M_X5_pass th hh μ (th + 1) (62 + h) = μ (th + 1) (62 + h)) ∧
    (∀ h, h < eH E → M_X5_pass th hh μ (th + 2) h = wat E r hh h ∧ M_X5_pass th hh μ (th + 3) h = lostN E r hh (eT E) h ∧ M_X5_pass th hh μ (th + 4) h = wetN E r hh (eT E) h) ∧
    ∀ h, h ≠ th + 1 → h ≠ th + 2 → h ≠ th + 3 → h ≠ th + 4 → M_X5_pass th hh μ h = μ h := by
  have hd := hO.1.1
  have hd1 := hO.1.2.1
  obtain ⟨c1, c2, c3⟩ := passC2 (hh := hh) hth hE hO hc
  have hN2 : NX5_pass_2 th hh μ = eH E := by
    unfold NX5_pass_2
    rw [hE.1, nI_ix (by omega)]
  have o3 : SX5_pass_2 th hh μ 3 = μ 3 := c3 3 (by omega) (by omega) (by omega)
  have hN : NX5_pass_50 th hh μ = eT E := by
    unfold NX5_pass_50
    rw [o3, hE.2.1, nI_ix (by omega)]
  have key := fo_all (fun i (s : Mem) => (∀ k, k < 50 → s (th + 1) k = if k % 10 < i then passR E hh r k else r k) ∧ (∀ k, 50 ≤ k → s (th + 1) k = μ (th + 1) k) ∧
      (∀ h, h < eH E → s (th + 2) h = wat E r hh h ∧ s (th + 3) h = lostN E r hh i h ∧ s (th + 4) h = wetN E r hh i h) ∧ ∀ h, h ≠ th + 1 → h ≠ th + 2 → h ≠ th + 3 → h ≠ th + 4 → s h = μ h)
    (Pb_X5_pass_50 th hh) (eT E) (g_X5_pass_50 th hh) (SX5_pass_2 th hh μ) ⟨fun k hk => ?_, fun k hk => ?_, c2, fun h _ a2 a3 a4 => c3 h a2 a3 a4⟩ ?_
  · obtain ⟨k1, k2, k3, k4, k5⟩ := key
    have hS : SX5_pass_50 th hh μ = fo (eT E) (g_X5_pass_50 th hh) (SX5_pass_2 th hh μ) := by
      unfold SX5_pass_50
      rw [hN]
    rw [← hS] at k2 k3 k4 k5
    have hM : M_X5_pass th hh μ = upm (SX5_pass_50 th hh μ) (th + 1) 68 (r 62 + 1) := by
      unfold M_X5_pass muX5_pass_1
      rw [setT, ofT, k3 68 (by omega), hc.2.2.2]
    refine ⟨?_, ?_, ?_, ?_, ?_⟩
    · unfold P_X5_pass
      rw [hN, hN2, o3, hE.1]
      refine ⟨c1, fun _ => ⟨k1, fun _ => trivial, fun q => ?_⟩, fun q => absurd q (Int32.not_lt.mpr (Int32.le_refl _))⟩
      rw [k5 3 (by omega) (by omega) (by omega) (by omega), hE.2.1] at q
      exact absurd q (Int32.not_lt.mpr (Int32.le_refl _))
    · rw [hM]
      refine ⟨fun k hk => ?_, fun h hl => ?_, fun h hl => ?_, ?_⟩
      · rw [upm_rr, if_neg (by omega), k2 k hk]
        by_cases hi : k % 10 < eT E
        · rw [if_pos hi]
        · rw [if_neg hi]
          have : k = k % 10 ∨ k = 10 + k % 10 ∨ k = 20 + k % 10 ∨ k = 30 + k % 10 ∨ k = 40 + k % 10 := by omega
          have hm : k % 10 < 10 := by omega
          generalize k % 10 = i at this hi hm
          rcases this with h | h | h | h | h <;> rw [h]
          · rw [pass0 hm, if_neg (fun q => hi q.1)]
          · rw [pass10 hm]
          · rw [pass20 hm, if_neg (fun q => hi q.1)]
          · rw [pass30 hm, if_neg (fun q => hi q.1)]
          · rw [pass40 hm, if_neg (fun q => hi q.1)]
      · rw [upm_rr, if_neg (by omega), k3 _ (by omega), hc.2.1 h hl, pass50 (by omega) (by omega)]
      · rw [upm_rr, if_neg (by omega), k3 _ (by omega), hc.2.2.1 h hl, pass50 (by omega) (by omega)]
      · rw [upm_rr, if_pos rfl, pass62]
    · intro h hl
      rw [hM, upm_rr, if_neg (by omega), k3 _ (by omega)]
    · intro h hl
      rw [hM, upm_other (by omega), upm_other (by omega), upm_other (by omega)]
      exact k4 h hl
    · intro h a1 a2 a3 a4
      rw [hM, upm_other a1]
      exact k5 h a1 a2 a3 a4
  · rw [if_neg (by omega), c3 (th + 1) (by omega) (by omega) (by omega)]
    exact hc.1 k hk
  · rw [c3 (th + 1) (by omega) (by omega) (by omega)]
  · intro i hi s ⟨h1, h2, h3, h4⟩
    have hi10 : i < 10 := by omega
    have hri := hr.1 i hi
    have s0 : s (th + 1) i = r i := by rw [h1 i (by omega), if_neg (by omega)]
    have s1 : s (th + 1) (10 + i) = r (10 + i) := by rw [h1 _ (by omega), if_neg (by omega)]
    have s2 : s (th + 1) (20 + i) = r (20 + i) := by rw [h1 _ (by omega), if_neg (by omega)]
    have s3 : s (th + 1) (30 + i) = r (30 + i) := by rw [h1 _ (by omega), if_neg (by omega)]
    have s4 : s (th + 1) (40 + i) = r (40 + i) := by rw [h1 _ (by omega), if_neg (by omega)]
    have o3' : s 3 = μ 3 := h4 3 (by omega) (by omega) (by omega) (by omega)
    have hPb : Pb_X5_pass_50 th hh i s := by
      unfold Pb_X5_pass_50
      rw [o3', hE.2.1]
      exact ⟨fun q => absurd q (nI_ge hi (by omega)), fun _ => trivial⟩
    refine ⟨hPb, ?_⟩
    have hdn : F_X5_isDown th (nI i) s = if r i = -1 then 0 else if r (10 + i) ≠ 0 then 0 else 1 := by
      unfold F_X5_isDown
      rw [of0 (by omega), of10 (by omega), s0, s1]
    by_cases hW : isW E r hh i = true
    · obtain ⟨h, hl, eh⟩ := isW_h hri hW
      have eih : ix (nI h) = h := nI_ix (by omega)
      obtain ⟨w1, w2, w3⟩ := of_decide_eq_true (show decide (r i ≠ -1 ∧ r (10 + i) = 0 ∧ 0 < wat E r hh (ix (r i))) = true from hW)
      rw [eh, eih] at w3
      obtain ⟨z1, z2, z3⟩ := h3 h hl
      have g0 : g_X5_pass_50 th hh i s = M_X5_soak th (nI i) (nI h) s := by
        unfold g_X5_pass_50 VX5_pass_50_2
        rw [hdn, if_neg w1, if_neg (not_not_intro w2), if_neg (by decide), of0 (by omega), s0, eh, at_k (by omega) (by omega), z1, if_neg (Int32.not_le.mpr w3)]
        unfold muX5_pass_50_1
        rw [of0 (by omega), s0, eh]
      have k1 : muX5_soak_1 th (nI i) (nI h) s = upm s (th + 4) h (wetN E r hh i h + 1) := by
        unfold muX5_soak_1
        rw [put_k (by omega) (by omega), at_k (by omega) (by omega), z3]
      have k2 : muX5_soak_2 th (nI i) (nI h) s = upm (upm s (th + 4) h (wetN E r hh i h + 1)) (th + 1) (40 + i) (imax 0 (r (40 + i) - 1)) := by
        unfold muX5_soak_2
        rw [k1, set40 (by omega), of40 (by omega), upm_other (by omega), s4]
      have kf : F_X9_at 7 10 (nI i) (muX5_soak_2 th (nI i) (nI h) s) = eX E i 2 := by
        rw [k2, at_k (by omega) (by omega), upm_other (by omega), upm_other (by omega), h4 7 (by omega) (by omega) (by omega) (by omega)]
        exact (hE.2.2.2.2.2.2.2.2.1 i hi).2.2.1
      have kd : F_X9_at (th + 2) 6 (nI h) (muX5_soak_2 th (nI i) (nI h) s) = wat E r hh h := by
        rw [k2, at_k (by omega) (by omega), upm_other (by omega), upm_other (by omega), z1]
      have ku : F_X5_of th 20 (nI i) (muX5_soak_2 th (nI i) (nI h) s) = r (20 + i) := by
        rw [k2, of20 (by omega), upm_rr, if_neg (by omega), upm_other (by omega), s2]
      have kn : F_X5_of th 30 (nI i) (muX5_soak_2 th (nI i) (nI h) s) = r (30 + i) := by
        rw [k2, of30 (by omega), upm_rr, if_neg (by omega), upm_other (by omega), s3]
      have k3 : muX5_soak_2 th (nI i) (nI h) s 3 = μ 3 := by
        rw [k2, upm_other (by omega), upm_other (by omega), o3']
      have hwet : ∀ h', h' < eH E → (if h' = h then wetN E r hh i h + 1 else s (th + 4) h') = wetN E r hh (i + 1) h' := by
        intro h' hl'
        rw [wetN_s]
        by_cases q : h' = h
        · subst q
          rw [if_pos rfl, if_pos ⟨hW, eh⟩]
        · rw [if_neg q, if_neg, (h3 h' hl').2.2]
          intro z
          rw [eh] at z
          exact q ((nI_eq (by omega) (by omega)).mp z.2).symm
      by_cases hA : isA E r hh i = true
      · have hfl : eX E i 2 ≤ wat E r hh h := by
          have := of_decide_eq_true (Bool.and_eq_true_iff.mp (show (isW E r hh i && decide (eX E i 2 ≤ wat E r hh (ix (r i)))) = true from hA)).2
          rw [eh, eih] at this
          exact this
        by_cases hu : r (20 + i) = 0
        · have g : g_X5_pass_50 th hh i s = upm (upm (upm (upm s (th + 4) h (wetN E r hh i h + 1)) (th + 1) (40 + i) (imax 0 (r (40 + i) - 1))) (th + 3) h (lostN E r hh i h + 1)) (th + 1) i (if nI (eH E) ≤ nI h + 1 then -1 else nI h + 1) := by
            rw [g0]
            unfold M_X5_soak
            rw [kf, kd, if_pos hfl, ku, if_neg (not_not_intro hu)]
            have k8 : muX5_soak_8 th (nI i) (nI h) s = upm (muX5_soak_2 th (nI i) (nI h) s) (th + 3) h (lostN E r hh i h + 1) := by
              unfold muX5_soak_8
              rw [put_k (by omega) (by omega), at_k (by omega) (by omega), k2, upm_other (show th + 3 ≠ th + 1 by omega), upm_other (show th + 3 ≠ th + 4 by omega), z2]
            unfold muX5_soak_10 VX5_soak_9
            rw [set0 (by omega), k8, upm_other (show 3 ≠ th + 3 by omega), k3, hE.1, k2]
          rw [g]
          refine ⟨mix_step hi10 h1 (fun k hk hki => ?_) ?_ ?_ ?_ ?_ ?_, fun k hk => ?_, fun h' hl' => ⟨?_, ?_, ?_⟩, fun h' a1 a2 a3 a4 => ?_⟩
          · rw [upm_rr, if_neg (by omega), upm_other (by omega), upm_rr, if_neg (by omega), upm_other (by omega)]
          · rw [upm_rr, if_pos rfl, (pass0 (E := E) (hh := hh) (r := r) hi10).trans (if_pos ⟨hi, hA, hu⟩), eh]
          · rw [upm_rr, if_neg (by omega), upm_other (by omega), upm_rr, if_neg (by omega), upm_other (by omega), pass10 hi10, s1]
          · rw [upm_rr, if_neg (by omega), upm_other (by omega), upm_rr, if_neg (by omega), upm_other (by omega), pass20 hi10, if_neg (fun q => q.2.2 hu), s2]
          · rw [upm_rr, if_neg (by omega), upm_other (by omega), upm_rr, if_neg (by omega), upm_other (by omega), pass30 hi10, if_neg (fun q => q.2.2 hu), s3]
          · rw [upm_rr, if_neg (by omega), upm_other (by omega), upm_rr, if_pos rfl, pass40 hi10, if_pos ⟨hi, hW⟩]
          · rw [upm_rr, if_neg (by omega), upm_other (by omega), upm_rr, if_neg (by omega), upm_other (by omega), h2 k hk]
          · rw [upm_other (by omega), upm_other (by omega), upm_other (by omega), upm_other (by omega), (h3 h' hl').1]
          · rw [upm_other (by omega), upm_rr, lostN_s]
            by_cases q : h' = h
            · subst q
              rw [if_pos rfl, if_pos ⟨hA, hu, eh⟩]
            · rw [if_neg q, upm_other (by omega), upm_other (by omega), if_neg, (h3 h' hl').2.1]
              intro z
              rw [eh] at z
              exact q ((nI_eq (by omega) (by omega)).mp z.2.2).symm
          · rw [upm_other (by omega), upm_other (by omega), upm_other (by omega), upm_rr]
            exact hwet h' hl'
          · rw [upm_other a1, upm_other a3, upm_other a1, upm_other a4, h4 h' a1 a2 a3 a4]
        · have hu1 : r (20 + i) = 1 := by
            rcases hr.2.2.1 i hi with q | q
            · exact absurd q hu
            · exact q
          have g : g_X5_pass_50 th hh i s = upm (upm (upm (upm s (th + 4) h (wetN E r hh i h + 1)) (th + 1) (40 + i) (imax 0 (r (40 + i) - 1))) (th + 1) (20 + i) (if eP E ≤ r (30 + i) + 1 then 0 else 1)) (th + 1) (30 + i) (if eP E ≤ r (30 + i) + 1 then 0 else r (30 + i) + 1) := by
            rw [g0]
            unfold M_X5_soak
            rw [kf, kd, if_pos hfl, ku, if_pos hu]
            have v3 : VX5_soak_3 th (nI i) (nI h) s = if eP E ≤ r (30 + i) + 1 then 0 else 1 := by
              unfold VX5_soak_3
              rw [k3, kn, hE.2.2.2.2.2.1]
            have v4 : VX5_soak_4 th (nI i) (nI h) s = if eP E ≤ r (30 + i) + 1 then 0 else 1 := by
              unfold VX5_soak_4
              rw [v3]
              by_cases q : eP E ≤ r (30 + i) + 1
              · rw [if_pos q, if_pos rfl]
              · rw [if_neg q, if_neg (by decide)]
            have v6 : VX5_soak_6 th (nI i) (nI h) s = if eP E ≤ r (30 + i) + 1 then 0 else r (30 + i) + 1 := by
              unfold VX5_soak_6
              rw [v3, kn]
              by_cases q : eP E ≤ r (30 + i) + 1
              · rw [if_pos q, if_pos rfl, if_pos q]
              · rw [if_neg q, if_neg (by decide), if_neg q]
            unfold muX5_soak_7 muX5_soak_5
            rw [v4, v6, k2, set20 (by omega), set30 (by omega)]
          rw [g]
          refine ⟨mix_step hi10 h1 (fun k hk hki => ?_) ?_ ?_ ?_ ?_ ?_, fun k hk => ?_, fun h' hl' => ⟨?_, ?_, ?_⟩, fun h' a1 a2 a3 a4 => ?_⟩
          · rw [upm_rr, if_neg (by omega), upm_rr, if_neg (by omega), upm_rr, if_neg (by omega), upm_other (by omega)]
          · rw [upm_rr, if_neg (by omega), upm_rr, if_neg (by omega), upm_rr, if_neg (by omega), upm_other (by omega), pass0 hi10, if_neg (fun q => hu q.2.2), s0]
          · rw [upm_rr, if_neg (by omega), upm_rr, if_neg (by omega), upm_rr, if_neg (by omega), upm_other (by omega), pass10 hi10, s1]
          · rw [upm_rr, if_neg (by omega), upm_rr, if_pos rfl, (pass20 (E := E) (hh := hh) (r := r) hi10).trans (if_pos ⟨hi, hA, hu⟩), hu1]
          · rw [upm_rr, if_pos rfl, (pass30 (E := E) (hh := hh) (r := r) hi10).trans (if_pos ⟨hi, hA, hu⟩)]
          · rw [upm_rr, if_neg (by omega), upm_rr, if_neg (by omega), upm_rr, if_pos rfl, pass40 hi10, if_pos ⟨hi, hW⟩]
          · rw [upm_rr, if_neg (by omega), upm_rr, if_neg (by omega), upm_rr, if_neg (by omega), upm_other (by omega), h2 k hk]
          · rw [upm_other (by omega), upm_other (by omega), upm_other (by omega), upm_other (by omega), (h3 h' hl').1]
          · rw [upm_other (by omega), upm_other (by omega), upm_other (by omega), upm_other (by omega), lostN_s, if_neg (fun q => hu q.2.1), (h3 h' hl').2.1]
          · rw [upm_other (by omega), upm_other (by omega), upm_other (by omega), upm_rr]
            exact hwet h' hl'
          · rw [upm_other a1, upm_other a1, upm_other a1, upm_other a4, h4 h' a1 a2 a3 a4]
      · have hfl : ¬ eX E i 2 ≤ wat E r hh h := by
          intro q
          apply hA
          show (isW E r hh i && decide (eX E i 2 ≤ wat E r hh (ix (r i)))) = true
          rw [eh, eih, hW, Bool.true_and]
          exact decide_eq_true q
        have g : g_X5_pass_50 th hh i s = upm (upm s (th + 4) h (wetN E r hh i h + 1)) (th + 1) (40 + i) (imax 0 (r (40 + i) - 1)) := by
          rw [g0]
          unfold M_X5_soak
          rw [kf, kd, if_neg hfl, k2]
        rw [g]
        refine ⟨mix_step hi10 h1 (fun k hk hki => ?_) ?_ ?_ ?_ ?_ ?_, fun k hk => ?_, fun h' hl' => ⟨?_, ?_, ?_⟩, fun h' a1 a2 a3 a4 => ?_⟩
        · rw [upm_rr, if_neg (by omega), upm_other (by omega)]
        · rw [upm_rr, if_neg (by omega), upm_other (by omega), pass0 hi10, if_neg (fun q => hA q.2.1), s0]
        · rw [upm_rr, if_neg (by omega), upm_other (by omega), pass10 hi10, s1]
        · rw [upm_rr, if_neg (by omega), upm_other (by omega), pass20 hi10, if_neg (fun q => hA q.2.1), s2]
        · rw [upm_rr, if_neg (by omega), upm_other (by omega), pass30 hi10, if_neg (fun q => hA q.2.1), s3]
        · rw [upm_rr, if_pos rfl, pass40 hi10, if_pos ⟨hi, hW⟩]
        · rw [upm_rr, if_neg (by omega), upm_other (by omega), h2 k hk]
        · rw [upm_other (by omega), upm_other (by omega), (h3 h' hl').1]
        · rw [upm_other (by omega), upm_other (by omega), lostN_s, if_neg (fun q => hA q.1), (h3 h' hl').2.1]
        · rw [upm_other (by omega), upm_rr]
          exact hwet h' hl'
        · rw [upm_other a1, upm_other a4, h4 h' a1 a2 a3 a4]
    · have hA : ¬ isA E r hh i = true := fun q => hW (isA_W q)
      have g : g_X5_pass_50 th hh i s = s := by
        unfold g_X5_pass_50 VX5_pass_50_2
        rw [hdn]
        rcases hri with q | ⟨h, hl, eh⟩
        · rw [if_pos q, if_pos rfl]
        · by_cases q1 : r i = -1
          · rw [if_pos q1, if_pos rfl]
          · rw [if_neg q1]
            by_cases q2 : r (10 + i) = 0
            · rw [if_neg (not_not_intro q2), if_neg (by decide), of0 (by omega), s0, eh, at_k (by omega) (by omega), (h3 h hl).1, if_pos]
              apply Int32.not_lt.mp
              intro q3
              apply hW
              show decide (r i ≠ -1 ∧ r (10 + i) = 0 ∧ 0 < wat E r hh (ix (r i))) = true
              refine decide_eq_true ⟨q1, q2, ?_⟩
              rw [eh, nI_ix (by omega)]
              exact q3
            · rw [if_pos q2, if_pos rfl]
      rw [g]
      refine ⟨mix_step hi10 h1 (fun _ _ _ => rfl) ?_ ?_ ?_ ?_ ?_, h2, fun h' hl' => ?_, h4⟩
      · rw [pass0 hi10, if_neg (fun q => hA q.2.1), s0]
      · rw [pass10 hi10, s1]
      · rw [pass20 hi10, if_neg (fun q => hA q.2.1), s2]
      · rw [pass30 hi10, if_neg (fun q => hA q.2.1), s3]
      · rw [pass40 hi10, if_neg (fun q => hW q.2), s4]
      · rw [lostN_s, wetN_s, if_neg (fun z => hA z.1), if_neg (fun z => hW z.1)]
        exact h3 h' hl'
theorem LwC.mono {L : LW} {μ μ' : Mem} (hR : LwC L μ) (h21 : μ' 21 4 = μ 21 4) (h22 : μ' 22 = μ 22) (h23 : μ' 23 = μ 23) : LwC L μ' := by
  unfold LwC at hR ⊢
  rw [h21, h22, h23]
  exact hR
theorem sp_payDues {E : EV} {L : LW} {μ : Mem} {r : Nat → Int32} {th : Nat} {hh rn : Int32} (hth : th = 43 ∨ th = 52) (hE : EvC E μ) (hO : EvOK E) (hL : LwOK L) (hR : LwC L μ) (hT : μ (th + 1) 68 = r 62 + 1)
    (hw : ∀ h, h < eH E → μ (th + 2) h = wat E r hh h ∧ μ (th + 3) h = lostN E r hh (eT E) h ∧ μ (th + 4) h = wetN E r hh (eT E) h) :
    P_X5_payDues th rn μ ∧ (∀ k, M_X5_payDues th rn μ (th + 1) k = if 62 ≤ k ∧ k - 62 < eH E then μ (th + 1) k + dueR E L r hh rn (k - 62) else μ (th + 1) k) ∧ ∀ h, h ≠ th + 1 → h ≠ 24 → h ≠ 25 → M_X5_payDues th rn μ h = μ h := by
  have hd := hO.1.1
  have hN : NX5_payDues_3 th rn μ = eH E := by
    unfold NX5_payDues_3
    rw [hE.1, nI_ix (by omega)]
  have key := fo_all (fun i (s : Mem) => (∀ k, s (th + 1) k = if 62 ≤ k ∧ k - 62 < i then μ (th + 1) k + dueR E L r hh rn (k - 62) else μ (th + 1) k) ∧ ∀ h, h ≠ th + 1 → h ≠ 24 → h ≠ 25 → s h = μ h)
    (Pb_X5_payDues_3 th rn) (eH E) (g_X5_payDues_3 th rn) μ ⟨fun k => by rw [if_neg (by omega)], fun _ _ _ _ => rfl⟩ ?_
  · obtain ⟨k1, k2, k3⟩ := key
    have hS : SX5_payDues_3 th rn μ = fo (eH E) (g_X5_payDues_3 th rn) μ := by
      unfold SX5_payDues_3
      rw [hN]
    unfold P_X5_payDues M_X5_payDues
    rw [hS, hN]
    refine ⟨⟨k1, fun _ => trivial, fun q => ?_⟩, k2, k3⟩
    rw [k3 3 (by omega) (by omega) (by omega), hE.1] at q
    exact absurd q (Int32.not_lt.mpr (Int32.le_refl _))
  · intro i hi s ⟨h1, h2⟩
    have o3 : s 3 = μ 3 := h2 3 (by omega) (by omega) (by omega)
    obtain ⟨z1, z2, z3⟩ := hw i hi
    have e1 : F_X9_at (th + 2) 6 (nI i) s = wat E r hh i := by rw [at_k (by omega) (by omega), h2 _ (by omega) (by omega) (by omega), z1]
    have e2 : F_X9_at (th + 3) 6 (nI i) s = lostN E r hh (eT E) i := by rw [at_k (by omega) (by omega), h2 _ (by omega) (by omega) (by omega), z2]
    have e3 : F_X9_at (th + 4) 6 (nI i) s = wetN E r hh (eT E) i := by rw [at_k (by omega) (by omega), h2 _ (by omega) (by omega) (by omega), z3]
    have e4 : F_X5_tideToCome th s - 1 = r 62 := by
      have hE6 : eH E ≤ 6 := hd
      rw [ofT, h1, if_neg (by omega), hT]
      exact Int32.add_sub_cancel _ _
    have hR' : LwC L s := hR.mono (by rw [h2 21 (by omega) (by omega) (by omega)]) (h2 22 (by omega) (by omega) (by omega)) (h2 23 (by omega) (by omega) (by omega))
    obtain ⟨d1, d2, d3⟩ := sp_dueByC (d := wat E r hh i) (l := lostN E r hh (eT E) i) (w := wetN E r hh (eT E) i) (t := r 62) (r := rn) (h := nI i) hL hR'
    refine ⟨?_, ?_⟩
    · unfold Pb_X5_payDues_3
      rw [o3, hE.1, e1, e2, e3, e4]
      exact ⟨fun q => absurd q (nI_ge hi (by omega)), fun _ => ⟨fun _ => trivial, fun _ => d1⟩⟩
    · by_cases hz : wat E r hh i = 0
      · have g : g_X5_payDues_3 th rn i s = s := by
          unfold g_X5_payDues_3 VX5_payDues_3_3
          rw [e1, hz, if_pos (Int32.le_refl _)]
        rw [g]
        refine ⟨fun k => ?_, h2⟩
        rw [h1 k]
        by_cases hk : k = 62 + i
        · subst hk
          rw [if_neg (by omega), if_pos (by omega), show 62 + i - 62 = i by omega]
          unfold dueR
          rw [if_pos hz, Int32.add_zero]
        · by_cases q : 62 ≤ k ∧ k - 62 < i
          · rw [if_pos q, if_pos (by omega)]
          · rw [if_neg q, if_neg (by omega)]
      · have hz' : ¬ wat E r hh i ≤ 0 := by
          have : 0 ≤ wat E r hh i := imax0 _
          grind
        have g : g_X5_payDues_3 th rn i s = upm (M_X1_dueBy (wat E r hh i) (lostN E r hh (eT E) i) (wetN E r hh (eT E) i) (r 62) rn (nI i) s) (th + 1) (62 + i) (μ (th + 1) (62 + i) + dueR E L r hh rn i) := by
          unfold g_X5_payDues_3 VX5_payDues_3_3
          rw [e1, if_neg hz']
          unfold muX5_payDues_3_2 muX5_payDues_3_1
          rw [e1, e2, e3, e4, set62 (by omega), of62 (by omega), d2, d3 (th + 1) (by omega) (by omega), h1, if_neg (by omega)]
          unfold dueR
          rw [if_neg hz]
        rw [g]
        refine ⟨fun k => ?_, fun h a1 a2 a3 => ?_⟩
        · rw [upm_rr, d3 (th + 1) (by omega) (by omega), h1 k]
          by_cases hk : k = 62 + i
          · subst hk
            rw [if_pos rfl, if_pos (by omega), show 62 + i - 62 = i by omega]
          · rw [if_neg hk]
            by_cases q : 62 ≤ k ∧ k - 62 < i
            · rw [if_pos q, if_pos (by omega)]
            · rw [if_neg q, if_neg (by omega)]
        · rw [upm_other a1, d3 h a2 a3, h2 h a1 a2 a3]
