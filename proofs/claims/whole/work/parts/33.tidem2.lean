/-! a TIDE by the reference, whole -/
theorem sp_dueOf {E : EV} {L : LW} {μ : Mem} {r : Nat → Int32} {row h : Nat} {hh : Int32} (hO : EvOK E) (hL : LwOK L) (hR : LwR L μ) (hl : h < eH E) (h1 : μ 523 h = wat E r hh h) (h2 : μ 524 h = lostN E r hh (eT E) h) (h3 : μ 525 h = wetN E r hh (eT E) h) (h4 : μ row 62 = r 62) :
    P_X10_dueOf row (nI h) μ ∧ F_X10_dueOf row (nI h) μ = dueR E L r hh (μ 57 44) h ∧ ∀ q, q ≠ 438 → q ≠ 439 → M_X10_dueOf row (nI h) μ q = μ q := by
  have hd := hO.1.1
  have v : vp_in (nI h) 6 := vp_in_nI (by omega) (by omega)
  unfold P_X10_dueOf F_X10_dueOf M_X10_dueOf muX10_dueOf_1 dueR
  rw [nI_ix (by omega), h1, h2, h3, h4]
  obtain ⟨d1, d2, d3⟩ := sp_dueBy (d := wat E r hh h) (l := lostN E r hh (eT E) h) (w := wetN E r hh (eT E) h) (t := r 62) (r := μ 57 44) (h := nI h) hL hR
  by_cases hz : wat E r hh h = 0
  · rw [if_neg (not_not_intro hz), if_pos hz, if_neg (not_not_intro hz)]
    exact ⟨⟨v, fun q => absurd hz q, fun _ => trivial⟩, rfl, fun _ _ _ => rfl⟩
  · rw [if_pos hz, if_neg hz, if_pos hz]
    exact ⟨⟨v, fun _ => ⟨v, v, v, d1⟩, fun q => absurd q hz⟩, d2, d3⟩
theorem LwR.mono {L : LW} {μ μ' : Mem} (hR : LwR L μ) (hL : LwOK L) (h57 : μ' 57 21 = μ 57 21) (h : ∀ q, 103 ≤ q → q ≤ 252 → μ' q = μ q) : LwR L μ' := by
  have hn := hL.2.1
  rcases hR with ⟨e, h0⟩ | ⟨h1, h2⟩
  · exact Or.inl ⟨e, by rw [h57]; exact h0⟩
  · refine Or.inr ⟨by rw [h57]; exact h1, fun i hi => ?_⟩
    rw [h (103 + i) (by omega) (by omega)]
    exact h2 i hi
theorem dues7 {E : EV} {L : LW} {μ : Mem} {row a b : Nat} (hrow : row = 521 ∨ row = 522) (hE : EvM E μ) (hO : EvOK E) (hL : LwOK L) (hR : LwR L μ) (hr : RowOK E b (μ row)) (ha : a < 2 ^ 31) (ht : μ row 62 = nI a) :
    (∀ j, j < eH E → Pb_X10_tideComes_7 row j (fo j (g_X10_tideComes_7 row) (muX10_tideComes_1 row μ))) ∧
    (∀ k, SX10_tideComes_7 row μ row k = if 56 ≤ k ∧ k - 56 < eH E then μ row k + dueR E L (μ row) (hgt E a + μ 57 43) (μ 57 44) (k - 56) else μ row k) ∧
    (∀ h, h < eH E → SX10_tideComes_7 row μ 523 h = wat E (μ row) (hgt E a + μ 57 43) h) ∧
    ∀ h, h ≠ row → h ≠ 438 → h ≠ 439 → h ≠ 523 → h ≠ 524 → h ≠ 525 → SX10_tideComes_7 row μ h = μ h := by
  have hd := hO.1.1
  obtain ⟨-, c2, c3⟩ := sp_counts hrow hE hO hr ha ht
  generalize hhh : hgt E a + μ 57 43 = hh at c2 ⊢
  have hN : NX10_tideComes_7 row μ = eH E := by
    unfold NX10_tideComes_7 muX10_tideComes_1
    rw [c3 61 (by omega) (by omega) (by omega), hE.1, nI_ix (by omega)]
  have key := fo_all (fun i (s : Mem) => (∀ k, s row k = if 56 ≤ k ∧ k - 56 < i then μ row k + dueR E L (μ row) hh (μ 57 44) (k - 56) else μ row k) ∧
      (∀ h, h < eH E → s 523 h = wat E (μ row) hh h ∧ s 524 h = lostN E (μ row) hh (eT E) h ∧ s 525 h = wetN E (μ row) hh (eT E) h) ∧ ∀ h, h ≠ row → h ≠ 438 → h ≠ 439 → h ≠ 523 → h ≠ 524 → h ≠ 525 → s h = μ h)
    (Pb_X10_tideComes_7 row) (eH E) (g_X10_tideComes_7 row) (muX10_tideComes_1 row μ) ⟨fun k => ?_, c2, fun h a1 _ _ a2 a3 a4 => c3 h a2 a3 a4⟩ ?_
  · obtain ⟨k1, k2, k3, k4⟩ := key
    have hS : SX10_tideComes_7 row μ = fo (eH E) (g_X10_tideComes_7 row) (muX10_tideComes_1 row μ) := by
      unfold SX10_tideComes_7
      rw [hN]
    rw [hS]
    exact ⟨k1, k2, fun h hl => (k3 h hl).1, k4⟩
  · rw [if_neg (by omega)]
    unfold muX10_tideComes_1
    rw [c3 row (by omega) (by omega) (by omega)]
  · intro i hi s ⟨h1, h2, h3⟩
    obtain ⟨z1, z2, z3⟩ := h2 i hi
    have e57 : s 57 = μ 57 := h3 57 (by omega) (by omega) (by omega) (by omega) (by omega) (by omega)
    have hR' : LwR L s := hR.mono hL (by rw [e57]) (fun q q1 q2 => h3 q (by omega) (by omega) (by omega) (by omega) (by omega) (by omega))
    have e62 : s row 62 = μ row 62 := by rw [h1, if_neg (by omega)]
    obtain ⟨d1, d2, d3⟩ := sp_dueOf (row := row) hO hL hR' hi z1 z2 z3 e62
    rw [e57] at d2
    have i56 : ix (56 + nI i) = 56 + i := by rw [c56, nI_ix (by omega)]
    have v56 : vp_in (56 + nI i) 63 := by rw [c56]; exact vp_in_nI (by omega) (by omega)
    have e56 : s row (56 + i) = μ row (56 + i) := by rw [h1, if_neg (by omega)]
    have g : g_X10_tideComes_7 row i s = upm (M_X10_dueOf row (nI i) s) row (56 + i) (μ row (56 + i) + dueR E L (μ row) hh (μ 57 44) i) := by
      unfold g_X10_tideComes_7 muX10_tideComes_7_2 muX10_tideComes_7_1
      rw [i56, e56, d2]
    refine ⟨?_, ?_, ?_, ?_⟩
    · unfold Pb_X10_tideComes_7
      rw [h3 61 (by omega) (by omega) (by omega) (by omega) (by omega) (by omega), hE.1]
      exact ⟨fun q => absurd q (nI_ge hi (by omega)), fun _ => ⟨v56, d1, v56⟩⟩
    · intro k
      rw [g, upm_rr, d3 row (by omega) (by omega), h1]
      by_cases hk : k = 56 + i
      · subst hk
        rw [if_pos rfl, if_pos (by omega), show 56 + i - 56 = i by omega]
      · rw [if_neg hk]
        by_cases q : 56 ≤ k ∧ k - 56 < i
        · rw [if_pos q, if_pos (by omega)]
        · rw [if_neg q, if_neg (by omega)]
    · intro h hl
      rw [g, upm_other (by omega), upm_other (by omega), upm_other (by omega), d3 523 (by decide) (by decide), d3 524 (by decide) (by decide), d3 525 (by decide) (by decide)]
      exact h2 h hl
    · intro h a1 a2 a3 a4 a5 a6
      rw [g, upm_other a1, d3 h a2 a3]
      exact h3 h a1 a2 a3 a4 a5 a6
theorem sp_tideComes {E : EV} {L : LW} {μ : Mem} {row a b : Nat} (hrow : row = 521 ∨ row = 522) (hE : EvM E μ) (hO : EvOK E) (hL : LwOK L) (hR : LwR L μ) (hr : RowOK E b (μ row)) (ha : a < 2 ^ 30) (ht : μ row 62 = nI a) :
    P_X10_tideComes row μ ∧ M_X10_tideComes row μ row = tideR E L (hgt E a + μ 57 43) (μ 57 44) (μ row) ∧
    ∀ h, h ≠ row → h ≠ 438 → h ≠ 439 → h ≠ 523 → h ≠ 524 → h ≠ 525 → M_X10_tideComes row μ h = μ h := by
  have hd := hO.1.1
  have hd1 := hO.1.2.1
  have ha' : a < 2 ^ 31 := by omega
  obtain ⟨p1, c2, c3⟩ := sp_counts hrow hE hO hr ha' ht
  obtain ⟨p2, d2, d3, d4⟩ := dues7 hrow hE hO hL hR hr ha' ht
  clear c2
  generalize hhh : hgt E a + μ 57 43 = hh at d2 d3 ⊢
  generalize hrn : μ 57 44 = rn at d2 ⊢
  have hN7 : NX10_tideComes_7 row μ = eH E := by
    unfold NX10_tideComes_7 muX10_tideComes_1
    rw [c3 61 (by omega) (by omega) (by omega), hE.1, nI_ix (by omega)]
  have o61 : SX10_tideComes_7 row μ 61 = μ 61 := d4 61 (by omega) (by omega) (by omega) (by omega) (by omega) (by omega)
  have hN : NX10_tideComes_40 row μ = eT E := by
    unfold NX10_tideComes_40
    rw [o61, hE.2.1, nI_ix (by omega)]
  have key := fo_all (fun i (s : Mem) => (∀ k, k < 50 → s row k = if k % 10 < i then passR E hh (μ row) k else μ row k) ∧ (∀ k, 50 ≤ k → s row k = SX10_tideComes_7 row μ row k) ∧
      (∀ h, h < eH E → s 523 h = wat E (μ row) hh h) ∧ ∀ h, h ≠ row → h ≠ 438 → h ≠ 439 → h ≠ 523 → h ≠ 524 → h ≠ 525 → s h = μ h)
    (Pb_X10_tideComes_40 row) (eT E) (g_X10_tideComes_40 row) (SX10_tideComes_7 row μ) ⟨fun k hk => ?_, fun _ _ => rfl, d3, d4⟩ ?_
  · obtain ⟨k1, k2, k3, k4, k5⟩ := key
    have hS : SX10_tideComes_40 row μ = fo (eT E) (g_X10_tideComes_40 row) (SX10_tideComes_7 row μ) := by
      unfold SX10_tideComes_40
      rw [hN]
    refine ⟨?_, ?_, ?_⟩
    · unfold P_X10_tideComes
      rw [hS, hN, hN7, o61, hE.1]
      refine ⟨p1, p2, fun _ => ⟨k1, fun _ => trivial, fun q => ?_⟩, fun q => absurd q (Int32.not_lt.mpr (Int32.le_refl _))⟩
      rw [k5 61 (by omega) (by omega) (by omega) (by omega) (by omega) (by omega), hE.2.1] at q
      exact absurd q (Int32.not_lt.mpr (Int32.le_refl _))
    · unfold M_X10_tideComes muX10_tideComes_2
      rw [hS]
      funext k
      rw [upm_rr]
      unfold tideR
      by_cases hk : k = 62
      · subst hk
        rw [if_pos rfl, if_neg (by omega), pass62, k3 62 (by omega), d2, if_neg (by omega)]
      · rw [if_neg hk]
        by_cases h50 : k < 50
        · rw [if_neg (show ¬ (56 ≤ k ∧ k < 62 ∧ k - 56 < eH E) by omega), k2 k h50]
          by_cases hi : k % 10 < eT E
          · rw [if_pos hi]
          · rw [if_neg hi]
            have : k = k % 10 ∨ k = 10 + k % 10 ∨ k = 20 + k % 10 ∨ k = 30 + k % 10 ∨ k = 40 + k % 10 := by omega
            have hm : k % 10 < 10 := by omega
            generalize k % 10 = i at this hi hm
            rcases this with h | h | h | h | h <;> rw [h]
            · rw [pass0 hm, if_neg (fun q => hi q.1)]
            · rw [pass10 hm]
            · rw [pass20 hm, if_neg (fun q => hi q.1)]
            · rw [pass30 hm, if_neg (fun q => hi q.1)]
            · rw [pass40 hm, if_neg (fun q => hi q.1)]
        · rw [k3 k (by omega), d2]
          by_cases hp : 56 ≤ k ∧ k - 56 < eH E
          · rw [if_pos hp, if_pos (by omega)]
          · rw [if_neg hp, if_neg (by omega), pass50 (by omega) hk]
    · intro h a1 a2 a3 a4 a5 a6
      unfold M_X10_tideComes muX10_tideComes_2
      rw [hS, upm_other a1]
      exact k5 h a1 a2 a3 a4 a5 a6
  · rw [if_neg (by omega), d2, if_neg (by omega)]
  · intro i hi s ⟨h1, h2, h3, h4⟩
    have hi10 : i < 10 := by omega
    have hri := hr.1 i hi
    have ex : s (78 + i) 2 = eX E i 2 := by
      rw [h4 _ (by omega) (by omega) (by omega) (by omega) (by omega) (by omega)]
      exact hE.2.2.2.2.2.2.2.2.1 i hi 2 (by omega)
    have s0 : s row i = μ row i := by rw [h1 i (by omega), if_neg (by omega)]
    have s1 : s row (10 + i) = μ row (10 + i) := by rw [h1 _ (by omega), if_neg (by omega)]
    have s2 : s row (20 + i) = μ row (20 + i) := by rw [h1 _ (by omega), if_neg (by omega)]
    have s3 : s row (30 + i) = μ row (30 + i) := by rw [h1 _ (by omega), if_neg (by omega)]
    have s4 : s row (40 + i) = μ row (40 + i) := by rw [h1 _ (by omega), if_neg (by omega)]
    obtain ⟨w1, w2⟩ := sp_isWet (μ := s) (row := row) (t := i) (r := μ row) (hh := hh) hO hi10 s0 s1 hri h3
    obtain ⟨f1, f2⟩ := sp_isAfloat (μ := s) (row := row) (t := i) (r := μ row) (hh := hh) hO hi10 s0 s1 hri h3 ex
    have i0 : ix (0 + nI i) = i := by rw [c0, nI_ix (by omega)]
    have i20 : ix (20 + nI i) = 20 + i := by rw [c20, nI_ix (by omega)]
    have i30 : ix (30 + nI i) = 30 + i := by rw [c30, nI_ix (by omega)]
    have i40 : ix (40 + nI i) = 40 + i := by rw [c40, nI_ix (by omega)]
    have v0 : vp_in (0 + nI i) 63 := by rw [c0]; exact vp_in_nI (by omega) (by omega)
    have v20 : vp_in (20 + nI i) 63 := by rw [c20]; exact vp_in_nI (by omega) (by omega)
    have v30 : vp_in (30 + nI i) 63 := by rw [c30]; exact vp_in_nI (by omega) (by omega)
    have v40 : vp_in (40 + nI i) 63 := by rw [c40]; exact vp_in_nI (by omega) (by omega)
    have o61 : s 61 = μ 61 := h4 61 (by omega) (by omega) (by omega) (by omega) (by omega) (by omega)
    have g1 : muX10_tideComes_40_1 row i s = upm s row (40 + i) (imax 0 (μ row (40 + i) - 1)) := by
      unfold muX10_tideComes_40_1
      rw [i40, more_eq, s4]
    have g12 : muX10_tideComes_40_1 row i s row (20 + i) = μ row (20 + i) := by
      rw [g1, upm_rr, if_neg (by omega), s2]
    have g10 : muX10_tideComes_40_1 row i s row i = μ row i := by
      rw [g1, upm_rr, if_neg (by omega), s0]
    have hPb : Pb_X10_tideComes_40 row i s := by
      unfold Pb_X10_tideComes_40
      rw [o61, hE.2.1]
      refine ⟨fun q => absurd q (nI_ge hi (by omega)), fun _ => ⟨w1, fun _ => ⟨f1, v40, v40, fun _ => ⟨v20, fun _ => ?_, fun _ => ⟨v0, v0⟩⟩, fun _ => trivial⟩, fun _ => trivial⟩⟩
      unfold P_X10_wears
      exact ⟨v30, v30, v30, fun _ => ⟨v20, v30⟩, fun _ => trivial⟩
    refine ⟨hPb, ?_⟩
    by_cases hW : isW E (μ row) hh i = true
    · by_cases hA : isA E (μ row) hh i = true
      · by_cases hu : μ row (20 + i) = 0
        · have g : g_X10_tideComes_40 row i s = upm (upm s row (40 + i) (imax 0 (μ row (40 + i) - 1))) row i (if nI (eH E) ≤ μ row i + 1 then -1 else μ row i + 1) := by
            unfold g_X10_tideComes_40 VX10_tideComes_40_4
            rw [w2, f2, if_pos hW, if_pos hA, if_pos (by decide), if_pos (by decide), i20, g12, if_neg (not_not_intro hu)]
            unfold muX10_tideComes_40_3
            rw [i0, g10, g1]
            unfold F_X10_nextHouse
            rw [upm_other (by omega), o61, hE.1]
          rw [g]
          refine ⟨mix_step hi10 h1 (fun k hk hki => ?_) ?_ ?_ ?_ ?_ ?_, fun k hk => ?_, fun h hl => ?_, fun h a1 a2 a3 a4 a5 a6 => ?_⟩
          · rw [upm_rr, upm_rr, if_neg (by omega), if_neg (by omega)]
          · rw [upm_rr, if_pos rfl, (pass0 (E := E) (hh := hh) (r := μ row) hi10).trans (if_pos ⟨hi, hA, hu⟩)]
          · rw [upm_rr, upm_rr, if_neg (by omega), if_neg (by omega), pass10 hi10, s1]
          · rw [upm_rr, upm_rr, if_neg (by omega), if_neg (by omega), pass20 hi10, if_neg (fun q => q.2.2 hu), s2]
          · rw [upm_rr, upm_rr, if_neg (by omega), if_neg (by omega), pass30 hi10, if_neg (fun q => q.2.2 hu), s3]
          · rw [upm_rr, upm_rr, if_neg (by omega), if_pos rfl, pass40 hi10, if_pos ⟨hi, hW⟩]
          · rw [upm_rr, upm_rr, if_neg (by omega), if_neg (by omega), h2 k hk]
          · rw [upm_other (by omega), upm_other (by omega), h3 h hl]
          · rw [upm_other a1, upm_other a1, h4 h a1 a2 a3 a4 a5 a6]
        · have gw : g_X10_tideComes_40 row i s = M_X10_wears row (nI i) (muX10_tideComes_40_1 row i s) := by
            unfold g_X10_tideComes_40 VX10_tideComes_40_4
            rw [w2, f2, if_pos hW, if_pos hA, if_pos (by decide), if_pos (by decide), i20, g12, if_pos hu]
            unfold muX10_tideComes_40_2
            rfl
          have w31 : muX10_wears_1 row (nI i) (muX10_tideComes_40_1 row i s) = upm (upm s row (40 + i) (imax 0 (μ row (40 + i) - 1))) row (30 + i) (μ row (30 + i) + 1) := by
            unfold muX10_wears_1
            rw [i30, g1, upm_rr, if_neg (by omega), s3]
          by_cases hp : eP E ≤ μ row (30 + i) + 1
          · have g : g_X10_tideComes_40 row i s = upm (upm (upm (upm s row (40 + i) (imax 0 (μ row (40 + i) - 1))) row (30 + i) (μ row (30 + i) + 1)) row (20 + i) 0) row (30 + i) 0 := by
              rw [gw]
              unfold M_X10_wears muX10_wears_3 muX10_wears_2
              rw [w31, i30, i20, upm_rr, if_pos rfl, upm_other (by omega), upm_other (by omega), o61, hE.2.2.2.2.2.1, if_pos hp]
            rw [g]
            refine ⟨mix_step hi10 h1 (fun k hk hki => ?_) ?_ ?_ ?_ ?_ ?_, fun k hk => ?_, fun h hl => ?_, fun h a1 a2 a3 a4 a5 a6 => ?_⟩
            · rw [upm_rr, upm_rr, upm_rr, upm_rr, if_neg (by omega), if_neg (by omega), if_neg (by omega), if_neg (by omega)]
            · rw [upm_rr, upm_rr, upm_rr, upm_rr, if_neg (by omega), if_neg (by omega), if_neg (by omega), if_neg (by omega), pass0 hi10, if_neg (fun q => hu q.2.2), s0]
            · rw [upm_rr, upm_rr, upm_rr, upm_rr, if_neg (by omega), if_neg (by omega), if_neg (by omega), if_neg (by omega), pass10 hi10, s1]
            · rw [upm_rr, upm_rr, if_neg (by omega), if_pos rfl, pass20 hi10, if_pos ⟨hi, hA, hu⟩, if_pos hp]
            · rw [upm_rr, if_pos rfl, pass30 hi10, if_pos ⟨hi, hA, hu⟩, if_pos hp]
            · rw [upm_rr, upm_rr, upm_rr, upm_rr, if_neg (by omega), if_neg (by omega), if_neg (by omega), if_pos rfl, pass40 hi10, if_pos ⟨hi, hW⟩]
            · rw [upm_rr, upm_rr, upm_rr, upm_rr, if_neg (by omega), if_neg (by omega), if_neg (by omega), if_neg (by omega), h2 k hk]
            · rw [upm_other (by omega), upm_other (by omega), upm_other (by omega), upm_other (by omega), h3 h hl]
            · rw [upm_other a1, upm_other a1, upm_other a1, upm_other a1, h4 h a1 a2 a3 a4 a5 a6]
          · have g : g_X10_tideComes_40 row i s = upm (upm s row (40 + i) (imax 0 (μ row (40 + i) - 1))) row (30 + i) (μ row (30 + i) + 1) := by
              rw [gw]
              unfold M_X10_wears
              rw [w31, i30, upm_rr, if_pos rfl, upm_other (by omega), upm_other (by omega), o61, hE.2.2.2.2.2.1, if_neg hp]
            rw [g]
            refine ⟨mix_step hi10 h1 (fun k hk hki => ?_) ?_ ?_ ?_ ?_ ?_, fun k hk => ?_, fun h hl => ?_, fun h a1 a2 a3 a4 a5 a6 => ?_⟩
            · rw [upm_rr, upm_rr, if_neg (by omega), if_neg (by omega)]
            · rw [upm_rr, upm_rr, if_neg (by omega), if_neg (by omega), pass0 hi10, if_neg (fun q => hu q.2.2), s0]
            · rw [upm_rr, upm_rr, if_neg (by omega), if_neg (by omega), pass10 hi10, s1]
            · rw [upm_rr, upm_rr, if_neg (by omega), if_neg (by omega), pass20 hi10, if_pos ⟨hi, hA, hu⟩, if_neg hp, s2]
            · rw [upm_rr, if_pos rfl, pass30 hi10, if_pos ⟨hi, hA, hu⟩, if_neg hp]
            · rw [upm_rr, upm_rr, if_neg (by omega), if_pos rfl, pass40 hi10, if_pos ⟨hi, hW⟩]
            · rw [upm_rr, upm_rr, if_neg (by omega), if_neg (by omega), h2 k hk]
            · rw [upm_other (by omega), upm_other (by omega), h3 h hl]
            · rw [upm_other a1, upm_other a1, h4 h a1 a2 a3 a4 a5 a6]
      · have g : g_X10_tideComes_40 row i s = upm s row (40 + i) (imax 0 (μ row (40 + i) - 1)) := by
          unfold g_X10_tideComes_40 VX10_tideComes_40_4
          rw [w2, f2, if_pos hW, if_neg hA, if_pos (by decide), if_neg (by decide), g1]
        rw [g]
        refine ⟨mix_step hi10 h1 (fun k hk hki => ?_) ?_ ?_ ?_ ?_ ?_, fun k hk => ?_, fun h hl => ?_, fun h a1 a2 a3 a4 a5 a6 => ?_⟩
        · rw [upm_rr, if_neg (by omega)]
        · rw [upm_rr, if_neg (by omega), pass0 hi10, if_neg (fun q => hA q.2.1), s0]
        · rw [upm_rr, if_neg (by omega), pass10 hi10, s1]
        · rw [upm_rr, if_neg (by omega), pass20 hi10, if_neg (fun q => hA q.2.1), s2]
        · rw [upm_rr, if_neg (by omega), pass30 hi10, if_neg (fun q => hA q.2.1), s3]
        · rw [upm_rr, if_pos rfl, pass40 hi10, if_pos ⟨hi, hW⟩]
        · rw [upm_rr, if_neg (by omega), h2 k hk]
        · rw [upm_other (by omega), h3 h hl]
        · rw [upm_other a1, h4 h a1 a2 a3 a4 a5 a6]
    · have g : g_X10_tideComes_40 row i s = s := by
        unfold g_X10_tideComes_40 VX10_tideComes_40_4
        rw [w2, if_neg hW, if_neg (by decide)]
      have hA : ¬ isA E (μ row) hh i = true := fun q => hW (isA_W q)
      rw [g]
      refine ⟨mix_step hi10 h1 (fun _ _ _ => rfl) ?_ ?_ ?_ ?_ ?_, h2, h3, h4⟩
      · rw [pass0 hi10, if_neg (fun q => hA q.2.1), s0]
      · rw [pass10 hi10, s1]
      · rw [pass20 hi10, if_neg (fun q => hA q.2.1), s2]
      · rw [pass30 hi10, if_neg (fun q => hA q.2.1), s3]
      · rw [pass40 hi10, if_neg (fun q => hW q.2), s4]
