/-! a step that opens: both sides up to its bracket -/
/-- the reference on a fault at its word -/
theorem ref_no {t : Nat → Int32} {N q : Nat} {B μm : Mem} {rM : Mem → Mem} {rP : Mem → Prop} {pm : Nat} (tm : TxM t N pm μm) (em : skp t N pm = q) (h5 : μm 57 5 = 0) (hB : WM B μm) (kz : stK t N q = -1) :
    P_X10_readsStep rM rP μm ∧ ∀ Mc : Mem, Mc 1 6 = 1 → Mc 1 7 = nI q → TF t N Mc (M_X10_readsStep rM rP μm) ∧ WMx B (M_X10_readsStep rM rP μm) := by
  obtain ⟨k1, k2, k3⟩ := sp_stepHere tm h5
  rw [em] at k2 k3
  have kk : At t N q μm (muX10_readsStep_1 rM rP μm) := k3
  have n6 : F_X10_stepHere μm ≠ 6 := by rw [k2, kz]; decide
  have ev : VX10_readsStep_3 rM rP μm = M_X10_wrong 1 (muX10_readsStep_1 rM rP μm 57 4) (muX10_readsStep_1 rM rP μm) := by
    unfold VX10_readsStep_3 muX10_readsStep_2
    rw [k2, kz, if_neg (by decide)]
  obtain ⟨v5, hb⟩ := ref_bad (f := 1) (by decide) h5 kk ev
  have eM : M_X10_readsStep rM rP μm = VX10_readsStep_3 rM rP μm := by
    unfold M_X10_readsStep
    rw [if_pos n6, if_neg v5]
  refine ⟨⟨k1, ⟨fun _ => ⟨fun z => absurd z v5, fun _ => trivial⟩, fun z => absurd z n6⟩⟩, fun Mc m6 m7 => ?_⟩
  obtain ⟨b1, b2⟩ := hb Mc m6 m7
  rw [eM]
  exact ⟨b1, hB.x.trans b2.w⟩
/-- too deep -/
theorem again_no {t : Nat → Int32} {N n s q : Nat} {A B μc μm : Mem} {rM : Mem → Mem} {rP : Mem → Prop} (h : Rd t N A B 6 n s q μc μm) (hq : skp t N q = q) (k6 : stK t N q = 6) :
    P_X6_readStep μc ∧ F_X6_readStep μc = 0 ∧ P_X10_readsStep rM rP μm ∧ TF t N (M_X6_readStep μc) (M_X10_readsStep rM rP μm) ∧ WCx A (M_X6_readStep μc) ∧ WMx B (M_X10_readsStep rM rP μm) := by
  obtain ⟨⟨tc, ⟨pm, tm, em⟩, h5⟩, ⟨c5, c6, x30, x8⟩, ⟨hnq, hsn⟩, hA, hB⟩ := h
  rw [hq] at em
  have hN6 := tc.1
  have hqN := tc.2.1
  obtain ⟨w1, w2, w3, w4⟩ := sp_takeWord tc
  rw [hq] at w2 w3
  obtain ⟨k1, k2, k3⟩ := sp_stepHere tm h5
  rw [em] at k2 k3
  have kk : At t N q μm (muX10_readsStep_1 rM rP μm) := k3
  have L3 : ¬ ltn t N q < 3 := fun z => by
    rw [stK_no z] at k6
    exact absurd k6 (by decide)
  obtain ⟨g1, g2, g3, g4, g5⟩ := w2 (by omega)
  have hw : F_X8_takeWord μc ≠ 0 := by rw [g1]; decide
  have wd : WdC t N q (M_X8_takeWord μc) := ⟨hN6, hqN, g3, g4, fun k hk => g2.2.2.2.2 k hk⟩
  obtain ⟨d1, d2⟩ := sp_kindOf wd
  have e1 : muX6_readStep_1 μc = M_X8_takeWord μc := rfl
  have z6 : F_X10_stepHere μm = 6 := by rw [k2, k6]
  have n6 : ¬ F_X10_stepHere μm ≠ 6 := not_not_intro z6
  have c1' : F_X6_kindOf (M_X8_takeWord μc) ≠ -1 := by rw [d2, k6]; decide
  have c6' : ¬ F_X6_kindOf (M_X8_takeWord μc) ≠ 6 := by rw [d2]; exact not_not_intro k6
  have w6 : ¬ M_X8_takeWord μc 31 6 < 6 := by
    rw [w4 31 (by decide), c6]
    decide
  have aF : F_X6_readAgain (M_X8_takeWord μc) = 0 := by
    unfold F_X6_readAgain
    rw [if_neg w6]
    rfl
  have aM : M_X6_readAgain (M_X8_takeWord μc) = M_X8_failToken 3 (M_X8_takeWord μc) := by
    unfold M_X6_readAgain muX6_readAgain_6
    rw [if_neg w6]
  have eF : F_X6_readStep μc = 0 := by
    unfold F_X6_readStep
    rw [if_pos hw, e1, if_pos c1', if_neg c6', aF]
  have eM : M_X6_readStep μc = M_X8_failToken 3 (M_X8_takeWord μc) := by
    unfold M_X6_readStep muX6_readStep_8
    rw [if_pos hw, e1, if_pos c1', if_neg c6', aM]
  have ev : VX10_readsStep_3 rM rP μm = muX10_readsStep_1 rM rP μm := by
    unfold VX10_readsStep_3
    rw [k2, k6, if_pos (by decide)]
  have m5 : muX10_readsStep_1 rM rP μm 57 5 = 0 := by rw [kk.2.2 5 (by decide), h5]
  have m8 : muX10_readsStep_1 rM rP μm 57 8 = 6 := by rw [kk.2.2 8 (by decide), x8]; rfl
  obtain ⟨f1, f2⟩ := (sp_opens m5).2 m8
  have nf : ¬ F_X10_opensOne (VX10_readsStep_3 rM rP μm) ≠ 0 := by rw [ev]; exact not_not_intro f1
  have eMM : M_X10_readsStep rM rP μm = upm (upm (muX10_readsStep_1 rM rP μm) 57 5 3) 57 6 (nI q) := by
    unfold M_X10_readsStep muX10_readsStep_29
    rw [if_neg n6, if_neg nf, ev, f2, kk.1.2.2.2.1]
  obtain ⟨t1, t2, t3, t4⟩ := sp_failToken (k := 3) (μ := M_X8_takeWord μc)
  refine ⟨⟨w1, ⟨fun _ => ⟨d1, ⟨fun _ => ⟨fun z => absurd z c6', fun _ => ⟨fun z => absurd z w6, fun _ => trivial⟩⟩, fun z => absurd z c1'⟩⟩, fun z => absurd z hw⟩⟩, eF, ⟨k1, ⟨fun z => absurd z n6, fun _ => ⟨fun z => absurd z nf, fun _ => trivial⟩⟩⟩, ?_, ?_, ?_⟩
  · refine ⟨3, nI q, by decide, by rw [eM, t1], by rw [eM, t2, g3], ?_, ?_, _, kk.1.mono ?_ ?_ ?_⟩
    · rw [eMM, upm_rr, if_neg (by decide), upm_rr, if_pos rfl]
    · rw [eMM, upm_rr, if_pos rfl]
    · rw [eMM, upm_rr, if_neg (by decide), upm_rr, if_neg (by decide)]
    · rw [eMM, upm_rr, if_neg (by decide), upm_rr, if_neg (by decide)]
    · rw [eMM, upm_other (by decide), upm_other (by decide)]
  · rw [eM]
    exact hA.x.trans ((FC.x ⟨g5, w4⟩).trans ⟨fun k _ _ _ d e => t3 k d e, t4⟩).w
  · rw [eMM]
    exact hB.x.trans (FMx.w ⟨fun k a b c => by rw [upm_rr, if_neg c, upm_rr, if_neg b, kk.2.2 k a], fun r a => by rw [upm_other a, upm_other a, kk.2.1 r a]⟩)
/-- the bracket opens -/
theorem again_head {t : Nat → Int32} {N o n s q : Nat} {A B μc μm : Mem} {rM : Mem → Mem} {rP : Mem → Prop} (hN : N ≤ 150) (ho : o < 6) (h : Rd t N A B o n s q μc μm) (hq : skp t N q = q) (k6 : stK t N q = 6) :
    P_X6_readStep μc ∧ (P_X10_stepHere μm ∧ F_X10_stepHere μm = 6 ∧ F_X10_opensOne (VX10_readsStep_3 rM rP μm) ≠ 0 ∧ muX10_readsStep_29 rM rP μm 57 5 = 0 ∧ P_X10_skipWord (muX10_readsStep_29 rM rP μm) ∧ muX10_readsStep_30 rM rP μm 57 30 = nI s ∧ s < 80 ∧ P_X10_number 0 20 (VX10_readsStep_38 rM rP μm) ∧ P_X10_sign 91 (muX10_readsStep_42 rM rP μm) ∧ P_X10_blanks (muX10_readsStep_43 rM rP μm)) ∧
    ((F_X6_readStep μc ≠ 0 ∧ ∃ v p', v ≤ 20 ∧ Rd t N A B (o + 1) (n + 1) (s + 1) p' (M_X6_readStep μc) (muX10_readsStep_44 rM rP μm) ∧ TxM t N (skp t N p') (muX10_readsStep_44 rM rP μm) ∧ q + 2 ≤ p' ∧ M_X6_readStep μc 32 n = 6 ∧ M_X6_readStep μc 33 n = nI v ∧ M_X6_readStep μc 35 o = nI n ∧ muX10_readsStep_44 rM rP μm (441 + s) 0 = 6 ∧ muX10_readsStep_44 rM rP μm (441 + s) 1 = nI v ∧ Old o n s μc μm (M_X6_readStep μc) (muX10_readsStep_44 rM rP μm)) ∨
     (F_X6_readStep μc = 0 ∧ TF t N (M_X6_readStep μc) (muX10_readsStep_44 rM rP μm) ∧ WCx A (M_X6_readStep μc) ∧ WMx B (muX10_readsStep_44 rM rP μm))) := by
  obtain ⟨⟨tc, ⟨pm, tm, em⟩, h5⟩, ⟨c5, c6, x30, x8⟩, ⟨hnq, hsn⟩, hA, hB⟩ := h
  rw [hq] at em
  have hN6 := tc.1
  have hqN := tc.2.1
  obtain ⟨w1, w2, w3, w4⟩ := sp_takeWord tc
  rw [hq] at w2 w3
  obtain ⟨k1, k2, k3⟩ := sp_stepHere tm h5
  rw [em] at k2 k3
  have kk : At t N q μm (muX10_readsStep_1 rM rP μm) := k3
  have L3 : ¬ ltn t N q < 3 := fun z => by
    rw [stK_no z] at k6
    exact absurd k6 (by decide)
  obtain ⟨l1, l2, -, -⟩ := ltn_ok (t := t) hN6 hqN
  have hn : n < 150 := by omega
  have hs : s < 80 := by omega
  obtain ⟨g1, g2, g3, g4, g5⟩ := w2 (by omega)
  have hw : F_X8_takeWord μc ≠ 0 := by rw [g1]; decide
  have wd : WdC t N q (M_X8_takeWord μc) := ⟨hN6, hqN, g3, g4, fun k hk => g2.2.2.2.2 k hk⟩
  obtain ⟨d1, d2⟩ := sp_kindOf wd
  have e1 : muX6_readStep_1 μc = M_X8_takeWord μc := rfl
  have z6 : F_X10_stepHere μm = 6 := by rw [k2, k6]
  have c1' : F_X6_kindOf (M_X8_takeWord μc) ≠ -1 := by rw [d2, k6]; decide
  have c6' : ¬ F_X6_kindOf (M_X8_takeWord μc) ≠ 6 := by rw [d2]; exact not_not_intro k6
  have y6 : M_X8_takeWord μc 31 6 = nI o := by rw [w4 31 (by decide), c6]
  have w6 : M_X8_takeWord μc 31 6 < 6 := by
    rw [y6]
    exact nI_lt (b := 6) ho (by omega)
  have y5 : M_X8_takeWord μc 31 5 = nI n := by rw [w4 31 (by decide), c5]
  have ev : VX10_readsStep_3 rM rP μm = muX10_readsStep_1 rM rP μm := by
    unfold VX10_readsStep_3
    rw [k2, k6, if_pos (by decide)]
  have m5 : muX10_readsStep_1 rM rP μm 57 5 = 0 := by rw [kk.2.2 5 (by decide), h5]
  have m8 : muX10_readsStep_1 rM rP μm 57 8 = nI o := by rw [kk.2.2 8 (by decide), x8]
  obtain ⟨f1, f2⟩ := (sp_opens m5).1 (by rw [m8]; exact fun z => absurd ((nI_eq (b := 6) (by omega) (by omega)).mp z) (by omega))
  have nf : F_X10_opensOne (VX10_readsStep_3 rM rP μm) ≠ 0 := by rw [ev, f1]; decide
  have e29 : muX10_readsStep_29 rM rP μm = upm (muX10_readsStep_1 rM rP μm) 57 8 (nI (o + 1)) := by
    unfold muX10_readsStep_29
    rw [ev, f2, m8, nI_succ]
  have t29 : TxM t N q (muX10_readsStep_29 rM rP μm) := kk.1.mono (by rw [e29, upm_rr, if_neg (by decide)]) (by rw [e29, upm_rr, if_neg (by decide)]) (by rw [e29, upm_other (by decide)])
  obtain ⟨s1, s2, s3, s4⟩ := sp_skipWord t29
  have e30 : muX10_readsStep_30 rM rP μm = M_X10_skipWord (muX10_readsStep_29 rM rP μm) := rfl
  rw [← e30] at s2 s3 s4
  have v5 : muX10_readsStep_29 rM rP μm 57 5 = 0 := by rw [e29, upm_rr, if_neg (by decide), m5]
  have m430 : muX10_readsStep_30 rM rP μm 57 30 = nI s := by rw [s4 30 (by decide), e29, upm_rr, if_neg (by decide), kk.2.2 30 (by decide), x30]
  have er : ix (muX10_readsStep_30 rM rP μm 57 30) = s := by rw [m430, nI_ix (by omega)]
  have e32 : muX10_readsStep_32 rM rP μm = upm (upm (muX10_readsStep_30 rM rP μm) 57 30 (nI (s + 1))) (441 + s) 0 6 := by
    unfold muX10_readsStep_32 muX10_readsStep_31
    rw [er, m430, nI_succ, z6]
  have e38 : VX10_readsStep_38 rM rP μm = muX10_readsStep_32 rM rP μm := by
    unfold VX10_readsStep_38 VX10_readsStep_35
    rw [if_pos (show F_X10_stepHere μm ≠ 4 by rw [z6]; decide), if_pos (show (4 : Int32) ≤ F_X10_stepHere μm by rw [z6]; decide)]
  have wm32 : WM B (muX10_readsStep_32 rM rP μm) := by
    have a1 : WM μm (muX10_readsStep_1 rM rP μm) := FM.w ⟨fun k a => kk.2.2 k a, fun r a => kk.2.1 r a⟩
    have a2 : WM (muX10_readsStep_1 rM rP μm) (muX10_readsStep_29 rM rP μm) := by
      rw [e29]
      exact WM.up (Or.inr ⟨rfl, Or.inl rfl⟩)
    have a3 : WM (muX10_readsStep_29 rM rP μm) (muX10_readsStep_30 rM rP μm) := FM.w ⟨s4, s3⟩
    rw [e32]
    exact hB.trans (a1.trans (a2.trans (a3.trans ((WM.up (Or.inr ⟨rfl, Or.inr rfl⟩)).trans (WM.up (Or.inl ⟨by omega, by omega⟩))))))
  have tt : TT t N (q + ltn t N q) (M_X8_takeWord μc) (muX10_readsStep_32 rM rP μm) := by
    refine ⟨g2, ⟨_, s2.mono ?_ ?_ ?_, rfl⟩, ?_⟩
    · rw [e32, upm_other (by omega), upm_rr, if_neg (by decide)]
    · rw [e32, upm_other (by omega), upm_rr, if_neg (by decide)]
    · rw [e32, upm_other (by omega), upm_other (by decide)]
    · rw [e32, upm_other (by omega), upm_rr, if_neg (by decide), s4 5 (by decide), v5]
  have x30' : muX10_readsStep_32 rM rP μm 57 30 = nI (s + 1) := by rw [e32, upm_other (by omega), upm_rr, if_pos rfl]
  have x8' : muX10_readsStep_32 rM rP μm 57 8 = nI (o + 1) := by rw [e32, upm_other (by omega), upm_rr, if_neg (by decide), s4 8 (by decide), e29, upm_rr, if_pos rfl]
  have x0' : muX10_readsStep_32 rM rP μm (441 + s) 0 = 6 := by rw [e32, upm_rr, if_pos rfl]
  have wcw : WC A (M_X8_takeWord μc) := hA.trans (FC.w ⟨g5, w4⟩)
  have e42 : muX10_readsStep_42 rM rP μm = upm (M_X10_number 0 20 (muX10_readsStep_32 rM rP μm)) (441 + s) 1 (F_X10_number 0 20 (muX10_readsStep_32 rM rP μm)) := by
    unfold muX10_readsStep_42 muX10_readsStep_41
    rw [er, e38]
  have e43 : muX10_readsStep_43 rM rP μm = M_X10_sign 91 (muX10_readsStep_42 rM rP μm) := rfl
  have e44 : muX10_readsStep_44 rM rP μm = M_X10_blanks (muX10_readsStep_43 rM rP μm) := rfl
  obtain ⟨a1, a2, a3⟩ := TT_num (lo := 0) (hi := 20) tt (by decide)
  have aF0 : F_X6_readStep μc = F_X6_readAgain (M_X8_takeWord μc) := by
    unfold F_X6_readStep
    rw [if_pos hw, e1, if_pos c1', if_neg c6']
  have aM0 : M_X6_readStep μc = M_X6_readAgain (M_X8_takeWord μc) := by
    unfold M_X6_readStep muX6_readStep_8
    rw [if_pos hw, e1, if_pos c1', if_neg c6']
  have PS : P_X6_readAgain (M_X8_takeWord μc) → P_X6_readStep μc := fun pa => ⟨w1, ⟨fun _ => ⟨d1, ⟨fun _ => ⟨fun z => absurd z c6', fun _ => pa⟩, fun z => absurd z c1'⟩⟩, fun z => absurd z hw⟩⟩
  rw [aF0, aM0]
  rcases a3 with ⟨v, p3, fv, fv2, v0, v1, v2, tt3, pp, fc, fm⟩ | ⟨fv, tf, fc, fm⟩
  · obtain ⟨j, hj, ej⟩ : ∃ j, j ≤ 20 ∧ v = nI j := by
      obtain ⟨j, hj, ej⟩ := inR_n (lo := 0) (hi := 20) (n := 20) (decide_eq_true ⟨v1, v2⟩) (by decide) (by decide)
      exact ⟨j, hj, ej⟩
    have r1 : muX6_readAgain_1 (M_X8_takeWord μc) = M_X8_takeNumber 0 20 (M_X8_takeWord μc) := rfl
    have i5 : M_X8_takeNumber 0 20 (M_X8_takeWord μc) 31 5 = nI n := by rw [fc.2 31 (by decide), y5]
    have i6 : M_X8_takeNumber 0 20 (M_X8_takeWord μc) 31 6 = nI o := by rw [fc.2 31 (by decide), y6]
    have r2 : muX6_readAgain_2 (M_X8_takeWord μc) = upm (M_X8_takeNumber 0 20 (M_X8_takeWord μc)) 35 o (nI n) := by
      unfold muX6_readAgain_2
      rw [r1, i5, i6]
      exact put_k ho (by omega)
    have r3 : muX6_readAgain_3 (M_X8_takeWord μc) = upm (upm (M_X8_takeNumber 0 20 (M_X8_takeWord μc)) 35 o (nI n)) 31 6 (nI (o + 1)) := by
      unfold muX6_readAgain_3
      rw [r2, upm_other (by decide), i6, nI_succ]
    have r4 : muX6_readAgain_4 (M_X8_takeWord μc) = upm (upm (upm (upm (upm (M_X8_takeNumber 0 20 (M_X8_takeWord μc)) 35 o (nI n)) 31 6 (nI (o + 1))) 32 n 6) 33 n (nI j)) 31 5 (nI (n + 1)) := by
      unfold muX6_readAgain_4
      rw [fv, ej, sp_addS hn (by rw [r3, upm_rr, if_neg (by decide), upm_other (by decide), i5]), r3]
    have vn : F_X8_takeNumber 0 20 (M_X8_takeWord μc) ≠ -1 := by rw [fv]; exact v0
    have gF : F_X6_readAgain (M_X8_takeWord μc) = F_X8_takeSign 91 (muX6_readAgain_4 (M_X8_takeWord μc)) := by
      unfold F_X6_readAgain
      rw [if_pos w6, if_pos vn]
    have gM : M_X6_readAgain (M_X8_takeWord μc) = M_X8_takeSign 91 (muX6_readAgain_4 (M_X8_takeWord μc)) := by
      unfold M_X6_readAgain muX6_readAgain_5
      rw [if_pos w6, if_pos vn]
    rw [fv2, ej] at e42
    have tt4 : TT t N p3 (muX6_readAgain_4 (M_X8_takeWord μc)) (muX10_readsStep_42 rM rP μm) := by
      refine tt3.mono ?_ ?_ ?_ ?_ ?_ ?_
      · rw [r4, upm_other (by decide), upm_other (by decide), upm_other (by decide), upm_other (by decide), upm_other (by decide)]
      · rw [r4, upm_other (by decide), upm_other (by decide), upm_other (by decide), upm_other (by decide), upm_other (by decide)]
      · rw [e42, upm_other (by omega)]
      · rw [e42, upm_other (by omega)]
      · rw [e42, upm_other (by omega)]
      · rw [e42, upm_other (by omega)]
    have wc4 : WC A (muX6_readAgain_4 (M_X8_takeWord μc)) := by
      rw [r4]
      exact wcw.trans (fc.w.trans ((WC.up (Or.inl ⟨by decide, by decide⟩)).trans ((WC.up (Or.inr ⟨rfl, Or.inr rfl⟩)).trans ((WC.up (Or.inl ⟨by decide, by decide⟩)).trans ((WC.up (Or.inl ⟨by decide, by decide⟩)).trans (WC.up (Or.inr ⟨rfl, Or.inl rfl⟩)))))))
    have wm4 : WM B (muX10_readsStep_42 rM rP μm) := by
      rw [e42]
      exact wm32.trans (fm.w.trans (WM.up (Or.inl ⟨by omega, by omega⟩)))
    obtain ⟨b1, b2, b3⟩ := TT_sign (c := 91) tt4 (by decide)
    have tx43 : ∃ pm, TxM t N pm (muX10_readsStep_43 rM rP μm) := by
      rcases b3 with ⟨-, p4, b3, -⟩ | ⟨-, b3, -⟩
      · exact ⟨_, b3.2.1.choose_spec.1⟩
      · exact b3.tx
    obtain ⟨pb, tx43⟩ := tx43
    obtain ⟨u1, u2, u3, u4⟩ := sp_blanks tx43
    rw [← e44] at u2 u3 u4
    refine ⟨PS ⟨fun _ => ⟨a1, fun _ => b1, fun z => absurd z vn⟩, fun z => absurd w6 (Int32.not_lt.mpr z)⟩, ⟨k1, z6, nf, v5, s1, m430, hs, by rw [e38]; exact a2, b2, u1⟩, ?_⟩
    rw [gF, gM]
    rcases b3 with ⟨x1, p4, x2, x3, x4, x5⟩ | ⟨x1, x2, x3, x4⟩
    · refine Or.inl ⟨by rw [x1]; decide, j, p4, hj, ?_, ?_, by omega, ?_, ?_, ?_, ?_, ?_, ?_⟩
      · obtain ⟨y1, ⟨py, y2, y3⟩, y4⟩ := x2
        refine ⟨⟨y1, ⟨_, u2, ?_⟩, by rw [u4 5 (by decide)]; exact y4⟩, ⟨?_, ?_, ?_, ?_⟩, ⟨by omega, by omega⟩, wc4.trans x4.w, (wm4.trans x5.w).trans (FM.w ⟨u4, u3⟩)⟩
        · have : pb = py := by
            have q1 := tx43.2.2.2.1
            have q2 : muX10_readsStep_43 rM rP μm 57 4 = nI py := y2.2.2.2.1
            exact (nI_eq (by have := tx43.2.1; omega) (by have := y2.2.1; omega)).mp (q1.symm.trans q2)
          rw [this, skp_skp y2.1 y2.2.1, y3]
        · rw [x4.2 31 (by decide), r4, upm_rr, if_pos rfl]
        · rw [x4.2 31 (by decide), r4, upm_rr, if_neg (by decide), upm_other (by decide), upm_other (by decide), upm_rr, if_pos rfl]
        · rw [u4 30 (by decide), e43, x5.1 30 (by decide), e42, upm_other (by omega), fm.1 30 (by decide), x30']
        · rw [u4 8 (by decide), e43, x5.1 8 (by decide), e42, upm_other (by omega), fm.1 8 (by decide), x8']
      · obtain ⟨y1, ⟨py, y2, y3⟩, y4⟩ := x2
        have : pb = py := by
          have q1 := tx43.2.2.2.1
          have q2 : muX10_readsStep_43 rM rP μm 57 4 = nI py := y2.2.2.2.1
          exact (nI_eq (by have := tx43.2.1; omega) (by have := y2.2.1; omega)).mp (q1.symm.trans q2)
        rw [← y3, ← this]
        exact u2
      · rw [x4.2 32 (by decide), r4, upm_other (by decide), upm_other (by decide), upm_rr, if_pos rfl]
      · rw [x4.2 33 (by decide), r4, upm_other (by decide), upm_rr, if_pos rfl]
      · rw [x4.2 35 (by decide), r4, upm_other (by decide), upm_other (by decide), upm_other (by decide), upm_other (by decide), upm_rr, if_pos rfl]
      · rw [u3 _ (by omega), e43, x5.2 _ (by omega), e42, upm_rr, if_neg (by decide), fm.2 _ (by omega), x0']
      · rw [u3 _ (by omega), e43, x5.2 _ (by omega), e42, upm_rr, if_pos rfl]
      · refine ⟨fun i hi => ⟨?_, ?_, ?_⟩, fun i hi => ?_, fun i hi => ?_⟩
        · rw [x4.2 32 (by decide), r4, upm_other (by decide), upm_other (by decide), upm_rr, if_neg (by omega), upm_other (by decide), upm_other (by decide), fc.2 32 (by decide), w4 32 (by decide)]
        · rw [x4.2 33 (by decide), r4, upm_other (by decide), upm_rr, if_neg (by omega), upm_other (by decide), upm_other (by decide), upm_other (by decide), fc.2 33 (by decide), w4 33 (by decide)]
        · rw [x4.2 34 (by decide), r4, upm_other (by decide), upm_other (by decide), upm_other (by decide), upm_other (by decide), upm_other (by decide), fc.2 34 (by decide), w4 34 (by decide)]
        · rw [x4.2 35 (by decide), r4, upm_other (by decide), upm_other (by decide), upm_other (by decide), upm_other (by decide), upm_rr, if_neg (by omega), fc.2 35 (by decide), w4 35 (by decide)]
        · rw [u3 _ (by omega), e43, x5.2 _ (by omega), e42, upm_other (by omega), fm.2 _ (by omega), e32, upm_other (by omega), upm_other (by omega), s3 _ (by omega), e29, upm_other (by omega), kk.2.1 _ (by omega)]
    · refine Or.inr ⟨x1, ?_, wc4.x.trans x3.w, (wm4.x.trans x4.w).trans (FMx.w (FM.x ⟨u4, u3⟩))⟩
      obtain ⟨k, a, y0, y1, y2, y3, y4, -⟩ := x2
      exact ⟨k, a, y0, y1, y2, by rw [u4 5 (by decide)]; exact y3, by rw [u4 6 (by decide)]; exact y4, _, u2⟩
  · have vn : ¬ F_X8_takeNumber 0 20 (M_X8_takeWord μc) ≠ -1 := not_not_intro fv
    have gF : F_X6_readAgain (M_X8_takeWord μc) = 0 := by
      unfold F_X6_readAgain
      rw [if_pos w6, if_neg vn]
    have gM : M_X6_readAgain (M_X8_takeWord μc) = M_X8_takeNumber 0 20 (M_X8_takeWord μc) := by
      unfold M_X6_readAgain muX6_readAgain_1
      rw [if_pos w6, if_neg vn]
    have tf2 : TF t N (M_X8_takeNumber 0 20 (M_X8_takeWord μc)) (muX10_readsStep_42 rM rP μm) := by
      refine tf.mono rfl ?_ ?_ ?_ ?_ ?_ <;> rw [e42, upm_other (by omega)]
    obtain ⟨b1, b2⟩ := sp_sign_no (c := 91) tf2.nz
    rw [← e43] at b2
    have tf3 : TF t N (M_X8_takeNumber 0 20 (M_X8_takeWord μc)) (muX10_readsStep_43 rM rP μm) := by
      rw [b2]
      exact tf2
    obtain ⟨pb, tx43⟩ := tf3.tx
    obtain ⟨u1, u2, u3, u4⟩ := sp_blanks tx43
    rw [← e44] at u2 u3 u4
    refine ⟨PS ⟨fun _ => ⟨a1, fun z => absurd z vn, fun _ => trivial⟩, fun z => absurd w6 (Int32.not_lt.mpr z)⟩, ⟨k1, z6, nf, v5, s1, m430, hs, by rw [e38]; exact a2, b1, u1⟩, Or.inr ⟨gF, ?_, ?_, ?_⟩⟩
    · rw [gM]
      obtain ⟨k, a, y0, y1, y2, y3, y4, -⟩ := tf3
      exact ⟨k, a, y0, y1, y2, by rw [u4 5 (by decide)]; exact y3, by rw [u4 6 (by decide)]; exact y4, _, u2⟩
    · rw [gM]
      exact wcw.x.trans fc.w
    · have q : WMx (muX10_readsStep_42 rM rP μm) (muX10_readsStep_44 rM rP μm) := by
        have q1 : FMx (muX10_readsStep_43 rM rP μm) (muX10_readsStep_44 rM rP μm) := FM.x ⟨u4, u3⟩
        rw [b2] at q1
        exact q1.w
      refine WMx.trans ?_ q
      rw [e42]
      exact wm32.x.trans (fm.w.trans (WM.x (WM.up (Or.inl ⟨by omega, by omega⟩))))
