/-! a U of the LAW: all of it -/
theorem cd_of {t : Nat → Int32} {N q k : Nat} (hk : k = 11 ∨ k = 12) (h : wdM t N q k = true) : cdK t N q = nI (k + 1) := by
  have z := kn_no hk h
  unfold cdK
  rw [if_neg (not_not_intro z)]
  rcases hk with rfl | rfl
  · rw [if_pos h]
    rfl
  · have n : ¬ wdM t N q 11 = true := fun y => absurd (wd_uniq (by decide) (by decide) (by decide) (by decide) y h) (by decide)
    rw [if_neg n, if_pos h]
    rfl
theorem dg_ltr {b : Int32} (h : ltr b = true) : dg b = false := by
  refine decide_eq_false fun z => ?_
  have h' := of_decide_eq_true h
  exact absurd (Int32.le_trans h'.1 z.2) (by decide)
theorem ltr_40 : ltr 40 = false := by decide
theorem dg_40 : dg 40 = false := by decide
/-- the class has taken the word at q -/
theorem LwS_word {t : Nat → Int32} {N o n q : Nat} {A B μc μm μm' : Mem} {o' : Nat} (h : LwS t N A B o n q μc μm) (hq : skp t N q = q) (hL : ltn t N q ≠ 0) (hm : TxM t N (q + ltn t N q) μm') (m1 : ∀ k, k ≠ 4 → μm' 57 k = upm μm 57 8 (nI o') 57 k) (m2 : ∀ r, r ≠ 57 → μm' r = μm r) :
    P_X8_takeWord μc ∧ F_X8_takeWord μc = 1 ∧ P_X1_codeOf (M_X8_takeWord μc) ∧ F_X1_codeOf (M_X8_takeWord μc) = cdK t N q ∧ LwS t N A B o' n (q + ltn t N q) (M_X8_takeWord μc) μm' ∧ M_X8_takeWord μc 27 = μc 27 ∧ M_X8_takeWord μc 1 4 = nI q ∧ (∀ k, k ≠ 3 → k ≠ 4 → k ≠ 5 → M_X8_takeWord μc 1 k = μc 1 k) ∧ ∀ r, r ≠ 1 → M_X8_takeWord μc r = μc r := by
  have tc := h.1.1
  obtain ⟨a1, a2, -, a4⟩ := sp_takeWord tc
  rw [hq] at a2
  obtain ⟨b1, b2, b3, b4, b5⟩ := a2 hL
  have wd : WdC t N q (M_X8_takeWord μc) := ⟨tc.1, tc.2.1, b3, b4, fun k hk => b2.2.2.2.2 k hk⟩
  obtain ⟨c1, c2⟩ := sp_codeOf wd
  refine ⟨a1, b1, c1, c2, ?_, a4 27 (by decide), b3, b5, a4⟩
  exact LwS_move (LwS_open h) b2 (by omega) hm rfl b5 a4 m1 (fun r hr => by rw [m2 r hr, upm_other hr])
theorem unit_pair {t : Nat → Int32} {N o n p q k : Nat} {A B μc0 μc μm : Mem} {rF : Int32 → Mem → Int32} {rM : Int32 → Mem → Mem} {rP : Int32 → Mem → Prop} {sM : Mem → Mem} {sP : Mem → Prop} {a : Int32} (hN : N ≤ 150) (ho : o ≤ 6) (ih : o < 6 → IH t N A B (o + 1) rF rM rP sM sP) (h : LwS t N A B o n q μc μm) (pq : p ≤ q) (d0 : μc 27 = μc0 27) (hx : TxM t N q μm) (hq : skp t N q = q) (hk : k = 11 ∨ k = 12) (hw : wdM t N q k = true) (ha : a = nI (k + 1) - 6) :
    (P_X8_takeWord μc ∧ F_X8_takeWord μc = 1 ∧ P_X1_codeOf (M_X8_takeWord μc) ∧ F_X1_codeOf (M_X8_takeWord μc) = nI (k + 1) ∧ P_X1_readPair rF rM rP (nI o) (M_X8_takeWord μc)) ∧
    (o < 6 → F_X10_opensOne μm ≠ 0 ∧ (P_X10_skipWord (M_X10_opensOne μm) ∧ P_X10_sign 91 (M_X10_skipWord (M_X10_opensOne μm)) ∧ sP (M_X10_sign 91 (M_X10_skipWord (M_X10_opensOne μm))) ∧ P_X10_sign 44 (sM (M_X10_sign 91 (M_X10_skipWord (M_X10_opensOne μm)))) ∧ sP (M_X10_sign 44 (sM (M_X10_sign 91 (M_X10_skipWord (M_X10_opensOne μm))))) ∧ P_X10_sign 93 (sM (M_X10_sign 44 (sM (M_X10_sign 91 (M_X10_skipWord (M_X10_opensOne μm)))))) ∧ P_X10_notes a 0 (M_X10_sign 93 (sM (M_X10_sign 44 (sM (M_X10_sign 91 (M_X10_skipWord (M_X10_opensOne μm)))))))) ∧
      ∀ x : Mem, x = M_X10_notes a 0 (M_X10_sign 93 (sM (M_X10_sign 44 (sM (M_X10_sign 91 (M_X10_skipWord (M_X10_opensOne μm))))))) →
      ((F_X1_readPair rF rM rP (nI o) (M_X8_takeWord μc) ≠ 0 ∧ ∃ n' p', LwS t N A B o n' p' (M_X1_add 26 (nI (k + 1)) (M_X1_readPair rF rM rP (nI o) (M_X8_takeWord μc))) (upm x 57 8 (x 57 8 - 1)) ∧ n + 1 ≤ n' ∧ n' + p ≤ n + p' ∧ dpt (M_X1_add 26 (nI (k + 1)) (M_X1_readPair rF rM rP (nI o) (M_X8_takeWord μc)) 27) n' = dpt (μc0 27) n + 1) ∨
       (F_X1_readPair rF rM rP (nI o) (M_X8_takeWord μc) = 0 ∧ Flt t N A B (M_X1_readPair rF rM rP (nI o) (M_X8_takeWord μc)) (upm x 57 8 (x 57 8 - 1))))) ∧
    (¬ o < 6 → F_X10_opensOne μm = 0 ∧ F_X1_readPair rF rM rP (nI o) (M_X8_takeWord μc) = 0 ∧ Flt t N A B (M_X1_readPair rF rM rP (nI o) (M_X8_takeWord μc)) (M_X10_opensOne μm)) := by
  have h3 : 3 ≤ ltn t N q := wd_ltn (by omega) (by omega) hw
  have h5 := h.1.2.2.1
  have h8 := h.1.2.2.2
  have nq := h.2.1.2.2
  obtain ⟨op1, op2⟩ := sp_opens h5
  by_cases ol : o < 6
  · have e8 : μm 57 8 ≠ 6 := by
      rw [h8]
      exact fun z => absurd ((nI_eq (b := 6) (by omega) (by omega)).mp z) (by omega)
    obtain ⟨f1, m1⟩ := op1 e8
    have m1' : M_X10_opensOne μm = upm μm 57 8 (nI (o + 1)) := by rw [m1, h8, nI_succ]
    have x1 : TxM t N q (M_X10_opensOne μm) := hx.mono (by rw [m1, upm_rr, if_neg (by decide)]) (by rw [m1, upm_rr, if_neg (by decide)]) (by rw [m1, upm_other (by decide)])
    obtain ⟨s1, s2, s3, s4⟩ := sp_skipWord x1
    obtain ⟨w1, w2, w3, w4, w5, w6, w7, w8, w9⟩ := LwS_word (o' := o + 1) h hq (by omega) s2 (fun k hk => by rw [s4 k hk, m1']) (fun r hr => by rw [s3 r hr, m1', upm_other hr])
    rw [cd_of hk hw] at w4
    obtain ⟨p1, p2, p3⟩ := pair_ok ol (ih ol) w5
    refine ⟨⟨w1, w2, w3, w4, p1⟩, fun _ => ⟨by rw [f1]; decide, ?_⟩, fun z => absurd ol z⟩
    rcases p3 with ⟨g1, n', p', hl, j1, j2, j3⟩ | ⟨g1, fl⟩
    · obtain ⟨o1, o2, o3⟩ := LwS_op (c := nI (k + 1)) (a := a) hl (by omega) hN ((nI_ltI (a := 7) (by omega) (by omega)).mpr (by omega)) (nI_le (b := 13) (by omega) (by omega)) ha (by omega)
      refine ⟨⟨s1, p2.1, p2.2.1, p2.2.2.1, p2.2.2.2.1, p2.2.2.2.2, o1⟩, fun x ex => Or.inl ⟨by rw [g1]; decide, n' + 1, p', ?_, by omega, by omega, by rw [o3, j3, w6, d0]; omega⟩⟩
      rw [← ex] at o2
      have e : x 57 8 - 1 = nI o := by rw [o2.1.2.2.2, nI_pred]
      rw [e]
      exact LwS_open o2
    · obtain ⟨t1, t2⟩ := sp_notes_no (a := a) (b := 0) fl.nz
      refine ⟨⟨s1, p2.1, p2.2.1, p2.2.2.1, p2.2.2.2.1, p2.2.2.2.2, t1⟩, fun x ex => Or.inr ⟨g1, ?_⟩⟩
      rw [t2] at ex
      rw [ex]
      exact fl.up8
  · have o6 : o = 6 := by omega
    have e8 : μm 57 8 = 6 := by
      rw [h8, o6]
      rfl
    obtain ⟨f1, m1⟩ := op2 e8
    obtain ⟨s1, s2, s3, s4⟩ := sp_skipWord hx
    obtain ⟨w1, w2, w3, w4, w5, w6, w7, w8, w9⟩ := LwS_word (o' := o) h hq (by omega) s2 (fun k hk => by
      rw [s4 k hk, upm_rr]
      by_cases y : k = 8
      · rw [if_pos y, y, h8]
      · rw [if_neg y]) (fun r hr => s3 r hr)
    rw [cd_of hk hw] at w4
    have nl : ¬ nI o < 6 := by
      rw [o6]
      decide
    have eM : M_X1_readPair rF rM rP (nI o) (M_X8_takeWord μc) = M_X8_failToken 3 (M_X8_takeWord μc) := by
      unfold M_X1_readPair
      rw [if_neg nl]
      rfl
    have eF : F_X1_readPair rF rM rP (nI o) (M_X8_takeWord μc) = 0 := by
      unfold F_X1_readPair
      rw [if_neg nl]
      rfl
    refine ⟨⟨w1, w2, w3, w4, ⟨fun z => absurd z nl, fun _ => trivial⟩⟩, fun z => absurd z ol, fun _ => ⟨f1, eF, ?_⟩⟩
    obtain ⟨t1, t2, t3, t4⟩ := sp_failToken (k := 3) (μ := M_X8_takeWord μc)
    rw [eM, m1]
    exact LwS_flt (k := 3) (a := nI q) h (by decide) (hx.mono (by simp [upm_rr]) (by simp [upm_rr]) (by rw [upm_other (by decide), upm_other (by decide)])) t1 (by rw [t2, w7]) (by simp [upm_rr]) (by rw [upm_rr, if_pos rfl, hx.2.2.2.1]) (fun j q3 q4 q5 q6 q7 => by rw [t3 j q6 q7, w8 j q3 q4 q5]) (fun r hr => by rw [t4 r hr, w9 r hr]) (fun j q4 q5 q6 => by rw [upm_rr, if_neg q6, upm_rr, if_neg q5]) (fun r hr => by rw [upm_other hr, upm_other hr])
theorem unit_ok {t : Nat → Int32} {N o n p : Nat} {A B μc μm : Mem} {rF : Int32 → Mem → Int32} {rM : Int32 → Mem → Mem} {rP : Int32 → Mem → Prop} {sM : Mem → Mem} {sP : Mem → Prop} (hN : N ≤ 150) (ho : o ≤ 6) (ih : o < 6 → IH t N A B (o + 1) rF rM rP sM sP) (h : LwS t N A B o n p μc μm) :
    P_X1_readUnit rF rM rP (nI o) μc ∧ P_X10_one sM sP μm ∧ LE t N A B o n p μc (F_X1_readUnit rF rM rP (nI o) μc) (M_X1_readUnit rF rM rP (nI o) μc) (M_X10_one sM sP μm) := by
  obtain ⟨k1, k2, h1, d1, pp, qN, N6, ss⟩ := LwS_peek h
  obtain ⟨q, hqd⟩ : ∃ q, q = skp t N p := ⟨_, rfl⟩
  rw [← hqd] at k2 h1 pp qN ss
  have n1 : muX1_readUnit_1 rF rM rP (nI o) μc = M_X8_peek μc := rfl
  have h0 := h.1.2.2.1
  obtain ⟨b1, h2, x2⟩ := LwS_blanks h1
  rw [ss] at x2
  have z5 : M_X10_blanks μm 57 5 = 0 := h2.1.2.2.1
  have m1 : muX10_one_1 sM sP μm = M_X10_blanks μm := rfl
  obtain ⟨u1, u2, u3⟩ := sp_isW (k := 11) (p1 := 12) (p2 := 5) (p3 := 1) (p4 := 19) (p5 := 20) (p6 := 0) (p7 := 0) (by decide) (by decide) (fun _ => by unfold F_X10_seven VX10_seven_3 VX10_seven_2 VX10_seven_1; decide +kernel) (⟨x2, fun _ _ => rfl, fun _ _ => rfl⟩ : At t N q (M_X10_blanks μm) (M_X10_blanks μm)) z5 ss
  rw [← m1] at u1 u2 u3
  have m2 : M_X10_isWord 12 5 1 19 20 0 0 (muX10_one_1 sM sP μm) = muX10_one_2 sM sP μm := rfl
  rw [m2] at u3
  obtain ⟨v1, v2, v3⟩ := sp_isW (k := 12) (p1 := 13) (p2 := 15) (p3 := 19) (p4 := 20) (p5 := 0) (p6 := 0) (p7 := 0) (by decide) (by decide) (fun _ => by unfold F_X10_seven VX10_seven_3 VX10_seven_2 VX10_seven_1; decide +kernel) u3 z5 ss
  have hW : P_X10_isWord 12 5 1 19 20 0 0 (muX10_one_1 sM sP μm) ∧ (((F_X10_isWord 12 5 1 19 20 0 0 (muX10_one_1 sM sP μm)) = 0 → (P_X10_isWord 13 15 19 20 0 0 0 (muX10_one_2 sM sP μm))) ∧ (¬ (F_X10_isWord 12 5 1 19 20 0 0 (muX10_one_1 sM sP μm)) = 0 → True)) := ⟨u1, fun _ => v1, fun _ => trivial⟩
  have e4 : VX10_one_4 sM sP μm = if wdM t N q 11 = true then 6 else if wdM t N q 12 = true then 7 else -1 := by
    unfold VX10_one_4
    rw [u2, v2]
    generalize wdM t N q 11 = b11
    generalize wdM t N q 12 = b12
    cases b11 <;> cases b12 <;> rfl
  have a5 : At t N q (M_X10_blanks μm) (VX10_one_5 sM sP μm) := by
    unfold VX10_one_5
    split
    · exact v3
    · exact u3
  have y5 : VX10_one_5 sM sP μm 57 5 = 0 := by rw [a5.2.2 5 (by decide), z5]
  have h5 : LwS t N A B o n q (M_X8_peek μc) (VX10_one_5 sM sP μm) := LwS_move h2 h1.1.1 (Nat.le_refl _) a5.1 rfl (fun _ _ _ _ => rfl) (fun _ _ => rfl) a5.2.2 a5.2.1
  obtain ⟨bt1, bt2⟩ := sp_byteAt (k := q) a5.1 (by omega)
  have e54 : VX10_one_5 sM sP μm 57 4 = nI q := a5.1.2.2.2.1
  have nq := h1.2.1.2.2
  have np := h.2.1.2.2
  have dgC : F_X8_isDigit (F_X8_peek μc) (muX1_readUnit_1 rF rM rP (nI o) μc) = if dg (byt t N q) = true then 1 else 0 := by rw [k2, isDigC]
  have eo : nI o + 1 = nI (o + 1) := (nI_succ o).symm
  by_cases hb : byt t N q = 40
  · -- (
    have L0 : ltn t N q = 0 := Decidable.byContradiction fun z => by
      have := (ltn_0 N6 qN).mpr z
      rw [hb, ltr_40] at this
      cases this
    have nw : ∀ k, k < 19 → k ≠ 0 → ¬ wdM t N q k = true := fun k c1 c2 z => by
      have := wd_ltn c1 c2 z
      omega
    have v4 : VX10_one_4 sM sP μm = -1 := by rw [e4, if_neg (nw 11 (by decide) (by decide)), if_neg (nw 12 (by decide) (by decide))]
    have d0 : F_X8_isDigit (F_X8_peek μc) (muX1_readUnit_1 rF rM rP (nI o) μc) = 0 := by rw [dgC, hb, dg_40]; rfl
    have p40 : F_X8_peek μc = 40 := by rw [k2, hb]
    have np40 : ¬ F_X8_peek μc ≠ 40 := not_not_intro p40
    have b40 : F_X10_byteAt (VX10_one_5 sM sP μm 57 4) (VX10_one_5 sM sP μm) = 40 := by rw [e54, bt2, hb]
    have nb40 : ¬ F_X10_byteAt (VX10_one_5 sM sP μm 57 4) (VX10_one_5 sM sP μm) ≠ 40 := not_not_intro b40
    have bP : P_X10_byteAt (VX10_one_5 sM sP μm 57 4) (VX10_one_5 sM sP μm) := by rw [e54]; exact bt1
    have qlt : q < N := byt_lt hb (by decide)
    obtain ⟨op1, op2⟩ := sp_opens y5
    have h58 := h5.1.2.2.2
    by_cases ol : o < 6
    · have l6 : nI o < 6 := nI_lt (b := 6) ol (by omega)
      have e8 : VX10_one_5 sM sP μm 57 8 ≠ 6 := by
        rw [h58]
        exact fun z => absurd ((nI_eq (b := 6) (by omega) (by omega)).mp z) (by omega)
      obtain ⟨f1, g1⟩ := op1 e8
      have f1' : F_X10_opensOne (VX10_one_5 sM sP μm) ≠ 0 := by rw [f1]; decide
      have e10 : muX10_one_10 sM sP μm = upm (VX10_one_5 sM sP μm) 57 8 (nI (o + 1)) := by
        unfold muX10_one_10
        rw [g1, h58, eo]
      have e11 : muX10_one_11 sM sP μm = upm (upm (VX10_one_5 sM sP μm) 57 8 (nI (o + 1))) 57 4 (nI (q + 1)) := by
        unfold muX10_one_11
        rw [e10, upm_rr, if_neg (by decide), e54, nI_succ q]
      have e9 : muX1_readUnit_9 rF rM rP (nI o) μc = upm (M_X8_peek μc) 1 3 (nI (q + 1)) := by
        unfold muX1_readUnit_9 M_X8_skipSign muX8_skipSign_1
        rw [n1, h1.1.1.2.2.2.1, nI_succ]
      have tc := h1.1.1
      have x11 : TxM t N (q + 1) (muX10_one_11 sM sP μm) := by
        obtain ⟨c1, c2, c3, c4, c5⟩ := a5.1
        rw [e11]
        exact ⟨c1, qlt, by rw [upm_rr, if_neg (by decide), upm_rr, if_neg (by decide), c3], by rw [upm_rr, if_pos rfl], fun k hk => by rw [upm_other (by decide), upm_other (by decide), c5 k hk]⟩
      have c9 : TxC t N (q + 1) (muX1_readUnit_9 rF rM rP (nI o) μc) := by
        obtain ⟨c1, c2, c3, c4, c5⟩ := tc
        rw [e9]
        exact ⟨c1, qlt, by rw [upm_rr, if_neg (by decide), c3], by rw [upm_rr, if_pos rfl], fun k hk => by rw [upm_other (by decide), c5 k hk]⟩
      have h9 : LwS t N A B (o + 1) n (q + 1) (muX1_readUnit_9 rF rM rP (nI o) μc) (muX10_one_11 sM sP μm) := LwS_move (LwS_open (o' := o + 1) h5) c9 (by omega) x11 rfl (fun k a b c => by rw [e9, upm_rr, if_neg a]) (fun r hr => by rw [e9, upm_other hr]) (fun k hk => by rw [e11, upm_rr, if_neg hk]) (fun r hr => by rw [e11, upm_other hr])
      obtain ⟨i1, i2⟩ := ih ol
      obtain ⟨j1, j2, j3⟩ := i1 _ _ _ _ h9
      have e27 : muX1_readUnit_9 rF rM rP (nI o) μc 27 = μc 27 := by rw [e9, upm_other (by decide), d1]
      have e101 : muX1_readUnit_10 rF rM rP (nI o) μc = rM (nI (o + 1)) (muX1_readUnit_9 rF rM rP (nI o) μc) := by
        unfold muX1_readUnit_10
        rw [eo]
      have eM10 : M_X10_one sM sP μm = upm (M_X10_sign 41 (sM (muX10_one_11 sM sP μm))) 57 8 (M_X10_sign 41 (sM (muX10_one_11 sM sP μm)) 57 8 - 1) := by
        unfold M_X10_one
        rw [if_pos h0, if_pos v4, if_neg nb40, if_pos f1']
        rfl
      have hP10 : P_X10_sign 41 (muX10_one_12 sM sP μm) → P_X10_one sM sP μm := fun hs => ⟨fun _ => ⟨b1, hW.1, hW.2, fun _ => ⟨bP, fun z => absurd b40 z, fun _ => ⟨fun _ => ⟨j2, hs⟩, fun z => absurd z f1'⟩⟩, fun z => absurd v4 z⟩, fun z => absurd h0 z⟩
      rcases j3 with ⟨g2, n', p', hl, l1, l2, l3⟩ | ⟨g2, fl⟩
      · have r0 : ¬ rF (nI o + 1) (muX1_readUnit_9 rF rM rP (nI o) μc) = 0 := by rw [eo, g2]; decide
        rw [← e101] at hl l3
        obtain ⟨s1, s2, s3⟩ := LwS_sign (c := 41) hl (by decide)
        refine ⟨⟨k1, fun _ => ⟨fun z => absurd p40 z, fun _ => ⟨fun _ => ⟨by rw [eo]; exact j1, fun z => absurd z r0, fun _ => s1⟩, fun z => absurd l6 (Int32.not_lt.mpr z)⟩⟩, fun z => absurd d0 z⟩, hP10 s2, ?_⟩
        have eM : M_X1_readUnit rF rM rP (nI o) μc = M_X8_takeSign 41 (muX1_readUnit_10 rF rM rP (nI o) μc) := by
          unfold M_X1_readUnit
          rw [if_pos d0, if_neg np40, if_pos l6, if_neg r0]
          rfl
        rw [eM, eM10]
        rcases s3 with ⟨g3, hl2, d27, pl⟩ | ⟨g3, fl⟩
        · refine Or.inl ⟨?_, n', _, ?_, l1, (show n' + p ≤ n + (skp t N p' + 1) by omega), ?_⟩
          · unfold F_X1_readUnit
            rw [if_pos d0, if_neg np40, if_pos l6, if_neg r0, if_neg (by rw [g3]; decide)]
          · rw [show M_X10_sign 41 (sM (muX10_one_11 sM sP μm)) 57 8 - 1 = nI o by rw [hl2.1.2.2.2, nI_pred]]
            exact LwS_open hl2
          · rw [d27, l3, e27]
        · refine Or.inr ⟨?_, fl.up8⟩
          unfold F_X1_readUnit
          rw [if_pos d0, if_neg np40, if_pos l6, if_neg r0, if_pos g3]
      · have r0 : rF (nI o + 1) (muX1_readUnit_9 rF rM rP (nI o) μc) = 0 := by rw [eo, g2]
        rw [← e101] at fl
        obtain ⟨s1, s2⟩ := sp_sign_no (c := 41) fl.nz
        refine ⟨⟨k1, fun _ => ⟨fun z => absurd p40 z, fun _ => ⟨fun _ => ⟨by rw [eo]; exact j1, fun _ => trivial, fun z => absurd r0 z⟩, fun z => absurd l6 (Int32.not_lt.mpr z)⟩⟩, fun z => absurd d0 z⟩, hP10 s1, ?_⟩
        have eM : M_X1_readUnit rF rM rP (nI o) μc = muX1_readUnit_10 rF rM rP (nI o) μc := by
          unfold M_X1_readUnit
          rw [if_pos d0, if_neg np40, if_pos l6, if_pos r0]
        rw [eM, eM10, s2]
        refine Or.inr ⟨?_, fl.up8⟩
        unfold F_X1_readUnit
        rw [if_pos d0, if_neg np40, if_pos l6, if_pos r0]
    · have o6 : o = 6 := by omega
      have nl : ¬ nI o < 6 := by
        rw [o6]
        decide
      obtain ⟨f1, g1⟩ := op2 (by rw [h58, o6]; rfl)
      have f1' : ¬ F_X10_opensOne (VX10_one_5 sM sP μm) ≠ 0 := not_not_intro f1
      have eM : M_X1_readUnit rF rM rP (nI o) μc = M_X8_failHere 3 (M_X8_peek μc) := by
        unfold M_X1_readUnit
        rw [if_pos d0, if_neg np40, if_neg nl]
        rfl
      have eM10 : M_X10_one sM sP μm = upm (upm (VX10_one_5 sM sP μm) 57 5 3) 57 6 (nI q) := by
        unfold M_X10_one
        rw [if_pos h0, if_pos v4, if_neg nb40, if_neg f1']
        unfold muX10_one_10
        rw [g1, e54]
      refine ⟨⟨k1, fun _ => ⟨fun z => absurd p40 z, fun _ => ⟨fun z => absurd z nl, fun _ => trivial⟩⟩, fun z => absurd d0 z⟩, ⟨fun _ => ⟨b1, hW.1, hW.2, fun _ => ⟨bP, fun z => absurd b40 z, fun _ => ⟨fun z => absurd z f1', fun _ => trivial⟩⟩, fun z => absurd v4 z⟩, fun z => absurd h0 z⟩, Or.inr ⟨?_, ?_⟩⟩
      · unfold F_X1_readUnit F_X8_failHere
        rw [if_pos d0, if_neg np40, if_neg nl]
      · obtain ⟨t1, t2, t3, t4⟩ := sp_failHere (k := 3) (μ := M_X8_peek μc)
        rw [eM, eM10]
        exact LwS_flt (k := 3) (a := nI q) h5 (by decide) (a5.1.mono (by simp [upm_rr]) (by simp [upm_rr]) (by rw [upm_other (by decide), upm_other (by decide)])) t1 (by rw [t2, h1.1.1.2.2.2.1]) (by simp [upm_rr]) (by simp [upm_rr]) (fun j q3 q4 q5 q6 q7 => by rw [t3 j q6 q7]) (fun r hr => by rw [t4 r hr]) (fun j q4 q5 q6 => by rw [upm_rr, if_neg q6, upm_rr, if_neg q5]) (fun r hr => by rw [upm_other hr, upm_other hr])
  · have p40 : F_X8_peek μc ≠ 40 := by rw [k2]; exact hb
    have b40 : F_X10_byteAt (VX10_one_5 sM sP μm 57 4) (VX10_one_5 sM sP μm) ≠ 40 := by rw [e54, bt2]; exact hb
    have bP : P_X10_byteAt (VX10_one_5 sM sP μm 57 4) (VX10_one_5 sM sP μm) := by rw [e54]; exact bt1
    have m2w : muX1_readUnit_2 rF rM rP (nI o) μc = M_X8_takeWord (M_X8_peek μc) := rfl
    by_cases hw : wdM t N q 11 = true ∨ wdM t N q 12 = true
    · -- least, most
      obtain ⟨k, hk, wk⟩ : ∃ k, (k = 11 ∨ k = 12) ∧ wdM t N q k = true := by
        rcases hw with w | w
        · exact ⟨11, Or.inl rfl, w⟩
        · exact ⟨12, Or.inr rfl, w⟩
      have v4 : VX10_one_4 sM sP μm = nI (k + 1) - 6 := by
        rw [e4]
        rcases hk with rfl | rfl
        · rw [if_pos wk]
          rfl
        · have n : ¬ wdM t N q 11 = true := fun y => absurd (wd_uniq (by decide) (by decide) (by decide) (by decide) y wk) (by decide)
          rw [if_neg n, if_pos wk]
          rfl
      have nv4 : ¬ VX10_one_4 sM sP μm = -1 := by
        rw [v4]
        rcases hk with rfl | rfl <;> decide
      have l3 : 3 ≤ ltn t N q := wd_ltn (by omega) (by omega) wk
      have lt : ltr (byt t N q) = true := (ltn_0 N6 qN).mpr (by omega)
      have d0 : F_X8_isDigit (F_X8_peek μc) (muX1_readUnit_1 rF rM rP (nI o) μc) = 0 := by rw [dgC, dg_ltr lt]; rfl
      obtain ⟨⟨w1, w2, w3, w4, w5⟩, yes, no⟩ := unit_pair (rF := rF) (rM := rM) (rP := rP) (sM := sM) (sP := sP) (μc0 := μc) (a := VX10_one_4 sM sP μm) (p := p) hN ho ih h5 pp d1 a5.1 ss hk wk v4
      rw [← m2w] at w3 w4 w5 yes no
      have w2' : F_X8_takeWord (muX1_readUnit_1 rF rM rP (nI o) μc) ≠ 0 := by
        rw [n1, w2]
        decide
      have hP : P_X1_readUnit rF rM rP (nI o) μc := by
        refine ⟨k1, fun _ => ⟨fun _ => ⟨w1, fun _ => ⟨w3, fun _ => w5, fun _ => ⟨fun _ => trivial, fun _ => w5⟩⟩, fun z => absurd z w2'⟩, fun z => absurd z p40⟩, fun z => absurd d0 z⟩
      have eF : F_X1_readUnit rF rM rP (nI o) μc = if F_X1_readPair rF rM rP (nI o) (muX1_readUnit_2 rF rM rP (nI o) μc) = 0 then 0 else 1 := by
        unfold F_X1_readUnit F_X1_add
        rw [if_pos d0, if_pos p40, if_pos w2', w4]
        rcases hk with rfl | rfl
        · rw [if_pos (show nI (11 + 1) = 12 by decide)]
          split
          · rfl
          · rw [if_neg (by decide)]
        · rw [if_neg (show ¬ nI (12 + 1) = 12 by decide), if_neg (not_not_intro (show nI (12 + 1) = 13 by decide))]
          split
          · rfl
          · rw [if_neg (by decide)]
      have eM : M_X1_readUnit rF rM rP (nI o) μc = if F_X1_readPair rF rM rP (nI o) (muX1_readUnit_2 rF rM rP (nI o) μc) = 0 then M_X1_readPair rF rM rP (nI o) (muX1_readUnit_2 rF rM rP (nI o) μc) else M_X1_add 26 (nI (k + 1)) (M_X1_readPair rF rM rP (nI o) (muX1_readUnit_2 rF rM rP (nI o) μc)) := by
        unfold M_X1_readUnit
        rw [if_pos d0, if_pos p40, if_pos w2', w4]
        rcases hk with rfl | rfl
        · rw [if_pos (show nI (11 + 1) = 12 by decide)]
          unfold muX1_readUnit_4
          rw [w4]
          rfl
        · rw [if_neg (show ¬ nI (12 + 1) = 12 by decide), if_neg (not_not_intro (show nI (12 + 1) = 13 by decide))]
          unfold muX1_readUnit_8
          rw [w4]
          rfl
      by_cases ol : o < 6
      · obtain ⟨f1, ⟨s1, s2, s3, s4, s5, s6, s7⟩, out⟩ := yes ol
        have out' := out _ rfl
        have eM10 : M_X10_one sM sP μm = muX10_one_23 sM sP μm := by
          unfold M_X10_one
          rw [if_pos h0, if_neg nv4, if_pos f1]
        refine ⟨hP, ⟨fun _ => ⟨b1, hW.1, hW.2, fun z => absurd z nv4, fun _ => ⟨fun _ => ⟨s1, s2, s3, s4, s5, s6, s7⟩, fun z => absurd z f1⟩⟩, fun z => absurd h0 z⟩, ?_⟩
        rw [eF, eM, eM10]
        rcases out' with ⟨g1, n', p', hl, j1, j2, j3⟩ | ⟨g1, fl⟩
        · rw [if_neg g1, if_neg g1]
          exact Or.inl ⟨rfl, n', p', hl, j1, j2, j3⟩
        · rw [if_pos g1, if_pos g1]
          exact Or.inr ⟨rfl, fl⟩
      · obtain ⟨f1, g1, fl⟩ := no ol
        have f1' : ¬ F_X10_opensOne (VX10_one_5 sM sP μm) ≠ 0 := not_not_intro f1
        have eM10 : M_X10_one sM sP μm = muX10_one_15 sM sP μm := by
          unfold M_X10_one
          rw [if_pos h0, if_neg nv4, if_neg f1']
        refine ⟨hP, ⟨fun _ => ⟨b1, hW.1, hW.2, fun z => absurd z nv4, fun _ => ⟨fun z => absurd z f1', fun _ => trivial⟩⟩, fun z => absurd h0 z⟩, ?_⟩
        rw [eF, eM, eM10, if_pos g1, if_pos g1]
        exact Or.inr ⟨rfl, fl⟩
    · have w11 : ¬ wdM t N q 11 = true := fun z => hw (Or.inl z)
      have w12 : ¬ wdM t N q 12 = true := fun z => hw (Or.inr z)
      have v4 : VX10_one_4 sM sP μm = -1 := by rw [e4, if_neg w11, if_neg w12]
      obtain ⟨kn1, kn2, kn3, kn4⟩ := sp_known a5 z5 ss
      have cdk : cdK t N q = knK t N q := by
        unfold cdK
        by_cases z : knK t N q ≠ -1
        · rw [if_pos z]
        · rw [if_neg z, if_neg w11, if_neg w12, Decidable.not_not.mp z]
      by_cases hk : knK t N q = -1
      · have kz : F_X10_knownHere (VX10_one_5 sM sP μm) = -1 := by rw [kn2, hk]
        have a6 : At t N q (M_X10_blanks μm) (muX10_one_6 sM sP μm) := kn4 hk
        have y6 : muX10_one_6 sM sP μm 57 5 = 0 := by rw [a6.2.2 5 (by decide), z5]
        have h6 : LwS t N A B o n q (M_X8_peek μc) (muX10_one_6 sM sP μm) := LwS_move h2 h1.1.1 (Nat.le_refl _) a6.1 rfl (fun _ _ _ _ => rfl) (fun _ _ => rfl) a6.2.2 a6.2.1
        obtain ⟨nu1, nu2, nu3, nu4, nu5, nu6, nu7⟩ := sp_number (lo := 0) (hi := 999) a6.1 y6
        have m7 : muX10_one_7 sM sP μm = M_X10_number 0 999 (muX10_one_6 sM sP μm) := rfl
        rw [← m7] at nu2 nu3 nu4 nu5 nu6 nu7
        have eM10 : M_X10_one sM sP μm = M_X10_notes 0 (F_X10_number 0 999 (muX10_one_6 sM sP μm)) (muX10_one_7 sM sP μm) := by
          unfold M_X10_one
          rw [if_pos h0, if_pos v4, if_pos b40, if_pos kz]
          rfl
        have hP10 : P_X10_notes 0 (F_X10_number 0 999 (muX10_one_6 sM sP μm)) (muX10_one_7 sM sP μm) → P_X10_one sM sP μm := fun hn => ⟨fun _ => ⟨b1, hW.1, hW.2, fun _ => ⟨bP, fun _ => ⟨kn1, fun _ => ⟨nu1, hn⟩, fun z => absurd kz z⟩, fun z => absurd z b40⟩, fun z => absurd v4 z⟩, fun z => absurd h0 z⟩
        cases hd : dg (byt t N q) with
        | true =>
          have d0 : ¬ F_X8_isDigit (F_X8_peek μc) (muX1_readUnit_1 rF rM rP (nI o) μc) = 0 := by rw [dgC, hd]; decide
          obtain ⟨c1, c2, c3, c4⟩ := sp_takeNumber (lo := 0) (hi := 999) h1.1.1
          have m13 : muX1_readUnit_13 rF rM rP (nI o) μc = M_X8_takeNumber 0 999 (M_X8_peek μc) := rfl
          rw [← m13] at c2 c3 c4
          have hP : P_X1_readUnit rF rM rP (nI o) μc := ⟨k1, fun z => absurd z d0, fun _ => c1⟩
          by_cases k0 : nmK t N q 0 999 = 0
          · obtain ⟨g1, g2, g3, g4, g5, g6⟩ := c2 k0
            have ne : ¬ F_X8_takeNumber 0 999 (muX1_readUnit_1 rF rM rP (nI o) μc) = -1 := by
              rw [n1, g1]
              exact ne_m1 g2
            have nE : q + 1 ≤ nmE t N q := by
              unfold nmE
              rw [ss]
              have : dgn t N q ≠ 0 := fun z => by
                have := (dgn_ok (t := t) N6 qN).2.2.1
                rw [z, Nat.add_zero, hd] at this
                cases this
              omega
            have h7 : LwS t N A B o n (nmE t N q) (muX1_readUnit_13 rF rM rP (nI o) μc) (muX10_one_7 sM sP μm) := LwS_move h6 g4 (by omega) nu2 rfl g6 c4 (fun k hk => by
              by_cases q5 : k = 5
              · rw [q5, nu3, k0, y6]
              · by_cases q6 : k = 6
                · rw [q6, (nu4 k0).2]
                · exact nu6 k hk q5 q6) nu7
            obtain ⟨r1, r2, r3⟩ := LwS_const (v := nmV t N q) h7 (by omega) hN
            have eM : M_X1_readUnit rF rM rP (nI o) μc = M_X1_addConstant 26 (nmV t N q) (muX1_readUnit_13 rF rM rP (nI o) μc) := by
              unfold M_X1_readUnit
              rw [if_neg d0, if_neg ne]
              unfold muX1_readUnit_14
              rw [n1, g1]
            rw [← (nu4 k0).1] at r1
            refine ⟨hP, hP10 r1, Or.inl ⟨?_, n + 1, nmE t N q, ?_, by omega, by omega, ?_⟩⟩
            · unfold F_X1_readUnit F_X1_addConstant
              rw [if_neg d0, if_neg ne, if_neg (by decide)]
            · rw [eM, eM10, (nu4 k0).1]
              exact r2
            · rw [eM, r3, c4 27 (by decide), d1]
          · obtain ⟨g1, g2, g3, g4⟩ := c3 k0
            have ne : F_X8_takeNumber 0 999 (muX1_readUnit_1 rF rM rP (nI o) μc) = -1 := by rw [n1, g1]
            have nz : muX10_one_7 sM sP μm 57 5 ≠ 0 := by rw [nu3]; exact k0
            obtain ⟨r1, r2⟩ := sp_notes_no (a := 0) (b := F_X10_number 0 999 (muX10_one_6 sM sP μm)) nz
            have eM : M_X1_readUnit rF rM rP (nI o) μc = muX1_readUnit_13 rF rM rP (nI o) μc := by
              unfold M_X1_readUnit
              rw [if_neg d0, if_pos ne]
            refine ⟨hP, hP10 r1, Or.inr ⟨?_, ?_⟩⟩
            · unfold F_X1_readUnit
              rw [if_neg d0, if_pos ne]
            · rw [eM, eM10, r2]
              exact LwS_flt h6 k0 nu2 g2 g3 nu3 (nu5 k0).2 g4 c4 nu6 nu7
        | false =>
          have d0 : F_X8_isDigit (F_X8_peek μc) (muX1_readUnit_1 rF rM rP (nI o) μc) = 0 := by rw [dgC, hd]; rfl
          have k1' : nmK t N q 0 999 = 1 := by
            unfold nmK
            rw [ss, hd]
            rfl
          have k0 : nmK t N q 0 999 ≠ 0 := by rw [k1']; decide
          have nz : muX10_one_7 sM sP μm 57 5 ≠ 0 := by rw [nu3]; exact k0
          have m6' : muX10_one_7 sM sP μm 57 6 = nI q := by rw [(nu5 k0).2, ss]
          have m5' : muX10_one_7 sM sP μm 57 5 = 1 := by rw [nu3, k1']
          obtain ⟨r1, r2⟩ := sp_notes_no (a := 0) (b := F_X10_number 0 999 (muX10_one_6 sM sP μm)) nz
          obtain ⟨c1, c2, c3, c4⟩ := sp_takeWord h1.1.1
          rw [ss] at c2 c3
          by_cases L0 : ltn t N q = 0
          · obtain ⟨g1, g2, g3, g4⟩ := c3 L0
            have w2' : ¬ F_X8_takeWord (muX1_readUnit_1 rF rM rP (nI o) μc) ≠ 0 := not_not_intro g1
            have eM : M_X1_readUnit rF rM rP (nI o) μc = M_X8_takeWord (M_X8_peek μc) := by
              unfold M_X1_readUnit
              rw [if_pos d0, if_pos p40, if_neg w2', m2w]
            refine ⟨⟨k1, fun _ => ⟨fun _ => ⟨c1, fun z => absurd z w2', fun _ => trivial⟩, fun z => absurd z p40⟩, fun z => absurd d0 z⟩, hP10 r1, Or.inr ⟨?_, ?_⟩⟩
            · unfold F_X1_readUnit
              rw [if_pos d0, if_pos p40, if_neg w2']
            · rw [eM, eM10, r2]
              exact LwS_flt (k := 1) (a := nI q) h6 (by decide) nu2 g2 g3 m5' m6' (fun j q3 q4 q5 q6 q7 => g4 j q3 q6 q7) c4 nu6 nu7
          · obtain ⟨g1, g2, g3, g4, g5⟩ := c2 L0
            have w2' : F_X8_takeWord (muX1_readUnit_1 rF rM rP (nI o) μc) ≠ 0 := by
              rw [n1, g1]
              decide
            have wd : WdC t N q (muX1_readUnit_2 rF rM rP (nI o) μc) := ⟨h1.1.1.1, qN, g3, g4, fun k hk => g2.2.2.2.2 k hk⟩
            obtain ⟨cc1, cc2⟩ := sp_codeOf wd
            rw [cdk, hk] at cc2
            obtain ⟨t1, t2, t3, t4⟩ := sp_failToken (k := 1) (μ := muX1_readUnit_2 rF rM rP (nI o) μc)
            have eM : M_X1_readUnit rF rM rP (nI o) μc = M_X8_failToken 1 (muX1_readUnit_2 rF rM rP (nI o) μc) := by
              unfold M_X1_readUnit
              rw [if_pos d0, if_pos p40, if_pos w2', cc2, if_neg (by decide), if_pos (by decide), if_neg (by decide)]
              rfl
            refine ⟨⟨k1, fun _ => ⟨fun _ => ⟨c1, fun _ => ⟨cc1, fun z => absurd (cc2.symm.trans z) (by decide), fun _ => ⟨fun _ => trivial, fun z => absurd (cc2.symm.trans z) (by decide)⟩⟩, fun z => absurd z w2'⟩, fun z => absurd z p40⟩, fun z => absurd d0 z⟩, hP10 r1, Or.inr ⟨?_, ?_⟩⟩
            · unfold F_X1_readUnit F_X8_failToken
              rw [if_pos d0, if_pos p40, if_pos w2', cc2, if_neg (by decide), if_pos (by decide), if_neg (by decide)]
            · rw [eM, eM10, r2]
              exact LwS_flt (k := 1) (a := nI q) h6 (by decide) nu2 t1 (by rw [t2]; exact g3) m5' m6' (fun j q3 q4 q5 q6 q7 => by rw [t3 j q6 q7]; exact g5 j q3 q4 q5) (fun r hr => by rw [t4 r hr]; exact c4 r hr) nu6 nu7
      · obtain ⟨k, hk7, ek⟩ : ∃ k, k < 7 ∧ knK t N q = nI k := by
          rcases kn_ok t N q with z | z
          · exact absurd z hk
          · exact z
        have l3 := kn_ltn hk
        have lt : ltr (byt t N q) = true := (ltn_0 N6 qN).mpr (by omega)
        have d0 : F_X8_isDigit (F_X8_peek μc) (muX1_readUnit_1 rF rM rP (nI o) μc) = 0 := by rw [dgC, dg_ltr lt]; rfl
        have kz : ¬ F_X10_knownHere (VX10_one_5 sM sP μm) = -1 := by rw [kn2]; exact hk
        have a6 : At t N (q + ltn t N q) (M_X10_blanks μm) (muX10_one_6 sM sP μm) := kn3 hk
        obtain ⟨w1, w2, w3, w4, w5, w6, w7, w8, w9⟩ := LwS_word (o' := o) (μm' := muX10_one_6 sM sP μm) h5 ss (by omega) a6.1 (fun k hk => by
          rw [a6.2.2 k hk, upm_rr]
          by_cases y : k = 8
          · rw [if_pos y, y]
            exact h2.1.2.2.2
          · rw [if_neg y, a5.2.2 k hk]) (fun r hr => by rw [a6.2.1 r hr, a5.2.1 r hr])
        rw [← m2w] at w3 w4 w5 w6
        rw [cdk, ek] at w4
        have w2' : F_X8_takeWord (muX1_readUnit_1 rF rM rP (nI o) μc) ≠ 0 := by
          rw [n1, w2]
          decide
        obtain ⟨r1, r2, r3⟩ := LwS_var (k := k) w5 (by omega) hN hk7
        have n12 : ¬ nI k = 12 := fun z => absurd ((nI_eq (b := 12) (by omega) (by omega)).mp z) (by omega)
        have n13 : nI k ≠ 13 := fun z => absurd ((nI_eq (b := 13) (by omega) (by omega)).mp z) (by omega)
        have nm1 : nI k ≠ -1 := ne_m1 (nI_pos' (by omega))
        have eM : M_X1_readUnit rF rM rP (nI o) μc = M_X1_add 26 (nI k) (muX1_readUnit_2 rF rM rP (nI o) μc) := by
          unfold M_X1_readUnit
          rw [if_pos d0, if_pos p40, if_pos w2', w4, if_neg n12, if_pos n13, if_pos nm1]
          unfold muX1_readUnit_5
          rw [w4]
        have eM10 : M_X10_one sM sP μm = M_X10_notes 1 (nI k) (muX10_one_6 sM sP μm) := by
          unfold M_X10_one
          rw [if_pos h0, if_pos v4, if_pos b40, if_neg kz]
          unfold muX10_one_9
          rw [kn2, ek]
        refine ⟨⟨k1, fun _ => ⟨fun _ => ⟨w1, fun _ => ⟨w3, fun z => absurd (w4.symm.trans z) n12, fun _ => ⟨fun _ => trivial, fun z => absurd (w4.symm.trans z) n13⟩⟩, fun z => absurd z w2'⟩, fun z => absurd z p40⟩, fun z => absurd d0 z⟩, ⟨fun _ => ⟨b1, hW.1, hW.2, fun _ => ⟨bP, fun _ => ⟨kn1, fun z => absurd z kz, fun _ => by rw [kn2, ek]; exact r1⟩, fun z => absurd z b40⟩, fun z => absurd v4 z⟩, fun z => absurd h0 z⟩, Or.inl ⟨?_, n + 1, q + ltn t N q, ?_, by omega, by omega, ?_⟩⟩
        · unfold F_X1_readUnit F_X1_add
          rw [if_pos d0, if_pos p40, if_pos w2', w4, if_neg n12, if_pos n13, if_pos nm1]
        · rw [eM, eM10]
          exact r2
        · rw [eM, r3, w6, d1]
theorem one_no {sM : Mem → Mem} {sP : Mem → Prop} {μ : Mem} (h0 : μ 57 5 ≠ 0) : P_X10_one sM sP μ ∧ M_X10_one sM sP μ = μ := by
  refine ⟨⟨fun z => absurd z h0, fun _ => trivial⟩, ?_⟩
  unfold M_X10_one
  rw [if_neg h0]
