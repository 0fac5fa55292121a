/-! a U of the LAW, both sides -/
theorem LwS_move {t : Nat → Int32} {N o n p p' pm' : Nat} {A B μc μm μc' μm' : Mem} (h : LwS t N A B o n p μc μm) (hc : TxC t N p' μc') (pp : p ≤ p') (hm : TxM t N pm' μm') (he : skp t N pm' = skp t N p') (c1 : ∀ k, k ≠ 3 → k ≠ 4 → k ≠ 5 → μc' 1 k = μc 1 k) (c2 : ∀ r, r ≠ 1 → μc' r = μc r) (m1 : ∀ k, k ≠ 4 → μm' 57 k = μm 57 k) (m2 : ∀ r, r ≠ 57 → μm' r = μm r) : LwS t N A B o n p' μc' μm' := by
  obtain ⟨⟨t1, -, t3, t4⟩, ⟨a1, a2, a3⟩, cd, dp, ⟨f1, f2⟩, ⟨g1, g2⟩⟩ := h
  have e27 := c2 27 (by decide)
  have e28 := c2 28 (by decide)
  refine ⟨⟨hc, ⟨_, hm, he⟩, by rw [m1 5 (by decide)]; exact t3, by rw [m1 8 (by decide)]; exact t4⟩, ⟨by rw [c2 26 (by decide)]; exact a1, by rw [m1 22 (by decide)]; exact a2, by omega⟩, fun i hi => ?_, ?_, ⟨fun k u v w => by rw [c1 k u v w, f1 k u v w], fun r u v w z => by rw [c2 r u, f2 r u v w z]⟩, ⟨fun k u v w => by rw [m1 k u, g1 k u v w], fun r u v => by rw [m2 r u, g2 r u v]⟩⟩
  · rw [e27, e28, m2 (264 + i) (by omega)]
    exact cd i hi
  · rw [e27]
    exact dp
theorem LwS_open {t : Nat → Int32} {N o o' n p : Nat} {A B μc μm : Mem} (h : LwS t N A B o n p μc μm) : LwS t N A B o' n p μc (upm μm 57 8 (nI o')) := by
  obtain ⟨⟨t1, ⟨pm, t2, t2'⟩, t3, t4⟩, ⟨a1, a2, a3⟩, cd, dp, fc, ⟨g1, g2⟩⟩ := h
  refine ⟨⟨t1, ⟨pm, t2.mono (by rw [upm_rr, if_neg (by decide)]) (by rw [upm_rr, if_neg (by decide)]) (by rw [upm_other (by decide)]), t2'⟩, by rw [upm_rr, if_neg (by decide)]; exact t3, by rw [upm_rr, if_pos rfl]⟩, ⟨a1, by rw [upm_rr, if_neg (by decide)]; exact a2, a3⟩, fun i hi => by rw [upm_other (by omega)]; exact cd i hi, dp, fc, ⟨fun k u v w => by rw [upm_rr, if_neg v, g1 k u v w], fun r u v => by rw [upm_other u, g2 r u v]⟩⟩
theorem LwS_flt {t : Nat → Int32} {N o n p pm' : Nat} {A B μc μm μc' μm' : Mem} {k a : Int32} (h : LwS t N A B o n p μc μm) (hk : k ≠ 0) (hm : TxM t N pm' μm') (c6 : μc' 1 6 = k) (c7 : μc' 1 7 = a) (m5 : μm' 57 5 = k) (m6 : μm' 57 6 = a) (c1 : ∀ k, k ≠ 3 → k ≠ 4 → k ≠ 5 → k ≠ 6 → k ≠ 7 → μc' 1 k = μc 1 k) (c2 : ∀ r, r ≠ 1 → μc' r = μc r) (m1 : ∀ k, k ≠ 4 → k ≠ 5 → k ≠ 6 → μm' 57 k = μm 57 k) (m2 : ∀ r, r ≠ 57 → μm' r = μm r) : Flt t N A B μc' μm' := by
  obtain ⟨-, -, -, -, ⟨f1, f2⟩, ⟨g1, g2⟩⟩ := h
  exact ⟨k, a, hk, c6, c7, m5, m6, ⟨_, hm⟩, ⟨fun j q3 q4 q5 q6 q7 => by rw [c1 j q3 q4 q5 q6 q7, f1 j q3 q4 q5], fun r u v w z => by rw [c2 r u, f2 r u v w z]⟩, ⟨fun j q4 q5 q6 q8 q22 => by rw [m1 j q4 q5 q6, g1 j q4 q8 q22], fun r u v => by rw [m2 r u, g2 r u v]⟩⟩
theorem sp_failHere {k : Int32} {μ : Mem} : M_X8_failHere k μ 1 6 = k ∧ M_X8_failHere k μ 1 7 = μ 1 3 ∧ (∀ j, j ≠ 6 → j ≠ 7 → M_X8_failHere k μ 1 j = μ 1 j) ∧ ∀ q, q ≠ 1 → M_X8_failHere k μ q = μ q := by
  have e : M_X8_failHere k μ = upm (upm μ 1 6 k) 1 7 (μ 1 3) := by
    unfold M_X8_failHere muX8_failHere_2 muX8_failHere_1
    rw [upm_rr, if_neg (by decide)]
  rw [e]
  exact ⟨by simp [upm_rr], by simp [upm_rr], fun j h6 h7 => by rw [upm_rr, if_neg h7, upm_rr, if_neg h6], fun q hq => by rw [upm_other hq, upm_other hq]⟩
/-- the reference opens one more -/
theorem sp_opens {μ : Mem} (h0 : μ 57 5 = 0) : (μ 57 8 ≠ 6 → F_X10_opensOne μ = 1 ∧ M_X10_opensOne μ = upm μ 57 8 (μ 57 8 + 1)) ∧ (μ 57 8 = 6 → F_X10_opensOne μ = 0 ∧ M_X10_opensOne μ = upm (upm μ 57 5 3) 57 6 (μ 57 4)) := by
  have e : M_X10_opensOne μ = VX10_opensOne_4 μ := rfl
  refine ⟨fun h => ?_, fun h => ?_⟩
  · have e4 : VX10_opensOne_4 μ = upm μ 57 8 (μ 57 8 + 1) := by
      unfold VX10_opensOne_4 muX10_opensOne_2
      rw [if_neg (not_not_intro h0), if_pos h, if_neg (not_not_intro h0)]
    refine ⟨?_, by rw [e, e4]⟩
    unfold F_X10_opensOne
    rw [e4, upm_rr, if_neg (show ¬ (5 : Nat) = 8 by decide), if_neg (not_not_intro h0)]
  · have e4 : VX10_opensOne_4 μ = upm (upm μ 57 5 3) 57 6 (μ 57 4) := by
      unfold VX10_opensOne_4 muX10_opensOne_3
      rw [if_neg (not_not_intro h0), if_neg (not_not_intro h), sp_wrong h0]
    refine ⟨?_, by rw [e, e4]⟩
    unfold F_X10_opensOne
    rw [e4, upm_rr, if_neg (show ¬ (5 : Nat) = 6 by decide), upm_rr, if_pos rfl, if_pos (by decide)]
/-- what the recursion gives, one level deeper -/
def IH (t : Nat → Int32) (N : Nat) (A B : Mem) (o : Nat) (rF : Int32 → Mem → Int32) (rM : Int32 → Mem → Mem) (rP : Int32 → Mem → Prop) (sM : Mem → Mem) (sP : Mem → Prop) : Prop :=
  (∀ n p μc μm, LwS t N A B o n p μc μm → rP (nI o) μc ∧ sP μm ∧ LE t N A B o n p μc (rF (nI o) μc) (rM (nI o) μc) (sM μm)) ∧ ∀ μ : Mem, μ 57 5 ≠ 0 → sP μ ∧ sM μ = μ
theorem pair_ok {t : Nat → Int32} {N o n p : Nat} {A B μc μm : Mem} {rF : Int32 → Mem → Int32} {rM : Int32 → Mem → Mem} {rP : Int32 → Mem → Prop} {sM : Mem → Mem} {sP : Mem → Prop} (ho : o < 6) (ih : IH t N A B (o + 1) rF rM rP sM sP) (h : LwS t N A B (o + 1) n p μc μm) :
    P_X1_readPair rF rM rP (nI o) μc ∧ (P_X10_sign 91 μm ∧ sP (M_X10_sign 91 μm) ∧ P_X10_sign 44 (sM (M_X10_sign 91 μm)) ∧ sP (M_X10_sign 44 (sM (M_X10_sign 91 μm))) ∧ P_X10_sign 93 (sM (M_X10_sign 44 (sM (M_X10_sign 91 μm))))) ∧
    ((F_X1_readPair rF rM rP (nI o) μc = 1 ∧ ∃ n' p', LwS t N A B (o + 1) n' p' (M_X1_readPair rF rM rP (nI o) μc) (M_X10_sign 93 (sM (M_X10_sign 44 (sM (M_X10_sign 91 μm))))) ∧ n + 2 ≤ n' ∧ n' + p ≤ n + p' ∧ dpt (M_X1_readPair rF rM rP (nI o) μc 27) n' = dpt (μc 27) n + 2) ∨
     (F_X1_readPair rF rM rP (nI o) μc = 0 ∧ Flt t N A B (M_X1_readPair rF rM rP (nI o) μc) (M_X10_sign 93 (sM (M_X10_sign 44 (sM (M_X10_sign 91 μm))))))) := by
  obtain ⟨ih1, ih2⟩ := ih
  have l6 : nI o < 6 := nI_lt (b := 6) ho (by omega)
  have eo : nI o + 1 = nI (o + 1) := (nI_succ o).symm
  obtain ⟨a1, a2, a3⟩ := LwS_sign (c := 91) h (by decide)
  have e1 : muX1_readPair_1 rF rM rP (nI o) μc = M_X8_takeSign 91 μc := rfl
  rcases a3 with ⟨f1, h1, d1, pp1⟩ | ⟨f1, x1⟩
  · have g1 : ¬ F_X8_takeSign 91 μc = 0 := by rw [f1]; decide
    rw [← e1] at h1 d1
    obtain ⟨b1, b2, b3⟩ := ih1 _ _ _ _ h1
    have e2 : muX1_readPair_2 rF rM rP (nI o) μc = rM (nI (o + 1)) (muX1_readPair_1 rF rM rP (nI o) μc) := by
      unfold muX1_readPair_2
      rw [eo]
    rcases b3 with ⟨f2, n2, p2, h2, k1, k2, k3⟩ | ⟨f2, x2⟩
    · have g2 : ¬ rF (nI o + 1) (muX1_readPair_1 rF rM rP (nI o) μc) = 0 := by rw [eo, f2]; decide
      rw [← e2] at h2 k3
      obtain ⟨c1, c2, c3⟩ := LwS_sign (c := 44) h2 (by decide)
      have e3 : muX1_readPair_3 rF rM rP (nI o) μc = M_X8_takeSign 44 (muX1_readPair_2 rF rM rP (nI o) μc) := rfl
      rcases c3 with ⟨f3, h3, d3, pp3⟩ | ⟨f3, x3⟩
      · have g3 : ¬ F_X8_takeSign 44 (muX1_readPair_2 rF rM rP (nI o) μc) = 0 := by rw [f3]; decide
        rw [← e3] at h3 d3
        obtain ⟨i1, i2, i3⟩ := ih1 _ _ _ _ h3
        have e4 : muX1_readPair_4 rF rM rP (nI o) μc = rM (nI (o + 1)) (muX1_readPair_3 rF rM rP (nI o) μc) := by
          unfold muX1_readPair_4
          rw [eo]
        rcases i3 with ⟨f4, n4, p4, h4, l1, l2, l3⟩ | ⟨f4, x4⟩
        · have g4 : ¬ rF (nI o + 1) (muX1_readPair_3 rF rM rP (nI o) μc) = 0 := by rw [eo, f4]; decide
          rw [← e4] at h4 l3
          obtain ⟨j1, j2, j3⟩ := LwS_sign (c := 93) h4 (by decide)
          have e5 : muX1_readPair_5 rF rM rP (nI o) μc = M_X8_takeSign 93 (muX1_readPair_4 rF rM rP (nI o) μc) := rfl
          have eM : M_X1_readPair rF rM rP (nI o) μc = M_X8_takeSign 93 (muX1_readPair_4 rF rM rP (nI o) μc) := by
            unfold M_X1_readPair
            rw [if_pos l6, if_neg g1, if_neg g2, if_neg g3, if_neg g4, e5]
          have hP : P_X1_readPair rF rM rP (nI o) μc := ⟨fun _ => ⟨a1, fun z => absurd z g1, fun _ => ⟨by rw [eo]; exact b1, fun z => absurd z g2, fun _ => ⟨c1, fun z => absurd z g3, fun _ => ⟨by rw [eo]; exact i1, fun z => absurd z g4, fun _ => j1⟩⟩⟩⟩, fun z => absurd l6 (Int32.not_lt.mpr z)⟩
          refine ⟨hP, ⟨a2, b2, c2, i2, j2⟩, ?_⟩
          rw [eM]
          rcases j3 with ⟨f5, h5, d5, pp5⟩ | ⟨f5, x5⟩
          · refine Or.inl ⟨?_, n4, _, h5, by omega, by omega, ?_⟩
            · unfold F_X1_readPair
              rw [if_pos l6, if_neg g1, if_neg g2, if_neg g3, if_neg g4, if_neg (by rw [f5]; decide)]
            · rw [d5, l3, d3, k3, d1]
          · refine Or.inr ⟨?_, x5⟩
            unfold F_X1_readPair
            rw [if_pos l6, if_neg g1, if_neg g2, if_neg g3, if_neg g4, if_pos f5]
        · have g4 : rF (nI o + 1) (muX1_readPair_3 rF rM rP (nI o) μc) = 0 := by rw [eo, f4]
          have eM : M_X1_readPair rF rM rP (nI o) μc = muX1_readPair_4 rF rM rP (nI o) μc := by
            unfold M_X1_readPair
            rw [if_pos l6, if_neg g1, if_neg g2, if_neg g3, if_pos g4]
          rw [← e4] at x4
          obtain ⟨s1, s2⟩ := sp_sign_no (c := 93) x4.nz
          rw [eM, s2]
          refine ⟨⟨fun _ => ⟨a1, fun z => absurd z g1, fun _ => ⟨by rw [eo]; exact b1, fun z => absurd z g2, fun _ => ⟨c1, fun z => absurd z g3, fun _ => ⟨by rw [eo]; exact i1, fun _ => trivial, fun z => absurd g4 z⟩⟩⟩⟩, fun z => absurd l6 (Int32.not_lt.mpr z)⟩, ⟨a2, b2, c2, i2, s1⟩, Or.inr ⟨?_, x4⟩⟩
          unfold F_X1_readPair
          rw [if_pos l6, if_neg g1, if_neg g2, if_neg g3, if_pos g4]
      · have eM : M_X1_readPair rF rM rP (nI o) μc = muX1_readPair_3 rF rM rP (nI o) μc := by
          unfold M_X1_readPair
          rw [if_pos l6, if_neg g1, if_neg g2, if_pos f3]
        rw [← e3] at x3
        obtain ⟨r1, r2⟩ := ih2 _ x3.nz
        obtain ⟨s1, s2⟩ := sp_sign_no (c := 93) x3.nz
        rw [eM, r2, s2]
        refine ⟨⟨fun _ => ⟨a1, fun z => absurd z g1, fun _ => ⟨by rw [eo]; exact b1, fun z => absurd z g2, fun _ => ⟨c1, fun _ => trivial, fun z => absurd f3 z⟩⟩⟩, fun z => absurd l6 (Int32.not_lt.mpr z)⟩, ⟨a2, b2, c2, r1, s1⟩, Or.inr ⟨?_, x3⟩⟩
        unfold F_X1_readPair
        rw [if_pos l6, if_neg g1, if_neg g2, if_pos f3]
    · have g2 : rF (nI o + 1) (muX1_readPair_1 rF rM rP (nI o) μc) = 0 := by rw [eo, f2]
      have eM : M_X1_readPair rF rM rP (nI o) μc = muX1_readPair_2 rF rM rP (nI o) μc := by
        unfold M_X1_readPair
        rw [if_pos l6, if_neg g1, if_pos g2]
      rw [← e2] at x2
      obtain ⟨q1, q2⟩ := sp_sign_no (c := 44) x2.nz
      obtain ⟨r1, r2⟩ := ih2 _ x2.nz
      obtain ⟨s1, s2⟩ := sp_sign_no (c := 93) x2.nz
      rw [eM, q2, r2, s2]
      refine ⟨⟨fun _ => ⟨a1, fun z => absurd z g1, fun _ => ⟨by rw [eo]; exact b1, fun _ => trivial, fun z => absurd g2 z⟩⟩, fun z => absurd l6 (Int32.not_lt.mpr z)⟩, ⟨a2, b2, q1, r1, s1⟩, Or.inr ⟨?_, x2⟩⟩
      unfold F_X1_readPair
      rw [if_pos l6, if_neg g1, if_pos g2]
  · have eM : M_X1_readPair rF rM rP (nI o) μc = muX1_readPair_1 rF rM rP (nI o) μc := by
      unfold M_X1_readPair
      rw [if_pos l6, if_pos f1]
    rw [← e1] at x1
    obtain ⟨r1, r2⟩ := ih2 _ x1.nz
    obtain ⟨q1, q2⟩ := sp_sign_no (c := 44) x1.nz
    obtain ⟨s1, s2⟩ := sp_sign_no (c := 93) x1.nz
    rw [eM, r2, q2, r2, s2]
    refine ⟨⟨fun _ => ⟨a1, fun _ => trivial, fun z => absurd f1 z⟩, fun z => absurd l6 (Int32.not_lt.mpr z)⟩, ⟨a2, r1, q1, r1, s1⟩, Or.inr ⟨?_, x1⟩⟩
    unfold F_X1_readPair
    rw [if_pos l6, if_pos f1]
