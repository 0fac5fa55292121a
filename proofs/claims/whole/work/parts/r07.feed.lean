/-! feed: the case -/
/-- what a text changes -/
theorem Inv.text {E : EV} {L : LW} {μ μ' : Mem} (hI : Inv E L μ) (o : ∀ h, h ≠ 1 → h ≠ 2 → h ≠ 57 → h ≠ 58 → μ' h = μ h) (o57 : ∀ k, 9 ≤ k → μ' 57 k = μ 57 k) (hT : TxR μ') : Inv E L μ' := by
  obtain ⟨hO, hM, hC, hL, hLC, hLR, -, hMk, hP, hS, hN, h43, h44⟩ := hI
  refine ⟨hO, hM.mono (fun h q => o h (by omega) (by omega) (by omega) (by omega)) hO, hC.mono fun h q => o h (by omega) (by omega) (by omega) (by omega), hL, hLC.mono (by rw [o 21 (by omega) (by omega) (by omega) (by omega)]) (o 22 (by omega) (by omega) (by omega) (by omega)) (o 23 (by omega) (by omega) (by omega) (by omega)), hLR.mono hL (o57 21 (by omega)) fun q _ _ => o q (by omega) (by omega) (by omega) (by omega), hT, ?_, ?_, ?_, ?_, ?_, ?_⟩
  · obtain ⟨n, n1, n2, n3, n4, n5⟩ := hMk
    refine ⟨n, n1, by rw [o 37 (by omega) (by omega) (by omega) (by omega)]; exact n2, by rw [o57 38 (by omega)]; exact n3, fun k hk => ?_, fun h hh hne => ?_⟩
    · rw [o (425 + k) (by omega) (by omega) (by omega) (by omega), o 38 (by omega) (by omega) (by omega) (by omega)]
      exact n4 k hk
    · rw [o 38 (by omega) (by omega) (by omega) (by omega)] at hne
      obtain ⟨k, hk, e⟩ := n5 h hh hne
      exact ⟨k, hk, by rw [o (425 + k) (by omega) (by omega) (by omega) (by omega)]; exact e⟩
  · obtain ⟨w, m, p1, p2, p3, p4, p5, p6, p7, p8⟩ := hP
    refine ⟨w, m, p1, p2, by rw [o 48 (by omega) (by omega) (by omega) (by omega)]; exact p3, by rw [o57 39 (by omega)]; exact p4, by rw [o 48 (by omega) (by omega) (by omega) (by omega)]; exact p5, by rw [o57 41 (by omega)]; exact p6, fun i hi => ?_, fun j hj => ?_⟩
    · rw [o 49 (by omega) (by omega) (by omega) (by omega), o (527 + i) (by omega) (by omega) (by omega) (by omega)]
      exact p7 i hi
    · rw [o 50 (by omega) (by omega) (by omega) (by omega), o (544 + j) (by omega) (by omega) (by omega) (by omega)]
      exact p8 j hj
  · unfold StR at hS ⊢
    rw [o 44 (by omega) (by omega) (by omega) (by omega), o 521 (by omega) (by omega) (by omega) (by omega)]
    exact hS
  · unfold CnR at hN ⊢
    rw [o 0 (by omega) (by omega) (by omega) (by omega), o57 40 (by omega), o 59 (by omega) (by omega) (by omega) (by omega)]
    exact hN
  · rw [o57 43 (by omega)]
    exact h43
  · rw [o57 44 (by omega)]
    exact h44
theorem fdV_ok (a b c d e : Int32) (i : Nat) : 0 ≤ fdV a b c d e i ∧ fdV a b c d e i ≤ 255 := and255 _
theorem case_feed {E : EV} {L : LW} {μ : Mem} (hI : Inv E L μ) (a b c d e : Int32) : P_W_0 a b c d e μ ∧ Inv E L (M_W_0 a b c d e μ) := by
  have hT := hI.2.2.2.2.2.2.1
  obtain ⟨t1, ⟨n, hn, t2⟩, t3, t4⟩ := hT
  by_cases q : n + 20 ≤ 600
  · have hr : F_X8_hasRoom 20 μ ≠ 0 := by
      unfold F_X8_hasRoom
      rw [t2, show (20 : Int32) = nI 20 from rfl, nI_add, if_neg (show ¬ (600 : Int32) < nI (n + 20) from Int32.not_lt.mpr (nI_le (b := 600) q (by omega)))]
      decide
    have i0 : fdC a b c d e n μ 0 μ := ⟨t2, fun k => by rw [if_neg (by omega)], fun _ _ _ => rfl, fun _ _ => rfl⟩
    obtain ⟨p1, i1⟩ := fdC_s q (by decide) i0
    obtain ⟨p2, i2⟩ := fdC_s q (by decide) i1
    obtain ⟨p3, i3⟩ := fdC_s q (by decide) i2
    obtain ⟨p4, i4⟩ := fdC_s q (by decide) i3
    obtain ⟨p5, i5⟩ := fdC_s q (by decide) i4
    have e5 : fdC a b c d e n μ 5 (muX9_feed_5 a b c d e μ) := i5
    obtain ⟨g1, g2, g3, g4⟩ := e5
    have e1 : muL_law_c0_1 a b c d e μ = muX9_feed_5 a b c d e μ := by
      show M_X9_feed a b c d e μ = _
      unfold M_X9_feed
      rw [if_pos hr]
    have m571 : upm (muX9_feed_5 a b c d e μ) 57 0 0 57 1 = nI n := by
      rw [upm_rr, if_neg (by decide), g3 57 (by decide) (by decide), t1, t2]
    obtain ⟨r1, r2, r3, r4, r5⟩ := sp_feedM (a := a) (b := b) (c := c) (d := d) (e := e) q m571
    have c1 : ((muX10_feed_1 a b c d e (muX9_feed_5 a b c d e μ)) 57 1) + 20 ≤ 600 := by
      show upm (muX9_feed_5 a b c d e μ) 57 0 0 57 1 + 20 ≤ 600
      rw [m571, show (20 : Int32) = nI 20 from rfl, nI_add]
      exact nI_le (b := 600) q (by omega)
    have eS : SX10_feed_23 a b c d e (muX9_feed_5 a b c d e μ) = fo 20 (g_X10_feed_23 a b c d e) (upm (muX9_feed_5 a b c d e μ) 57 0 0) := rfl
    have eM : M_W_0 a b c d e μ = fo 20 (g_X10_feed_23 a b c d e) (upm (muX9_feed_5 a b c d e μ) 57 0 0) := by
      show M_X10_feed a b c d e (muL_law_c0_1 a b c d e μ) = _
      rw [e1]
      unfold M_X10_feed
      rw [if_pos c1, eS]
    refine ⟨⟨?_, ?_, fun _ => trivial, fun z => z ?_⟩, ?_⟩
    · exact ⟨fun _ => ⟨p1, p2, p3, p4, p5⟩, fun z => absurd z hr⟩
    · rw [e1]
      exact ⟨fun _ => ⟨r1, fun _ => trivial, fun z => absurd z n_lt⟩, fun z => absurd c1 (Int32.not_le.mpr z)⟩
    · rw [e1]
      unfold F_X9_feed F_X10_feed
      rw [if_pos hr, if_pos c1, eS, g1, r2]
    · rw [eM]
      have x1 : fo 20 (g_X10_feed_23 a b c d e) (upm (muX9_feed_5 a b c d e μ) 57 0 0) 1 = muX9_feed_5 a b c d e μ 1 := by rw [r4 1 (by decide) (by decide), upm_other (by decide)]
      have x2 : fo 20 (g_X10_feed_23 a b c d e) (upm (muX9_feed_5 a b c d e μ) 57 0 0) 2 = muX9_feed_5 a b c d e μ 2 := by rw [r4 2 (by decide) (by decide), upm_other (by decide)]
      refine hI.text (fun h h1 h2 h3 h4 => by rw [r4 h h3 h4, upm_other h3, g3 h h1 h2]) (fun k hk => by rw [r5 k (by omega), upm_rr, if_neg (by omega), g3 57 (by decide) (by decide)]) ⟨by rw [r2, x1, g1], ⟨n + 20, q, by rw [x1, g1]⟩, fun k hk => ?_, ?_⟩
      · have e2 : fo 20 (g_X10_feed_23 a b c d e) (upm (muX9_feed_5 a b c d e μ) 57 0 0) 2 k = if n ≤ k ∧ k < n + 20 then fdV a b c d e (k - n) else μ 2 k := by
          rw [x2]
          exact g2 k
        rw [r3, e2, upm_other (show (58 : Nat) ≠ 57 by decide), g3 58 (by decide) (by decide)]
        by_cases y : n ≤ k ∧ k < n + 20
        · rw [if_pos y, if_pos y]
          exact ⟨rfl, fdV_ok _ _ _ _ _ _⟩
        · rw [if_neg y, if_neg y]
          exact t3 k hk
      · rw [r5 3 (by decide), x1, g4 7 (by decide), upm_rr, if_neg (by decide), g3 57 (by decide) (by decide), t4]
  · have hr : F_X8_hasRoom 20 μ = 0 := by
      unfold F_X8_hasRoom
      rw [t2, show (20 : Int32) = nI 20 from rfl, nI_add, if_pos]
      exact (nI_ltI (a := 600) (by omega) (by omega)).mpr (by omega)
    have e1 : muL_law_c0_1 a b c d e μ = μ := by
      show M_X9_feed a b c d e μ = _
      unfold M_X9_feed
      rw [if_neg (not_not_intro hr)]
    have c1 : ¬ ((muX10_feed_1 a b c d e μ) 57 1) + 20 ≤ 600 := by
      show ¬ upm μ 57 0 0 57 1 + 20 ≤ 600
      rw [upm_rr, if_neg (by decide), t1, t2, show (20 : Int32) = nI 20 from rfl, nI_add]
      exact Int32.not_le.mpr ((nI_ltI (a := 600) (by omega) (by omega)).mpr (by omega))
    refine ⟨⟨⟨fun z => absurd hr z, fun _ => trivial⟩, ?_, fun _ => trivial, fun z => z ?_⟩, ?_⟩
    · rw [e1]
      exact ⟨fun z => absurd z c1, fun _ => trivial⟩
    · rw [e1]
      unfold F_X9_feed F_X10_feed
      rw [if_neg (not_not_intro hr), if_neg c1]
    · show Inv E L (M_X10_feed a b c d e (muL_law_c0_1 a b c d e μ))
      rw [e1]
      unfold M_X10_feed
      rw [if_neg c1]
      exact hI.keep zero57
