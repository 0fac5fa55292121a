set_option maxRecDepth 20000 in
set_option maxHeartbeats 2000000 in
theorem ok_X9_year {G : SG} (hG : GK 57 G) (p1 : Int32) (p2 : Int32) (p3 : Int32) (p4 : Int32) (p5 : Int32) (μ : Mem) (hP : P_X9_year p1 p2 p3 p4 p5 μ) : OkK G mX9_year 4 [.ref (ga G 0), .int p1, .int p2, .int p3, .int p4, .int p5] μ (K_X9_year p1 p2 p3 p4 p5 μ) (some (.int (F_X9_year p1 p2 p3 p4 p5 μ))) (M_X9_year p1 p2 p3 p4 p5 μ) := by
  refine okK_of hG rfl (by decide) (Nat.le_of_ble_eq_true rfl) ?_
  unfold P_X9_year at hP
  refine r_aload_n dX9_year_0 0 rfl ?_
  refine r_iload_n dX9_year_1 2 rfl ?_
  refine r_iload_n dX9_year_2 3 rfl ?_
  refine r_iload dX9_year_3 4 rfl ?_
  refine r_cvK (T := 3) (t := 1) (muX9_year_1 p1 p2 p3 p4 p5 μ) (ok_X9_needYear hG p2 p3 p4 μ) lX9_311 (hG.lt (by decide)) sh0 ⟨_, _, rfl⟩ dX9_year_5 (by decide) (by decide) rfl (Nat.le_of_ble_eq_true rfl) rfl (fun c1 => ?_) (fun c1 => ?_)
  · refine kthrow ?_ ?_
    · unfold K_X9_year; rw [if_neg c1]
    · unfold M_X9_year; rw [if_neg c1]
  · replace hP := hP c1
    refine r_aload_n dX9_year_8 0 rfl ?_
    refine r_iload dX9_year_9 5 rfl ?_
    refine r_iconst 0 dX9_year_11 rfl ?_
    refine r_iconst 3 dX9_year_12 rfl ?_
    refine r_cvK (T := 1) (t := 0) (muX9_year_2 p1 p2 p3 p4 p5 μ) (ok_X9_needRange hG p5 0 3 (muX9_year_1 p1 p2 p3 p4 p5 μ)) lX9_160 (hG.lt (by decide)) sh0 ⟨_, _, rfl⟩ dX9_year_13 (by decide) (by decide) rfl (Nat.le_of_ble_eq_true rfl) rfl (fun c2 => ?_) (fun c2 => ?_)
    · refine kthrow ?_ ?_
      · unfold K_X9_year; rw [if_pos c1]
      · unfold M_X9_year; rw [if_pos c1, if_neg c2]
    · replace hP := hP c2
      refine r_aload_n dX9_year_16 0 rfl ?_
      refine r_getR 51 fX9_72 (hG.lt (by decide)) sh0 fs0_10 dX9_year_17 ?_
      refine r_iload_n dX9_year_20 1 rfl ?_
      refine r_iload_n dX9_year_21 2 rfl ?_
      refine r_iload_n dX9_year_22 3 rfl ?_
      refine r_iload dX9_year_23 4 rfl ?_
      refine r_iload dX9_year_25 5 rfl ?_
      have hs1 := hP
      refine r_cvI (ok_X0_yearBy hG p1 p2 p3 p4 p5 (muX9_year_2 p1 p2 p3 p4 p5 μ) hs1) lX9_314 (hG.lt (by decide)) sh51 ⟨_, _, rfl⟩ dX9_year_27 (by decide) (Nat.le_of_ble_eq_true rfl) rfl (Nat.le_of_ble_eq_true rfl) ?_
      refine r_mu (muX9_year_3 p1 p2 p3 p4 p5 μ) rfl ?_
      exact r_ireturn _ dX9_year_30 rfl rfl ⟨by unfold K_X9_year; rw [if_pos c1]; exact c2, congrArg (fun z => some (Value.int z)) (rfl), by unfold M_X9_year; rw [if_pos c1, if_pos c2]⟩
theorem bo_VX9_span_54_2 (v1 : Int32) (v2 : Int32) (v3 : Int32) (v4 : Int32) (v5 : Int32) (v6 : Int32) (v7 : Int32) (i : Nat) (s : Int32 × Int32 × Int32 × Mem) : (VX9_span_54_2 v1 v2 v3 v4 v5 v6 v7 i s) = 0 ∨ (VX9_span_54_2 v1 v2 v3 v4 v5 v6 v7 i s) = 1 := by
  unfold VX9_span_54_2
  split
  · exact Or.inr rfl
  · exact Or.inl rfl
set_option maxRecDepth 20000 in
set_option maxHeartbeats 2000000 in
theorem lp_X9_span_54 {G : SG} (hG : GK 57 G)  (v1 : Int32) (v2 : Int32) (v3 : Int32) (v4 : Int32) (v5 : Int32) (v6 : Int32) (v7 : Int32) (s0 : Int32 × Int32 × Int32 × Mem) (N : Nat) (sN : Int32 × Int32 × Int32 × Mem) (eN : sN = fo N (g_X9_span_54 v1 v2 v3 v4 v5 v6 v7) s0) (hN : ∀ i, i < N → Pb_X9_span_54 v1 v2 v3 v4 v5 v6 v7 i (fo i (g_X9_span_54 v1 v2 v3 v4 v5 v6 v7) s0)) {t : Nat} {Q : PQ} {X : PX} (h : R G mX9_span 54 [(0, .ref (ga G 0)), (1, .int v1), (2, .int v2), (3, .int v3), (4, .int v4), (5, .int v5), (6, .int v6), (7, .int v7), (8, .int (sN).1), (9, .int (sN).2.1), (10, .int (sN).2.2.1), (11, .int (nI N))] [] (sN).2.2.2 t Q X) : R G mX9_span 54 [(0, .ref (ga G 0)), (1, .int v1), (2, .int v2), (3, .int v3), (4, .int v4), (5, .int v5), (6, .int v6), (7, .int v7), (8, .int (s0).1), (9, .int (s0).2.1), (10, .int (s0).2.2.1), (11, .int 0)] [] (s0).2.2.2 t Q X := by
  subst eN
  refine down_i N (fun i => R G mX9_span 54 [(0, .ref (ga G 0)), (1, .int v1), (2, .int v2), (3, .int v3), (4, .int v4), (5, .int v5), (6, .int v6), (7, .int v7), (8, .int ((fo i (g_X9_span_54 v1 v2 v3 v4 v5 v6 v7) s0)).1), (9, .int ((fo i (g_X9_span_54 v1 v2 v3 v4 v5 v6 v7) s0)).2.1), (10, .int ((fo i (g_X9_span_54 v1 v2 v3 v4 v5 v6 v7) s0)).2.2.1), (11, .int (nI i))] [] ((fo i (g_X9_span_54 v1 v2 v3 v4 v5 v6 v7) s0)).2.2.2 t Q X) h (fun i hi hS => ?_)
  have hP := hN i hi
  rw [fo_succ] at hS
  rw [nI_succ] at hS
  generalize fo i (g_X9_span_54 v1 v2 v3 v4 v5 v6 v7) s0 = s at hS hP ⊢
  unfold Pb_X9_span_54 at hP
  refine r_iload dX9_span_54 11 rfl ?_
  refine r_iload_n dX9_span_56 2 rfl ?_
  refine r_icmp_ge 133 dX9_span_57 (by decide) (fun c1 => ?_) (fun c1 => ?_)
  · replace hP := hP.1 c1
    exact hP.elim
  · replace hP := hP.2 c1
    refine r_aload_n dX9_span_60 0 rfl ?_
    refine r_getR 51 fX9_72 (hG.lt (by decide)) sh0 fs0_10 dX9_span_61 ?_
    refine r_iload_n dX9_span_64 1 rfl ?_
    refine r_iload dX9_span_65 11 rfl ?_
    refine r_iadd dX9_span_67 ?_
    refine r_iload_n dX9_span_68 3 rfl ?_
    refine r_iload dX9_span_69 4 rfl ?_
    refine r_iload dX9_span_71 5 rfl ?_
    have hs1 := hP.1
    replace hP := hP.2
    refine r_cvI (ok_X0_goYear hG (v1 + (nI i)) v3 v4 v5 s.2.2.2 hs1) lX9_318 (hG.lt (by decide)) sh51 ⟨_, _, rfl⟩ dX9_span_73 (by decide) (Nat.le_of_ble_eq_true rfl) rfl (Nat.le_of_ble_eq_true rfl) ?_
    refine r_mu (muX9_span_54_1 v1 v2 v3 v4 v5 v6 v7 i s) rfl ?_
    refine r_pop dX9_span_76 rfl ?_
    refine r_iload dX9_span_77 8 rfl ?_
    refine r_aload_n dX9_span_79 0 rfl ?_
    refine r_getR 51 fX9_72 (hG.lt (by decide)) sh0 fs0_10 dX9_span_80 ?_
    have hs2 := hP.1
    replace hP := hP.2
    refine r_cvI (ok_X0_goneThen hG  (muX9_span_54_1 v1 v2 v3 v4 v5 v6 v7 i s) hs2) lX9_322 (hG.lt (by decide)) sh51 ⟨_, _, rfl⟩ dX9_span_83 (by decide) (Nat.le_of_ble_eq_true rfl) rfl (Nat.le_of_ble_eq_true rfl) ?_
    refine r_mmin lX9_288 (Nat.le_of_ble_eq_true rfl) dX9_span_86 ?_
    refine r_istore [(8, _), (0, _), (1, _), (2, _), (3, _), (4, _), (5, _), (6, _), (7, _), (9, _), (10, _), (11, _)] dX9_span_89 (Nat.le_of_ble_eq_true rfl) rfl ?_
    refine r_iload dX9_span_91 9 rfl ?_
    refine r_aload_n dX9_span_93 1 rfl ?_
    refine r_getR 51 fX9_72 (hG.lt (by decide)) sh0 fs0_10 dX9_span_94 ?_
    have hs3 := hP
    refine r_cvI (ok_X0_goneThen hG  (muX9_span_54_1 v1 v2 v3 v4 v5 v6 v7 i s) hs3) lX9_322 (hG.lt (by decide)) sh51 ⟨_, _, rfl⟩ dX9_span_97 (by decide) (Nat.le_of_ble_eq_true rfl) rfl (Nat.le_of_ble_eq_true rfl) ?_
    refine r_mmax lX9_325 (Nat.le_of_ble_eq_true rfl) dX9_span_100 ?_
    refine r_istore [(9, _), (8, _), (0, _), (1, _), (2, _), (3, _), (4, _), (5, _), (6, _), (7, _), (10, _), (11, _)] dX9_span_103 (Nat.le_of_ble_eq_true rfl) rfl ?_
    refine r_iload dX9_span_105 10 rfl ?_
    refine r_aload_n dX9_span_107 2 rfl ?_
    refine r_getR 51 fX9_72 (hG.lt (by decide)) sh0 fs0_10 dX9_span_108 ?_
    refine r_iload dX9_span_111 9 rfl ?_
    refine r_cvI (ok_X0_isGoneThen hG v7 (muX9_span_54_1 v1 v2 v3 v4 v5 v6 v7 i s)) lX9_328 (hG.lt (by decide)) sh51 ⟨_, _, rfl⟩ dX9_span_113 (by decide) (Nat.le_of_ble_eq_true rfl) rfl (Nat.le_of_ble_eq_true rfl) ?_
    refine r_join 124 [(9, .int (imax s.2.1 (F_X0_goneThen  (muX9_span_54_1 v1 v2 v3 v4 v5 v6 v7 i s)))), (8, .int (imin s.1 (F_X0_goneThen  (muX9_span_54_1 v1 v2 v3 v4 v5 v6 v7 i s)))), (0, .ref (ga G 0)), (1, .int v1), (2, .int v2), (3, .int v3), (4, .int v4), (5, .int v5), (6, .int v6), (7, .int v7), (10, .int s.2.2.1), (11, .int (nI i))] [.int (VX9_span_54_2 v1 v2 v3 v4 v5 v6 v7 i s), .int s.2.2.1] (muX9_span_54_1 v1 v2 v3 v4 v5 v6 v7 i s) ?_ (fun hJ => ?_)
    · refine r_iadd dX9_span_124 ?_
      refine r_istore [(10, _), (9, _), (8, _), (0, _), (1, _), (2, _), (3, _), (4, _), (5, _), (6, _), (7, _), (11, _)] dX9_span_125 (Nat.le_of_ble_eq_true rfl) rfl ?_
      refine r_iinc ((nI i) + 1) [(11, _), (10, _), (9, _), (8, _), (0, _), (1, _), (2, _), (3, _), (4, _), (5, _), (6, _), (7, _)] dX9_span_127 11 rfl rfl (Nat.le_of_ble_eq_true rfl) rfl ?_
      refine r_goto 54 dX9_span_130 (by decide) ?_
      have e : g_X9_span_54 v1 v2 v3 v4 v5 v6 v7 i s = ((imin s.1 (F_X0_goneThen  (muX9_span_54_1 v1 v2 v3 v4 v5 v6 v7 i s))), (imax s.2.1 (F_X0_goneThen  (muX9_span_54_1 v1 v2 v3 v4 v5 v6 v7 i s))), (s.2.2.1 + (VX9_span_54_2 v1 v2 v3 v4 v5 v6 v7 i s)), (muX9_span_54_1 v1 v2 v3 v4 v5 v6 v7 i s)) := by unfold g_X9_span_54; rfl
      rw [e] at hS
      dsimp only at hS
      exact r_sub [4, 5, 6, 7, 8, 9, 10, 11, 3, 2, 1, 0] rfl hS
    · refine r_if_eq 123 dX9_span_116 (by decide) (fun c2 => ?_) (fun c2 => ?_)
      · refine r_iconst 1 dX9_span_123 rfl ?_
        have e : (VX9_span_54_2 v1 v2 v3 v4 v5 v6 v7 i s) = 1 := by unfold VX9_span_54_2; rw [if_pos c2]
        rw [e] at hJ
        exact r_sub [0, 1, 2, 3, 4, 5, 6, 7, 8, 9, 10, 11] rfl hJ
      · refine r_iconst 0 dX9_span_119 rfl ?_
        refine r_goto 124 dX9_span_120 (by decide) ?_
        have e : (VX9_span_54_2 v1 v2 v3 v4 v5 v6 v7 i s) = 0 := by unfold VX9_span_54_2; rw [if_neg c2]
        rw [e] at hJ
        exact r_sub [0, 1, 2, 3, 4, 5, 6, 7, 8, 9, 10, 11] rfl hJ
theorem bo_VX9_span_6 (p1 : Int32) (p2 : Int32) (p3 : Int32) (p4 : Int32) (p5 : Int32) (p6 : Int32) (p7 : Int32) (μ : Mem) : (VX9_span_6 p1 p2 p3 p4 p5 p6 p7 μ) = 0 ∨ (VX9_span_6 p1 p2 p3 p4 p5 p6 p7 μ) = 1 := by
  unfold VX9_span_6
  split
  · exact Or.inr rfl
  · exact Or.inl rfl
set_option maxRecDepth 20000 in
set_option maxHeartbeats 2000000 in
theorem ok_X9_span {G : SG} (hG : GK 57 G) (p1 : Int32) (p2 : Int32) (p3 : Int32) (p4 : Int32) (p5 : Int32) (p6 : Int32) (p7 : Int32) (μ : Mem) (hP : P_X9_span p1 p2 p3 p4 p5 p6 p7 μ) : OkK G mX9_span 6 [.ref (ga G 0), .int p1, .int p2, .int p3, .int p4, .int p5, .int p6, .int p7] μ (K_X9_span p1 p2 p3 p4 p5 p6 p7 μ) (some (.int (F_X9_span p1 p2 p3 p4 p5 p6 p7 μ))) (M_X9_span p1 p2 p3 p4 p5 p6 p7 μ) := by
  refine okK_of hG rfl (by decide) (Nat.le_of_ble_eq_true rfl) ?_
  unfold P_X9_span at hP
  refine r_aload_n dX9_span_0 0 rfl ?_
  refine r_iload_n dX9_span_1 2 rfl ?_
  refine r_iconst 1 dX9_span_2 rfl ?_
  refine r_bipush 20 dX9_span_3 rfl ?_
  refine r_cvK (T := 1) (t := 5) (muX9_span_1 p1 p2 p3 p4 p5 p6 p7 μ) (ok_X9_needRange hG p2 1 20 μ) lX9_160 (hG.lt (by decide)) sh0 ⟨_, _, rfl⟩ dX9_span_5 (by decide) (by decide) rfl (Nat.le_of_ble_eq_true rfl) rfl (fun c1 => ?_) (fun c1 => ?_)
  · refine kthrow ?_ ?_
    · unfold K_X9_span; rw [if_neg c1]
    · unfold M_X9_span; rw [if_neg c1]
  · replace hP := hP c1
    refine r_aload_n dX9_span_8 0 rfl ?_
    refine r_iload_n dX9_span_9 3 rfl ?_
    refine r_iload dX9_span_10 4 rfl ?_
    refine r_iload dX9_span_12 5 rfl ?_
    refine r_cvK (T := 3) (t := 2) (muX9_span_2 p1 p2 p3 p4 p5 p6 p7 μ) (ok_X9_needYear hG p3 p4 p5 (muX9_span_1 p1 p2 p3 p4 p5 p6 p7 μ)) lX9_311 (hG.lt (by decide)) sh0 ⟨_, _, rfl⟩ dX9_span_14 (by decide) (by decide) rfl (Nat.le_of_ble_eq_true rfl) rfl (fun c2 => ?_) (fun c2 => ?_)
    · refine kthrow ?_ ?_
      · unfold K_X9_span; rw [if_pos c1, if_neg c2]
      · unfold M_X9_span; rw [if_pos c1, if_neg c2]
    · replace hP := hP c2
      refine r_aload_n dX9_span_17 0 rfl ?_
      refine r_iload dX9_span_18 6 rfl ?_
      refine r_iconst 0 dX9_span_20 rfl ?_
      refine r_iconst 2 dX9_span_21 rfl ?_
      refine r_cvK (T := 1) (t := 1) (muX9_span_3 p1 p2 p3 p4 p5 p6 p7 μ) (ok_X9_needRange hG p6 0 2 (muX9_span_2 p1 p2 p3 p4 p5 p6 p7 μ)) lX9_160 (hG.lt (by decide)) sh0 ⟨_, _, rfl⟩ dX9_span_22 (by decide) (by decide) rfl (Nat.le_of_ble_eq_true rfl) rfl (fun c3 => ?_) (fun c3 => ?_)
      · refine kthrow ?_ ?_
        · unfold K_X9_span; rw [if_pos c1, if_pos c2, if_neg c3]
        · unfold M_X9_span; rw [if_pos c1, if_pos c2, if_neg c3]
      · replace hP := hP c3
        refine r_aload_n dX9_span_25 0 rfl ?_
        refine r_iload dX9_span_26 7 rfl ?_
        refine r_iconst 0 dX9_span_28 rfl ?_
        refine r_aload_n dX9_span_29 0 rfl ?_
        refine r_getR 3 fX9_19 (hG.lt (by decide)) sh0 fs0_1 dX9_span_30 ?_
        refine r_getI fX9_110 (hG.lt (by decide)) sh3 fs3_9 dX9_span_33 ?_
        refine r_iconst 1 dX9_span_36 rfl ?_
        refine r_isub dX9_span_37 ?_
        refine r_cvK (T := 1) (t := 0) (muX9_span_4 p1 p2 p3 p4 p5 p6 p7 μ) (ok_X9_needRange hG p7 0 (((muX9_span_3 p1 p2 p3 p4 p5 p6 p7 μ) 3 9) - 1) (muX9_span_3 p1 p2 p3 p4 p5 p6 p7 μ)) lX9_160 (hG.lt (by decide)) sh0 ⟨_, _, rfl⟩ dX9_span_38 (by decide) (by decide) rfl (Nat.le_of_ble_eq_true rfl) rfl (fun c4 => ?_) (fun c4 => ?_)
        · refine kthrow ?_ ?_
          · unfold K_X9_span; rw [if_pos c1, if_pos c2, if_pos c3]
          · unfold M_X9_span; rw [if_pos c1, if_pos c2, if_pos c3, if_neg c4]
        · replace hP := hP c4
          refine r_bipush 10 dX9_span_41 rfl ?_
          refine r_istore [(8, _), (0, _), (1, _), (2, _), (3, _), (4, _), (5, _), (6, _), (7, _)] dX9_span_43 (Nat.le_of_ble_eq_true rfl) rfl ?_
          refine r_iconst 0 dX9_span_45 rfl ?_
          refine r_istore [(9, _), (8, _), (0, _), (1, _), (2, _), (3, _), (4, _), (5, _), (6, _), (7, _)] dX9_span_46 (Nat.le_of_ble_eq_true rfl) rfl ?_
          refine r_iconst 0 dX9_span_48 rfl ?_
          refine r_istore [(10, _), (9, _), (8, _), (0, _), (1, _), (2, _), (3, _), (4, _), (5, _), (6, _), (7, _)] dX9_span_49 (Nat.le_of_ble_eq_true rfl) rfl ?_
          refine r_iconst 0 dX9_span_51 rfl ?_
          refine r_istore [(11, _), (10, _), (9, _), (8, _), (0, _), (1, _), (2, _), (3, _), (4, _), (5, _), (6, _), (7, _)] dX9_span_52 (Nat.le_of_ble_eq_true rfl) rfl ?_
          have hs1 := hP.1
          replace hP := hP.2
          refine r_sub [4, 5, 6, 7, 8, 9, 10, 11, 3, 2, 1, 0] rfl ?_
          refine lp_X9_span_54 hG p1 p2 p3 p4 p5 p6 p7 (10, 0, 0, (muX9_span_4 p1 p2 p3 p4 p5 p6 p7 μ)) ((NX9_span_54 p1 p2 p3 p4 p5 p6 p7 μ)) (SX9_span_54 p1 p2 p3 p4 p5 p6 p7 μ) rfl hs1 ?_
          refine r_iload dX9_span_54 11 rfl ?_
          refine r_iload_n dX9_span_56 2 rfl ?_
          refine r_icmp_ge 133 dX9_span_57 (by decide) (fun c5 => ?_) (fun c5 => ?_)
          · replace hP := hP.1 c5
            refine r_iload dX9_span_133 6 rfl ?_
            refine r_if_ne 143 dX9_span_135 (by decide) (fun c6 => ?_) (fun c6 => ?_)
            · refine r_iload dX9_span_143 6 rfl ?_
              refine r_iconst 1 dX9_span_145 rfl ?_
              refine r_icmp_ne 154 dX9_span_146 (by decide) (fun c7 => ?_) (fun c7 => ?_)
              · refine r_iload dX9_span_154 10 rfl ?_
                exact r_ireturn _ dX9_span_156 rfl rfl ⟨by unfold K_X9_span; rw [if_pos c1, if_pos c2, if_pos c3]; exact c4, congrArg (fun z => some (Value.int z)) (by unfold F_X9_span; rw [if_pos c6, if_pos c7]), by unfold M_X9_span; rw [if_pos c1, if_pos c2, if_pos c3, if_pos c4]⟩
              · refine r_iload dX9_span_149 9 rfl ?_
                refine r_goto 156 dX9_span_151 (by decide) ?_
                exact r_ireturn _ dX9_span_156 rfl rfl ⟨by unfold K_X9_span; rw [if_pos c1, if_pos c2, if_pos c3]; exact c4, congrArg (fun z => some (Value.int z)) (by unfold F_X9_span; rw [if_pos c6, if_neg (not_not_intro c7)]), by unfold M_X9_span; rw [if_pos c1, if_pos c2, if_pos c3, if_pos c4]⟩
            · refine r_iload dX9_span_138 8 rfl ?_
              refine r_goto 156 dX9_span_140 (by decide) ?_
              exact r_ireturn _ dX9_span_156 rfl rfl ⟨by unfold K_X9_span; rw [if_pos c1, if_pos c2, if_pos c3]; exact c4, congrArg (fun z => some (Value.int z)) (by unfold F_X9_span; rw [if_neg (not_not_intro c6)]), by unfold M_X9_span; rw [if_pos c1, if_pos c2, if_pos c3, if_pos c4]⟩
          · replace hP := hP.2 c5
            refine r_aload_n dX9_span_60 0 rfl ?_
            refine r_getR 51 fX9_72 (hG.lt (by decide)) sh0 fs0_10 dX9_span_61 ?_
            refine r_iload_n dX9_span_64 1 rfl ?_
            refine r_iload dX9_span_65 11 rfl ?_
            refine r_iadd dX9_span_67 ?_
            refine r_iload_n dX9_span_68 3 rfl ?_
            refine r_iload dX9_span_69 4 rfl ?_
            refine r_iload dX9_span_71 5 rfl ?_
            have hs5 := hP.1
            replace hP := hP.2
            refine r_cvI (ok_X0_goYear hG (p1 + (nI (NX9_span_54 p1 p2 p3 p4 p5 p6 p7 μ))) p3 p4 p5 (SX9_span_54 p1 p2 p3 p4 p5 p6 p7 μ).2.2.2 hs5) lX9_318 (hG.lt (by decide)) sh51 ⟨_, _, rfl⟩ dX9_span_73 (by decide) (Nat.le_of_ble_eq_true rfl) rfl (Nat.le_of_ble_eq_true rfl) ?_
            refine r_mu (muX9_span_5 p1 p2 p3 p4 p5 p6 p7 μ) rfl ?_
            refine r_pop dX9_span_76 rfl ?_
            refine r_iload dX9_span_77 8 rfl ?_
            refine r_aload_n dX9_span_79 0 rfl ?_
            refine r_getR 51 fX9_72 (hG.lt (by decide)) sh0 fs0_10 dX9_span_80 ?_
            have hs6 := hP.1
            replace hP := hP.2
            refine r_cvI (ok_X0_goneThen hG  (muX9_span_5 p1 p2 p3 p4 p5 p6 p7 μ) hs6) lX9_322 (hG.lt (by decide)) sh51 ⟨_, _, rfl⟩ dX9_span_83 (by decide) (Nat.le_of_ble_eq_true rfl) rfl (Nat.le_of_ble_eq_true rfl) ?_
            refine r_mmin lX9_288 (Nat.le_of_ble_eq_true rfl) dX9_span_86 ?_
            refine r_istore [(8, _), (0, _), (1, _), (2, _), (3, _), (4, _), (5, _), (6, _), (7, _), (9, _), (10, _), (11, _)] dX9_span_89 (Nat.le_of_ble_eq_true rfl) rfl ?_
            refine r_iload dX9_span_91 9 rfl ?_
            refine r_aload_n dX9_span_93 1 rfl ?_
            refine r_getR 51 fX9_72 (hG.lt (by decide)) sh0 fs0_10 dX9_span_94 ?_
            have hs7 := hP.1
            replace hP := hP.2
            refine r_cvI (ok_X0_goneThen hG  (muX9_span_5 p1 p2 p3 p4 p5 p6 p7 μ) hs7) lX9_322 (hG.lt (by decide)) sh51 ⟨_, _, rfl⟩ dX9_span_97 (by decide) (Nat.le_of_ble_eq_true rfl) rfl (Nat.le_of_ble_eq_true rfl) ?_
            refine r_mmax lX9_325 (Nat.le_of_ble_eq_true rfl) dX9_span_100 ?_
            refine r_istore [(9, _), (8, _), (0, _), (1, _), (2, _), (3, _), (4, _), (5, _), (6, _), (7, _), (10, _), (11, _)] dX9_span_103 (Nat.le_of_ble_eq_true rfl) rfl ?_
            refine r_iload dX9_span_105 10 rfl ?_
            refine r_aload_n dX9_span_107 2 rfl ?_
            refine r_getR 51 fX9_72 (hG.lt (by decide)) sh0 fs0_10 dX9_span_108 ?_
            refine r_iload dX9_span_111 9 rfl ?_
            refine r_cvI (ok_X0_isGoneThen hG p7 (muX9_span_5 p1 p2 p3 p4 p5 p6 p7 μ)) lX9_328 (hG.lt (by decide)) sh51 ⟨_, _, rfl⟩ dX9_span_113 (by decide) (Nat.le_of_ble_eq_true rfl) rfl (Nat.le_of_ble_eq_true rfl) ?_
            refine r_join 124 [(9, .int (imax (SX9_span_54 p1 p2 p3 p4 p5 p6 p7 μ).2.1 (F_X0_goneThen  (muX9_span_5 p1 p2 p3 p4 p5 p6 p7 μ)))), (8, .int (imin (SX9_span_54 p1 p2 p3 p4 p5 p6 p7 μ).1 (F_X0_goneThen  (muX9_span_5 p1 p2 p3 p4 p5 p6 p7 μ)))), (0, .ref (ga G 0)), (1, .int p1), (2, .int p2), (3, .int p3), (4, .int p4), (5, .int p5), (6, .int p6), (7, .int p7), (10, .int (SX9_span_54 p1 p2 p3 p4 p5 p6 p7 μ).2.2.1), (11, .int (nI (NX9_span_54 p1 p2 p3 p4 p5 p6 p7 μ)))] [.int (VX9_span_6 p1 p2 p3 p4 p5 p6 p7 μ), .int (SX9_span_54 p1 p2 p3 p4 p5 p6 p7 μ).2.2.1] (muX9_span_5 p1 p2 p3 p4 p5 p6 p7 μ) ?_ (fun hJ => ?_)
            · refine r_iadd dX9_span_124 ?_
              refine r_istore [(10, _), (9, _), (8, _), (0, _), (1, _), (2, _), (3, _), (4, _), (5, _), (6, _), (7, _), (11, _)] dX9_span_125 (Nat.le_of_ble_eq_true rfl) rfl ?_
              refine r_iinc ((nI (NX9_span_54 p1 p2 p3 p4 p5 p6 p7 μ)) + 1) [(11, _), (10, _), (9, _), (8, _), (0, _), (1, _), (2, _), (3, _), (4, _), (5, _), (6, _), (7, _)] dX9_span_127 11 rfl rfl (Nat.le_of_ble_eq_true rfl) rfl ?_
              refine r_goto 54 dX9_span_130 (by decide) ?_
              exact hP.elim
            · refine r_if_eq 123 dX9_span_116 (by decide) (fun c6 => ?_) (fun c6 => ?_)
              · refine r_iconst 1 dX9_span_123 rfl ?_
                have e : (VX9_span_6 p1 p2 p3 p4 p5 p6 p7 μ) = 1 := by unfold VX9_span_6; rw [if_pos c6]
                rw [e] at hJ
                exact r_sub [0, 1, 2, 3, 4, 5, 6, 7, 8, 9, 10, 11] rfl hJ
              · refine r_iconst 0 dX9_span_119 rfl ?_
                refine r_goto 124 dX9_span_120 (by decide) ?_
                have e : (VX9_span_6 p1 p2 p3 p4 p5 p6 p7 μ) = 0 := by unfold VX9_span_6; rw [if_neg c6]
                rw [e] at hJ
                exact r_sub [0, 1, 2, 3, 4, 5, 6, 7, 8, 9, 10, 11] rfl hJ
set_option maxRecDepth 20000 in
set_option maxHeartbeats 2000000 in
theorem ok_X9_image {G : SG} (hG : GK 57 G)  (μ : Mem) (hP : P_X9_image  μ) : OkF G mX9_image [.ref (ga G 0)] μ (some (.int (F_X9_image  μ))) (M_X9_image  μ) := by
  refine okF_of hG rfl rfl (Nat.le_of_ble_eq_true rfl) ?_
  unfold P_X9_image at hP
  refine r_aload_n dX9_image_0 0 rfl ?_
  refine r_getR 48 fX9_63 (hG.lt (by decide)) sh0 fs0_9 dX9_image_1 ?_
  refine r_aload_n dX9_image_4 0 rfl ?_
  refine r_getR 43 fX9_56 (hG.lt (by decide)) sh0 fs0_8 dX9_image_5 ?_
  have hs1 := hP
  refine r_cvI (ok_X4_addImage hG  μ hs1) lX9_331 (hG.lt (by decide)) sh48 ⟨_, _, rfl⟩ dX9_image_8 (by decide) (Nat.le_of_ble_eq_true rfl) rfl (Nat.le_of_ble_eq_true rfl) ?_
  refine r_mu (muX9_image_1 μ) rfl ?_
  refine r_if_eq 24 dX9_image_11 (by decide) (fun c1 => ?_) (fun c1 => ?_)
  · refine r_iconst (-1) dX9_image_24 rfl ?_
    exact r_ireturn _ dX9_image_25 rfl rfl ⟨congrArg (fun z => some (Value.int z)) (by unfold F_X9_image; rw [if_pos c1]), rfl⟩
  · refine r_aload_n dX9_image_14 0 rfl ?_
    refine r_getR 48 fX9_63 (hG.lt (by decide)) sh0 fs0_9 dX9_image_15 ?_
    refine r_getI fX9_334 (hG.lt (by decide)) sh48 fs48_3 dX9_image_18 ?_
    refine r_goto 25 dX9_image_21 (by decide) ?_
    exact r_ireturn _ dX9_image_25 rfl rfl ⟨congrArg (fun z => some (Value.int z)) (by unfold F_X9_image; rw [if_neg c1]), rfl⟩
set_option maxRecDepth 20000 in
set_option maxHeartbeats 2000000 in
theorem ok_X9_restore {G : SG} (hG : GK 57 G)  (μ : Mem) (hP : P_X9_restore  μ) : OkF G mX9_restore [.ref (ga G 0)] μ (some (.int (F_X9_restore  μ))) (M_X9_restore  μ) := by
  refine okF_of hG rfl rfl (Nat.le_of_ble_eq_true rfl) ?_
  unfold P_X9_restore at hP
  refine r_aload_n dX9_restore_0 0 rfl ?_
  refine r_getR 48 fX9_63 (hG.lt (by decide)) sh0 fs0_9 dX9_restore_1 ?_
  refine r_aload_n dX9_restore_4 0 rfl ?_
  refine r_getR 43 fX9_56 (hG.lt (by decide)) sh0 fs0_8 dX9_restore_5 ?_
  have hs1 := hP
  refine r_cvI (ok_X4_takeImage hG  μ hs1) lX9_337 (hG.lt (by decide)) sh48 ⟨_, _, rfl⟩ dX9_restore_8 (by decide) (Nat.le_of_ble_eq_true rfl) rfl (Nat.le_of_ble_eq_true rfl) ?_
  refine r_mu (muX9_restore_1 μ) rfl ?_
  refine r_if_ne 16 dX9_restore_11 (by decide) (fun c1 => ?_) (fun c1 => ?_)
  · refine r_aload_n dX9_restore_16 0 rfl ?_
    refine r_iconst 0 dX9_restore_17 rfl ?_
    refine r_put fiX9_135 (hG.lt (by decide)) sh0 fs0_11 dX9_restore_18 ?_
    refine r_mu (muX9_restore_2 μ) rfl ?_
    refine r_aload_n dX9_restore_21 0 rfl ?_
    refine r_getR 48 fX9_63 (hG.lt (by decide)) sh0 fs0_9 dX9_restore_22 ?_
    refine r_getI fX9_334 (hG.lt (by decide)) sh48 fs48_3 dX9_restore_25 ?_
    exact r_ireturn _ dX9_restore_28 rfl rfl ⟨congrArg (fun z => some (Value.int z)) (by unfold F_X9_restore; rw [if_pos c1]), by unfold M_X9_restore; rw [if_pos c1]⟩
  · refine r_iconst (-1) dX9_restore_14 rfl ?_
    exact r_ireturn _ dX9_restore_15 rfl rfl ⟨congrArg (fun z => some (Value.int z)) (by unfold F_X9_restore; rw [if_neg (not_not_intro c1)]), by unfold M_X9_restore; rw [if_neg (not_not_intro c1)]⟩
set_option maxRecDepth 20000 in
set_option maxHeartbeats 2000000 in
theorem ok_X9_status {G : SG} (hG : GK 57 G) (p1 : Int32) (μ : Mem) : OkF G mX9_status [.ref (ga G 0), .int p1] μ (some (.int (F_X9_status p1 μ))) μ := by
  refine okF_of hG rfl rfl (Nat.le_of_ble_eq_true rfl) ?_
  refine r_iload_n dX9_status_0 1 rfl ?_
  refine r_if_ne 11 dX9_status_1 (by decide) (fun c1 => ?_) (fun c1 => ?_)
  · refine r_iload_n dX9_status_11 1 rfl ?_
    refine r_iconst 1 dX9_status_12 rfl ?_
    refine r_icmp_ne 23 dX9_status_13 (by decide) (fun c2 => ?_) (fun c2 => ?_)
    · refine r_iconst (-1) dX9_status_23 rfl ?_
      exact r_ireturn _ dX9_status_24 rfl rfl ⟨congrArg (fun z => some (Value.int z)) (by unfold F_X9_status; rw [if_pos c1, if_pos c2]), rfl⟩
    · refine r_aload_n dX9_status_16 0 rfl ?_
      refine r_getI fX9_343 (hG.lt (by decide)) sh0 fs0_13 dX9_status_17 ?_
      refine r_goto 24 dX9_status_20 (by decide) ?_
      exact r_ireturn _ dX9_status_24 rfl rfl ⟨congrArg (fun z => some (Value.int z)) (by unfold F_X9_status; rw [if_pos c1, if_neg (not_not_intro c2)]), rfl⟩
  · refine r_aload_n dX9_status_4 0 rfl ?_
    refine r_getI fX9_340 (hG.lt (by decide)) sh0 fs0_12 dX9_status_5 ?_
    refine r_goto 24 dX9_status_8 (by decide) ?_
    exact r_ireturn _ dX9_status_24 rfl rfl ⟨congrArg (fun z => some (Value.int z)) (by unfold F_X9_status; rw [if_neg (not_not_intro c1)]), rfl⟩
set_option maxRecDepth 20000 in
set_option maxHeartbeats 2000000 in
theorem ok_X9_count {G : SG} (hG : GK 57 G) (p1 : Int32) (μ : Mem) : OkF G mX9_count [.ref (ga G 0), .int p1] μ (some (.int (F_X9_count p1 μ))) μ := by
  refine okF_of hG rfl rfl (Nat.le_of_ble_eq_true rfl) ?_
  refine r_iload_n dX9_count_0 1 rfl ?_
  refine r_if_ne 14 dX9_count_1 (by decide) (fun c1 => ?_) (fun c1 => ?_)
  · refine r_iload_n dX9_count_14 1 rfl ?_
    refine r_iconst 1 dX9_count_15 rfl ?_
    refine r_icmp_ne 29 dX9_count_16 (by decide) (fun c2 => ?_) (fun c2 => ?_)
    · refine r_iload_n dX9_count_29 1 rfl ?_
      refine r_iconst 2 dX9_count_30 rfl ?_
      refine r_icmp_ne 44 dX9_count_31 (by decide) (fun c3 => ?_) (fun c3 => ?_)
      · refine r_iconst (-1) dX9_count_44 rfl ?_
        exact r_ireturn _ dX9_count_45 rfl rfl ⟨congrArg (fun z => some (Value.int z)) (by unfold F_X9_count; rw [if_pos c1, if_pos c2, if_pos c3]), rfl⟩
      · refine r_aload_n dX9_count_34 0 rfl ?_
        refine r_getR 48 fX9_63 (hG.lt (by decide)) sh0 fs0_9 dX9_count_35 ?_
        refine r_getI fX9_157 (hG.lt (by decide)) sh48 fs48_2 dX9_count_38 ?_
        refine r_goto 45 dX9_count_41 (by decide) ?_
        exact r_ireturn _ dX9_count_45 rfl rfl ⟨congrArg (fun z => some (Value.int z)) (by unfold F_X9_count; rw [if_pos c1, if_pos c2, if_neg (not_not_intro c3)]), rfl⟩
    · refine r_aload_n dX9_count_19 0 rfl ?_
      refine r_getR 1 fX9_10 (hG.lt (by decide)) sh0 fs0_0 dX9_count_20 ?_
      refine r_getI fX9_87 (hG.lt (by decide)) sh1 fs1_1 dX9_count_23 ?_
      refine r_goto 45 dX9_count_26 (by decide) ?_
      exact r_ireturn _ dX9_count_45 rfl rfl ⟨congrArg (fun z => some (Value.int z)) (by unfold F_X9_count; rw [if_pos c1, if_neg (not_not_intro c2)]), rfl⟩
  · refine r_aload_n dX9_count_4 0 rfl ?_
    refine r_getR 48 fX9_63 (hG.lt (by decide)) sh0 fs0_9 dX9_count_5 ?_
    refine r_getI fX9_334 (hG.lt (by decide)) sh48 fs48_3 dX9_count_8 ?_
    refine r_goto 45 dX9_count_11 (by decide) ?_
    exact r_ireturn _ dX9_count_45 rfl rfl ⟨congrArg (fun z => some (Value.int z)) (by unfold F_X9_count; rw [if_neg (not_not_intro c1)]), rfl⟩
