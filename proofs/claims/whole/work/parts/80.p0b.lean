set_option maxRecDepth 20000 in
set_option maxHeartbeats 2000000 in
theorem ok_X9_street {G : SG} (hG : GK 57 G) (p1 : Int32) (μ : Mem) (hP : P_X9_street p1 μ) : OkK G mX9_street 1 [.ref (ga G 0), .int p1] μ (K_X9_street p1 μ) (some (.int (F_X9_street p1 μ))) (M_X9_street p1 μ) := by
  refine okK_of hG rfl (by decide) (Nat.le_of_ble_eq_true rfl) ?_
  unfold P_X9_street at hP
  refine r_aload_n dX9_street_0 0 rfl ?_
  refine r_iload_n dX9_street_1 1 rfl ?_
  refine r_sipush 600 dX9_street_2 rfl ?_
  refine r_cvK (T := 1) (t := 0) (muX9_street_1 p1 μ) (ok_X9_needText hG p1 600 μ) lX9_91 (hG.lt (by decide)) sh0 ⟨_, _, rfl⟩ dX9_street_5 (by decide) (by decide) rfl (Nat.le_of_ble_eq_true rfl) rfl (fun c1 => ?_) (fun c1 => ?_)
  · refine kthrow ?_ ?_
    · rfl
    · unfold M_X9_street; rw [if_neg c1]
  · replace hP := hP c1
    refine r_aload_n dX9_street_8 0 rfl ?_
    refine r_getR 1 fX9_10 (hG.lt (by decide)) sh0 fs0_0 dX9_street_9 ?_
    refine r_iload_n dX9_street_12 1 rfl ?_
    refine r_cvV (ok_X8_begin hG p1 (muX9_street_1 p1 μ)) lX9_95 (hG.lt (by decide)) sh1 ⟨_, _, rfl⟩ dX9_street_13 (by decide) (Nat.le_of_ble_eq_true rfl) rfl (Nat.le_of_ble_eq_true rfl) ?_
    refine r_mu (muX9_street_2 p1 μ) rfl ?_
    refine r_aload_n dX9_street_16 0 rfl ?_
    refine r_getR 12 fX9_23 (hG.lt (by decide)) sh0 fs0_2 dX9_street_17 ?_
    refine r_aload_n dX9_street_20 0 rfl ?_
    refine r_getR 1 fX9_10 (hG.lt (by decide)) sh0 fs0_0 dX9_street_21 ?_
    have hs1 := hP.1
    replace hP := hP.2
    refine r_cvI (ok_X7_read hG  (muX9_street_2 p1 μ) hs1) lX9_98 (hG.lt (by decide)) sh12 ⟨_, _, rfl⟩ dX9_street_24 (by decide) (Nat.le_of_ble_eq_true rfl) rfl (Nat.le_of_ble_eq_true rfl) ?_
    refine r_mu (muX9_street_3 p1 μ) rfl ?_
    refine r_if_ne 38 dX9_street_27 (by decide) (fun c2 => ?_) (fun c2 => ?_)
    · replace hP := hP.1 c2
      refine r_aload_n dX9_street_38 0 rfl ?_
      refine r_getR 3 fX9_19 (hG.lt (by decide)) sh0 fs0_1 dX9_street_39 ?_
      refine r_aload_n dX9_street_42 0 rfl ?_
      refine r_getR 12 fX9_23 (hG.lt (by decide)) sh0 fs0_2 dX9_street_43 ?_
      have hs2 := hP.1
      replace hP := hP.2
      refine r_cvV (ok_X7_copyFrom hG  (muX9_street_3 p1 μ) hs2) lX9_106 (hG.lt (by decide)) sh3 ⟨_, _, rfl⟩ dX9_street_46 (by decide) (Nat.le_of_ble_eq_true rfl) rfl (Nat.le_of_ble_eq_true rfl) ?_
      refine r_mu (muX9_street_4 p1 μ) rfl ?_
      refine r_aload_n dX9_street_49 0 rfl ?_
      have hs3 := hP
      refine r_cvV (ok_X9_openStreet hG  (muX9_street_4 p1 μ) hs3) lX9_76 (hG.lt (by decide)) sh0 ⟨_, _, rfl⟩ dX9_street_50 (by decide) (Nat.le_of_ble_eq_true rfl) rfl (Nat.le_of_ble_eq_true rfl) ?_
      refine r_mu (muX9_street_5 p1 μ) rfl ?_
      refine r_aload_n dX9_street_53 0 rfl ?_
      refine r_getR 3 fX9_19 (hG.lt (by decide)) sh0 fs0_1 dX9_street_54 ?_
      refine r_getI fX9_110 (hG.lt (by decide)) sh3 fs3_9 dX9_street_57 ?_
      exact r_ireturn _ dX9_street_60 rfl rfl ⟨by unfold K_X9_street; exact c1, congrArg (fun z => some (Value.int z)) (by unfold F_X9_street; rw [if_pos c2]), by unfold M_X9_street; rw [if_pos c1, if_pos c2]⟩
    · replace hP := hP.2 c2
      refine r_aload_n dX9_street_30 0 rfl ?_
      refine r_getR 1 fX9_10 (hG.lt (by decide)) sh0 fs0_0 dX9_street_31 ?_
      refine r_cvI (ok_X8_faultAnswer hG  (muX9_street_3 p1 μ)) lX9_102 (hG.lt (by decide)) sh1 ⟨_, _, rfl⟩ dX9_street_34 (by decide) (Nat.le_of_ble_eq_true rfl) rfl (Nat.le_of_ble_eq_true rfl) ?_
      exact r_ireturn _ dX9_street_37 rfl rfl ⟨by unfold K_X9_street; exact c1, congrArg (fun z => some (Value.int z)) (by unfold F_X9_street; rw [if_neg (not_not_intro c2)]), by unfold M_X9_street; rw [if_pos c1, if_neg (not_not_intro c2)]⟩
set_option maxRecDepth 20000 in
set_option maxHeartbeats 2000000 in
theorem ok_X9_law {G : SG} (hG : GK 57 G) (p1 : Int32) (μ : Mem) (hP : P_X9_law p1 μ) : OkK G mX9_law 1 [.ref (ga G 0), .int p1] μ (K_X9_law p1 μ) (some (.int (F_X9_law p1 μ))) (M_X9_law p1 μ) := by
  refine okK_of hG rfl (by decide) (Nat.le_of_ble_eq_true rfl) ?_
  unfold P_X9_law at hP
  refine r_aload_n dX9_law_0 0 rfl ?_
  refine r_iload_n dX9_law_1 1 rfl ?_
  refine r_sipush 150 dX9_law_2 rfl ?_
  refine r_cvK (T := 1) (t := 0) (muX9_law_1 p1 μ) (ok_X9_needText hG p1 150 μ) lX9_91 (hG.lt (by decide)) sh0 ⟨_, _, rfl⟩ dX9_law_5 (by decide) (by decide) rfl (Nat.le_of_ble_eq_true rfl) rfl (fun c1 => ?_) (fun c1 => ?_)
  · refine kthrow ?_ ?_
    · rfl
    · unfold M_X9_law; rw [if_neg c1]
  · replace hP := hP c1
    refine r_aload_n dX9_law_8 0 rfl ?_
    refine r_getR 1 fX9_10 (hG.lt (by decide)) sh0 fs0_0 dX9_law_9 ?_
    refine r_iload_n dX9_law_12 1 rfl ?_
    refine r_cvV (ok_X8_begin hG p1 (muX9_law_1 p1 μ)) lX9_95 (hG.lt (by decide)) sh1 ⟨_, _, rfl⟩ dX9_law_13 (by decide) (Nat.le_of_ble_eq_true rfl) rfl (Nat.le_of_ble_eq_true rfl) ?_
    refine r_mu (muX9_law_2 p1 μ) rfl ?_
    refine r_aload_n dX9_law_16 0 rfl ?_
    refine r_getR 26 fX9_33 (hG.lt (by decide)) sh0 fs0_4 dX9_law_17 ?_
    refine r_aload_n dX9_law_20 0 rfl ?_
    refine r_getR 1 fX9_10 (hG.lt (by decide)) sh0 fs0_0 dX9_law_21 ?_
    have hs1 := hP.1
    replace hP := hP.2
    refine r_cvI (ok_X1_read hG  (muX9_law_2 p1 μ) hs1) lX9_113 (hG.lt (by decide)) sh26 ⟨_, _, rfl⟩ dX9_law_24 (by decide) (Nat.le_of_ble_eq_true rfl) rfl (Nat.le_of_ble_eq_true rfl) ?_
    refine r_mu (muX9_law_3 p1 μ) rfl ?_
    refine r_if_ne 38 dX9_law_27 (by decide) (fun c2 => ?_) (fun c2 => ?_)
    · replace hP := hP.1 c2
      refine r_aload_n dX9_law_38 0 rfl ?_
      refine r_getR 21 fX9_29 (hG.lt (by decide)) sh0 fs0_3 dX9_law_39 ?_
      refine r_aload_n dX9_law_42 0 rfl ?_
      refine r_getR 26 fX9_33 (hG.lt (by decide)) sh0 fs0_4 dX9_law_43 ?_
      have hs2 := hP
      refine r_cvV (ok_X1_copyFrom hG  (muX9_law_3 p1 μ) hs2) lX9_114 (hG.lt (by decide)) sh21 ⟨_, _, rfl⟩ dX9_law_46 (by decide) (Nat.le_of_ble_eq_true rfl) rfl (Nat.le_of_ble_eq_true rfl) ?_
      refine r_mu (muX9_law_4 p1 μ) rfl ?_
      refine r_iconst 1 dX9_law_49 rfl ?_
      exact r_ireturn _ dX9_law_50 rfl rfl ⟨by unfold K_X9_law; exact c1, congrArg (fun z => some (Value.int z)) (by unfold F_X9_law; rw [if_pos c2]), by unfold M_X9_law; rw [if_pos c1, if_pos c2]⟩
    · replace hP := hP.2 c2
      refine r_aload_n dX9_law_30 0 rfl ?_
      refine r_getR 1 fX9_10 (hG.lt (by decide)) sh0 fs0_0 dX9_law_31 ?_
      refine r_cvI (ok_X8_faultAnswer hG  (muX9_law_3 p1 μ)) lX9_102 (hG.lt (by decide)) sh1 ⟨_, _, rfl⟩ dX9_law_34 (by decide) (Nat.le_of_ble_eq_true rfl) rfl (Nat.le_of_ble_eq_true rfl) ?_
      exact r_ireturn _ dX9_law_37 rfl rfl ⟨by unfold K_X9_law; exact c1, congrArg (fun z => some (Value.int z)) (by unfold F_X9_law; rw [if_neg (not_not_intro c2)]), by unfold M_X9_law; rw [if_pos c1, if_neg (not_not_intro c2)]⟩
set_option maxRecDepth 20000 in
set_option maxHeartbeats 2000000 in
theorem ok_X9_work {G : SG} (hG : GK 57 G) (p1 : Int32) (μ : Mem) (hP : P_X9_work p1 μ) : OkK G mX9_work 1 [.ref (ga G 0), .int p1] μ (K_X9_work p1 μ) (some (.int (F_X9_work p1 μ))) (M_X9_work p1 μ) := by
  refine okK_of hG rfl (by decide) (Nat.le_of_ble_eq_true rfl) ?_
  unfold P_X9_work at hP
  refine r_aload_n dX9_work_0 0 rfl ?_
  refine r_iload_n dX9_work_1 1 rfl ?_
  refine r_sipush 150 dX9_work_2 rfl ?_
  refine r_cvK (T := 1) (t := 0) (muX9_work_1 p1 μ) (ok_X9_needText hG p1 150 μ) lX9_91 (hG.lt (by decide)) sh0 ⟨_, _, rfl⟩ dX9_work_5 (by decide) (by decide) rfl (Nat.le_of_ble_eq_true rfl) rfl (fun c1 => ?_) (fun c1 => ?_)
  · refine kthrow ?_ ?_
    · rfl
    · unfold M_X9_work; rw [if_neg c1]
  · replace hP := hP c1
    refine r_aload_n dX9_work_8 0 rfl ?_
    refine r_getR 48 fX9_63 (hG.lt (by decide)) sh0 fs0_9 dX9_work_9 ?_
    refine r_cvI (ok_X4_isFull hG  (muX9_work_1 p1 μ)) lX9_117 (hG.lt (by decide)) sh48 ⟨_, _, rfl⟩ dX9_work_12 (by decide) (Nat.le_of_ble_eq_true rfl) rfl (Nat.le_of_ble_eq_true rfl) ?_
    refine r_if_eq 29 dX9_work_15 (by decide) (fun c2 => ?_) (fun c2 => ?_)
    · replace hP := hP.1 c2
      refine r_aload_n dX9_work_29 0 rfl ?_
      refine r_getR 1 fX9_10 (hG.lt (by decide)) sh0 fs0_0 dX9_work_30 ?_
      refine r_iload_n dX9_work_33 1 rfl ?_
      refine r_cvV (ok_X8_begin hG p1 (muX9_work_1 p1 μ)) lX9_95 (hG.lt (by decide)) sh1 ⟨_, _, rfl⟩ dX9_work_34 (by decide) (Nat.le_of_ble_eq_true rfl) rfl (Nat.le_of_ble_eq_true rfl) ?_
      refine r_mu (muX9_work_2 p1 μ) rfl ?_
      refine r_aload_n dX9_work_37 0 rfl ?_
      refine r_getR 31 fX9_39 (hG.lt (by decide)) sh0 fs0_5 dX9_work_38 ?_
      refine r_aload_n dX9_work_41 0 rfl ?_
      refine r_getR 1 fX9_10 (hG.lt (by decide)) sh0 fs0_0 dX9_work_42 ?_
      refine r_aload_n dX9_work_45 0 rfl ?_
      refine r_getR 3 fX9_19 (hG.lt (by decide)) sh0 fs0_1 dX9_work_46 ?_
      have hs1 := hP.1
      replace hP := hP.2
      refine r_cvI (ok_X6_read hG  (muX9_work_2 p1 μ) hs1) lX9_121 (hG.lt (by decide)) sh31 ⟨_, _, rfl⟩ dX9_work_49 (by decide) (Nat.le_of_ble_eq_true rfl) rfl (Nat.le_of_ble_eq_true rfl) ?_
      refine r_mu (muX9_work_3 p1 μ) rfl ?_
      refine r_if_ne 63 dX9_work_52 (by decide) (fun c3 => ?_) (fun c3 => ?_)
      · replace hP := hP.1 c3
        refine r_aload_n dX9_work_63 0 rfl ?_
        refine r_getR 48 fX9_63 (hG.lt (by decide)) sh0 fs0_9 dX9_work_64 ?_
        refine r_aload_n dX9_work_67 0 rfl ?_
        refine r_getR 43 fX9_56 (hG.lt (by decide)) sh0 fs0_8 dX9_work_68 ?_
        have hs2 := hP.1
        replace hP := hP.2
        refine r_cvV (ok_X4_keep hG  (muX9_work_3 p1 μ) hs2) lX9_124 (hG.lt (by decide)) sh48 ⟨_, _, rfl⟩ dX9_work_71 (by decide) (Nat.le_of_ble_eq_true rfl) rfl (Nat.le_of_ble_eq_true rfl) ?_
        refine r_mu (muX9_work_4 p1 μ) rfl ?_
        refine r_aload_n dX9_work_74 0 rfl ?_
        refine r_getR 31 fX9_39 (hG.lt (by decide)) sh0 fs0_5 dX9_work_75 ?_
        refine r_aload_n dX9_work_78 0 rfl ?_
        refine r_getR 43 fX9_56 (hG.lt (by decide)) sh0 fs0_8 dX9_work_79 ?_
        refine r_aload_n dX9_work_82 0 rfl ?_
        refine r_getR 3 fX9_19 (hG.lt (by decide)) sh0 fs0_1 dX9_work_83 ?_
        refine r_aload_n dX9_work_86 0 rfl ?_
        refine r_getR 21 fX9_29 (hG.lt (by decide)) sh0 fs0_3 dX9_work_87 ?_
        have hs3 := hP
        refine r_cvI (ok_X6_doAll hG  (muX9_work_4 p1 μ) hs3) lX9_128 (hG.lt (by decide)) sh31 ⟨_, _, rfl⟩ dX9_work_90 (by decide) (Nat.le_of_ble_eq_true rfl) rfl (Nat.le_of_ble_eq_true rfl) ?_
        refine r_mu (muX9_work_5 p1 μ) rfl ?_
        refine r_istore_n [(2, _), (0, _), (1, _)] dX9_work_93 (Nat.le_of_ble_eq_true rfl) rfl ?_
        refine r_aload_n dX9_work_94 1 rfl ?_
        refine r_aload_n dX9_work_95 1 rfl ?_
        refine r_getR 31 fX9_39 (hG.lt (by decide)) sh0 fs0_5 dX9_work_96 ?_
        refine r_getI fX9_132 (hG.lt (by decide)) sh31 fs31_7 dX9_work_99 ?_
        refine r_put fiX9_135 (hG.lt (by decide)) sh0 fs0_11 dX9_work_102 ?_
        refine r_mu (muX9_work_6 p1 μ) rfl ?_
        refine r_iload_n dX9_work_105 0 rfl ?_
        exact r_ireturn _ dX9_work_106 rfl rfl ⟨by unfold K_X9_work; exact c1, congrArg (fun z => some (Value.int z)) (by unfold F_X9_work; rw [if_pos c2, if_pos c3]), by unfold M_X9_work; rw [if_pos c1, if_pos c2, if_pos c3]⟩
      · replace hP := hP.2 c3
        refine r_aload_n dX9_work_55 0 rfl ?_
        refine r_getR 1 fX9_10 (hG.lt (by decide)) sh0 fs0_0 dX9_work_56 ?_
        refine r_cvI (ok_X8_faultAnswer hG  (muX9_work_3 p1 μ)) lX9_102 (hG.lt (by decide)) sh1 ⟨_, _, rfl⟩ dX9_work_59 (by decide) (Nat.le_of_ble_eq_true rfl) rfl (Nat.le_of_ble_eq_true rfl) ?_
        exact r_ireturn _ dX9_work_62 rfl rfl ⟨by unfold K_X9_work; exact c1, congrArg (fun z => some (Value.int z)) (by unfold F_X9_work; rw [if_pos c2, if_neg (not_not_intro c3)]), by unfold M_X9_work; rw [if_pos c1, if_pos c2, if_neg (not_not_intro c3)]⟩
    · replace hP := hP.2 c2
      refine r_aload_n dX9_work_18 0 rfl ?_
      refine r_getR 1 fX9_10 (hG.lt (by decide)) sh0 fs0_0 dX9_work_19 ?_
      refine r_iconst 0 dX9_work_22 rfl ?_
      refine r_cvV (ok_X8_begin hG 0 (muX9_work_1 p1 μ)) lX9_95 (hG.lt (by decide)) sh1 ⟨_, _, rfl⟩ dX9_work_23 (by decide) (Nat.le_of_ble_eq_true rfl) rfl (Nat.le_of_ble_eq_true rfl) ?_
      refine r_mu (muX9_work_7 p1 μ) rfl ?_
      refine r_bipush (-20) dX9_work_26 rfl ?_
      exact r_ireturn _ dX9_work_28 rfl rfl ⟨by unfold K_X9_work; exact c1, congrArg (fun z => some (Value.int z)) (by unfold F_X9_work; rw [if_neg c2]), by unfold M_X9_work; rw [if_pos c1, if_neg c2]⟩
set_option maxRecDepth 20000 in
set_option maxHeartbeats 2000000 in
theorem ok_X9_stains {G : SG} (hG : GK 57 G) (p1 : Int32) (μ : Mem) (hP : P_X9_stains p1 μ) : OkK G mX9_stains 1 [.ref (ga G 0), .int p1] μ (K_X9_stains p1 μ) (some (.int (F_X9_stains p1 μ))) (M_X9_stains p1 μ) := by
  refine okK_of hG rfl (by decide) (Nat.le_of_ble_eq_true rfl) ?_
  unfold P_X9_stains at hP
  refine r_aload_n dX9_stains_0 0 rfl ?_
  refine r_iload_n dX9_stains_1 1 rfl ?_
  refine r_bipush 60 dX9_stains_2 rfl ?_
  refine r_cvK (T := 1) (t := 0) (muX9_stains_1 p1 μ) (ok_X9_needText hG p1 60 μ) lX9_91 (hG.lt (by decide)) sh0 ⟨_, _, rfl⟩ dX9_stains_4 (by decide) (by decide) rfl (Nat.le_of_ble_eq_true rfl) rfl (fun c1 => ?_) (fun c1 => ?_)
  · refine kthrow ?_ ?_
    · rfl
    · unfold M_X9_stains; rw [if_neg c1]
  · replace hP := hP c1
    refine r_aload_n dX9_stains_7 0 rfl ?_
    refine r_getR 1 fX9_10 (hG.lt (by decide)) sh0 fs0_0 dX9_stains_8 ?_
    refine r_iload_n dX9_stains_11 1 rfl ?_
    refine r_cvV (ok_X8_begin hG p1 (muX9_stains_1 p1 μ)) lX9_95 (hG.lt (by decide)) sh1 ⟨_, _, rfl⟩ dX9_stains_12 (by decide) (Nat.le_of_ble_eq_true rfl) rfl (Nat.le_of_ble_eq_true rfl) ?_
    refine r_mu (muX9_stains_2 p1 μ) rfl ?_
    refine r_aload_n dX9_stains_15 0 rfl ?_
    refine r_getR 40 fX9_50 (hG.lt (by decide)) sh0 fs0_7 dX9_stains_16 ?_
    refine r_aload_n dX9_stains_19 0 rfl ?_
    refine r_getR 1 fX9_10 (hG.lt (by decide)) sh0 fs0_0 dX9_stains_20 ?_
    refine r_aload_n dX9_stains_23 0 rfl ?_
    refine r_getR 3 fX9_19 (hG.lt (by decide)) sh0 fs0_1 dX9_stains_24 ?_
    refine r_getI fX9_138 (hG.lt (by decide)) sh3 fs3_8 dX9_stains_27 ?_
    have hs1 := hP.1
    replace hP := hP.2
    refine r_cvI (ok_X2_read hG ((muX9_stains_2 p1 μ) 3 8) (muX9_stains_2 p1 μ) hs1) lX9_141 (hG.lt (by decide)) sh40 ⟨_, _, rfl⟩ dX9_stains_30 (by decide) (Nat.le_of_ble_eq_true rfl) rfl (Nat.le_of_ble_eq_true rfl) ?_
    refine r_mu (muX9_stains_3 p1 μ) rfl ?_
    refine r_if_ne 44 dX9_stains_33 (by decide) (fun c2 => ?_) (fun c2 => ?_)
    · replace hP := hP.1 c2
      refine r_aload_n dX9_stains_44 0 rfl ?_
      refine r_getR 37 fX9_46 (hG.lt (by decide)) sh0 fs0_6 dX9_stains_45 ?_
      refine r_aload_n dX9_stains_48 0 rfl ?_
      refine r_getR 40 fX9_50 (hG.lt (by decide)) sh0 fs0_7 dX9_stains_49 ?_
      have hs2 := hP
      refine r_cvV (ok_X2_copyFrom hG  (muX9_stains_3 p1 μ) hs2) lX9_144 (hG.lt (by decide)) sh37 ⟨_, _, rfl⟩ dX9_stains_52 (by decide) (Nat.le_of_ble_eq_true rfl) rfl (Nat.le_of_ble_eq_true rfl) ?_
      refine r_mu (muX9_stains_4 p1 μ) rfl ?_
      refine r_aload_n dX9_stains_55 0 rfl ?_
      refine r_getR 37 fX9_46 (hG.lt (by decide)) sh0 fs0_6 dX9_stains_56 ?_
      refine r_getI fX9_147 (hG.lt (by decide)) sh37 fs37_2 dX9_stains_59 ?_
      exact r_ireturn _ dX9_stains_62 rfl rfl ⟨by unfold K_X9_stains; exact c1, congrArg (fun z => some (Value.int z)) (by unfold F_X9_stains; rw [if_pos c2]), by unfold M_X9_stains; rw [if_pos c1, if_pos c2]⟩
    · replace hP := hP.2 c2
      refine r_aload_n dX9_stains_36 0 rfl ?_
      refine r_getR 1 fX9_10 (hG.lt (by decide)) sh0 fs0_0 dX9_stains_37 ?_
      refine r_cvI (ok_X8_faultAnswer hG  (muX9_stains_3 p1 μ)) lX9_102 (hG.lt (by decide)) sh1 ⟨_, _, rfl⟩ dX9_stains_40 (by decide) (Nat.le_of_ble_eq_true rfl) rfl (Nat.le_of_ble_eq_true rfl) ?_
      exact r_ireturn _ dX9_stains_43 rfl rfl ⟨by unfold K_X9_stains; exact c1, congrArg (fun z => some (Value.int z)) (by unfold F_X9_stains; rw [if_neg (not_not_intro c2)]), by unfold M_X9_stains; rw [if_pos c1, if_neg (not_not_intro c2)]⟩
set_option maxRecDepth 20000 in
set_option maxHeartbeats 2000000 in
theorem ok_X9_fault {G : SG} (hG : GK 57 G)  (μ : Mem) : OkF G mX9_fault [.ref (ga G 0)] μ (some (.int (F_X9_fault  μ))) μ := by
  refine okF_of hG rfl rfl (Nat.le_of_ble_eq_true rfl) ?_
  refine r_aload_n dX9_fault_0 0 rfl ?_
  refine r_getR 1 fX9_10 (hG.lt (by decide)) sh0 fs0_0 dX9_fault_1 ?_
  refine r_getI fX9_150 (hG.lt (by decide)) sh1 fs1_7 dX9_fault_4 ?_
  exact r_ireturn _ dX9_fault_7 rfl rfl ⟨congrArg (fun z => some (Value.int z)) (rfl), rfl⟩
set_option maxRecDepth 20000 in
set_option maxHeartbeats 2000000 in
theorem ok_X9_undo {G : SG} (hG : GK 57 G)  (μ : Mem) (hP : P_X9_undo  μ) : OkF G mX9_undo [.ref (ga G 0)] μ (some (.int (F_X9_undo  μ))) (M_X9_undo  μ) := by
  refine okF_of hG rfl rfl (Nat.le_of_ble_eq_true rfl) ?_
  unfold P_X9_undo at hP
  refine r_aload_n dX9_undo_0 0 rfl ?_
  refine r_getR 48 fX9_63 (hG.lt (by decide)) sh0 fs0_9 dX9_undo_1 ?_
  refine r_aload_n dX9_undo_4 0 rfl ?_
  refine r_getR 43 fX9_56 (hG.lt (by decide)) sh0 fs0_8 dX9_undo_5 ?_
  have hs1 := hP
  refine r_cvI (ok_X4_takeBack hG  μ hs1) lX9_153 (hG.lt (by decide)) sh48 ⟨_, _, rfl⟩ dX9_undo_8 (by decide) (Nat.le_of_ble_eq_true rfl) rfl (Nat.le_of_ble_eq_true rfl) ?_
  refine r_mu (muX9_undo_1 μ) rfl ?_
  refine r_if_ne 16 dX9_undo_11 (by decide) (fun c1 => ?_) (fun c1 => ?_)
  · refine r_aload_n dX9_undo_16 0 rfl ?_
    refine r_iconst 0 dX9_undo_17 rfl ?_
    refine r_put fiX9_135 (hG.lt (by decide)) sh0 fs0_11 dX9_undo_18 ?_
    refine r_mu (muX9_undo_2 μ) rfl ?_
    refine r_aload_n dX9_undo_21 0 rfl ?_
    refine r_getR 48 fX9_63 (hG.lt (by decide)) sh0 fs0_9 dX9_undo_22 ?_
    refine r_getI fX9_157 (hG.lt (by decide)) sh48 fs48_2 dX9_undo_25 ?_
    exact r_ireturn _ dX9_undo_28 rfl rfl ⟨congrArg (fun z => some (Value.int z)) (by unfold F_X9_undo; rw [if_pos c1]), by unfold M_X9_undo; rw [if_pos c1]⟩
  · refine r_iconst (-1) dX9_undo_14 rfl ?_
    exact r_ireturn _ dX9_undo_15 rfl rfl ⟨congrArg (fun z => some (Value.int z)) (by unfold F_X9_undo; rw [if_neg (not_not_intro c1)]), by unfold M_X9_undo; rw [if_neg (not_not_intro c1)]⟩
