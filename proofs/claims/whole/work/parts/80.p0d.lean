set_option maxRecDepth 20000 in
set_option maxHeartbeats 2000000 in
theorem ok_X9_house {G : SG} (hG : GK 57 G) (p1 : Int32) (p2 : Int32) (μ : Mem) (hP : P_X9_house p1 p2 μ) : OkK G mX9_house 2 [.ref (ga G 0), .int p1, .int p2] μ (K_X9_house p1 p2 μ) (some (.int (F_X9_house p1 p2 μ))) (M_X9_house p1 p2 μ) := by
  refine okK_of hG rfl (by decide) (Nat.le_of_ble_eq_true rfl) ?_
  unfold P_X9_house at hP
  refine r_aload_n dX9_house_0 0 rfl ?_
  refine r_iload_n dX9_house_1 1 rfl ?_
  refine r_cvK (T := 1) (t := 1) (muX9_house_1 p1 p2 μ) (ok_X9_needHouse hG p1 μ) lX9_190 (hG.lt (by decide)) sh0 ⟨_, _, rfl⟩ dX9_house_2 (by decide) (by decide) rfl (Nat.le_of_ble_eq_true rfl) rfl (fun c1 => ?_) (fun c1 => ?_)
  · refine kthrow ?_ ?_
    · unfold K_X9_house; rw [if_neg c1]
    · unfold M_X9_house; rw [if_neg c1]
  · replace hP := hP c1
    refine r_aload_n dX9_house_5 0 rfl ?_
    refine r_iload_n dX9_house_6 2 rfl ?_
    refine r_iconst 0 dX9_house_7 rfl ?_
    refine r_iconst 4 dX9_house_8 rfl ?_
    refine r_cvK (T := 1) (t := 0) (muX9_house_2 p1 p2 μ) (ok_X9_needRange hG p2 0 4 (muX9_house_1 p1 p2 μ)) lX9_160 (hG.lt (by decide)) sh0 ⟨_, _, rfl⟩ dX9_house_9 (by decide) (by decide) rfl (Nat.le_of_ble_eq_true rfl) rfl (fun c2 => ?_) (fun c2 => ?_)
    · refine kthrow ?_ ?_
      · unfold K_X9_house; rw [if_pos c1]
      · unfold M_X9_house; rw [if_pos c1]
    · replace hP := hP c2
      refine r_iload_n dX9_house_12 2 rfl ?_
      by_cases c3 : p2 = 0
      · replace hP := hP.1 c3
        refine r_tableIn (31) 44 dX9_house_13 (by rw [c3]; decide) (by rw [c3]; decide) (by rw [c3]; rfl) (by decide) ?_
        refine r_aload_n dX9_house_44 0 rfl ?_
        refine r_getR 43 fX9_56 (hG.lt (by decide)) sh0 fs0_8 dX9_house_45 ?_
        refine r_bipush 50 dX9_house_48 rfl ?_
        refine r_iload_n dX9_house_50 1 rfl ?_
        refine r_cvI (ok_X5_of hG (IsSt.of43) 50 p1 (muX9_house_2 p1 p2 μ)) lX9_193 (hG.lt (by decide)) sh43 ⟨_, _, rfl⟩ dX9_house_51 (by decide) (Nat.le_of_ble_eq_true rfl) rfl (Nat.le_of_ble_eq_true rfl) ?_
        exact r_ireturn _ dX9_house_54 rfl rfl ⟨by unfold K_X9_house; rw [if_pos c1]; exact c2, congrArg (fun z => some (Value.int z)) (by unfold F_X9_house; rw [if_pos c3]), by unfold M_X9_house; rw [if_pos c1]⟩
      by_cases c4 : p2 = 1
      · replace hP := hP.2.1 c4
        refine r_tableIn (42) 55 dX9_house_13 (by rw [c4]; decide) (by rw [c4]; decide) (by rw [c4]; rfl) (by decide) ?_
        refine r_aload_n dX9_house_55 0 rfl ?_
        refine r_getR 43 fX9_56 (hG.lt (by decide)) sh0 fs0_8 dX9_house_56 ?_
        refine r_bipush 56 dX9_house_59 rfl ?_
        refine r_iload_n dX9_house_61 1 rfl ?_
        refine r_cvI (ok_X5_of hG (IsSt.of43) 56 p1 (muX9_house_2 p1 p2 μ)) lX9_193 (hG.lt (by decide)) sh43 ⟨_, _, rfl⟩ dX9_house_62 (by decide) (Nat.le_of_ble_eq_true rfl) rfl (Nat.le_of_ble_eq_true rfl) ?_
        exact r_ireturn _ dX9_house_65 rfl rfl ⟨by unfold K_X9_house; rw [if_pos c1]; exact c2, congrArg (fun z => some (Value.int z)) (by unfold F_X9_house; rw [if_neg c3, if_pos c4]), by unfold M_X9_house; rw [if_pos c1]⟩
      by_cases c5 : p2 = 2
      · replace hP := hP.2.2.1 c5
        refine r_tableIn (53) 66 dX9_house_13 (by rw [c5]; decide) (by rw [c5]; decide) (by rw [c5]; rfl) (by decide) ?_
        refine r_aload_n dX9_house_66 0 rfl ?_
        refine r_getR 43 fX9_56 (hG.lt (by decide)) sh0 fs0_8 dX9_house_67 ?_
        refine r_iload_n dX9_house_70 1 rfl ?_
        refine r_aload_n dX9_house_71 0 rfl ?_
        refine r_getR 3 fX9_19 (hG.lt (by decide)) sh0 fs0_1 dX9_house_72 ?_
        refine r_aload_n dX9_house_75 0 rfl ?_
        refine r_getR 43 fX9_56 (hG.lt (by decide)) sh0 fs0_8 dX9_house_76 ?_
        refine r_cvI (ok_X5_tideToCome hG (IsSt.of43) (muX9_house_2 p1 p2 μ)) lX9_170 (hG.lt (by decide)) sh43 ⟨_, _, rfl⟩ dX9_house_79 (by decide) (Nat.le_of_ble_eq_true rfl) rfl (Nat.le_of_ble_eq_true rfl) ?_
        have hs1 := hP
        refine r_cvI (ok_X7_heightOf hG (F_X5_tideToCome 43 (muX9_house_2 p1 p2 μ)) (muX9_house_2 p1 p2 μ) hs1) lX9_173 (hG.lt (by decide)) sh3 ⟨_, _, rfl⟩ dX9_house_82 (by decide) (Nat.le_of_ble_eq_true rfl) rfl (Nat.le_of_ble_eq_true rfl) ?_
        refine r_cvI (ok_X5_waterIn hG (IsSt.of43) p1 (F_X7_heightOf (F_X5_tideToCome 43 (muX9_house_2 p1 p2 μ)) (muX9_house_2 p1 p2 μ)) (muX9_house_2 p1 p2 μ)) lX9_197 (hG.lt (by decide)) sh43 ⟨_, _, rfl⟩ dX9_house_85 (by decide) (Nat.le_of_ble_eq_true rfl) rfl (Nat.le_of_ble_eq_true rfl) ?_
        exact r_ireturn _ dX9_house_88 rfl rfl ⟨by unfold K_X9_house; rw [if_pos c1]; exact c2, congrArg (fun z => some (Value.int z)) (by unfold F_X9_house; rw [if_neg c3, if_neg c4, if_pos c5]), by unfold M_X9_house; rw [if_pos c1]⟩
      by_cases c6 : p2 = 3
      · replace hP := hP.2.2.2.1 c6
        refine r_tableIn (76) 89 dX9_house_13 (by rw [c6]; decide) (by rw [c6]; decide) (by rw [c6]; rfl) (by decide) ?_
        refine r_aload_n dX9_house_89 0 rfl ?_
        refine r_getR 43 fX9_56 (hG.lt (by decide)) sh0 fs0_8 dX9_house_90 ?_
        refine r_aload_n dX9_house_93 0 rfl ?_
        refine r_getR 3 fX9_19 (hG.lt (by decide)) sh0 fs0_1 dX9_house_94 ?_
        refine r_iload_n dX9_house_97 1 rfl ?_
        have hs2 := hP
        refine r_cvI (ok_X5_thingsIn hG (IsSt.of43) p1 (muX9_house_2 p1 p2 μ) hs2) lX9_200 (hG.lt (by decide)) sh43 ⟨_, _, rfl⟩ dX9_house_98 (by decide) (Nat.le_of_ble_eq_true rfl) rfl (Nat.le_of_ble_eq_true rfl) ?_
        exact r_ireturn _ dX9_house_101 rfl rfl ⟨by unfold K_X9_house; rw [if_pos c1]; exact c2, congrArg (fun z => some (Value.int z)) (by unfold F_X9_house; rw [if_neg c3, if_neg c4, if_neg c5, if_pos c6]), by unfold M_X9_house; rw [if_pos c1]⟩
      replace hP := hP.2.2.2.2 ⟨c3, c4, c5, c6⟩
      have ec3 := i32_ti c3
      have ec4 := i32_ti c4
      have ec5 := i32_ti c5
      have ec6 := i32_ti c6
      refine r_tableOut 102 dX9_house_13 (by simp only [Int32.reduceToInt] at ec3 ec4 ec5 ec6; omega) (by decide) ?_
      refine r_aload_n dX9_house_102 0 rfl ?_
      refine r_getR 43 fX9_56 (hG.lt (by decide)) sh0 fs0_8 dX9_house_103 ?_
      refine r_bipush 62 dX9_house_106 rfl ?_
      refine r_iload_n dX9_house_108 1 rfl ?_
      refine r_cvI (ok_X5_of hG (IsSt.of43) 62 p1 (muX9_house_2 p1 p2 μ)) lX9_193 (hG.lt (by decide)) sh43 ⟨_, _, rfl⟩ dX9_house_109 (by decide) (Nat.le_of_ble_eq_true rfl) rfl (Nat.le_of_ble_eq_true rfl) ?_
      exact r_ireturn _ dX9_house_112 rfl rfl ⟨by unfold K_X9_house; rw [if_pos c1]; exact c2, congrArg (fun z => some (Value.int z)) (by unfold F_X9_house; rw [if_neg c3, if_neg c4, if_neg c5, if_neg c6]), by unfold M_X9_house; rw [if_pos c1]⟩
set_option maxRecDepth 20000 in
set_option maxHeartbeats 2000000 in
theorem ok_X9_thing {G : SG} (hG : GK 57 G) (p1 : Int32) (p2 : Int32) (μ : Mem) : OkK G mX9_thing 2 [.ref (ga G 0), .int p1, .int p2] μ (K_X9_thing p1 p2 μ) (some (.int (F_X9_thing p1 p2 μ))) (M_X9_thing p1 p2 μ) := by
  refine okK_of hG rfl (by decide) (Nat.le_of_ble_eq_true rfl) ?_
  refine r_aload_n dX9_thing_0 0 rfl ?_
  refine r_iload_n dX9_thing_1 1 rfl ?_
  refine r_aload_n dX9_thing_2 0 rfl ?_
  refine r_getR 3 fX9_19 (hG.lt (by decide)) sh0 fs0_1 dX9_thing_3 ?_
  refine r_getI fX9_110 (hG.lt (by decide)) sh3 fs3_9 dX9_thing_6 ?_
  refine r_cvK (T := 1) (t := 1) (muX9_thing_1 p1 p2 μ) (ok_X9_needElement hG p1 (μ 3 9) μ) lX9_204 (hG.lt (by decide)) sh0 ⟨_, _, rfl⟩ dX9_thing_9 (by decide) (by decide) rfl (Nat.le_of_ble_eq_true rfl) rfl (fun c1 => ?_) (fun c1 => ?_)
  · refine kthrow ?_ ?_
    · unfold K_X9_thing; rw [if_neg c1]
    · unfold M_X9_thing; rw [if_neg c1]
  · refine r_aload_n dX9_thing_12 0 rfl ?_
    refine r_iload_n dX9_thing_13 2 rfl ?_
    refine r_iconst 0 dX9_thing_14 rfl ?_
    refine r_bipush 6 dX9_thing_15 rfl ?_
    refine r_cvK (T := 1) (t := 0) (muX9_thing_2 p1 p2 μ) (ok_X9_needRange hG p2 0 6 (muX9_thing_1 p1 p2 μ)) lX9_160 (hG.lt (by decide)) sh0 ⟨_, _, rfl⟩ dX9_thing_17 (by decide) (by decide) rfl (Nat.le_of_ble_eq_true rfl) rfl (fun c2 => ?_) (fun c2 => ?_)
    · refine kthrow ?_ ?_
      · unfold K_X9_thing; rw [if_pos c1]
      · unfold M_X9_thing; rw [if_pos c1]
    · refine r_iload_n dX9_thing_20 2 rfl ?_
      by_cases c3 : p2 = 0
      · refine r_tableIn (39) 60 dX9_thing_21 (by rw [c3]; decide) (by rw [c3]; decide) (by rw [c3]; rfl) (by decide) ?_
        refine r_aload_n dX9_thing_60 0 rfl ?_
        refine r_getR 3 fX9_19 (hG.lt (by decide)) sh0 fs0_1 dX9_thing_61 ?_
        refine r_getR 6 fX9_207 (hG.lt (by decide)) sh3 fs3_2 dX9_thing_64 ?_
        refine r_iload_n dX9_thing_67 1 rfl ?_
        refine r_csI (ok_X9_at hG (hG.lt (by decide)) sh6 p1 (muX9_thing_2 p1 p2 μ)) lX9_211 dX9_thing_68 (by decide) (Nat.le_of_ble_eq_true rfl) rfl (Nat.le_of_ble_eq_true rfl) ?_
        exact r_ireturn _ dX9_thing_71 rfl rfl ⟨by unfold K_X9_thing; rw [if_pos c1]; exact c2, congrArg (fun z => some (Value.int z)) (by unfold F_X9_thing; rw [if_pos c3]), by unfold M_X9_thing; rw [if_pos c1]⟩
      by_cases c4 : p2 = 1
      · refine r_tableIn (51) 72 dX9_thing_21 (by rw [c4]; decide) (by rw [c4]; decide) (by rw [c4]; rfl) (by decide) ?_
        refine r_aload_n dX9_thing_72 0 rfl ?_
        refine r_getR 3 fX9_19 (hG.lt (by decide)) sh0 fs0_1 dX9_thing_73 ?_
        refine r_getR 7 fX9_215 (hG.lt (by decide)) sh3 fs3_3 dX9_thing_76 ?_
        refine r_iload_n dX9_thing_79 1 rfl ?_
        refine r_csI (ok_X9_at hG (hG.lt (by decide)) sh7 p1 (muX9_thing_2 p1 p2 μ)) lX9_211 dX9_thing_80 (by decide) (Nat.le_of_ble_eq_true rfl) rfl (Nat.le_of_ble_eq_true rfl) ?_
        exact r_ireturn _ dX9_thing_83 rfl rfl ⟨by unfold K_X9_thing; rw [if_pos c1]; exact c2, congrArg (fun z => some (Value.int z)) (by unfold F_X9_thing; rw [if_neg c3, if_pos c4]), by unfold M_X9_thing; rw [if_pos c1]⟩
      by_cases c5 : p2 = 2
      · refine r_tableIn (63) 84 dX9_thing_21 (by rw [c5]; decide) (by rw [c5]; decide) (by rw [c5]; rfl) (by decide) ?_
        refine r_aload_n dX9_thing_84 0 rfl ?_
        refine r_getR 43 fX9_56 (hG.lt (by decide)) sh0 fs0_8 dX9_thing_85 ?_
        refine r_bipush 40 dX9_thing_88 rfl ?_
        refine r_iload_n dX9_thing_90 1 rfl ?_
        refine r_cvI (ok_X5_of hG (IsSt.of43) 40 p1 (muX9_thing_2 p1 p2 μ)) lX9_193 (hG.lt (by decide)) sh43 ⟨_, _, rfl⟩ dX9_thing_91 (by decide) (Nat.le_of_ble_eq_true rfl) rfl (Nat.le_of_ble_eq_true rfl) ?_
        exact r_ireturn _ dX9_thing_94 rfl rfl ⟨by unfold K_X9_thing; rw [if_pos c1]; exact c2, congrArg (fun z => some (Value.int z)) (by unfold F_X9_thing; rw [if_neg c3, if_neg c4, if_pos c5]), by unfold M_X9_thing; rw [if_pos c1]⟩
      by_cases c6 : p2 = 3
      · refine r_tableIn (74) 95 dX9_thing_21 (by rw [c6]; decide) (by rw [c6]; decide) (by rw [c6]; rfl) (by decide) ?_
        refine r_aload_n dX9_thing_95 0 rfl ?_
        refine r_getR 43 fX9_56 (hG.lt (by decide)) sh0 fs0_8 dX9_thing_96 ?_
        refine r_iconst 0 dX9_thing_99 rfl ?_
        refine r_iload_n dX9_thing_100 1 rfl ?_
        refine r_cvI (ok_X5_of hG (IsSt.of43) 0 p1 (muX9_thing_2 p1 p2 μ)) lX9_193 (hG.lt (by decide)) sh43 ⟨_, _, rfl⟩ dX9_thing_101 (by decide) (Nat.le_of_ble_eq_true rfl) rfl (Nat.le_of_ble_eq_true rfl) ?_
        exact r_ireturn _ dX9_thing_104 rfl rfl ⟨by unfold K_X9_thing; rw [if_pos c1]; exact c2, congrArg (fun z => some (Value.int z)) (by unfold F_X9_thing; rw [if_neg c3, if_neg c4, if_neg c5, if_pos c6]), by unfold M_X9_thing; rw [if_pos c1]⟩
      by_cases c7 : p2 = 4
      · refine r_tableIn (84) 105 dX9_thing_21 (by rw [c7]; decide) (by rw [c7]; decide) (by rw [c7]; rfl) (by decide) ?_
        refine r_aload_n dX9_thing_105 0 rfl ?_
        refine r_getR 43 fX9_56 (hG.lt (by decide)) sh0 fs0_8 dX9_thing_106 ?_
        refine r_bipush 10 dX9_thing_109 rfl ?_
        refine r_iload_n dX9_thing_111 1 rfl ?_
        refine r_cvI (ok_X5_of hG (IsSt.of43) 10 p1 (muX9_thing_2 p1 p2 μ)) lX9_193 (hG.lt (by decide)) sh43 ⟨_, _, rfl⟩ dX9_thing_112 (by decide) (Nat.le_of_ble_eq_true rfl) rfl (Nat.le_of_ble_eq_true rfl) ?_
        exact r_ireturn _ dX9_thing_115 rfl rfl ⟨by unfold K_X9_thing; rw [if_pos c1]; exact c2, congrArg (fun z => some (Value.int z)) (by unfold F_X9_thing; rw [if_neg c3, if_neg c4, if_neg c5, if_neg c6, if_pos c7]), by unfold M_X9_thing; rw [if_pos c1]⟩
      by_cases c8 : p2 = 5
      · refine r_tableIn (95) 116 dX9_thing_21 (by rw [c8]; decide) (by rw [c8]; decide) (by rw [c8]; rfl) (by decide) ?_
        refine r_aload_n dX9_thing_116 0 rfl ?_
        refine r_getR 43 fX9_56 (hG.lt (by decide)) sh0 fs0_8 dX9_thing_117 ?_
        refine r_bipush 20 dX9_thing_120 rfl ?_
        refine r_iload_n dX9_thing_122 1 rfl ?_
        refine r_cvI (ok_X5_of hG (IsSt.of43) 20 p1 (muX9_thing_2 p1 p2 μ)) lX9_193 (hG.lt (by decide)) sh43 ⟨_, _, rfl⟩ dX9_thing_123 (by decide) (Nat.le_of_ble_eq_true rfl) rfl (Nat.le_of_ble_eq_true rfl) ?_
        exact r_ireturn _ dX9_thing_126 rfl rfl ⟨by unfold K_X9_thing; rw [if_pos c1]; exact c2, congrArg (fun z => some (Value.int z)) (by unfold F_X9_thing; rw [if_neg c3, if_neg c4, if_neg c5, if_neg c6, if_neg c7, if_pos c8]), by unfold M_X9_thing; rw [if_pos c1]⟩
      have ec3 := i32_ti c3
      have ec4 := i32_ti c4
      have ec5 := i32_ti c5
      have ec6 := i32_ti c6
      have ec7 := i32_ti c7
      have ec8 := i32_ti c8
      refine r_tableOut 127 dX9_thing_21 (by simp only [Int32.reduceToInt] at ec3 ec4 ec5 ec6 ec7 ec8; omega) (by decide) ?_
      refine r_aload_n dX9_thing_127 0 rfl ?_
      refine r_getR 43 fX9_56 (hG.lt (by decide)) sh0 fs0_8 dX9_thing_128 ?_
      refine r_bipush 30 dX9_thing_131 rfl ?_
      refine r_iload_n dX9_thing_133 1 rfl ?_
      refine r_cvI (ok_X5_of hG (IsSt.of43) 30 p1 (muX9_thing_2 p1 p2 μ)) lX9_193 (hG.lt (by decide)) sh43 ⟨_, _, rfl⟩ dX9_thing_134 (by decide) (Nat.le_of_ble_eq_true rfl) rfl (Nat.le_of_ble_eq_true rfl) ?_
      exact r_ireturn _ dX9_thing_137 rfl rfl ⟨by unfold K_X9_thing; rw [if_pos c1]; exact c2, congrArg (fun z => some (Value.int z)) (by unfold F_X9_thing; rw [if_neg c3, if_neg c4, if_neg c5, if_neg c6, if_neg c7, if_neg c8]), by unfold M_X9_thing; rw [if_pos c1]⟩
