set_option maxRecDepth 20000 in
set_option maxHeartbeats 2000000 in
theorem ok_X9_height {G : SG} (hG : GK 57 G) (p1 : Int32) (μ : Mem) (hP : P_X9_height p1 μ) : OkK G mX9_height 1 [.ref (ga G 0), .int p1] μ (K_X9_height p1 μ) (some (.int (F_X9_height p1 μ))) (M_X9_height p1 μ) := by
  refine okK_of hG rfl (by decide) (Nat.le_of_ble_eq_true rfl) ?_
  unfold P_X9_height at hP
  refine r_aload_n dX9_height_0 0 rfl ?_
  refine r_iload_n dX9_height_1 1 rfl ?_
  refine r_iconst 0 dX9_height_2 rfl ?_
  refine r_bipush 99 dX9_height_3 rfl ?_
  refine r_cvK (T := 1) (t := 0) (muX9_height_1 p1 μ) (ok_X9_needRange hG p1 0 99 μ) lX9_160 (hG.lt (by decide)) sh0 ⟨_, _, rfl⟩ dX9_height_5 (by decide) (by decide) rfl (Nat.le_of_ble_eq_true rfl) rfl (fun c1 => ?_) (fun c1 => ?_)
  · refine kthrow ?_ ?_
    · rfl
    · rfl
  · replace hP := hP c1
    refine r_aload_n dX9_height_8 0 rfl ?_
    refine r_getR 3 fX9_19 (hG.lt (by decide)) sh0 fs0_1 dX9_height_9 ?_
    refine r_aload_n dX9_height_12 0 rfl ?_
    refine r_getR 43 fX9_56 (hG.lt (by decide)) sh0 fs0_8 dX9_height_13 ?_
    refine r_cvI (ok_X5_tideToCome hG (IsSt.of43) (muX9_height_1 p1 μ)) lX9_170 (hG.lt (by decide)) sh43 ⟨_, _, rfl⟩ dX9_height_16 (by decide) (Nat.le_of_ble_eq_true rfl) rfl (Nat.le_of_ble_eq_true rfl) ?_
    refine r_iload_n dX9_height_19 1 rfl ?_
    refine r_iadd dX9_height_20 ?_
    have hs1 := hP
    refine r_cvI (ok_X7_heightOf hG ((F_X5_tideToCome 43 (muX9_height_1 p1 μ)) + p1) (muX9_height_1 p1 μ) hs1) lX9_173 (hG.lt (by decide)) sh3 ⟨_, _, rfl⟩ dX9_height_21 (by decide) (Nat.le_of_ble_eq_true rfl) rfl (Nat.le_of_ble_eq_true rfl) ?_
    exact r_ireturn _ dX9_height_24 rfl rfl ⟨by unfold K_X9_height; exact c1, congrArg (fun z => some (Value.int z)) (rfl), rfl⟩
set_option maxRecDepth 20000 in
set_option maxHeartbeats 2000000 in
theorem ok_X9_find {G : SG} (hG : GK 57 G) (p1 : Int32) (p2 : Int32) (μ : Mem) : OkK G mX9_find 2 [.ref (ga G 0), .int p1, .int p2] μ (K_X9_find p1 p2 μ) (some (.int (F_X9_find p1 p2 μ))) (M_X9_find p1 p2 μ) := by
  refine okK_of hG rfl (by decide) (Nat.le_of_ble_eq_true rfl) ?_
  refine r_aload_n dX9_find_0 0 rfl ?_
  refine r_iload_n dX9_find_1 1 rfl ?_
  refine r_aload_n dX9_find_2 0 rfl ?_
  refine r_getR 3 fX9_19 (hG.lt (by decide)) sh0 fs0_1 dX9_find_3 ?_
  refine r_getI fX9_167 (hG.lt (by decide)) sh3 fs3_11 dX9_find_6 ?_
  refine r_cvK (T := 1) (t := 1) (muX9_find_1 p1 p2 μ) (ok_X9_needElement hG p1 (μ 3 11) μ) lX9_204 (hG.lt (by decide)) sh0 ⟨_, _, rfl⟩ dX9_find_9 (by decide) (by decide) rfl (Nat.le_of_ble_eq_true rfl) rfl (fun c1 => ?_) (fun c1 => ?_)
  · refine kthrow ?_ ?_
    · unfold K_X9_find; rw [if_neg c1]
    · unfold M_X9_find; rw [if_neg c1]
  · refine r_aload_n dX9_find_12 0 rfl ?_
    refine r_iload_n dX9_find_13 2 rfl ?_
    refine r_iconst 0 dX9_find_14 rfl ?_
    refine r_iconst 1 dX9_find_15 rfl ?_
    refine r_cvK (T := 1) (t := 0) (muX9_find_2 p1 p2 μ) (ok_X9_needRange hG p2 0 1 (muX9_find_1 p1 p2 μ)) lX9_160 (hG.lt (by decide)) sh0 ⟨_, _, rfl⟩ dX9_find_16 (by decide) (by decide) rfl (Nat.le_of_ble_eq_true rfl) rfl (fun c2 => ?_) (fun c2 => ?_)
    · refine kthrow ?_ ?_
      · unfold K_X9_find; rw [if_pos c1]
      · unfold M_X9_find; rw [if_pos c1]
    · refine r_iload_n dX9_find_19 2 rfl ?_
      refine r_if_ne 37 dX9_find_20 (by decide) (fun c3 => ?_) (fun c3 => ?_)
      · refine r_aload_n dX9_find_37 0 rfl ?_
        refine r_getR 3 fX9_19 (hG.lt (by decide)) sh0 fs0_1 dX9_find_38 ?_
        refine r_getR 11 fX9_221 (hG.lt (by decide)) sh3 fs3_7 dX9_find_41 ?_
        refine r_iload_n dX9_find_44 1 rfl ?_
        refine r_csI (ok_X9_at hG (hG.lt (by decide)) sh11 p1 (muX9_find_2 p1 p2 μ)) lX9_211 dX9_find_45 (by decide) (Nat.le_of_ble_eq_true rfl) rfl (Nat.le_of_ble_eq_true rfl) ?_
        exact r_ireturn _ dX9_find_48 rfl rfl ⟨by unfold K_X9_find; rw [if_pos c1]; exact c2, congrArg (fun z => some (Value.int z)) (by unfold F_X9_find; rw [if_pos c3]), by unfold M_X9_find; rw [if_pos c1]⟩
      · refine r_aload_n dX9_find_23 0 rfl ?_
        refine r_getR 3 fX9_19 (hG.lt (by decide)) sh0 fs0_1 dX9_find_24 ?_
        refine r_getR 10 fX9_218 (hG.lt (by decide)) sh3 fs3_6 dX9_find_27 ?_
        refine r_iload_n dX9_find_30 1 rfl ?_
        refine r_csI (ok_X9_at hG (hG.lt (by decide)) sh10 p1 (muX9_find_2 p1 p2 μ)) lX9_211 dX9_find_31 (by decide) (Nat.le_of_ble_eq_true rfl) rfl (Nat.le_of_ble_eq_true rfl) ?_
        refine r_goto 48 dX9_find_34 (by decide) ?_
        exact r_ireturn _ dX9_find_48 rfl rfl ⟨by unfold K_X9_find; rw [if_pos c1]; exact c2, congrArg (fun z => some (Value.int z)) (by unfold F_X9_find; rw [if_neg (not_not_intro c3)]), by unfold M_X9_find; rw [if_pos c1]⟩
set_option maxRecDepth 20000 in
set_option maxHeartbeats 2000000 in
theorem ok_X9_due {G : SG} (hG : GK 57 G) (p1 : Int32) (μ : Mem) (hP : P_X9_due p1 μ) : OkK G mX9_due 1 [.ref (ga G 0), .int p1] μ (K_X9_due p1 μ) (some (.int (F_X9_due p1 μ))) (M_X9_due p1 μ) := by
  refine okK_of hG rfl (by decide) (Nat.le_of_ble_eq_true rfl) ?_
  unfold P_X9_due at hP
  refine r_aload_n dX9_due_0 0 rfl ?_
  refine r_iload_n dX9_due_1 1 rfl ?_
  refine r_cvK (T := 1) (t := 0) (muX9_due_1 p1 μ) (ok_X9_needHouse hG p1 μ) lX9_190 (hG.lt (by decide)) sh0 ⟨_, _, rfl⟩ dX9_due_2 (by decide) (by decide) rfl (Nat.le_of_ble_eq_true rfl) rfl (fun c1 => ?_) (fun c1 => ?_)
  · refine kthrow ?_ ?_
    · rfl
    · unfold M_X9_due; rw [if_neg c1]
  · replace hP := hP c1
    refine r_aload_n dX9_due_5 0 rfl ?_
    refine r_getR 51 fX9_72 (hG.lt (by decide)) sh0 fs0_10 dX9_due_6 ?_
    refine r_iload_n dX9_due_9 1 rfl ?_
    refine r_iconst 1 dX9_due_10 rfl ?_
    have hs1 := hP
    refine r_cvI (ok_X0_paidAhead hG p1 1 (muX9_due_1 p1 μ) hs1) lX9_224 (hG.lt (by decide)) sh51 ⟨_, _, rfl⟩ dX9_due_11 (by decide) (Nat.le_of_ble_eq_true rfl) rfl (Nat.le_of_ble_eq_true rfl) ?_
    refine r_mu (muX9_due_2 p1 μ) rfl ?_
    exact r_ireturn _ dX9_due_14 rfl rfl ⟨by unfold K_X9_due; exact c1, congrArg (fun z => some (Value.int z)) (rfl), by unfold M_X9_due; rw [if_pos c1]⟩
set_option maxRecDepth 20000 in
set_option maxHeartbeats 2000000 in
theorem ok_X9_would {G : SG} (hG : GK 57 G) (p1 : Int32) (p2 : Int32) (p3 : Int32) (p4 : Int32) (p5 : Int32) (p6 : Int32) (μ : Mem) (hP : P_X9_would p1 p2 p3 p4 p5 p6 μ) : OkK G mX9_would 6 [.ref (ga G 0), .int p1, .int p2, .int p3, .int p4, .int p5, .int p6] μ (K_X9_would p1 p2 p3 p4 p5 p6 μ) (some (.int (F_X9_would p1 p2 p3 p4 p5 p6 μ))) (M_X9_would p1 p2 p3 p4 p5 p6 μ) := by
  refine okK_of hG rfl (by decide) (Nat.le_of_ble_eq_true rfl) ?_
  unfold P_X9_would at hP
  refine r_aload_n dX9_would_0 0 rfl ?_
  refine r_iload_n dX9_would_1 1 rfl ?_
  refine r_iconst 1 dX9_would_2 rfl ?_
  refine r_bipush 60 dX9_would_3 rfl ?_
  refine r_cvK (T := 1) (t := 5) (muX9_would_1 p1 p2 p3 p4 p5 p6 μ) (ok_X9_needRange hG p1 1 60 μ) lX9_160 (hG.lt (by decide)) sh0 ⟨_, _, rfl⟩ dX9_would_5 (by decide) (by decide) rfl (Nat.le_of_ble_eq_true rfl) rfl (fun c1 => ?_) (fun c1 => ?_)
  · refine kthrow ?_ ?_
    · unfold K_X9_would; rw [if_neg c1]
    · unfold M_X9_would; rw [if_neg c1]
  · replace hP := hP c1
    refine r_aload_n dX9_would_8 0 rfl ?_
    refine r_iload_n dX9_would_9 2 rfl ?_
    refine r_iconst 0 dX9_would_10 rfl ?_
    refine r_bipush 10 dX9_would_11 rfl ?_
    refine r_cvK (T := 1) (t := 4) (muX9_would_2 p1 p2 p3 p4 p5 p6 μ) (ok_X9_needRange hG p2 0 10 (muX9_would_1 p1 p2 p3 p4 p5 p6 μ)) lX9_160 (hG.lt (by decide)) sh0 ⟨_, _, rfl⟩ dX9_would_13 (by decide) (by decide) rfl (Nat.le_of_ble_eq_true rfl) rfl (fun c2 => ?_) (fun c2 => ?_)
    · refine kthrow ?_ ?_
      · unfold K_X9_would; rw [if_pos c1, if_neg c2]
      · unfold M_X9_would; rw [if_pos c1, if_neg c2]
    · replace hP := hP c2
      refine r_aload_n dX9_would_16 0 rfl ?_
      refine r_iload_n dX9_would_17 3 rfl ?_
      refine r_iconst 0 dX9_would_18 rfl ?_
      refine r_bipush 10 dX9_would_19 rfl ?_
      refine r_cvK (T := 1) (t := 3) (muX9_would_3 p1 p2 p3 p4 p5 p6 μ) (ok_X9_needRange hG p3 0 10 (muX9_would_2 p1 p2 p3 p4 p5 p6 μ)) lX9_160 (hG.lt (by decide)) sh0 ⟨_, _, rfl⟩ dX9_would_21 (by decide) (by decide) rfl (Nat.le_of_ble_eq_true rfl) rfl (fun c3 => ?_) (fun c3 => ?_)
      · refine kthrow ?_ ?_
        · unfold K_X9_would; rw [if_pos c1, if_pos c2, if_neg c3]
        · unfold M_X9_would; rw [if_pos c1, if_pos c2, if_neg c3]
      · replace hP := hP c3
        refine r_aload_n dX9_would_24 0 rfl ?_
        refine r_iload dX9_would_25 4 rfl ?_
        refine r_iconst 0 dX9_would_27 rfl ?_
        refine r_sipush 999 dX9_would_28 rfl ?_
        refine r_cvK (T := 1) (t := 2) (muX9_would_4 p1 p2 p3 p4 p5 p6 μ) (ok_X9_needRange hG p4 0 999 (muX9_would_3 p1 p2 p3 p4 p5 p6 μ)) lX9_160 (hG.lt (by decide)) sh0 ⟨_, _, rfl⟩ dX9_would_31 (by decide) (by decide) rfl (Nat.le_of_ble_eq_true rfl) rfl (fun c4 => ?_) (fun c4 => ?_)
        · refine kthrow ?_ ?_
          · unfold K_X9_would; rw [if_pos c1, if_pos c2, if_pos c3, if_neg c4]
          · unfold M_X9_would; rw [if_pos c1, if_pos c2, if_pos c3, if_neg c4]
        · replace hP := hP c4
          refine r_aload_n dX9_would_34 0 rfl ?_
          refine r_iload dX9_would_35 5 rfl ?_
          refine r_iconst 0 dX9_would_37 rfl ?_
          refine r_bipush 40 dX9_would_38 rfl ?_
          refine r_cvK (T := 1) (t := 1) (muX9_would_5 p1 p2 p3 p4 p5 p6 μ) (ok_X9_needRange hG p5 0 40 (muX9_would_4 p1 p2 p3 p4 p5 p6 μ)) lX9_160 (hG.lt (by decide)) sh0 ⟨_, _, rfl⟩ dX9_would_40 (by decide) (by decide) rfl (Nat.le_of_ble_eq_true rfl) rfl (fun c5 => ?_) (fun c5 => ?_)
          · refine kthrow ?_ ?_
            · unfold K_X9_would; rw [if_pos c1, if_pos c2, if_pos c3, if_pos c4, if_neg c5]
            · unfold M_X9_would; rw [if_pos c1, if_pos c2, if_pos c3, if_pos c4, if_neg c5]
          · replace hP := hP c5
            refine r_aload_n dX9_would_43 0 rfl ?_
            refine r_iload dX9_would_44 6 rfl ?_
            refine r_iconst 0 dX9_would_46 rfl ?_
            refine r_iconst 5 dX9_would_47 rfl ?_
            refine r_cvK (T := 1) (t := 0) (muX9_would_6 p1 p2 p3 p4 p5 p6 μ) (ok_X9_needRange hG p6 0 5 (muX9_would_5 p1 p2 p3 p4 p5 p6 μ)) lX9_160 (hG.lt (by decide)) sh0 ⟨_, _, rfl⟩ dX9_would_48 (by decide) (by decide) rfl (Nat.le_of_ble_eq_true rfl) rfl (fun c6 => ?_) (fun c6 => ?_)
            · refine kthrow ?_ ?_
              · unfold K_X9_would; rw [if_pos c1, if_pos c2, if_pos c3, if_pos c4, if_pos c5]
              · unfold M_X9_would; rw [if_pos c1, if_pos c2, if_pos c3, if_pos c4, if_pos c5, if_neg c6]
            · replace hP := hP c6
              refine r_aload_n dX9_would_51 0 rfl ?_
              refine r_getR 21 fX9_29 (hG.lt (by decide)) sh0 fs0_3 dX9_would_52 ?_
              refine r_iload_n dX9_would_55 1 rfl ?_
              refine r_iload_n dX9_would_56 2 rfl ?_
              refine r_iload_n dX9_would_57 3 rfl ?_
              refine r_iload dX9_would_58 4 rfl ?_
              refine r_iload dX9_would_60 5 rfl ?_
              refine r_iload dX9_would_62 6 rfl ?_
              have hs1 := hP
              refine r_cvI (ok_X1_dueBy hG p1 p2 p3 p4 p5 p6 (muX9_would_6 p1 p2 p3 p4 p5 p6 μ) hs1) lX9_227 (hG.lt (by decide)) sh21 ⟨_, _, rfl⟩ dX9_would_64 (by decide) (Nat.le_of_ble_eq_true rfl) rfl (Nat.le_of_ble_eq_true rfl) ?_
              refine r_mu (muX9_would_7 p1 p2 p3 p4 p5 p6 μ) rfl ?_
              exact r_ireturn _ dX9_would_67 rfl rfl ⟨by unfold K_X9_would; rw [if_pos c1, if_pos c2, if_pos c3, if_pos c4, if_pos c5]; exact c6, congrArg (fun z => some (Value.int z)) (rfl), by unfold M_X9_would; rw [if_pos c1, if_pos c2, if_pos c3, if_pos c4, if_pos c5, if_pos c6]⟩
set_option maxRecDepth 20000 in
set_option maxHeartbeats 2000000 in
theorem ok_X9_ahead {G : SG} (hG : GK 57 G) (p1 : Int32) (p2 : Int32) (μ : Mem) (hP : P_X9_ahead p1 p2 μ) : OkK G mX9_ahead 2 [.ref (ga G 0), .int p1, .int p2] μ (K_X9_ahead p1 p2 μ) (some (.int (F_X9_ahead p1 p2 μ))) (M_X9_ahead p1 p2 μ) := by
  refine okK_of hG rfl (by decide) (Nat.le_of_ble_eq_true rfl) ?_
  unfold P_X9_ahead at hP
  refine r_aload_n dX9_ahead_0 0 rfl ?_
  refine r_iload_n dX9_ahead_1 1 rfl ?_
  refine r_iconst 0 dX9_ahead_2 rfl ?_
  refine r_bipush 60 dX9_ahead_3 rfl ?_
  refine r_cvK (T := 1) (t := 1) (muX9_ahead_1 p1 p2 μ) (ok_X9_needRange hG p1 0 60 μ) lX9_160 (hG.lt (by decide)) sh0 ⟨_, _, rfl⟩ dX9_ahead_5 (by decide) (by decide) rfl (Nat.le_of_ble_eq_true rfl) rfl (fun c1 => ?_) (fun c1 => ?_)
  · refine kthrow ?_ ?_
    · unfold K_X9_ahead; rw [if_neg c1]
    · unfold M_X9_ahead; rw [if_neg c1]
  · replace hP := hP c1
    refine r_aload_n dX9_ahead_8 0 rfl ?_
    refine r_iload_n dX9_ahead_9 2 rfl ?_
    refine r_iconst 0 dX9_ahead_10 rfl ?_
    refine r_iconst 3 dX9_ahead_11 rfl ?_
    refine r_cvK (T := 1) (t := 0) (muX9_ahead_2 p1 p2 μ) (ok_X9_needRange hG p2 0 3 (muX9_ahead_1 p1 p2 μ)) lX9_160 (hG.lt (by decide)) sh0 ⟨_, _, rfl⟩ dX9_ahead_12 (by decide) (by decide) rfl (Nat.le_of_ble_eq_true rfl) rfl (fun c2 => ?_) (fun c2 => ?_)
    · refine kthrow ?_ ?_
      · unfold K_X9_ahead; rw [if_pos c1]
      · unfold M_X9_ahead; rw [if_pos c1, if_neg c2]
    · replace hP := hP c2
      refine r_aload_n dX9_ahead_15 0 rfl ?_
      refine r_getR 51 fX9_72 (hG.lt (by decide)) sh0 fs0_10 dX9_ahead_16 ?_
      refine r_iload_n dX9_ahead_19 1 rfl ?_
      refine r_iload_n dX9_ahead_20 2 rfl ?_
      have hs1 := hP
      refine r_cvI (ok_X0_standAhead hG p1 p2 (muX9_ahead_2 p1 p2 μ) hs1) lX9_231 (hG.lt (by decide)) sh51 ⟨_, _, rfl⟩ dX9_ahead_21 (by decide) (Nat.le_of_ble_eq_true rfl) rfl (Nat.le_of_ble_eq_true rfl) ?_
      refine r_mu (muX9_ahead_3 p1 p2 μ) rfl ?_
      exact r_ireturn _ dX9_ahead_24 rfl rfl ⟨by unfold K_X9_ahead; rw [if_pos c1]; exact c2, congrArg (fun z => some (Value.int z)) (rfl), by unfold M_X9_ahead; rw [if_pos c1, if_pos c2]⟩
set_option maxRecDepth 20000 in
set_option maxHeartbeats 2000000 in
theorem ok_X9_comes {G : SG} (hG : GK 57 G) (p1 : Int32) (μ : Mem) (hP : P_X9_comes p1 μ) : OkK G mX9_comes 1 [.ref (ga G 0), .int p1] μ (K_X9_comes p1 μ) (some (.int (F_X9_comes p1 μ))) (M_X9_comes p1 μ) := by
  refine okK_of hG rfl (by decide) (Nat.le_of_ble_eq_true rfl) ?_
  unfold P_X9_comes at hP
  refine r_aload_n dX9_comes_0 0 rfl ?_
  refine r_iload_n dX9_comes_1 1 rfl ?_
  refine r_cvK (T := 1) (t := 0) (muX9_comes_1 p1 μ) (ok_X9_needHouse hG p1 μ) lX9_190 (hG.lt (by decide)) sh0 ⟨_, _, rfl⟩ dX9_comes_2 (by decide) (by decide) rfl (Nat.le_of_ble_eq_true rfl) rfl (fun c1 => ?_) (fun c1 => ?_)
  · refine kthrow ?_ ?_
    · rfl
    · rfl
  · replace hP := hP c1
    refine r_aload_n dX9_comes_5 0 rfl ?_
    refine r_getR 51 fX9_72 (hG.lt (by decide)) sh0 fs0_10 dX9_comes_6 ?_
    refine r_iload_n dX9_comes_9 1 rfl ?_
    have hs1 := hP
    refine r_cvI (ok_X0_firstInto hG p1 (muX9_comes_1 p1 μ) hs1) lX9_234 (hG.lt (by decide)) sh51 ⟨_, _, rfl⟩ dX9_comes_10 (by decide) (Nat.le_of_ble_eq_true rfl) rfl (Nat.le_of_ble_eq_true rfl) ?_
    exact r_ireturn _ dX9_comes_13 rfl rfl ⟨by unfold K_X9_comes; exact c1, congrArg (fun z => some (Value.int z)) (rfl), rfl⟩
