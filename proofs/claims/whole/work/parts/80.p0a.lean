theorem bo_X1_read  (μ : Mem) : F_X1_read  μ = 0 ∨ F_X1_read  μ = 1 := by
  unfold F_X1_read
  split
  · exact Or.inl rfl
  · split
    · exact Or.inr rfl
    · split
      · exact Or.inl rfl
      · exact Or.inr rfl
set_option maxRecDepth 20000 in
set_option maxHeartbeats 2000000 in
theorem ok_X1_read {G : SG} (hG : GK 57 G)  (μ : Mem) (hP : P_X1_read  μ) : OkF G mX1_read [.ref (ga G 26), .ref (ga G 1)] μ (some (.int (F_X1_read  μ))) (M_X1_read  μ) := by
  refine okF_of hG rfl rfl (Nat.le_of_ble_eq_true rfl) ?_
  unfold P_X1_read at hP
  refine r_aload_n dX1_read_0 0 rfl ?_
  refine r_iconst 0 dX1_read_1 rfl ?_
  refine r_put fiX1_28 (hG.lt (by decide)) sh26 fs26_4 dX1_read_2 ?_
  refine r_mu (muX1_read_1 μ) rfl ?_
  refine r_aload_n dX1_read_5 0 rfl ?_
  refine r_aload_n dX1_read_6 1 rfl ?_
  refine r_iconst 0 dX1_read_7 rfl ?_
  have hs1 := hP.1
  replace hP := hP.2
  refine r_cvI (ok_sumC hG 0 (muX1_read_1 μ) hs1) (lX1_43 _) (hG.lt (by decide)) sh26 ⟨_, _, rfl⟩ dX1_read_8 (by decide) (Nat.le_of_ble_eq_true rfl) rfl (Nat.le_of_ble_eq_true rfl) ?_
  refine r_mu (muX1_read_2 μ) rfl ?_
  refine r_if_eq 33 dX1_read_11 (by decide) (fun c1 => ?_) (fun c1 => ?_)
  · replace hP := hP.1 c1
    refine r_iconst 0 dX1_read_33 rfl ?_
    exact r_ireturn _ dX1_read_34 rfl rfl ⟨congrArg (fun z => some (Value.int z)) (by unfold F_X1_read; rw [if_pos c1]), by unfold M_X1_read; rw [if_pos c1]⟩
  · replace hP := hP.2 c1
    refine r_aload_n dX1_read_14 1 rfl ?_
    have hs2 := hP
    refine r_cvI (ok_X8_isEnded hG  (muX1_read_2 μ) hs2) lX1_47 (hG.lt (by decide)) sh1 ⟨_, _, rfl⟩ dX1_read_15 (by decide) (Nat.le_of_ble_eq_true rfl) rfl (Nat.le_of_ble_eq_true rfl) ?_
    refine r_mu (muX1_read_3 μ) rfl ?_
    refine r_if_ne 29 dX1_read_18 (by decide) (fun c2 => ?_) (fun c2 => ?_)
    · refine r_iconst 1 dX1_read_29 rfl ?_
      refine r_goto 34 dX1_read_30 (by decide) ?_
      exact r_ireturn _ dX1_read_34 rfl rfl ⟨congrArg (fun z => some (Value.int z)) (by unfold F_X1_read; rw [if_neg c1, if_pos c2]), by unfold M_X1_read; rw [if_neg c1, if_pos c2]⟩
    · refine r_aload_n dX1_read_21 1 rfl ?_
      refine r_iconst 1 dX1_read_22 rfl ?_
      refine r_cvI (ok_X8_failHere hG 1 (muX1_read_3 μ)) lX1_53 (hG.lt (by decide)) sh1 ⟨_, _, rfl⟩ dX1_read_23 (by decide) (Nat.le_of_ble_eq_true rfl) rfl (Nat.le_of_ble_eq_true rfl) ?_
      refine r_mu (muX1_read_4 μ) rfl ?_
      refine r_if_eq 33 dX1_read_26 (by decide) (fun c3 => ?_) (fun c3 => ?_)
      · refine r_iconst 0 dX1_read_33 rfl ?_
        exact r_ireturn _ dX1_read_34 rfl rfl ⟨congrArg (fun z => some (Value.int z)) (by unfold F_X1_read; rw [if_neg c1, if_neg (not_not_intro c2), if_pos c3]), by unfold M_X1_read; rw [if_neg c1, if_neg (not_not_intro c2)]⟩
      · refine r_iconst 1 dX1_read_29 rfl ?_
        refine r_goto 34 dX1_read_30 (by decide) ?_
        exact r_ireturn _ dX1_read_34 rfl rfl ⟨congrArg (fun z => some (Value.int z)) (by unfold F_X1_read; rw [if_neg c1, if_neg (not_not_intro c2), if_neg c3]), by unfold M_X1_read; rw [if_neg c1, if_neg (not_not_intro c2)]⟩
set_option maxRecDepth 20000 in
set_option maxHeartbeats 2000000 in
theorem ok_X9_needHouse {G : SG} (hG : GK 57 G) (p1 : Int32) (μ : Mem) : OkK G mX9_needHouse 1 [.ref (ga G 0), .int p1] μ (K_X9_needHouse p1 μ) none (M_X9_needHouse p1 μ) := by
  refine okK_of hG rfl (by decide) (Nat.le_of_ble_eq_true rfl) ?_
  refine r_aload_n dX9_needHouse_0 0 rfl ?_
  refine r_iload_n dX9_needHouse_1 1 rfl ?_
  refine r_aload_n dX9_needHouse_2 0 rfl ?_
  refine r_getR 3 fX9_19 (hG.lt (by decide)) sh0 fs0_1 dX9_needHouse_3 ?_
  refine r_getI fX9_138 (hG.lt (by decide)) sh3 fs3_8 dX9_needHouse_6 ?_
  refine r_cvK (T := 1) (t := 0) (muX9_needHouse_1 p1 μ) (ok_X9_needElement hG p1 (μ 3 8) μ) lX9_204 (hG.lt (by decide)) sh0 ⟨_, _, rfl⟩ dX9_needHouse_9 (by decide) (by decide) rfl (Nat.le_of_ble_eq_true rfl) rfl (fun c1 => ?_) (fun c1 => ?_)
  · refine kthrow ?_ ?_
    · rfl
    · rfl
  · exact r_return dX9_needHouse_12 rfl ⟨by unfold K_X9_needHouse; exact c1, rfl, rfl⟩
set_option maxRecDepth 20000 in
set_option maxHeartbeats 2000000 in
theorem ok_X9_needHouses {G : SG} (hG : GK 57 G) (p1 : Int32) (μ : Mem) : OkK G mX9_needHouses 1 [.ref (ga G 0), .int p1] μ (K_X9_needHouses p1 μ) none (M_X9_needHouses p1 μ) := by
  refine okK_of hG rfl (by decide) (Nat.le_of_ble_eq_true rfl) ?_
  refine r_aload_n dX9_needHouses_0 0 rfl ?_
  refine r_iload_n dX9_needHouses_1 1 rfl ?_
  refine r_iconst 0 dX9_needHouses_2 rfl ?_
  refine r_iconst 1 dX9_needHouses_3 rfl ?_
  refine r_aload_n dX9_needHouses_4 0 rfl ?_
  refine r_getR 3 fX9_19 (hG.lt (by decide)) sh0 fs0_1 dX9_needHouses_5 ?_
  refine r_getI fX9_138 (hG.lt (by decide)) sh3 fs3_8 dX9_needHouses_8 ?_
  refine r_ishl dX9_needHouses_11 rfl ?_
  refine r_iconst 1 dX9_needHouses_12 rfl ?_
  refine r_isub dX9_needHouses_13 ?_
  refine r_cvK (T := 1) (t := 0) (muX9_needHouses_1 p1 μ) (ok_X9_needRange hG p1 0 (((1 : Int32) <<< ((μ 3 8) &&& 31)) - 1) μ) lX9_160 (hG.lt (by decide)) sh0 ⟨_, _, rfl⟩ dX9_needHouses_14 (by decide) (by decide) rfl (Nat.le_of_ble_eq_true rfl) rfl (fun c1 => ?_) (fun c1 => ?_)
  · refine kthrow ?_ ?_
    · rfl
    · rfl
  · exact r_return dX9_needHouses_17 rfl ⟨by unfold K_X9_needHouses; exact c1, rfl, rfl⟩
set_option maxRecDepth 20000 in
set_option maxHeartbeats 2000000 in
theorem ok_X9_needText {G : SG} (hG : GK 57 G) (p1 : Int32) (p2 : Int32) (μ : Mem) : OkK G mX9_needText 1 [.ref (ga G 0), .int p1, .int p2] μ (K_X9_needText p1 p2 μ) none (M_X9_needText p1 p2 μ) := by
  refine okK_of hG rfl (by decide) (Nat.le_of_ble_eq_true rfl) ?_
  refine r_aload_n dX9_needText_0 0 rfl ?_
  refine r_iload_n dX9_needText_1 1 rfl ?_
  refine r_iconst 0 dX9_needText_2 rfl ?_
  refine r_iload_n dX9_needText_3 2 rfl ?_
  refine r_aload_n dX9_needText_4 0 rfl ?_
  refine r_getR 1 fX9_10 (hG.lt (by decide)) sh0 fs0_0 dX9_needText_5 ?_
  refine r_getI fX9_87 (hG.lt (by decide)) sh1 fs1_1 dX9_needText_8 ?_
  refine r_mmin lX9_288 (Nat.le_of_ble_eq_true rfl) dX9_needText_11 ?_
  refine r_cvK (T := 1) (t := 0) (muX9_needText_1 p1 p2 μ) (ok_X9_needRange hG p1 0 (imin p2 (μ 1 1)) μ) lX9_160 (hG.lt (by decide)) sh0 ⟨_, _, rfl⟩ dX9_needText_14 (by decide) (by decide) rfl (Nat.le_of_ble_eq_true rfl) rfl (fun c1 => ?_) (fun c1 => ?_)
  · refine kthrow ?_ ?_
    · rfl
    · rfl
  · exact r_return dX9_needText_17 rfl ⟨by unfold K_X9_needText; exact c1, rfl, rfl⟩
set_option maxRecDepth 20000 in
set_option maxHeartbeats 2000000 in
theorem ok_X9_needYear {G : SG} (hG : GK 57 G) (p1 : Int32) (p2 : Int32) (p3 : Int32) (μ : Mem) : OkK G mX9_needYear 3 [.ref (ga G 0), .int p1, .int p2, .int p3] μ (K_X9_needYear p1 p2 p3 μ) none (M_X9_needYear p1 p2 p3 μ) := by
  refine okK_of hG rfl (by decide) (Nat.le_of_ble_eq_true rfl) ?_
  refine r_aload_n dX9_needYear_0 0 rfl ?_
  refine r_iload_n dX9_needYear_1 1 rfl ?_
  refine r_iconst 1 dX9_needYear_2 rfl ?_
  refine r_bipush 96 dX9_needYear_3 rfl ?_
  refine r_cvK (T := 1) (t := 2) (muX9_needYear_1 p1 p2 p3 μ) (ok_X9_needRange hG p1 1 96 μ) lX9_160 (hG.lt (by decide)) sh0 ⟨_, _, rfl⟩ dX9_needYear_5 (by decide) (by decide) rfl (Nat.le_of_ble_eq_true rfl) rfl (fun c1 => ?_) (fun c1 => ?_)
  · refine kthrow ?_ ?_
    · unfold K_X9_needYear; rw [if_neg c1]
    · unfold M_X9_needYear; rw [if_neg c1]
  · refine r_aload_n dX9_needYear_8 0 rfl ?_
    refine r_iload_n dX9_needYear_9 2 rfl ?_
    refine r_iconst 0 dX9_needYear_10 rfl ?_
    refine r_bipush 16 dX9_needYear_11 rfl ?_
    refine r_cvK (T := 1) (t := 1) (muX9_needYear_2 p1 p2 p3 μ) (ok_X9_needRange hG p2 0 16 (muX9_needYear_1 p1 p2 p3 μ)) lX9_160 (hG.lt (by decide)) sh0 ⟨_, _, rfl⟩ dX9_needYear_13 (by decide) (by decide) rfl (Nat.le_of_ble_eq_true rfl) rfl (fun c2 => ?_) (fun c2 => ?_)
    · refine kthrow ?_ ?_
      · unfold K_X9_needYear; rw [if_pos c1, if_neg c2]
      · unfold M_X9_needYear; rw [if_pos c1, if_neg c2]
    · refine r_aload_n dX9_needYear_16 0 rfl ?_
      refine r_iload_n dX9_needYear_17 3 rfl ?_
      refine r_iconst 0 dX9_needYear_18 rfl ?_
      refine r_bipush 20 dX9_needYear_19 rfl ?_
      refine r_cvK (T := 1) (t := 0) (muX9_needYear_3 p1 p2 p3 μ) (ok_X9_needRange hG p3 0 20 (muX9_needYear_2 p1 p2 p3 μ)) lX9_160 (hG.lt (by decide)) sh0 ⟨_, _, rfl⟩ dX9_needYear_21 (by decide) (by decide) rfl (Nat.le_of_ble_eq_true rfl) rfl (fun c3 => ?_) (fun c3 => ?_)
      · refine kthrow ?_ ?_
        · unfold K_X9_needYear; rw [if_pos c1, if_pos c2]
        · unfold M_X9_needYear; rw [if_pos c1, if_pos c2]
      · exact r_return dX9_needYear_24 rfl ⟨by unfold K_X9_needYear; rw [if_pos c1, if_pos c2]; exact c3, rfl, by unfold M_X9_needYear; rw [if_pos c1, if_pos c2]⟩
set_option maxRecDepth 20000 in
set_option maxHeartbeats 2000000 in
theorem ok_X9_feed {G : SG} (hG : GK 57 G) (p1 : Int32) (p2 : Int32) (p3 : Int32) (p4 : Int32) (p5 : Int32) (μ : Mem) (hP : P_X9_feed p1 p2 p3 p4 p5 μ) : OkF G mX9_feed [.ref (ga G 0), .int p1, .int p2, .int p3, .int p4, .int p5] μ (some (.int (F_X9_feed p1 p2 p3 p4 p5 μ))) (M_X9_feed p1 p2 p3 p4 p5 μ) := by
  refine okF_of hG rfl rfl (Nat.le_of_ble_eq_true rfl) ?_
  unfold P_X9_feed at hP
  refine r_aload_n dX9_feed_0 0 rfl ?_
  refine r_getR 1 fX9_10 (hG.lt (by decide)) sh0 fs0_0 dX9_feed_1 ?_
  refine r_bipush 20 dX9_feed_4 rfl ?_
  refine r_cvI (ok_X8_hasRoom hG 20 μ) lX9_79 (hG.lt (by decide)) sh1 ⟨_, _, rfl⟩ dX9_feed_6 (by decide) (Nat.le_of_ble_eq_true rfl) rfl (Nat.le_of_ble_eq_true rfl) ?_
  refine r_if_ne 14 dX9_feed_9 (by decide) (fun c1 => ?_) (fun c1 => ?_)
  · replace hP := hP.1 c1
    refine r_aload_n dX9_feed_14 0 rfl ?_
    refine r_getR 1 fX9_10 (hG.lt (by decide)) sh0 fs0_0 dX9_feed_15 ?_
    refine r_iload_n dX9_feed_18 1 rfl ?_
    have hs1 := hP.1
    replace hP := hP.2
    refine r_cvV (ok_X8_addNumber hG p1 μ hs1) lX9_83 (hG.lt (by decide)) sh1 ⟨_, _, rfl⟩ dX9_feed_19 (by decide) (Nat.le_of_ble_eq_true rfl) rfl (Nat.le_of_ble_eq_true rfl) ?_
    refine r_mu (muX9_feed_1 p1 p2 p3 p4 p5 μ) rfl ?_
    refine r_aload_n dX9_feed_22 0 rfl ?_
    refine r_getR 1 fX9_10 (hG.lt (by decide)) sh0 fs0_0 dX9_feed_23 ?_
    refine r_iload_n dX9_feed_26 2 rfl ?_
    have hs2 := hP.1
    replace hP := hP.2
    refine r_cvV (ok_X8_addNumber hG p2 (muX9_feed_1 p1 p2 p3 p4 p5 μ) hs2) lX9_83 (hG.lt (by decide)) sh1 ⟨_, _, rfl⟩ dX9_feed_27 (by decide) (Nat.le_of_ble_eq_true rfl) rfl (Nat.le_of_ble_eq_true rfl) ?_
    refine r_mu (muX9_feed_2 p1 p2 p3 p4 p5 μ) rfl ?_
    refine r_aload_n dX9_feed_30 0 rfl ?_
    refine r_getR 1 fX9_10 (hG.lt (by decide)) sh0 fs0_0 dX9_feed_31 ?_
    refine r_iload_n dX9_feed_34 3 rfl ?_
    have hs3 := hP.1
    replace hP := hP.2
    refine r_cvV (ok_X8_addNumber hG p3 (muX9_feed_2 p1 p2 p3 p4 p5 μ) hs3) lX9_83 (hG.lt (by decide)) sh1 ⟨_, _, rfl⟩ dX9_feed_35 (by decide) (Nat.le_of_ble_eq_true rfl) rfl (Nat.le_of_ble_eq_true rfl) ?_
    refine r_mu (muX9_feed_3 p1 p2 p3 p4 p5 μ) rfl ?_
    refine r_aload_n dX9_feed_38 0 rfl ?_
    refine r_getR 1 fX9_10 (hG.lt (by decide)) sh0 fs0_0 dX9_feed_39 ?_
    refine r_iload dX9_feed_42 4 rfl ?_
    have hs4 := hP.1
    replace hP := hP.2
    refine r_cvV (ok_X8_addNumber hG p4 (muX9_feed_3 p1 p2 p3 p4 p5 μ) hs4) lX9_83 (hG.lt (by decide)) sh1 ⟨_, _, rfl⟩ dX9_feed_44 (by decide) (Nat.le_of_ble_eq_true rfl) rfl (Nat.le_of_ble_eq_true rfl) ?_
    refine r_mu (muX9_feed_4 p1 p2 p3 p4 p5 μ) rfl ?_
    refine r_aload_n dX9_feed_47 0 rfl ?_
    refine r_getR 1 fX9_10 (hG.lt (by decide)) sh0 fs0_0 dX9_feed_48 ?_
    refine r_iload dX9_feed_51 5 rfl ?_
    have hs5 := hP
    refine r_cvV (ok_X8_addNumber hG p5 (muX9_feed_4 p1 p2 p3 p4 p5 μ) hs5) lX9_83 (hG.lt (by decide)) sh1 ⟨_, _, rfl⟩ dX9_feed_53 (by decide) (Nat.le_of_ble_eq_true rfl) rfl (Nat.le_of_ble_eq_true rfl) ?_
    refine r_mu (muX9_feed_5 p1 p2 p3 p4 p5 μ) rfl ?_
    refine r_aload_n dX9_feed_56 0 rfl ?_
    refine r_getR 1 fX9_10 (hG.lt (by decide)) sh0 fs0_0 dX9_feed_57 ?_
    refine r_getI fX9_87 (hG.lt (by decide)) sh1 fs1_1 dX9_feed_60 ?_
    exact r_ireturn _ dX9_feed_63 rfl rfl ⟨congrArg (fun z => some (Value.int z)) (by unfold F_X9_feed; rw [if_pos c1]), by unfold M_X9_feed; rw [if_pos c1]⟩
  · replace hP := hP.2 c1
    refine r_iconst (-1) dX9_feed_12 rfl ?_
    exact r_ireturn _ dX9_feed_13 rfl rfl ⟨congrArg (fun z => some (Value.int z)) (by unfold F_X9_feed; rw [if_neg (not_not_intro c1)]), by unfold M_X9_feed; rw [if_neg (not_not_intro c1)]⟩
set_option maxRecDepth 20000 in
set_option maxHeartbeats 2000000 in
theorem ok_X9_openStreet {G : SG} (hG : GK 57 G)  (μ : Mem) (hP : P_X9_openStreet  μ) : OkF G mX9_openStreet [.ref (ga G 0)] μ none (M_X9_openStreet  μ) := by
  refine okF_of hG rfl rfl (Nat.le_of_ble_eq_true rfl) ?_
  unfold P_X9_openStreet at hP
  refine r_aload_n dX9_openStreet_0 0 rfl ?_
  refine r_getR 21 fX9_29 (hG.lt (by decide)) sh0 fs0_3 dX9_openStreet_1 ?_
  refine r_cvV (ok_X1_beDefault hG  μ) lX9_346 (hG.lt (by decide)) sh21 ⟨_, _, rfl⟩ dX9_openStreet_4 (by decide) (Nat.le_of_ble_eq_true rfl) rfl (Nat.le_of_ble_eq_true rfl) ?_
  refine r_mu (muX9_openStreet_1 μ) rfl ?_
  refine r_aload_n dX9_openStreet_7 0 rfl ?_
  refine r_getR 37 fX9_46 (hG.lt (by decide)) sh0 fs0_6 dX9_openStreet_8 ?_
  have hs1 := hP.1
  replace hP := hP.2
  refine r_cvV (ok_X2_clear hG (IsMk.of37) (muX9_openStreet_1 μ) hs1) lX9_349 (hG.lt (by decide)) sh37 ⟨_, _, rfl⟩ dX9_openStreet_11 (by decide) (Nat.le_of_ble_eq_true rfl) rfl (Nat.le_of_ble_eq_true rfl) ?_
  refine r_mu (muX9_openStreet_2 μ) rfl ?_
  refine r_aload_n dX9_openStreet_14 0 rfl ?_
  refine r_getR 48 fX9_63 (hG.lt (by decide)) sh0 fs0_9 dX9_openStreet_15 ?_
  refine r_cvV (ok_X4_clear hG  (muX9_openStreet_2 μ)) lX9_352 (hG.lt (by decide)) sh48 ⟨_, _, rfl⟩ dX9_openStreet_18 (by decide) (Nat.le_of_ble_eq_true rfl) rfl (Nat.le_of_ble_eq_true rfl) ?_
  refine r_mu (muX9_openStreet_3 μ) rfl ?_
  refine r_aload_n dX9_openStreet_21 0 rfl ?_
  refine r_getR 43 fX9_56 (hG.lt (by decide)) sh0 fs0_8 dX9_openStreet_22 ?_
  refine r_aload_n dX9_openStreet_25 0 rfl ?_
  refine r_getR 3 fX9_19 (hG.lt (by decide)) sh0 fs0_1 dX9_openStreet_26 ?_
  have hs2 := hP
  refine r_cvV (ok_X5_open hG (IsSt.of43) (muX9_openStreet_3 μ) hs2) lX9_353 (hG.lt (by decide)) sh43 ⟨_, _, rfl⟩ dX9_openStreet_29 (by decide) (Nat.le_of_ble_eq_true rfl) rfl (Nat.le_of_ble_eq_true rfl) ?_
  refine r_mu (muX9_openStreet_4 μ) rfl ?_
  refine r_aload_n dX9_openStreet_32 0 rfl ?_
  refine r_iconst 0 dX9_openStreet_33 rfl ?_
  refine r_put fiX9_135 (hG.lt (by decide)) sh0 fs0_11 dX9_openStreet_34 ?_
  refine r_mu (muX9_openStreet_5 μ) rfl ?_
  exact r_return dX9_openStreet_37 rfl ⟨rfl, rfl⟩
