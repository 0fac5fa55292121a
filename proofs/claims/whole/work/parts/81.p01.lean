set_option maxRecDepth 20000 in
set_option maxHeartbeats 2000000 in
theorem ok_X9_spring {G : SG} (hG : GK 57 G) (p1 : Int32) (μ : Mem) (hP : P_X9_spring p1 μ) : OkK G mX9_spring 1 [.ref (ga G 0), .int p1] μ (K_X9_spring p1 μ) (some (.int (F_X9_spring p1 μ))) (M_X9_spring p1 μ) := by
  refine okK_of hG rfl (by decide) (Nat.le_of_ble_eq_true rfl) ?_
  unfold P_X9_spring at hP
  refine r_aload_n dX9_spring_0 0 rfl ?_
  refine r_iload_n dX9_spring_1 1 rfl ?_
  refine r_iconst 0 dX9_spring_2 rfl ?_
  refine r_iconst 1 dX9_spring_3 rfl ?_
  refine r_cvK (T := 1) (t := 0) (muX9_spring_1 p1 μ) (ok_X9_needRange hG p1 0 1 μ) lX9_160 (hG.lt (by decide)) sh0 ⟨_, _, rfl⟩ dX9_spring_4 (by decide) (by decide) rfl (Nat.le_of_ble_eq_true rfl) rfl (fun c1 => ?_) (fun c1 => ?_)
  · refine kthrow ?_ ?_
    · rfl
    · rfl
  · replace hP := hP c1
    refine r_aload_n dX9_spring_7 0 rfl ?_
    refine r_getR 51 fX9_72 (hG.lt (by decide)) sh0 fs0_10 dX9_spring_8 ?_
    have hs1 := hP.1
    replace hP := hP.2
    refine r_cvI (ok_X0_highestAhead hG  (muX9_spring_1 p1 μ) hs1) lX9_237 (hG.lt (by decide)) sh51 ⟨_, _, rfl⟩ dX9_spring_11 (by decide) (Nat.le_of_ble_eq_true rfl) rfl (Nat.le_of_ble_eq_true rfl) ?_
    refine r_istore_n [(2, _), (0, _), (1, _)] dX9_spring_14 (Nat.le_of_ble_eq_true rfl) rfl ?_
    refine r_iload_n dX9_spring_15 2 rfl ?_
    refine r_if_ne 23 dX9_spring_16 (by decide) (fun c2 => ?_) (fun c2 => ?_)
    · replace hP := hP.1 c2
      refine r_aload_n dX9_spring_23 1 rfl ?_
      refine r_getR 51 fX9_72 (hG.lt (by decide)) sh0 fs0_10 dX9_spring_24 ?_
      refine r_iload_n dX9_spring_27 0 rfl ?_
      have hs2 := hP
      refine r_cvI (ok_X0_heightAhead hG (F_X0_highestAhead  (muX9_spring_1 p1 μ)) (muX9_spring_1 p1 μ) hs2) lX9_240 (hG.lt (by decide)) sh51 ⟨_, _, rfl⟩ dX9_spring_28 (by decide) (Nat.le_of_ble_eq_true rfl) rfl (Nat.le_of_ble_eq_true rfl) ?_
      exact r_ireturn _ dX9_spring_31 rfl rfl ⟨by unfold K_X9_spring; exact c1, congrArg (fun z => some (Value.int z)) (by unfold F_X9_spring; rw [if_pos c2]), rfl⟩
    · replace hP := hP.2 c2
      refine r_iload_n dX9_spring_19 0 rfl ?_
      refine r_goto 31 dX9_spring_20 (by decide) ?_
      exact r_ireturn _ dX9_spring_31 rfl rfl ⟨by unfold K_X9_spring; exact c1, congrArg (fun z => some (Value.int z)) (by unfold F_X9_spring; rw [if_neg (not_not_intro c2)]), rfl⟩
set_option maxRecDepth 20000 in
set_option maxHeartbeats 2000000 in
theorem ok_X9_carry {G : SG} (hG : GK 57 G) (p1 : Int32) (p2 : Int32) (p3 : Int32) (μ : Mem) (hP : P_X9_carry p1 p2 p3 μ) : OkK G mX9_carry 3 [.ref (ga G 0), .int p1, .int p2, .int p3] μ (K_X9_carry p1 p2 p3 μ) (some (.int (F_X9_carry p1 p2 p3 μ))) (M_X9_carry p1 p2 p3 μ) := by
  refine okK_of hG rfl (by decide) (Nat.le_of_ble_eq_true rfl) ?_
  unfold P_X9_carry at hP
  refine r_aload_n dX9_carry_0 0 rfl ?_
  refine r_iload_n dX9_carry_1 1 rfl ?_
  refine r_iconst 0 dX9_carry_2 rfl ?_
  refine r_bipush 99 dX9_carry_3 rfl ?_
  refine r_cvK (T := 1) (t := 2) (muX9_carry_1 p1 p2 p3 μ) (ok_X9_needRange hG p1 0 99 μ) lX9_160 (hG.lt (by decide)) sh0 ⟨_, _, rfl⟩ dX9_carry_5 (by decide) (by decide) rfl (Nat.le_of_ble_eq_true rfl) rfl (fun c1 => ?_) (fun c1 => ?_)
  · refine kthrow ?_ ?_
    · unfold K_X9_carry; rw [if_neg c1]
    · unfold M_X9_carry; rw [if_neg c1]
  · replace hP := hP c1
    refine r_aload_n dX9_carry_8 0 rfl ?_
    refine r_iload_n dX9_carry_9 2 rfl ?_
    refine r_iconst 0 dX9_carry_10 rfl ?_
    refine r_bipush 24 dX9_carry_11 rfl ?_
    refine r_cvK (T := 1) (t := 1) (muX9_carry_2 p1 p2 p3 μ) (ok_X9_needRange hG p2 0 24 (muX9_carry_1 p1 p2 p3 μ)) lX9_160 (hG.lt (by decide)) sh0 ⟨_, _, rfl⟩ dX9_carry_13 (by decide) (by decide) rfl (Nat.le_of_ble_eq_true rfl) rfl (fun c2 => ?_) (fun c2 => ?_)
    · refine kthrow ?_ ?_
      · unfold K_X9_carry; rw [if_pos c1, if_neg c2]
      · unfold M_X9_carry; rw [if_pos c1, if_neg c2]
    · replace hP := hP c2
      refine r_aload_n dX9_carry_16 0 rfl ?_
      refine r_iload_n dX9_carry_17 3 rfl ?_
      refine r_iconst 0 dX9_carry_18 rfl ?_
      refine r_iconst 1 dX9_carry_19 rfl ?_
      refine r_cvK (T := 1) (t := 0) (muX9_carry_3 p1 p2 p3 μ) (ok_X9_needRange hG p3 0 1 (muX9_carry_2 p1 p2 p3 μ)) lX9_160 (hG.lt (by decide)) sh0 ⟨_, _, rfl⟩ dX9_carry_20 (by decide) (by decide) rfl (Nat.le_of_ble_eq_true rfl) rfl (fun c3 => ?_) (fun c3 => ?_)
      · refine kthrow ?_ ?_
        · unfold K_X9_carry; rw [if_pos c1, if_pos c2]
        · unfold M_X9_carry; rw [if_pos c1, if_pos c2, if_neg c3]
      · replace hP := hP c3
        refine r_aload_n dX9_carry_23 0 rfl ?_
        refine r_getR 51 fX9_72 (hG.lt (by decide)) sh0 fs0_10 dX9_carry_24 ?_
        refine r_iload_n dX9_carry_27 1 rfl ?_
        refine r_iload_n dX9_carry_28 2 rfl ?_
        refine r_iload_n dX9_carry_29 3 rfl ?_
        have hs1 := hP
        refine r_cvI (ok_X0_bestCarried hG p1 p2 p3 (muX9_carry_3 p1 p2 p3 μ) hs1) lX9_243 (hG.lt (by decide)) sh51 ⟨_, _, rfl⟩ dX9_carry_30 (by decide) (Nat.le_of_ble_eq_true rfl) rfl (Nat.le_of_ble_eq_true rfl) ?_
        refine r_mu (muX9_carry_4 p1 p2 p3 μ) rfl ?_
        exact r_ireturn _ dX9_carry_33 rfl rfl ⟨by unfold K_X9_carry; rw [if_pos c1, if_pos c2]; exact c3, congrArg (fun z => some (Value.int z)) (rfl), by unfold M_X9_carry; rw [if_pos c1, if_pos c2, if_pos c3]⟩
set_option maxRecDepth 20000 in
set_option maxHeartbeats 2000000 in
theorem ok_X9_rent {G : SG} (hG : GK 57 G) (p1 : Int32) (p2 : Int32) (μ : Mem) (hP : P_X9_rent p1 p2 μ) : OkK G mX9_rent 2 [.ref (ga G 0), .int p1, .int p2] μ (K_X9_rent p1 p2 μ) (some (.int (F_X9_rent p1 p2 μ))) (M_X9_rent p1 p2 μ) := by
  refine okK_of hG rfl (by decide) (Nat.le_of_ble_eq_true rfl) ?_
  unfold P_X9_rent at hP
  refine r_aload_n dX9_rent_0 0 rfl ?_
  refine r_iload_n dX9_rent_1 1 rfl ?_
  refine r_iconst 0 dX9_rent_2 rfl ?_
  refine r_sipush 9999 dX9_rent_3 rfl ?_
  refine r_cvK (T := 1) (t := 1) (muX9_rent_1 p1 p2 μ) (ok_X9_needRange hG p1 0 9999 μ) lX9_160 (hG.lt (by decide)) sh0 ⟨_, _, rfl⟩ dX9_rent_6 (by decide) (by decide) rfl (Nat.le_of_ble_eq_true rfl) rfl (fun c1 => ?_) (fun c1 => ?_)
  · refine kthrow ?_ ?_
    · unfold K_X9_rent; rw [if_neg c1]
    · unfold M_X9_rent; rw [if_neg c1]
  · replace hP := hP c1
    refine r_aload_n dX9_rent_9 0 rfl ?_
    refine r_iload_n dX9_rent_10 2 rfl ?_
    refine r_iconst 0 dX9_rent_11 rfl ?_
    refine r_bipush 24 dX9_rent_12 rfl ?_
    refine r_cvK (T := 1) (t := 0) (muX9_rent_2 p1 p2 μ) (ok_X9_needRange hG p2 0 24 (muX9_rent_1 p1 p2 μ)) lX9_160 (hG.lt (by decide)) sh0 ⟨_, _, rfl⟩ dX9_rent_14 (by decide) (by decide) rfl (Nat.le_of_ble_eq_true rfl) rfl (fun c2 => ?_) (fun c2 => ?_)
    · refine kthrow ?_ ?_
      · unfold K_X9_rent; rw [if_pos c1]
      · unfold M_X9_rent; rw [if_pos c1, if_neg c2]
    · replace hP := hP c2
      refine r_aload_n dX9_rent_17 0 rfl ?_
      refine r_getR 51 fX9_72 (hG.lt (by decide)) sh0 fs0_10 dX9_rent_18 ?_
      refine r_iload_n dX9_rent_21 1 rfl ?_
      refine r_iload_n dX9_rent_22 2 rfl ?_
      have hs1 := hP
      refine r_cvI (ok_X0_leastRent hG p1 p2 (muX9_rent_2 p1 p2 μ) hs1) lX9_247 (hG.lt (by decide)) sh51 ⟨_, _, rfl⟩ dX9_rent_23 (by decide) (Nat.le_of_ble_eq_true rfl) rfl (Nat.le_of_ble_eq_true rfl) ?_
      refine r_mu (muX9_rent_3 p1 p2 μ) rfl ?_
      exact r_ireturn _ dX9_rent_26 rfl rfl ⟨by unfold K_X9_rent; rw [if_pos c1]; exact c2, congrArg (fun z => some (Value.int z)) (rfl), by unfold M_X9_rent; rw [if_pos c1, if_pos c2]⟩
set_option maxRecDepth 20000 in
set_option maxHeartbeats 2000000 in
theorem ok_X9_bags {G : SG} (hG : GK 57 G) (p1 : Int32) (p2 : Int32) (μ : Mem) (hP : P_X9_bags p1 p2 μ) : OkK G mX9_bags 2 [.ref (ga G 0), .int p1, .int p2] μ (K_X9_bags p1 p2 μ) (some (.int (F_X9_bags p1 p2 μ))) (M_X9_bags p1 p2 μ) := by
  refine okK_of hG rfl (by decide) (Nat.le_of_ble_eq_true rfl) ?_
  unfold P_X9_bags at hP
  refine r_aload_n dX9_bags_0 0 rfl ?_
  refine r_iload_n dX9_bags_1 1 rfl ?_
  refine r_cvK (T := 1) (t := 1) (muX9_bags_1 p1 p2 μ) (ok_X9_needHouses hG p1 μ) lX9_250 (hG.lt (by decide)) sh0 ⟨_, _, rfl⟩ dX9_bags_2 (by decide) (by decide) rfl (Nat.le_of_ble_eq_true rfl) rfl (fun c1 => ?_) (fun c1 => ?_)
  · refine kthrow ?_ ?_
    · unfold K_X9_bags; rw [if_neg c1]
    · unfold M_X9_bags; rw [if_neg c1]
  · replace hP := hP c1
    refine r_aload_n dX9_bags_5 0 rfl ?_
    refine r_iload_n dX9_bags_6 2 rfl ?_
    refine r_iconst 0 dX9_bags_7 rfl ?_
    refine r_bipush 24 dX9_bags_8 rfl ?_
    refine r_cvK (T := 1) (t := 0) (muX9_bags_2 p1 p2 μ) (ok_X9_needRange hG p2 0 24 (muX9_bags_1 p1 p2 μ)) lX9_160 (hG.lt (by decide)) sh0 ⟨_, _, rfl⟩ dX9_bags_10 (by decide) (by decide) rfl (Nat.le_of_ble_eq_true rfl) rfl (fun c2 => ?_) (fun c2 => ?_)
    · refine kthrow ?_ ?_
      · unfold K_X9_bags; rw [if_pos c1]
      · unfold M_X9_bags; rw [if_pos c1]
    · replace hP := hP c2
      refine r_aload_n dX9_bags_13 0 rfl ?_
      refine r_getR 51 fX9_72 (hG.lt (by decide)) sh0 fs0_10 dX9_bags_14 ?_
      refine r_iload_n dX9_bags_17 1 rfl ?_
      refine r_iload_n dX9_bags_18 2 rfl ?_
      have hs1 := hP
      refine r_cvI (ok_X0_fewestBags hG p1 p2 (muX9_bags_2 p1 p2 μ) hs1) lX9_253 (hG.lt (by decide)) sh51 ⟨_, _, rfl⟩ dX9_bags_19 (by decide) (Nat.le_of_ble_eq_true rfl) rfl (Nat.le_of_ble_eq_true rfl) ?_
      exact r_ireturn _ dX9_bags_22 rfl rfl ⟨by unfold K_X9_bags; rw [if_pos c1]; exact c2, congrArg (fun z => some (Value.int z)) (rfl), by unfold M_X9_bags; rw [if_pos c1]⟩
set_option maxRecDepth 20000 in
set_option maxHeartbeats 2000000 in
theorem ok_X9_parlour {G : SG} (hG : GK 57 G) (p1 : Int32) (p2 : Int32) (p3 : Int32) (μ : Mem) (hP : P_X9_parlour p1 p2 p3 μ) : OkK G mX9_parlour 3 [.ref (ga G 0), .int p1, .int p2, .int p3] μ (K_X9_parlour p1 p2 p3 μ) (some (.int (F_X9_parlour p1 p2 p3 μ))) (M_X9_parlour p1 p2 p3 μ) := by
  refine okK_of hG rfl (by decide) (Nat.le_of_ble_eq_true rfl) ?_
  unfold P_X9_parlour at hP
  refine r_aload_n dX9_parlour_0 0 rfl ?_
  refine r_iload_n dX9_parlour_1 1 rfl ?_
  refine r_iconst 0 dX9_parlour_2 rfl ?_
  refine r_bipush 12 dX9_parlour_3 rfl ?_
  refine r_cvK (T := 1) (t := 2) (muX9_parlour_1 p1 p2 p3 μ) (ok_X9_needRange hG p1 0 12 μ) lX9_160 (hG.lt (by decide)) sh0 ⟨_, _, rfl⟩ dX9_parlour_5 (by decide) (by decide) rfl (Nat.le_of_ble_eq_true rfl) rfl (fun c1 => ?_) (fun c1 => ?_)
  · refine kthrow ?_ ?_
    · unfold K_X9_parlour; rw [if_neg c1]
    · unfold M_X9_parlour; rw [if_neg c1]
  · replace hP := hP c1
    refine r_aload_n dX9_parlour_8 0 rfl ?_
    refine r_iload_n dX9_parlour_9 2 rfl ?_
    refine r_iconst 0 dX9_parlour_10 rfl ?_
    refine r_bipush 16 dX9_parlour_11 rfl ?_
    refine r_cvK (T := 1) (t := 1) (muX9_parlour_2 p1 p2 p3 μ) (ok_X9_needRange hG p2 0 16 (muX9_parlour_1 p1 p2 p3 μ)) lX9_160 (hG.lt (by decide)) sh0 ⟨_, _, rfl⟩ dX9_parlour_13 (by decide) (by decide) rfl (Nat.le_of_ble_eq_true rfl) rfl (fun c2 => ?_) (fun c2 => ?_)
    · refine kthrow ?_ ?_
      · unfold K_X9_parlour; rw [if_pos c1, if_neg c2]
      · unfold M_X9_parlour; rw [if_pos c1, if_neg c2]
    · replace hP := hP c2
      refine r_aload_n dX9_parlour_16 0 rfl ?_
      refine r_iload_n dX9_parlour_17 3 rfl ?_
      refine r_iconst 0 dX9_parlour_18 rfl ?_
      refine r_iconst 2 dX9_parlour_19 rfl ?_
      refine r_cvK (T := 1) (t := 0) (muX9_parlour_3 p1 p2 p3 μ) (ok_X9_needRange hG p3 0 2 (muX9_parlour_2 p1 p2 p3 μ)) lX9_160 (hG.lt (by decide)) sh0 ⟨_, _, rfl⟩ dX9_parlour_20 (by decide) (by decide) rfl (Nat.le_of_ble_eq_true rfl) rfl (fun c3 => ?_) (fun c3 => ?_)
      · refine kthrow ?_ ?_
        · unfold K_X9_parlour; rw [if_pos c1, if_pos c2]
        · unfold M_X9_parlour; rw [if_pos c1, if_pos c2]
      · replace hP := hP c3
        refine r_iload_n dX9_parlour_23 1 rfl ?_
        refine r_iload_n dX9_parlour_24 2 rfl ?_
        refine r_iload_n dX9_parlour_25 3 rfl ?_
        have hs1 := hP
        refine r_csI (ok_X3_rests hG p1 p2 p3 (muX9_parlour_3 p1 p2 p3 μ) hs1) lX9_256 dX9_parlour_26 (by decide) (Nat.le_of_ble_eq_true rfl) rfl (Nat.le_of_ble_eq_true rfl) ?_
        exact r_ireturn _ dX9_parlour_29 rfl rfl ⟨by unfold K_X9_parlour; rw [if_pos c1, if_pos c2]; exact c3, congrArg (fun z => some (Value.int z)) (rfl), by unfold M_X9_parlour; rw [if_pos c1, if_pos c2]⟩
set_option maxRecDepth 20000 in
set_option maxHeartbeats 2000000 in
theorem ok_X9_in {G : SG} (hG : GK 57 G) (p1 : Int32) (μ : Mem) (hP : P_X9_in p1 μ) : OkK G mX9_in 1 [.ref (ga G 0), .int p1] μ (K_X9_in p1 μ) (some (.int (F_X9_in p1 μ))) (M_X9_in p1 μ) := by
  refine okK_of hG rfl (by decide) (Nat.le_of_ble_eq_true rfl) ?_
  unfold P_X9_in at hP
  refine r_aload_n dX9_in_0 0 rfl ?_
  refine r_iload_n dX9_in_1 1 rfl ?_
  refine r_iconst 0 dX9_in_2 rfl ?_
  refine r_iconst 2 dX9_in_3 rfl ?_
  refine r_cvK (T := 1) (t := 0) (muX9_in_1 p1 μ) (ok_X9_needRange hG p1 0 2 μ) lX9_160 (hG.lt (by decide)) sh0 ⟨_, _, rfl⟩ dX9_in_4 (by decide) (by decide) rfl (Nat.le_of_ble_eq_true rfl) rfl (fun c1 => ?_) (fun c1 => ?_)
  · refine kthrow ?_ ?_
    · rfl
    · rfl
  · replace hP := hP c1
    refine r_iload_n dX9_in_7 1 rfl ?_
    refine r_if_ne 27 dX9_in_8 (by decide) (fun c2 => ?_) (fun c2 => ?_)
    · replace hP := hP.1 c2
      refine r_aload_n dX9_in_27 0 rfl ?_
      refine r_getR 37 fX9_46 (hG.lt (by decide)) sh0 fs0_6 dX9_in_28 ?_
      refine r_aload_n dX9_in_31 0 rfl ?_
      refine r_getR 3 fX9_19 (hG.lt (by decide)) sh0 fs0_1 dX9_in_32 ?_
      refine r_aload_n dX9_in_35 0 rfl ?_
      refine r_getR 43 fX9_56 (hG.lt (by decide)) sh0 fs0_8 dX9_in_36 ?_
      have hs1 := hP
      refine r_cvI (ok_X2_fittingTides hG  (muX9_in_1 p1 μ) hs1) lX9_265 (hG.lt (by decide)) sh37 ⟨_, _, rfl⟩ dX9_in_39 (by decide) (Nat.le_of_ble_eq_true rfl) rfl (Nat.le_of_ble_eq_true rfl) ?_
      refine r_istore_n [(2, _), (0, _), (1, _)] dX9_in_42 (Nat.le_of_ble_eq_true rfl) rfl ?_
      refine r_iload_n dX9_in_43 0 rfl ?_
      refine r_iload_n dX9_in_44 0 rfl ?_
      refine r_ineg dX9_in_45 ?_
      refine r_iand dX9_in_46 ?_
      refine r_istore_n [(3, _), (2, _), (0, _), (1, _)] dX9_in_47 (Nat.le_of_ble_eq_true rfl) rfl ?_
      refine r_iload_n dX9_in_48 3 rfl ?_
      refine r_iconst 1 dX9_in_49 rfl ?_
      refine r_icmp_ne 63 dX9_in_50 (by decide) (fun c3 => ?_) (fun c3 => ?_)
      · refine r_iload_n dX9_in_63 0 rfl ?_
        refine r_iload_n dX9_in_64 1 rfl ?_
        refine r_icmp_ne 72 dX9_in_65 (by decide) (fun c4 => ?_) (fun c4 => ?_)
        · refine r_iconst 0 dX9_in_72 rfl ?_
          exact r_ireturn _ dX9_in_73 rfl rfl ⟨by unfold K_X9_in; exact c1, congrArg (fun z => some (Value.int z)) (by unfold F_X9_in; rw [if_pos c2, if_pos c3, if_pos c4]), rfl⟩
        · refine r_iload_n dX9_in_68 0 rfl ?_
          refine r_goto 73 dX9_in_69 (by decide) ?_
          exact r_ireturn _ dX9_in_73 rfl rfl ⟨by unfold K_X9_in; exact c1, congrArg (fun z => some (Value.int z)) (by unfold F_X9_in; rw [if_pos c2, if_pos c3, if_neg (not_not_intro c4)]), rfl⟩
      · refine r_iload_n dX9_in_53 1 rfl ?_
        refine r_if_ne 61 dX9_in_54 (by decide) (fun c4 => ?_) (fun c4 => ?_)
        · refine r_iload_n dX9_in_61 0 rfl ?_
          exact r_ireturn _ dX9_in_62 rfl rfl ⟨by unfold K_X9_in; exact c1, congrArg (fun z => some (Value.int z)) (by unfold F_X9_in; rw [if_pos c2, if_neg (not_not_intro c3), if_pos c4]), rfl⟩
        · refine r_iconst (-1) dX9_in_57 rfl ?_
          refine r_goto 62 dX9_in_58 (by decide) ?_
          exact r_ireturn _ dX9_in_62 rfl rfl ⟨by unfold K_X9_in; exact c1, congrArg (fun z => some (Value.int z)) (by unfold F_X9_in; rw [if_pos c2, if_neg (not_not_intro c3), if_neg (not_not_intro c4)]), rfl⟩
    · replace hP := hP.2 c2
      refine r_aload_n dX9_in_11 0 rfl ?_
      refine r_getR 37 fX9_46 (hG.lt (by decide)) sh0 fs0_6 dX9_in_12 ?_
      refine r_aload_n dX9_in_15 0 rfl ?_
      refine r_getR 3 fX9_19 (hG.lt (by decide)) sh0 fs0_1 dX9_in_16 ?_
      refine r_aload_n dX9_in_19 0 rfl ?_
      refine r_getR 43 fX9_56 (hG.lt (by decide)) sh0 fs0_8 dX9_in_20 ?_
      have hs2 := hP
      refine r_cvI (ok_X2_setsLeft hG  (muX9_in_1 p1 μ) hs2) lX9_261 (hG.lt (by decide)) sh37 ⟨_, _, rfl⟩ dX9_in_23 (by decide) (Nat.le_of_ble_eq_true rfl) rfl (Nat.le_of_ble_eq_true rfl) ?_
      exact r_ireturn _ dX9_in_26 rfl rfl ⟨by unfold K_X9_in; exact c1, congrArg (fun z => some (Value.int z)) (by unfold F_X9_in; rw [if_neg (not_not_intro c2)]), rfl⟩
set_option maxRecDepth 20000 in
set_option maxHeartbeats 2000000 in
theorem ok_X9_board {G : SG} (hG : GK 57 G) (p1 : Int32) (μ : Mem) (hP : P_X9_board p1 μ) : OkK G mX9_board 1 [.ref (ga G 0), .int p1] μ (K_X9_board p1 μ) (some (.int (F_X9_board p1 μ))) (M_X9_board p1 μ) := by
  refine okK_of hG rfl (by decide) (Nat.le_of_ble_eq_true rfl) ?_
  unfold P_X9_board at hP
  refine r_aload_n dX9_board_0 0 rfl ?_
  refine r_iload_n dX9_board_1 1 rfl ?_
  refine r_iconst 0 dX9_board_2 rfl ?_
  refine r_iconst 1 dX9_board_3 rfl ?_
  refine r_cvK (T := 1) (t := 0) (muX9_board_1 p1 μ) (ok_X9_needRange hG p1 0 1 μ) lX9_160 (hG.lt (by decide)) sh0 ⟨_, _, rfl⟩ dX9_board_4 (by decide) (by decide) rfl (Nat.le_of_ble_eq_true rfl) rfl (fun c1 => ?_) (fun c1 => ?_)
  · refine kthrow ?_ ?_
    · rfl
    · unfold M_X9_board; rw [if_neg c1]
  · replace hP := hP c1
    refine r_aload_n dX9_board_7 0 rfl ?_
    refine r_getR 37 fX9_46 (hG.lt (by decide)) sh0 fs0_6 dX9_board_8 ?_
    refine r_aload_n dX9_board_11 0 rfl ?_
    refine r_getR 3 fX9_19 (hG.lt (by decide)) sh0 fs0_1 dX9_board_12 ?_
    refine r_aload_n dX9_board_15 0 rfl ?_
    refine r_getR 43 fX9_56 (hG.lt (by decide)) sh0 fs0_8 dX9_board_16 ?_
    have hs1 := hP.1
    replace hP := hP.2
    refine r_cvI (ok_X2_nextBoard hG  (muX9_board_1 p1 μ) hs1) lX9_268 (hG.lt (by decide)) sh37 ⟨_, _, rfl⟩ dX9_board_19 (by decide) (Nat.le_of_ble_eq_true rfl) rfl (Nat.le_of_ble_eq_true rfl) ?_
    refine r_mu (muX9_board_2 p1 μ) rfl ?_
    refine r_istore_n [(2, _), (0, _), (1, _)] dX9_board_22 (Nat.le_of_ble_eq_true rfl) rfl ?_
    refine r_iload_n dX9_board_23 2 rfl ?_
    refine r_if_eq 32 dX9_board_24 (by decide) (fun c2 => ?_) (fun c2 => ?_)
    · replace hP := hP.1 c2
      refine r_iload_n dX9_board_32 0 rfl ?_
      refine r_goto 52 dX9_board_33 (by decide) ?_
      exact r_ireturn _ dX9_board_52 rfl rfl ⟨by unfold K_X9_board; exact c1, congrArg (fun z => some (Value.int z)) (by unfold F_X9_board; rw [if_pos c2]), by unfold M_X9_board; rw [if_pos c1, if_pos c2]⟩
    · replace hP := hP.2 c2
      refine r_iload_n dX9_board_27 0 rfl ?_
      refine r_iconst (-1) dX9_board_28 rfl ?_
      refine r_icmp_ne 36 dX9_board_29 (by decide) (fun c3 => ?_) (fun c3 => ?_)
      · replace hP := hP.1 c3
        refine r_aload_n dX9_board_36 1 rfl ?_
        refine r_getR 37 fX9_46 (hG.lt (by decide)) sh0 fs0_6 dX9_board_37 ?_
        refine r_aload_n dX9_board_40 1 rfl ?_
        refine r_getR 3 fX9_19 (hG.lt (by decide)) sh0 fs0_1 dX9_board_41 ?_
        refine r_aload_n dX9_board_44 1 rfl ?_
        refine r_getR 43 fX9_56 (hG.lt (by decide)) sh0 fs0_8 dX9_board_45 ?_
        refine r_iload_n dX9_board_48 0 rfl ?_
        have hs2 := hP
        refine r_cvI (ok_X2_worstLeft hG (F_X2_nextBoard  (muX9_board_1 p1 μ)) (muX9_board_2 p1 μ) hs2) lX9_271 (hG.lt (by decide)) sh37 ⟨_, _, rfl⟩ dX9_board_49 (by decide) (Nat.le_of_ble_eq_true rfl) rfl (Nat.le_of_ble_eq_true rfl) ?_
        refine r_mu (muX9_board_3 p1 μ) rfl ?_
        exact r_ireturn _ dX9_board_52 rfl rfl ⟨by unfold K_X9_board; exact c1, congrArg (fun z => some (Value.int z)) (by unfold F_X9_board; rw [if_neg c2, if_pos c3]), by unfold M_X9_board; rw [if_pos c1, if_neg c2, if_pos c3]⟩
      · replace hP := hP.2 c3
        refine r_iload_n dX9_board_32 0 rfl ?_
        refine r_goto 52 dX9_board_33 (by decide) ?_
        exact r_ireturn _ dX9_board_52 rfl rfl ⟨by unfold K_X9_board; exact c1, congrArg (fun z => some (Value.int z)) (by unfold F_X9_board; rw [if_neg c2, if_neg (not_not_intro c3)]), by unfold M_X9_board; rw [if_pos c1, if_neg c2, if_neg (not_not_intro c3)]⟩
set_option maxRecDepth 20000 in
set_option maxHeartbeats 2000000 in
theorem ok_X9_drift {G : SG} (hG : GK 57 G) (p1 : Int32) (p2 : Int32) (p3 : Int32) (μ : Mem) (hP : P_X9_drift p1 p2 p3 μ) : OkK G mX9_drift 3 [.ref (ga G 0), .int p1, .int p2, .int p3] μ (K_X9_drift p1 p2 p3 μ) (some (.int (F_X9_drift p1 p2 p3 μ))) (M_X9_drift p1 p2 p3 μ) := by
  refine okK_of hG rfl (by decide) (Nat.le_of_ble_eq_true rfl) ?_
  unfold P_X9_drift at hP
  refine r_aload_n dX9_drift_0 0 rfl ?_
  refine r_iload_n dX9_drift_1 1 rfl ?_
  refine r_cvK (T := 1) (t := 2) (muX9_drift_1 p1 p2 p3 μ) (ok_X9_needHouse hG p1 μ) lX9_190 (hG.lt (by decide)) sh0 ⟨_, _, rfl⟩ dX9_drift_2 (by decide) (by decide) rfl (Nat.le_of_ble_eq_true rfl) rfl (fun c1 => ?_) (fun c1 => ?_)
  · refine kthrow ?_ ?_
    · unfold K_X9_drift; rw [if_neg c1]
    · unfold M_X9_drift; rw [if_neg c1]
  · replace hP := hP c1
    refine r_aload_n dX9_drift_5 0 rfl ?_
    refine r_iload_n dX9_drift_6 2 rfl ?_
    refine r_iconst 1 dX9_drift_7 rfl ?_
    refine r_bipush 20 dX9_drift_8 rfl ?_
    refine r_cvK (T := 1) (t := 1) (muX9_drift_2 p1 p2 p3 μ) (ok_X9_needRange hG p2 1 20 (muX9_drift_1 p1 p2 p3 μ)) lX9_160 (hG.lt (by decide)) sh0 ⟨_, _, rfl⟩ dX9_drift_10 (by decide) (by decide) rfl (Nat.le_of_ble_eq_true rfl) rfl (fun c2 => ?_) (fun c2 => ?_)
    · refine kthrow ?_ ?_
      · unfold K_X9_drift; rw [if_pos c1, if_neg c2]
      · unfold M_X9_drift; rw [if_pos c1, if_neg c2]
    · replace hP := hP c2
      refine r_aload_n dX9_drift_13 0 rfl ?_
      refine r_iload_n dX9_drift_14 3 rfl ?_
      refine r_iconst 0 dX9_drift_15 rfl ?_
      refine r_bipush 24 dX9_drift_16 rfl ?_
      refine r_cvK (T := 1) (t := 0) (muX9_drift_3 p1 p2 p3 μ) (ok_X9_needRange hG p3 0 24 (muX9_drift_2 p1 p2 p3 μ)) lX9_160 (hG.lt (by decide)) sh0 ⟨_, _, rfl⟩ dX9_drift_18 (by decide) (by decide) rfl (Nat.le_of_ble_eq_true rfl) rfl (fun c3 => ?_) (fun c3 => ?_)
      · refine kthrow ?_ ?_
        · unfold K_X9_drift; rw [if_pos c1, if_pos c2]
        · unfold M_X9_drift; rw [if_pos c1, if_pos c2]
      · replace hP := hP c3
        refine r_aload_n dX9_drift_21 0 rfl ?_
        refine r_getR 51 fX9_72 (hG.lt (by decide)) sh0 fs0_10 dX9_drift_22 ?_
        refine r_iload_n dX9_drift_25 1 rfl ?_
        refine r_iload_n dX9_drift_26 2 rfl ?_
        refine r_iload_n dX9_drift_27 3 rfl ?_
        have hs1 := hP
        refine r_cvI (ok_X0_driftFrom hG p1 p2 p3 (muX9_drift_3 p1 p2 p3 μ) hs1) lX9_275 (hG.lt (by decide)) sh51 ⟨_, _, rfl⟩ dX9_drift_28 (by decide) (Nat.le_of_ble_eq_true rfl) rfl (Nat.le_of_ble_eq_true rfl) ?_
        exact r_ireturn _ dX9_drift_31 rfl rfl ⟨by unfold K_X9_drift; rw [if_pos c1, if_pos c2]; exact c3, congrArg (fun z => some (Value.int z)) (rfl), by unfold M_X9_drift; rw [if_pos c1, if_pos c2]⟩
set_option maxRecDepth 20000 in
set_option maxHeartbeats 2000000 in
theorem ok_X9_whence {G : SG} (hG : GK 57 G) (p1 : Int32) (p2 : Int32) (p3 : Int32) (μ : Mem) (hP : P_X9_whence p1 p2 p3 μ) : OkK G mX9_whence 3 [.ref (ga G 0), .int p1, .int p2, .int p3] μ (K_X9_whence p1 p2 p3 μ) (some (.int (F_X9_whence p1 p2 p3 μ))) (M_X9_whence p1 p2 p3 μ) := by
  refine okK_of hG rfl (by decide) (Nat.le_of_ble_eq_true rfl) ?_
  unfold P_X9_whence at hP
  refine r_aload_n dX9_whence_0 0 rfl ?_
  refine r_iload_n dX9_whence_1 1 rfl ?_
  refine r_cvK (T := 1) (t := 2) (muX9_whence_1 p1 p2 p3 μ) (ok_X9_needHouse hG p1 μ) lX9_190 (hG.lt (by decide)) sh0 ⟨_, _, rfl⟩ dX9_whence_2 (by decide) (by decide) rfl (Nat.le_of_ble_eq_true rfl) rfl (fun c1 => ?_) (fun c1 => ?_)
  · refine kthrow ?_ ?_
    · unfold K_X9_whence; rw [if_neg c1]
    · unfold M_X9_whence; rw [if_neg c1]
  · replace hP := hP c1
    refine r_aload_n dX9_whence_5 0 rfl ?_
    refine r_iload_n dX9_whence_6 2 rfl ?_
    refine r_iconst 0 dX9_whence_7 rfl ?_
    refine r_bipush 24 dX9_whence_8 rfl ?_
    refine r_cvK (T := 1) (t := 1) (muX9_whence_2 p1 p2 p3 μ) (ok_X9_needRange hG p2 0 24 (muX9_whence_1 p1 p2 p3 μ)) lX9_160 (hG.lt (by decide)) sh0 ⟨_, _, rfl⟩ dX9_whence_10 (by decide) (by decide) rfl (Nat.le_of_ble_eq_true rfl) rfl (fun c2 => ?_) (fun c2 => ?_)
    · refine kthrow ?_ ?_
      · unfold K_X9_whence; rw [if_pos c1, if_neg c2]
      · unfold M_X9_whence; rw [if_pos c1, if_neg c2]
    · replace hP := hP c2
      refine r_aload_n dX9_whence_13 0 rfl ?_
      refine r_iload_n dX9_whence_14 3 rfl ?_
      refine r_iconst 0 dX9_whence_15 rfl ?_
      refine r_iconst 2 dX9_whence_16 rfl ?_
      refine r_cvK (T := 1) (t := 0) (muX9_whence_3 p1 p2 p3 μ) (ok_X9_needRange hG p3 0 2 (muX9_whence_2 p1 p2 p3 μ)) lX9_160 (hG.lt (by decide)) sh0 ⟨_, _, rfl⟩ dX9_whence_17 (by decide) (by decide) rfl (Nat.le_of_ble_eq_true rfl) rfl (fun c3 => ?_) (fun c3 => ?_)
      · refine kthrow ?_ ?_
        · unfold K_X9_whence; rw [if_pos c1, if_pos c2]
        · unfold M_X9_whence; rw [if_pos c1, if_pos c2]
      · replace hP := hP c3
        refine r_aload_n dX9_whence_20 0 rfl ?_
        refine r_getR 51 fX9_72 (hG.lt (by decide)) sh0 fs0_10 dX9_whence_21 ?_
        refine r_iload_n dX9_whence_24 1 rfl ?_
        refine r_iload_n dX9_whence_25 2 rfl ?_
        refine r_iload_n dX9_whence_26 3 rfl ?_
        have hs1 := hP
        refine r_cvI (ok_X0_driftsTo hG p1 p2 p3 (muX9_whence_3 p1 p2 p3 μ) hs1) lX9_278 (hG.lt (by decide)) sh51 ⟨_, _, rfl⟩ dX9_whence_27 (by decide) (Nat.le_of_ble_eq_true rfl) rfl (Nat.le_of_ble_eq_true rfl) ?_
        exact r_ireturn _ dX9_whence_30 rfl rfl ⟨by unfold K_X9_whence; rw [if_pos c1, if_pos c2]; exact c3, congrArg (fun z => some (Value.int z)) (rfl), by unfold M_X9_whence; rw [if_pos c1, if_pos c2]⟩
set_option maxRecDepth 20000 in
set_option maxHeartbeats 2000000 in
theorem ok_X9_gain {G : SG} (hG : GK 57 G) (p1 : Int32) (p2 : Int32) (p3 : Int32) (μ : Mem) (hP : P_X9_gain p1 p2 p3 μ) : OkK G mX9_gain 3 [.ref (ga G 0), .int p1, .int p2, .int p3] μ (K_X9_gain p1 p2 p3 μ) (some (.int (F_X9_gain p1 p2 p3 μ))) (M_X9_gain p1 p2 p3 μ) := by
  refine okK_of hG rfl (by decide) (Nat.le_of_ble_eq_true rfl) ?_
  unfold P_X9_gain at hP
  refine r_aload_n dX9_gain_0 0 rfl ?_
  refine r_iload_n dX9_gain_1 1 rfl ?_
  refine r_cvK (T := 1) (t := 2) (muX9_gain_1 p1 p2 p3 μ) (ok_X9_needHouse hG p1 μ) lX9_190 (hG.lt (by decide)) sh0 ⟨_, _, rfl⟩ dX9_gain_2 (by decide) (by decide) rfl (Nat.le_of_ble_eq_true rfl) rfl (fun c1 => ?_) (fun c1 => ?_)
  · refine kthrow ?_ ?_
    · unfold K_X9_gain; rw [if_neg c1]
    · unfold M_X9_gain; rw [if_neg c1]
  · replace hP := hP c1
    refine r_aload_n dX9_gain_5 0 rfl ?_
    refine r_iload_n dX9_gain_6 2 rfl ?_
    refine r_iconst 0 dX9_gain_7 rfl ?_
    refine r_bipush 60 dX9_gain_8 rfl ?_
    refine r_cvK (T := 1) (t := 1) (muX9_gain_2 p1 p2 p3 μ) (ok_X9_needRange hG p2 0 60 (muX9_gain_1 p1 p2 p3 μ)) lX9_160 (hG.lt (by decide)) sh0 ⟨_, _, rfl⟩ dX9_gain_10 (by decide) (by decide) rfl (Nat.le_of_ble_eq_true rfl) rfl (fun c2 => ?_) (fun c2 => ?_)
    · refine kthrow ?_ ?_
      · unfold K_X9_gain; rw [if_pos c1, if_neg c2]
      · unfold M_X9_gain; rw [if_pos c1, if_neg c2]
    · replace hP := hP c2
      refine r_aload_n dX9_gain_13 0 rfl ?_
      refine r_iload_n dX9_gain_14 3 rfl ?_
      refine r_iconst 0 dX9_gain_15 rfl ?_
      refine r_iconst 1 dX9_gain_16 rfl ?_
      refine r_cvK (T := 1) (t := 0) (muX9_gain_3 p1 p2 p3 μ) (ok_X9_needRange hG p3 0 1 (muX9_gain_2 p1 p2 p3 μ)) lX9_160 (hG.lt (by decide)) sh0 ⟨_, _, rfl⟩ dX9_gain_17 (by decide) (by decide) rfl (Nat.le_of_ble_eq_true rfl) rfl (fun c3 => ?_) (fun c3 => ?_)
      · refine kthrow ?_ ?_
        · unfold K_X9_gain; rw [if_pos c1, if_pos c2]
        · unfold M_X9_gain; rw [if_pos c1, if_pos c2]
      · replace hP := hP c3
        refine r_aload_n dX9_gain_20 0 rfl ?_
        refine r_getR 51 fX9_72 (hG.lt (by decide)) sh0 fs0_10 dX9_gain_21 ?_
        refine r_iload_n dX9_gain_24 1 rfl ?_
        refine r_iload_n dX9_gain_25 2 rfl ?_
        refine r_iload_n dX9_gain_26 3 rfl ?_
        have hs1 := hP
        refine r_cvI (ok_X0_meanFound hG p1 p2 p3 (muX9_gain_3 p1 p2 p3 μ) hs1) lX9_281 (hG.lt (by decide)) sh51 ⟨_, _, rfl⟩ dX9_gain_27 (by decide) (Nat.le_of_ble_eq_true rfl) rfl (Nat.le_of_ble_eq_true rfl) ?_
        exact r_ireturn _ dX9_gain_30 rfl rfl ⟨by unfold K_X9_gain; rw [if_pos c1, if_pos c2]; exact c3, congrArg (fun z => some (Value.int z)) (rfl), by unfold M_X9_gain; rw [if_pos c1, if_pos c2]⟩
set_option maxRecDepth 20000 in
set_option maxHeartbeats 2000000 in
theorem ok_X9_share {G : SG} (hG : GK 57 G) (p1 : Int32) (p2 : Int32) (p3 : Int32) (μ : Mem) (hP : P_X9_share p1 p2 p3 μ) : OkK G mX9_share 3 [.ref (ga G 0), .int p1, .int p2, .int p3] μ (K_X9_share p1 p2 p3 μ) (some (.int (F_X9_share p1 p2 p3 μ))) (M_X9_share p1 p2 p3 μ) := by
  refine okK_of hG rfl (by decide) (Nat.le_of_ble_eq_true rfl) ?_
  unfold P_X9_share at hP
  refine r_aload_n dX9_share_0 0 rfl ?_
  refine r_iload_n dX9_share_1 1 rfl ?_
  refine r_cvK (T := 1) (t := 2) (muX9_share_1 p1 p2 p3 μ) (ok_X9_needHouse hG p1 μ) lX9_190 (hG.lt (by decide)) sh0 ⟨_, _, rfl⟩ dX9_share_2 (by decide) (by decide) rfl (Nat.le_of_ble_eq_true rfl) rfl (fun c1 => ?_) (fun c1 => ?_)
  · refine kthrow ?_ ?_
    · unfold K_X9_share; rw [if_neg c1]
    · unfold M_X9_share; rw [if_neg c1]
  · replace hP := hP c1
    refine r_aload_n dX9_share_5 0 rfl ?_
    refine r_iload_n dX9_share_6 2 rfl ?_
    refine r_cvK (T := 1) (t := 1) (muX9_share_2 p1 p2 p3 μ) (ok_X9_needHouses hG p2 (muX9_share_1 p1 p2 p3 μ)) lX9_250 (hG.lt (by decide)) sh0 ⟨_, _, rfl⟩ dX9_share_7 (by decide) (by decide) rfl (Nat.le_of_ble_eq_true rfl) rfl (fun c2 => ?_) (fun c2 => ?_)
    · refine kthrow ?_ ?_
      · unfold K_X9_share; rw [if_pos c1, if_neg c2]
      · unfold M_X9_share; rw [if_pos c1, if_neg c2]
    · replace hP := hP c2
      refine r_aload_n dX9_share_10 0 rfl ?_
      refine r_iload_n dX9_share_11 3 rfl ?_
      refine r_iconst 0 dX9_share_12 rfl ?_
      refine r_sipush 999 dX9_share_13 rfl ?_
      refine r_cvK (T := 1) (t := 0) (muX9_share_3 p1 p2 p3 μ) (ok_X9_needRange hG p3 0 999 (muX9_share_2 p1 p2 p3 μ)) lX9_160 (hG.lt (by decide)) sh0 ⟨_, _, rfl⟩ dX9_share_16 (by decide) (by decide) rfl (Nat.le_of_ble_eq_true rfl) rfl (fun c3 => ?_) (fun c3 => ?_)
      · refine kthrow ?_ ?_
        · unfold K_X9_share; rw [if_pos c1, if_pos c2]
        · unfold M_X9_share; rw [if_pos c1, if_pos c2]
      · replace hP := hP c3
        refine r_iload_n dX9_share_19 2 rfl ?_
        refine r_iload_n dX9_share_20 1 rfl ?_
        refine r_ishr dX9_share_21 rfl ?_
        refine r_iconst 1 dX9_share_22 rfl ?_
        refine r_iand dX9_share_23 ?_
        refine r_if_ne 29 dX9_share_24 (by decide) (fun c4 => ?_) (fun c4 => ?_)
        · replace hP := hP.1 c4
          refine r_aload_n dX9_share_29 0 rfl ?_
          refine r_getR 43 fX9_56 (hG.lt (by decide)) sh0 fs0_8 dX9_share_30 ?_
          refine r_bipush 62 dX9_share_33 rfl ?_
          refine r_iload_n dX9_share_35 1 rfl ?_
          refine r_cvI (ok_X5_of hG (IsSt.of43) 62 p1 (muX9_share_3 p1 p2 p3 μ)) lX9_193 (hG.lt (by decide)) sh43 ⟨_, _, rfl⟩ dX9_share_36 (by decide) (Nat.le_of_ble_eq_true rfl) rfl (Nat.le_of_ble_eq_true rfl) ?_
          refine r_aload_n dX9_share_39 0 rfl ?_
          refine r_getR 43 fX9_56 (hG.lt (by decide)) sh0 fs0_8 dX9_share_40 ?_
          refine r_aload_n dX9_share_43 0 rfl ?_
          refine r_getR 3 fX9_19 (hG.lt (by decide)) sh0 fs0_1 dX9_share_44 ?_
          refine r_iload_n dX9_share_47 2 rfl ?_
          refine r_iload_n dX9_share_48 3 rfl ?_
          have hs1 := hP
          refine r_cvI (ok_X5_greatestBound hG (IsSt.of43) p2 p3 (muX9_share_3 p1 p2 p3 μ) hs1) lX9_284 (hG.lt (by decide)) sh43 ⟨_, _, rfl⟩ dX9_share_49 (by decide) (Nat.le_of_ble_eq_true rfl) rfl (Nat.le_of_ble_eq_true rfl) ?_
          refine r_mmin lX9_288 (Nat.le_of_ble_eq_true rfl) dX9_share_52 ?_
          exact r_ireturn _ dX9_share_55 rfl rfl ⟨by unfold K_X9_share; rw [if_pos c1, if_pos c2]; exact c3, congrArg (fun z => some (Value.int z)) (by unfold F_X9_share; rw [if_pos c4]), by unfold M_X9_share; rw [if_pos c1, if_pos c2]⟩
        · replace hP := hP.2 c4
          refine r_iconst 0 dX9_share_27 rfl ?_
          exact r_ireturn _ dX9_share_28 rfl rfl ⟨by unfold K_X9_share; rw [if_pos c1, if_pos c2]; exact c3, congrArg (fun z => some (Value.int z)) (by unfold F_X9_share; rw [if_neg (not_not_intro c4)]), by unfold M_X9_share; rw [if_pos c1, if_pos c2]⟩
set_option maxRecDepth 20000 in
set_option maxHeartbeats 2000000 in
theorem ok_X9_soaked {G : SG} (hG : GK 57 G) (p1 : Int32) (p2 : Int32) (μ : Mem) (hP : P_X9_soaked p1 p2 μ) : OkK G mX9_soaked 2 [.ref (ga G 0), .int p1, .int p2] μ (K_X9_soaked p1 p2 μ) (some (.int (F_X9_soaked p1 p2 μ))) (M_X9_soaked p1 p2 μ) := by
  refine okK_of hG rfl (by decide) (Nat.le_of_ble_eq_true rfl) ?_
  unfold P_X9_soaked at hP
  refine r_aload_n dX9_soaked_0 0 rfl ?_
  refine r_iload_n dX9_soaked_1 1 rfl ?_
  refine r_aload_n dX9_soaked_2 0 rfl ?_
  refine r_getR 3 fX9_19 (hG.lt (by decide)) sh0 fs0_1 dX9_soaked_3 ?_
  refine r_getI fX9_110 (hG.lt (by decide)) sh3 fs3_9 dX9_soaked_6 ?_
  refine r_cvK (T := 1) (t := 1) (muX9_soaked_1 p1 p2 μ) (ok_X9_needElement hG p1 (μ 3 9) μ) lX9_204 (hG.lt (by decide)) sh0 ⟨_, _, rfl⟩ dX9_soaked_9 (by decide) (by decide) rfl (Nat.le_of_ble_eq_true rfl) rfl (fun c1 => ?_) (fun c1 => ?_)
  · refine kthrow ?_ ?_
    · unfold K_X9_soaked; rw [if_neg c1]
    · unfold M_X9_soaked; rw [if_neg c1]
  · replace hP := hP c1
    refine r_aload_n dX9_soaked_12 0 rfl ?_
    refine r_iload_n dX9_soaked_13 2 rfl ?_
    refine r_iconst 0 dX9_soaked_14 rfl ?_
    refine r_bipush 60 dX9_soaked_15 rfl ?_
    refine r_cvK (T := 1) (t := 0) (muX9_soaked_2 p1 p2 μ) (ok_X9_needRange hG p2 0 60 (muX9_soaked_1 p1 p2 μ)) lX9_160 (hG.lt (by decide)) sh0 ⟨_, _, rfl⟩ dX9_soaked_17 (by decide) (by decide) rfl (Nat.le_of_ble_eq_true rfl) rfl (fun c2 => ?_) (fun c2 => ?_)
    · refine kthrow ?_ ?_
      · unfold K_X9_soaked; rw [if_pos c1]
      · unfold M_X9_soaked; rw [if_pos c1, if_neg c2]
    · replace hP := hP c2
      refine r_aload_n dX9_soaked_20 0 rfl ?_
      refine r_getR 51 fX9_72 (hG.lt (by decide)) sh0 fs0_10 dX9_soaked_21 ?_
      refine r_iload_n dX9_soaked_24 1 rfl ?_
      refine r_iload_n dX9_soaked_25 2 rfl ?_
      have hs1 := hP
      refine r_cvI (ok_X0_timesWet hG p1 p2 (muX9_soaked_2 p1 p2 μ) hs1) lX9_293 (hG.lt (by decide)) sh51 ⟨_, _, rfl⟩ dX9_soaked_26 (by decide) (Nat.le_of_ble_eq_true rfl) rfl (Nat.le_of_ble_eq_true rfl) ?_
      refine r_mu (muX9_soaked_3 p1 p2 μ) rfl ?_
      exact r_ireturn _ dX9_soaked_29 rfl rfl ⟨by unfold K_X9_soaked; rw [if_pos c1]; exact c2, congrArg (fun z => some (Value.int z)) (rfl), by unfold M_X9_soaked; rw [if_pos c1, if_pos c2]⟩
set_option maxRecDepth 20000 in
set_option maxHeartbeats 2000000 in
theorem ok_X9_snaps {G : SG} (hG : GK 57 G) (p1 : Int32) (μ : Mem) (hP : P_X9_snaps p1 μ) : OkK G mX9_snaps 1 [.ref (ga G 0), .int p1] μ (K_X9_snaps p1 μ) (some (.int (F_X9_snaps p1 μ))) (M_X9_snaps p1 μ) := by
  refine okK_of hG rfl (by decide) (Nat.le_of_ble_eq_true rfl) ?_
  unfold P_X9_snaps at hP
  refine r_aload_n dX9_snaps_0 0 rfl ?_
  refine r_iload_n dX9_snaps_1 1 rfl ?_
  refine r_aload_n dX9_snaps_2 0 rfl ?_
  refine r_getR 3 fX9_19 (hG.lt (by decide)) sh0 fs0_1 dX9_snaps_3 ?_
  refine r_getI fX9_110 (hG.lt (by decide)) sh3 fs3_9 dX9_snaps_6 ?_
  refine r_cvK (T := 1) (t := 0) (muX9_snaps_1 p1 μ) (ok_X9_needElement hG p1 (μ 3 9) μ) lX9_204 (hG.lt (by decide)) sh0 ⟨_, _, rfl⟩ dX9_snaps_9 (by decide) (by decide) rfl (Nat.le_of_ble_eq_true rfl) rfl (fun c1 => ?_) (fun c1 => ?_)
  · refine kthrow ?_ ?_
    · rfl
    · unfold M_X9_snaps; rw [if_neg c1]
  · replace hP := hP c1
    refine r_aload_n dX9_snaps_12 0 rfl ?_
    refine r_getR 51 fX9_72 (hG.lt (by decide)) sh0 fs0_10 dX9_snaps_13 ?_
    refine r_iload_n dX9_snaps_16 1 rfl ?_
    have hs1 := hP
    refine r_cvI (ok_X0_breakOf hG p1 (muX9_snaps_1 p1 μ) hs1) lX9_296 (hG.lt (by decide)) sh51 ⟨_, _, rfl⟩ dX9_snaps_17 (by decide) (Nat.le_of_ble_eq_true rfl) rfl (Nat.le_of_ble_eq_true rfl) ?_
    refine r_mu (muX9_snaps_2 p1 μ) rfl ?_
    exact r_ireturn _ dX9_snaps_20 rfl rfl ⟨by unfold K_X9_snaps; exact c1, congrArg (fun z => some (Value.int z)) (rfl), by unfold M_X9_snaps; rw [if_pos c1]⟩
set_option maxRecDepth 20000 in
set_option maxHeartbeats 2000000 in
theorem lp_X9_fullest_14 {G : SG} (hG : GK 57 G)  (v1 : Int32) (μ : Mem) (s0 : Int32 × Int32) (N : Nat) (sN : Int32 × Int32) (eN : sN = fo N (g_X9_fullest_14 v1 μ) s0) (hN : ∀ i, i < N → Pb_X9_fullest_14 v1 μ i (fo i (g_X9_fullest_14 v1 μ) s0)) {t : Nat} {Q : PQ} {X : PX} (h : R G mX9_fullest 14 [(0, .ref (ga G 0)), (1, .int v1), (2, .int (sN).1), (3, .int (sN).2), (4, .int (nI N))] [] μ t Q X) : R G mX9_fullest 14 [(0, .ref (ga G 0)), (1, .int v1), (2, .int (s0).1), (3, .int (s0).2), (4, .int 0)] [] μ t Q X := by
  subst eN
  refine down_i N (fun i => R G mX9_fullest 14 [(0, .ref (ga G 0)), (1, .int v1), (2, .int ((fo i (g_X9_fullest_14 v1 μ) s0)).1), (3, .int ((fo i (g_X9_fullest_14 v1 μ) s0)).2), (4, .int (nI i))] [] μ t Q X) h (fun i hi hS => ?_)
  have hP := hN i hi
  rw [fo_succ] at hS
  rw [nI_succ] at hS
  generalize fo i (g_X9_fullest_14 v1 μ) s0 = s at hS hP ⊢
  unfold Pb_X9_fullest_14 at hP
  refine r_iload dX9_fullest_14 4 rfl ?_
  refine r_aload_n dX9_fullest_16 0 rfl ?_
  refine r_getR 3 fX9_19 (hG.lt (by decide)) sh0 fs0_1 dX9_fullest_17 ?_
  refine r_getI fX9_138 (hG.lt (by decide)) sh3 fs3_8 dX9_fullest_20 ?_
  refine r_icmp_ge 62 dX9_fullest_23 (by decide) (fun c1 => ?_) (fun c1 => ?_)
  · replace hP := hP.1 c1
    exact hP.elim
  · replace hP := hP.2 c1
    refine r_aload_n dX9_fullest_26 0 rfl ?_
    refine r_getR 43 fX9_56 (hG.lt (by decide)) sh0 fs0_8 dX9_fullest_27 ?_
    refine r_aload_n dX9_fullest_30 0 rfl ?_
    refine r_getR 3 fX9_19 (hG.lt (by decide)) sh0 fs0_1 dX9_fullest_31 ?_
    refine r_iload dX9_fullest_34 4 rfl ?_
    have hs1 := hP
    refine r_cvI (ok_X5_thingsIn hG (IsSt.of43) (nI i) μ hs1) lX9_200 (hG.lt (by decide)) sh43 ⟨_, _, rfl⟩ dX9_fullest_36 (by decide) (Nat.le_of_ble_eq_true rfl) rfl (Nat.le_of_ble_eq_true rfl) ?_
    refine r_csI (ok_J6_bitCount_0f7a4 hG (F_X5_thingsIn 43 (nI i) μ) μ) lX9_299 dX9_fullest_39 (by decide) (Nat.le_of_ble_eq_true rfl) rfl (Nat.le_of_ble_eq_true rfl) ?_
    refine r_istore [(5, _), (0, _), (1, _), (2, _), (3, _), (4, _)] dX9_fullest_42 (Nat.le_of_ble_eq_true rfl) rfl ?_
    refine r_iload dX9_fullest_44 0 rfl ?_
    refine r_iload_n dX9_fullest_46 4 rfl ?_
    refine r_join 56 [(5, .int (F_J6_bitCount_0f7a4 (F_X5_thingsIn 43 (nI i) μ) μ)), (0, .ref (ga G 0)), (1, .int v1), (2, .int (VX9_fullest_14_1 v1 μ i s)), (3, .int (VX9_fullest_14_2 v1 μ i s)), (4, .int (nI i))] [] μ ?_ (fun hJ => ?_)
    · refine r_iinc ((nI i) + 1) [(4, _), (5, _), (0, _), (1, _), (2, _), (3, _)] dX9_fullest_56 5 rfl rfl (Nat.le_of_ble_eq_true rfl) rfl ?_
      refine r_goto 14 dX9_fullest_59 (by decide) ?_
      have e : g_X9_fullest_14 v1 μ i s = ((VX9_fullest_14_1 v1 μ i s), (VX9_fullest_14_2 v1 μ i s)) := by unfold g_X9_fullest_14; rfl
      rw [e] at hS
      dsimp only at hS
      exact r_sub [2, 3, 4, 5, 0] rfl hS
    · refine r_icmp_le 56 dX9_fullest_47 (by decide) (fun c2 => ?_) (fun c2 => ?_)
      · have e : (VX9_fullest_14_1 v1 μ i s) = s.1 := by unfold VX9_fullest_14_1; rw [if_pos c2]
        rw [e] at hJ
        clear e
        have e : (VX9_fullest_14_2 v1 μ i s) = s.2 := by unfold VX9_fullest_14_2; rw [if_pos c2]
        rw [e] at hJ
        exact r_sub [0, 1, 2, 3, 4, 5] rfl hJ
      · refine r_iload dX9_fullest_50 5 rfl ?_
        refine r_istore_n [(2, _), (5, _), (0, _), (1, _), (3, _), (4, _)] dX9_fullest_52 (Nat.le_of_ble_eq_true rfl) rfl ?_
        refine r_iload dX9_fullest_53 1 rfl ?_
        refine r_istore_n [(3, _), (2, _), (5, _), (0, _), (1, _), (4, _)] dX9_fullest_55 (Nat.le_of_ble_eq_true rfl) rfl ?_
        have e : (VX9_fullest_14_1 v1 μ i s) = (nI i) := by unfold VX9_fullest_14_1; rw [if_neg (i32_ng c2)]
        rw [e] at hJ
        clear e
        have e : (VX9_fullest_14_2 v1 μ i s) = (F_J6_bitCount_0f7a4 (F_X5_thingsIn 43 (nI i) μ) μ) := by unfold VX9_fullest_14_2; rw [if_neg (i32_ng c2)]
        rw [e] at hJ
        exact r_sub [2, 3, 4, 1, 0, 5] rfl hJ
set_option maxRecDepth 20000 in
set_option maxHeartbeats 2000000 in
theorem ok_X9_fullest {G : SG} (hG : GK 57 G) (p1 : Int32) (μ : Mem) (hP : P_X9_fullest p1 μ) : OkK G mX9_fullest 1 [.ref (ga G 0), .int p1] μ (K_X9_fullest p1 μ) (some (.int (F_X9_fullest p1 μ))) (M_X9_fullest p1 μ) := by
  refine okK_of hG rfl (by decide) (Nat.le_of_ble_eq_true rfl) ?_
  unfold P_X9_fullest at hP
  refine r_aload_n dX9_fullest_0 0 rfl ?_
  refine r_iload_n dX9_fullest_1 1 rfl ?_
  refine r_iconst 0 dX9_fullest_2 rfl ?_
  refine r_iconst 1 dX9_fullest_3 rfl ?_
  refine r_cvK (T := 1) (t := 0) (muX9_fullest_1 p1 μ) (ok_X9_needRange hG p1 0 1 μ) lX9_160 (hG.lt (by decide)) sh0 ⟨_, _, rfl⟩ dX9_fullest_4 (by decide) (by decide) rfl (Nat.le_of_ble_eq_true rfl) rfl (fun c1 => ?_) (fun c1 => ?_)
  · refine kthrow ?_ ?_
    · rfl
    · rfl
  · replace hP := hP c1
    refine r_iconst (-1) dX9_fullest_7 rfl ?_
    refine r_istore_n [(2, _), (0, _), (1, _)] dX9_fullest_8 (Nat.le_of_ble_eq_true rfl) rfl ?_
    refine r_iconst 0 dX9_fullest_9 rfl ?_
    refine r_istore_n [(3, _), (2, _), (0, _), (1, _)] dX9_fullest_10 (Nat.le_of_ble_eq_true rfl) rfl ?_
    refine r_iconst 0 dX9_fullest_11 rfl ?_
    refine r_istore [(4, _), (3, _), (2, _), (0, _), (1, _)] dX9_fullest_12 (Nat.le_of_ble_eq_true rfl) rfl ?_
    have hs1 := hP.1
    replace hP := hP.2
    refine r_sub [3, 4, 2, 1, 0] rfl ?_
    refine lp_X9_fullest_14 hG p1 (muX9_fullest_1 p1 μ) ((-1), 0) ((NX9_fullest_14 p1 μ)) (SX9_fullest_14 p1 μ) rfl hs1 ?_
    refine r_iload dX9_fullest_14 4 rfl ?_
    refine r_aload_n dX9_fullest_16 0 rfl ?_
    refine r_getR 3 fX9_19 (hG.lt (by decide)) sh0 fs0_1 dX9_fullest_17 ?_
    refine r_getI fX9_138 (hG.lt (by decide)) sh3 fs3_8 dX9_fullest_20 ?_
    refine r_icmp_ge 62 dX9_fullest_23 (by decide) (fun c2 => ?_) (fun c2 => ?_)
    · replace hP := hP.1 c2
      refine r_iload_n dX9_fullest_62 1 rfl ?_
      refine r_if_eq 71 dX9_fullest_63 (by decide) (fun c3 => ?_) (fun c3 => ?_)
      · refine r_iload_n dX9_fullest_71 2 rfl ?_
        refine r_goto 76 dX9_fullest_72 (by decide) ?_
        exact r_ireturn _ dX9_fullest_76 rfl rfl ⟨by unfold K_X9_fullest; exact c1, congrArg (fun z => some (Value.int z)) (by unfold F_X9_fullest; rw [if_pos c3]), rfl⟩
      · refine r_iload_n dX9_fullest_66 2 rfl ?_
        refine r_iconst (-1) dX9_fullest_67 rfl ?_
        refine r_icmp_ne 75 dX9_fullest_68 (by decide) (fun c4 => ?_) (fun c4 => ?_)
        · refine r_iload_n dX9_fullest_75 3 rfl ?_
          exact r_ireturn _ dX9_fullest_76 rfl rfl ⟨by unfold K_X9_fullest; exact c1, congrArg (fun z => some (Value.int z)) (by unfold F_X9_fullest; rw [if_neg c3, if_pos c4]), rfl⟩
        · refine r_iload_n dX9_fullest_71 2 rfl ?_
          refine r_goto 76 dX9_fullest_72 (by decide) ?_
          exact r_ireturn _ dX9_fullest_76 rfl rfl ⟨by unfold K_X9_fullest; exact c1, congrArg (fun z => some (Value.int z)) (by unfold F_X9_fullest; rw [if_neg c3, if_neg (not_not_intro c4)]), rfl⟩
    · replace hP := hP.2 c2
      refine r_aload_n dX9_fullest_26 0 rfl ?_
      refine r_getR 43 fX9_56 (hG.lt (by decide)) sh0 fs0_8 dX9_fullest_27 ?_
      refine r_aload_n dX9_fullest_30 0 rfl ?_
      refine r_getR 3 fX9_19 (hG.lt (by decide)) sh0 fs0_1 dX9_fullest_31 ?_
      refine r_iload dX9_fullest_34 4 rfl ?_
      have hs3 := hP.1
      replace hP := hP.2
      refine r_cvI (ok_X5_thingsIn hG (IsSt.of43) (nI (NX9_fullest_14 p1 μ)) (muX9_fullest_1 p1 μ) hs3) lX9_200 (hG.lt (by decide)) sh43 ⟨_, _, rfl⟩ dX9_fullest_36 (by decide) (Nat.le_of_ble_eq_true rfl) rfl (Nat.le_of_ble_eq_true rfl) ?_
      refine r_csI (ok_J6_bitCount_0f7a4 hG (F_X5_thingsIn 43 (nI (NX9_fullest_14 p1 μ)) (muX9_fullest_1 p1 μ)) (muX9_fullest_1 p1 μ)) lX9_299 dX9_fullest_39 (by decide) (Nat.le_of_ble_eq_true rfl) rfl (Nat.le_of_ble_eq_true rfl) ?_
      refine r_istore [(5, _), (0, _), (1, _), (2, _), (3, _), (4, _)] dX9_fullest_42 (Nat.le_of_ble_eq_true rfl) rfl ?_
      refine r_iload dX9_fullest_44 0 rfl ?_
      refine r_iload_n dX9_fullest_46 4 rfl ?_
      refine r_join 56 [(5, .int (F_J6_bitCount_0f7a4 (F_X5_thingsIn 43 (nI (NX9_fullest_14 p1 μ)) (muX9_fullest_1 p1 μ)) (muX9_fullest_1 p1 μ))), (0, .ref (ga G 0)), (1, .int p1), (2, .int (VX9_fullest_2 p1 μ)), (3, .int (VX9_fullest_3 p1 μ)), (4, .int (nI (NX9_fullest_14 p1 μ)))] [] (muX9_fullest_1 p1 μ) ?_ (fun hJ => ?_)
      · refine r_iinc ((nI (NX9_fullest_14 p1 μ)) + 1) [(4, _), (5, _), (0, _), (1, _), (2, _), (3, _)] dX9_fullest_56 5 rfl rfl (Nat.le_of_ble_eq_true rfl) rfl ?_
        refine r_goto 14 dX9_fullest_59 (by decide) ?_
        exact hP.elim
      · refine r_icmp_le 56 dX9_fullest_47 (by decide) (fun c3 => ?_) (fun c3 => ?_)
        · have e : (VX9_fullest_2 p1 μ) = (SX9_fullest_14 p1 μ).1 := by unfold VX9_fullest_2; rw [if_pos c3]
          rw [e] at hJ
          clear e
          have e : (VX9_fullest_3 p1 μ) = (SX9_fullest_14 p1 μ).2 := by unfold VX9_fullest_3; rw [if_pos c3]
          rw [e] at hJ
          exact r_sub [0, 1, 2, 3, 4, 5] rfl hJ
        · refine r_iload dX9_fullest_50 5 rfl ?_
          refine r_istore_n [(2, _), (5, _), (0, _), (1, _), (3, _), (4, _)] dX9_fullest_52 (Nat.le_of_ble_eq_true rfl) rfl ?_
          refine r_iload dX9_fullest_53 1 rfl ?_
          refine r_istore_n [(3, _), (2, _), (5, _), (0, _), (1, _), (4, _)] dX9_fullest_55 (Nat.le_of_ble_eq_true rfl) rfl ?_
          have e : (VX9_fullest_2 p1 μ) = (nI (NX9_fullest_14 p1 μ)) := by unfold VX9_fullest_2; rw [if_neg (i32_ng c3)]
          rw [e] at hJ
          clear e
          have e : (VX9_fullest_3 p1 μ) = (F_J6_bitCount_0f7a4 (F_X5_thingsIn 43 (nI (NX9_fullest_14 p1 μ)) (muX9_fullest_1 p1 μ)) (muX9_fullest_1 p1 μ)) := by unfold VX9_fullest_3; rw [if_neg (i32_ng c3)]
          rw [e] at hJ
          exact r_sub [2, 3, 4, 1, 0, 5] rfl hJ
set_option maxRecDepth 20000 in
set_option maxHeartbeats 2000000 in
theorem ok_X9_pays {G : SG} (hG : GK 57 G) (p1 : Int32) (p2 : Int32) (μ : Mem) (hP : P_X9_pays p1 p2 μ) : OkK G mX9_pays 2 [.ref (ga G 0), .int p1, .int p2] μ (K_X9_pays p1 p2 μ) (some (.int (F_X9_pays p1 p2 μ))) (M_X9_pays p1 p2 μ) := by
  refine okK_of hG rfl (by decide) (Nat.le_of_ble_eq_true rfl) ?_
  unfold P_X9_pays at hP
  refine r_aload_n dX9_pays_0 0 rfl ?_
  refine r_iload_n dX9_pays_1 1 rfl ?_
  refine r_cvK (T := 1) (t := 1) (muX9_pays_1 p1 p2 μ) (ok_X9_needHouse hG p1 μ) lX9_190 (hG.lt (by decide)) sh0 ⟨_, _, rfl⟩ dX9_pays_2 (by decide) (by decide) rfl (Nat.le_of_ble_eq_true rfl) rfl (fun c1 => ?_) (fun c1 => ?_)
  · refine kthrow ?_ ?_
    · unfold K_X9_pays; rw [if_neg c1]
    · unfold M_X9_pays; rw [if_neg c1]
  · replace hP := hP c1
    refine r_aload_n dX9_pays_5 0 rfl ?_
    refine r_iload_n dX9_pays_6 2 rfl ?_
    refine r_iconst 0 dX9_pays_7 rfl ?_
    refine r_bipush 60 dX9_pays_8 rfl ?_
    refine r_cvK (T := 1) (t := 0) (muX9_pays_2 p1 p2 μ) (ok_X9_needRange hG p2 0 60 (muX9_pays_1 p1 p2 μ)) lX9_160 (hG.lt (by decide)) sh0 ⟨_, _, rfl⟩ dX9_pays_10 (by decide) (by decide) rfl (Nat.le_of_ble_eq_true rfl) rfl (fun c2 => ?_) (fun c2 => ?_)
    · refine kthrow ?_ ?_
      · unfold K_X9_pays; rw [if_pos c1]
      · unfold M_X9_pays; rw [if_pos c1, if_neg c2]
    · replace hP := hP c2
      refine r_aload_n dX9_pays_13 0 rfl ?_
      refine r_getR 51 fX9_72 (hG.lt (by decide)) sh0 fs0_10 dX9_pays_14 ?_
      refine r_iload_n dX9_pays_17 1 rfl ?_
      refine r_iload_n dX9_pays_18 2 rfl ?_
      have hs1 := hP
      refine r_cvI (ok_X0_paidAhead hG p1 p2 (muX9_pays_2 p1 p2 μ) hs1) lX9_224 (hG.lt (by decide)) sh51 ⟨_, _, rfl⟩ dX9_pays_19 (by decide) (Nat.le_of_ble_eq_true rfl) rfl (Nat.le_of_ble_eq_true rfl) ?_
      refine r_mu (muX9_pays_3 p1 p2 μ) rfl ?_
      exact r_ireturn _ dX9_pays_22 rfl rfl ⟨by unfold K_X9_pays; rw [if_pos c1]; exact c2, congrArg (fun z => some (Value.int z)) (rfl), by unfold M_X9_pays; rw [if_pos c1, if_pos c2]⟩
set_option maxRecDepth 20000 in
set_option maxHeartbeats 2000000 in
theorem ok_X9_neap {G : SG} (hG : GK 57 G) (p1 : Int32) (μ : Mem) (hP : P_X9_neap p1 μ) : OkK G mX9_neap 1 [.ref (ga G 0), .int p1] μ (K_X9_neap p1 μ) (some (.int (F_X9_neap p1 μ))) (M_X9_neap p1 μ) := by
  refine okK_of hG rfl (by decide) (Nat.le_of_ble_eq_true rfl) ?_
  unfold P_X9_neap at hP
  refine r_aload_n dX9_neap_0 0 rfl ?_
  refine r_iload_n dX9_neap_1 1 rfl ?_
  refine r_iconst 0 dX9_neap_2 rfl ?_
  refine r_iconst 1 dX9_neap_3 rfl ?_
  refine r_cvK (T := 1) (t := 0) (muX9_neap_1 p1 μ) (ok_X9_needRange hG p1 0 1 μ) lX9_160 (hG.lt (by decide)) sh0 ⟨_, _, rfl⟩ dX9_neap_4 (by decide) (by decide) rfl (Nat.le_of_ble_eq_true rfl) rfl (fun c1 => ?_) (fun c1 => ?_)
  · refine kthrow ?_ ?_
    · rfl
    · rfl
  · replace hP := hP c1
    refine r_aload_n dX9_neap_7 0 rfl ?_
    refine r_getR 51 fX9_72 (hG.lt (by decide)) sh0 fs0_10 dX9_neap_8 ?_
    refine r_iload_n dX9_neap_11 1 rfl ?_
    have hs1 := hP
    refine r_cvI (ok_X0_longestDry hG p1 (muX9_neap_1 p1 μ) hs1) lX9_304 (hG.lt (by decide)) sh51 ⟨_, _, rfl⟩ dX9_neap_12 (by decide) (Nat.le_of_ble_eq_true rfl) rfl (Nat.le_of_ble_eq_true rfl) ?_
    exact r_ireturn _ dX9_neap_15 rfl rfl ⟨by unfold K_X9_neap; exact c1, congrArg (fun z => some (Value.int z)) (rfl), rfl⟩
set_option maxRecDepth 20000 in
set_option maxHeartbeats 2000000 in
theorem lp_X9_loads_17 {G : SG} (hG : GK 57 G)  (v1 : Int32) (v2 : Int32) (μ : Mem) (s0 : Int32) (N : Nat) (sN : Int32) (eN : sN = fo N (g_X9_loads_17 v1 v2 μ) s0) (hN : ∀ i, i < N → Pb_X9_loads_17 v1 v2 μ i (fo i (g_X9_loads_17 v1 v2 μ) s0)) {t : Nat} {Q : PQ} {X : PX} (h : R G mX9_loads 17 [(0, .ref (ga G 0)), (1, .int v1), (2, .int v2), (3, .int sN), (4, .int (nI N))] [] μ t Q X) : R G mX9_loads 17 [(0, .ref (ga G 0)), (1, .int v1), (2, .int v2), (3, .int s0), (4, .int 0)] [] μ t Q X := by
  subst eN
  refine down_i N (fun i => R G mX9_loads 17 [(0, .ref (ga G 0)), (1, .int v1), (2, .int v2), (3, .int (fo i (g_X9_loads_17 v1 v2 μ) s0)), (4, .int (nI i))] [] μ t Q X) h (fun i hi hS => ?_)
  have hP := hN i hi
  rw [fo_succ] at hS
  rw [nI_succ] at hS
  generalize fo i (g_X9_loads_17 v1 v2 μ) s0 = s at hS hP ⊢
  unfold Pb_X9_loads_17 at hP
  refine r_iload dX9_loads_17 4 rfl ?_
  refine r_aload_n dX9_loads_19 0 rfl ?_
  refine r_getR 3 fX9_19 (hG.lt (by decide)) sh0 fs0_1 dX9_loads_20 ?_
  refine r_getI fX9_110 (hG.lt (by decide)) sh3 fs3_9 dX9_loads_23 ?_
  refine r_icmp_ge 79 dX9_loads_26 (by decide) (fun c1 => ?_) (fun c1 => ?_)
  · replace hP := hP.1 c1
    exact hP.elim
  · replace hP := hP.2 c1
    refine r_aload_n dX9_loads_29 0 rfl ?_
    refine r_getR 43 fX9_56 (hG.lt (by decide)) sh0 fs0_8 dX9_loads_30 ?_
    refine r_iconst 0 dX9_loads_33 rfl ?_
    refine r_iload dX9_loads_34 4 rfl ?_
    refine r_cvI (ok_X5_of hG (IsSt.of43) 0 (nI i) μ) lX9_193 (hG.lt (by decide)) sh43 ⟨_, _, rfl⟩ dX9_loads_36 (by decide) (Nat.le_of_ble_eq_true rfl) rfl (Nat.le_of_ble_eq_true rfl) ?_
    refine r_iload_n dX9_loads_39 1 rfl ?_
    refine r_join 73 [(0, .ref (ga G 0)), (1, .int v1), (2, .int v2), (3, .int (VX9_loads_17_1 v1 v2 μ i s)), (4, .int (nI i))] [] μ ?_ (fun hJ => ?_)
    · refine r_iinc ((nI i) + 1) [(4, _), (0, _), (1, _), (2, _), (3, _)] dX9_loads_73 4 rfl rfl (Nat.le_of_ble_eq_true rfl) rfl ?_
      refine r_goto 17 dX9_loads_76 (by decide) ?_
      have e : g_X9_loads_17 v1 v2 μ i s = (VX9_loads_17_1 v1 v2 μ i s) := by unfold g_X9_loads_17; rfl
      rw [e] at hS
      exact r_sub [1, 2, 3, 4, 0] rfl hS
    · refine r_icmp_ne 73 dX9_loads_40 (by decide) (fun c2 => ?_) (fun c2 => ?_)
      · have e : (VX9_loads_17_1 v1 v2 μ i s) = s := by unfold VX9_loads_17_1; rw [if_pos c2]
        rw [e] at hJ
        exact r_sub [0, 1, 2, 3, 4] rfl hJ
      · refine r_aload_n dX9_loads_43 0 rfl ?_
        refine r_getR 43 fX9_56 (hG.lt (by decide)) sh0 fs0_8 dX9_loads_44 ?_
        refine r_bipush 10 dX9_loads_47 rfl ?_
        refine r_iload dX9_loads_49 4 rfl ?_
        refine r_cvI (ok_X5_of hG (IsSt.of43) 10 (nI i) μ) lX9_193 (hG.lt (by decide)) sh43 ⟨_, _, rfl⟩ dX9_loads_51 (by decide) (Nat.le_of_ble_eq_true rfl) rfl (Nat.le_of_ble_eq_true rfl) ?_
        refine r_iload_n dX9_loads_54 2 rfl ?_
        refine r_icmp_ne 73 dX9_loads_55 (by decide) (fun c3 => ?_) (fun c3 => ?_)
        · have e : (VX9_loads_17_1 v1 v2 μ i s) = s := by unfold VX9_loads_17_1; rw [if_neg (not_not_intro c2), if_pos c3]
          rw [e] at hJ
          exact r_sub [0, 1, 2, 3, 4] rfl hJ
        · refine r_iload_n dX9_loads_58 3 rfl ?_
          refine r_aload_n dX9_loads_59 0 rfl ?_
          refine r_getR 3 fX9_19 (hG.lt (by decide)) sh0 fs0_1 dX9_loads_60 ?_
          refine r_getR 6 fX9_207 (hG.lt (by decide)) sh3 fs3_2 dX9_loads_63 ?_
          refine r_iload dX9_loads_66 4 rfl ?_
          refine r_csI (ok_X9_at hG (hG.lt (by decide)) sh6 (nI i) μ) lX9_211 dX9_loads_68 (by decide) (Nat.le_of_ble_eq_true rfl) rfl (Nat.le_of_ble_eq_true rfl) ?_
          refine r_iadd dX9_loads_71 ?_
          refine r_istore_n [(3, _), (0, _), (1, _), (2, _), (4, _)] dX9_loads_72 (Nat.le_of_ble_eq_true rfl) rfl ?_
          have e : (VX9_loads_17_1 v1 v2 μ i s) = (s + (F_X9_at 6 10 (nI i) μ)) := by unfold VX9_loads_17_1; rw [if_neg (not_not_intro c2), if_neg (not_not_intro c3)]
          rw [e] at hJ
          exact r_sub [1, 2, 3, 0, 4] rfl hJ
set_option maxRecDepth 20000 in
set_option maxHeartbeats 2000000 in
theorem ok_X9_loads {G : SG} (hG : GK 57 G) (p1 : Int32) (p2 : Int32) (μ : Mem) (hP : P_X9_loads p1 p2 μ) : OkK G mX9_loads 2 [.ref (ga G 0), .int p1, .int p2] μ (K_X9_loads p1 p2 μ) (some (.int (F_X9_loads p1 p2 μ))) (M_X9_loads p1 p2 μ) := by
  refine okK_of hG rfl (by decide) (Nat.le_of_ble_eq_true rfl) ?_
  unfold P_X9_loads at hP
  refine r_aload_n dX9_loads_0 0 rfl ?_
  refine r_iload_n dX9_loads_1 1 rfl ?_
  refine r_cvK (T := 1) (t := 1) (muX9_loads_1 p1 p2 μ) (ok_X9_needHouse hG p1 μ) lX9_190 (hG.lt (by decide)) sh0 ⟨_, _, rfl⟩ dX9_loads_2 (by decide) (by decide) rfl (Nat.le_of_ble_eq_true rfl) rfl (fun c1 => ?_) (fun c1 => ?_)
  · refine kthrow ?_ ?_
    · unfold K_X9_loads; rw [if_neg c1]
    · unfold M_X9_loads; rw [if_neg c1]
  · replace hP := hP c1
    refine r_aload_n dX9_loads_5 0 rfl ?_
    refine r_iload_n dX9_loads_6 2 rfl ?_
    refine r_iconst 0 dX9_loads_7 rfl ?_
    refine r_iconst 1 dX9_loads_8 rfl ?_
    refine r_cvK (T := 1) (t := 0) (muX9_loads_2 p1 p2 μ) (ok_X9_needRange hG p2 0 1 (muX9_loads_1 p1 p2 μ)) lX9_160 (hG.lt (by decide)) sh0 ⟨_, _, rfl⟩ dX9_loads_9 (by decide) (by decide) rfl (Nat.le_of_ble_eq_true rfl) rfl (fun c2 => ?_) (fun c2 => ?_)
    · refine kthrow ?_ ?_
      · unfold K_X9_loads; rw [if_pos c1]
      · unfold M_X9_loads; rw [if_pos c1]
    · replace hP := hP c2
      refine r_iconst 0 dX9_loads_12 rfl ?_
      refine r_istore_n [(3, _), (0, _), (1, _), (2, _)] dX9_loads_13 (Nat.le_of_ble_eq_true rfl) rfl ?_
      refine r_iconst 0 dX9_loads_14 rfl ?_
      refine r_istore [(4, _), (3, _), (0, _), (1, _), (2, _)] dX9_loads_15 (Nat.le_of_ble_eq_true rfl) rfl ?_
      have hs1 := hP.1
      replace hP := hP.2
      refine r_sub [2, 3, 4, 1, 0] rfl ?_
      refine lp_X9_loads_17 hG p1 p2 (muX9_loads_2 p1 p2 μ) 0 ((NX9_loads_17 p1 p2 μ)) (SX9_loads_17 p1 p2 μ) rfl hs1 ?_
      refine r_iload dX9_loads_17 4 rfl ?_
      refine r_aload_n dX9_loads_19 0 rfl ?_
      refine r_getR 3 fX9_19 (hG.lt (by decide)) sh0 fs0_1 dX9_loads_20 ?_
      refine r_getI fX9_110 (hG.lt (by decide)) sh3 fs3_9 dX9_loads_23 ?_
      refine r_icmp_ge 79 dX9_loads_26 (by decide) (fun c3 => ?_) (fun c3 => ?_)
      · replace hP := hP.1 c3
        refine r_iload_n dX9_loads_79 3 rfl ?_
        exact r_ireturn _ dX9_loads_80 rfl rfl ⟨by unfold K_X9_loads; rw [if_pos c1]; exact c2, congrArg (fun z => some (Value.int z)) (rfl), by unfold M_X9_loads; rw [if_pos c1]⟩
      · replace hP := hP.2 c3
        refine r_aload_n dX9_loads_29 0 rfl ?_
        refine r_getR 43 fX9_56 (hG.lt (by decide)) sh0 fs0_8 dX9_loads_30 ?_
        refine r_iconst 0 dX9_loads_33 rfl ?_
        refine r_iload dX9_loads_34 4 rfl ?_
        refine r_cvI (ok_X5_of hG (IsSt.of43) 0 (nI (NX9_loads_17 p1 p2 μ)) (muX9_loads_2 p1 p2 μ)) lX9_193 (hG.lt (by decide)) sh43 ⟨_, _, rfl⟩ dX9_loads_36 (by decide) (Nat.le_of_ble_eq_true rfl) rfl (Nat.le_of_ble_eq_true rfl) ?_
        refine r_iload_n dX9_loads_39 1 rfl ?_
        refine r_join 73 [(0, .ref (ga G 0)), (1, .int p1), (2, .int p2), (3, .int (VX9_loads_3 p1 p2 μ)), (4, .int (nI (NX9_loads_17 p1 p2 μ)))] [] (muX9_loads_2 p1 p2 μ) ?_ (fun hJ => ?_)
        · refine r_iinc ((nI (NX9_loads_17 p1 p2 μ)) + 1) [(4, _), (0, _), (1, _), (2, _), (3, _)] dX9_loads_73 4 rfl rfl (Nat.le_of_ble_eq_true rfl) rfl ?_
          refine r_goto 17 dX9_loads_76 (by decide) ?_
          exact hP.elim
        · refine r_icmp_ne 73 dX9_loads_40 (by decide) (fun c4 => ?_) (fun c4 => ?_)
          · have e : (VX9_loads_3 p1 p2 μ) = (SX9_loads_17 p1 p2 μ) := by unfold VX9_loads_3; rw [if_pos c4]
            rw [e] at hJ
            exact r_sub [0, 1, 2, 3, 4] rfl hJ
          · refine r_aload_n dX9_loads_43 0 rfl ?_
            refine r_getR 43 fX9_56 (hG.lt (by decide)) sh0 fs0_8 dX9_loads_44 ?_
            refine r_bipush 10 dX9_loads_47 rfl ?_
            refine r_iload dX9_loads_49 4 rfl ?_
            refine r_cvI (ok_X5_of hG (IsSt.of43) 10 (nI (NX9_loads_17 p1 p2 μ)) (muX9_loads_2 p1 p2 μ)) lX9_193 (hG.lt (by decide)) sh43 ⟨_, _, rfl⟩ dX9_loads_51 (by decide) (Nat.le_of_ble_eq_true rfl) rfl (Nat.le_of_ble_eq_true rfl) ?_
            refine r_iload_n dX9_loads_54 2 rfl ?_
            refine r_icmp_ne 73 dX9_loads_55 (by decide) (fun c5 => ?_) (fun c5 => ?_)
            · have e : (VX9_loads_3 p1 p2 μ) = (SX9_loads_17 p1 p2 μ) := by unfold VX9_loads_3; rw [if_neg (not_not_intro c4), if_pos c5]
              rw [e] at hJ
              exact r_sub [0, 1, 2, 3, 4] rfl hJ
            · refine r_iload_n dX9_loads_58 3 rfl ?_
              refine r_aload_n dX9_loads_59 0 rfl ?_
              refine r_getR 3 fX9_19 (hG.lt (by decide)) sh0 fs0_1 dX9_loads_60 ?_
              refine r_getR 6 fX9_207 (hG.lt (by decide)) sh3 fs3_2 dX9_loads_63 ?_
              refine r_iload dX9_loads_66 4 rfl ?_
              refine r_csI (ok_X9_at hG (hG.lt (by decide)) sh6 (nI (NX9_loads_17 p1 p2 μ)) (muX9_loads_2 p1 p2 μ)) lX9_211 dX9_loads_68 (by decide) (Nat.le_of_ble_eq_true rfl) rfl (Nat.le_of_ble_eq_true rfl) ?_
              refine r_iadd dX9_loads_71 ?_
              refine r_istore_n [(3, _), (0, _), (1, _), (2, _), (4, _)] dX9_loads_72 (Nat.le_of_ble_eq_true rfl) rfl ?_
              have e : (VX9_loads_3 p1 p2 μ) = ((SX9_loads_17 p1 p2 μ) + (F_X9_at 6 10 (nI (NX9_loads_17 p1 p2 μ)) (muX9_loads_2 p1 p2 μ))) := by unfold VX9_loads_3; rw [if_neg (not_not_intro c4), if_neg (not_not_intro c5)]
              rw [e] at hJ
              exact r_sub [1, 2, 3, 0, 4] rfl hJ
set_option maxRecDepth 20000 in
set_option maxHeartbeats 2000000 in
theorem lp_X9_dearest_14 {G : SG} (hG : GK 57 G)  (v1 : Int32) (μ : Mem) (s0 : Int32 × Int32) (N : Nat) (sN : Int32 × Int32) (eN : sN = fo N (g_X9_dearest_14 v1 μ) s0) (hN : ∀ i, i < N → Pb_X9_dearest_14 v1 μ i (fo i (g_X9_dearest_14 v1 μ) s0)) {t : Nat} {Q : PQ} {X : PX} (h : R G mX9_dearest 14 [(0, .ref (ga G 0)), (1, .int v1), (2, .int (sN).1), (3, .int (sN).2), (4, .int (nI N))] [] μ t Q X) : R G mX9_dearest 14 [(0, .ref (ga G 0)), (1, .int v1), (2, .int (s0).1), (3, .int (s0).2), (4, .int 0)] [] μ t Q X := by
  subst eN
  refine down_i N (fun i => R G mX9_dearest 14 [(0, .ref (ga G 0)), (1, .int v1), (2, .int ((fo i (g_X9_dearest_14 v1 μ) s0)).1), (3, .int ((fo i (g_X9_dearest_14 v1 μ) s0)).2), (4, .int (nI i))] [] μ t Q X) h (fun i hi hS => ?_)
  have hP := hN i hi
  rw [fo_succ] at hS
  rw [nI_succ] at hS
  generalize fo i (g_X9_dearest_14 v1 μ) s0 = s at hS hP ⊢
  unfold Pb_X9_dearest_14 at hP
  refine r_iload dX9_dearest_14 4 rfl ?_
  refine r_aload_n dX9_dearest_16 0 rfl ?_
  refine r_getR 3 fX9_19 (hG.lt (by decide)) sh0 fs0_1 dX9_dearest_17 ?_
  refine r_getI fX9_138 (hG.lt (by decide)) sh3 fs3_8 dX9_dearest_20 ?_
  refine r_icmp_ge 57 dX9_dearest_23 (by decide) (fun c1 => ?_) (fun c1 => ?_)
  · replace hP := hP.1 c1
    exact hP.elim
  · replace hP := hP.2 c1
    refine r_aload_n dX9_dearest_26 0 rfl ?_
    refine r_getR 43 fX9_56 (hG.lt (by decide)) sh0 fs0_8 dX9_dearest_27 ?_
    refine r_bipush 62 dX9_dearest_30 rfl ?_
    refine r_iload dX9_dearest_32 4 rfl ?_
    refine r_cvI (ok_X5_of hG (IsSt.of43) 62 (nI i) μ) lX9_193 (hG.lt (by decide)) sh43 ⟨_, _, rfl⟩ dX9_dearest_34 (by decide) (Nat.le_of_ble_eq_true rfl) rfl (Nat.le_of_ble_eq_true rfl) ?_
    refine r_istore [(5, _), (0, _), (1, _), (2, _), (3, _), (4, _)] dX9_dearest_37 (Nat.le_of_ble_eq_true rfl) rfl ?_
    refine r_iload dX9_dearest_39 0 rfl ?_
    refine r_iload_n dX9_dearest_41 4 rfl ?_
    refine r_join 51 [(5, .int (F_X5_of 43 62 (nI i) μ)), (0, .ref (ga G 0)), (1, .int v1), (2, .int (VX9_dearest_14_1 v1 μ i s)), (3, .int (VX9_dearest_14_2 v1 μ i s)), (4, .int (nI i))] [] μ ?_ (fun hJ => ?_)
    · refine r_iinc ((nI i) + 1) [(4, _), (5, _), (0, _), (1, _), (2, _), (3, _)] dX9_dearest_51 5 rfl rfl (Nat.le_of_ble_eq_true rfl) rfl ?_
      refine r_goto 14 dX9_dearest_54 (by decide) ?_
      have e : g_X9_dearest_14 v1 μ i s = ((VX9_dearest_14_1 v1 μ i s), (VX9_dearest_14_2 v1 μ i s)) := by unfold g_X9_dearest_14; rfl
      rw [e] at hS
      dsimp only at hS
      exact r_sub [2, 3, 4, 5, 0] rfl hS
    · refine r_icmp_le 51 dX9_dearest_42 (by decide) (fun c2 => ?_) (fun c2 => ?_)
      · have e : (VX9_dearest_14_1 v1 μ i s) = s.1 := by unfold VX9_dearest_14_1; rw [if_pos c2]
        rw [e] at hJ
        clear e
        have e : (VX9_dearest_14_2 v1 μ i s) = s.2 := by unfold VX9_dearest_14_2; rw [if_pos c2]
        rw [e] at hJ
        exact r_sub [0, 1, 2, 3, 4, 5] rfl hJ
      · refine r_iload dX9_dearest_45 5 rfl ?_
        refine r_istore_n [(2, _), (5, _), (0, _), (1, _), (3, _), (4, _)] dX9_dearest_47 (Nat.le_of_ble_eq_true rfl) rfl ?_
        refine r_iload dX9_dearest_48 1 rfl ?_
        refine r_istore_n [(3, _), (2, _), (5, _), (0, _), (1, _), (4, _)] dX9_dearest_50 (Nat.le_of_ble_eq_true rfl) rfl ?_
        have e : (VX9_dearest_14_1 v1 μ i s) = (nI i) := by unfold VX9_dearest_14_1; rw [if_neg (i32_ng c2)]
        rw [e] at hJ
        clear e
        have e : (VX9_dearest_14_2 v1 μ i s) = (F_X5_of 43 62 (nI i) μ) := by unfold VX9_dearest_14_2; rw [if_neg (i32_ng c2)]
        rw [e] at hJ
        exact r_sub [2, 3, 4, 1, 0, 5] rfl hJ
set_option maxRecDepth 20000 in
set_option maxHeartbeats 2000000 in
theorem ok_X9_dearest {G : SG} (hG : GK 57 G) (p1 : Int32) (μ : Mem) (hP : P_X9_dearest p1 μ) : OkK G mX9_dearest 1 [.ref (ga G 0), .int p1] μ (K_X9_dearest p1 μ) (some (.int (F_X9_dearest p1 μ))) (M_X9_dearest p1 μ) := by
  refine okK_of hG rfl (by decide) (Nat.le_of_ble_eq_true rfl) ?_
  unfold P_X9_dearest at hP
  refine r_aload_n dX9_dearest_0 0 rfl ?_
  refine r_iload_n dX9_dearest_1 1 rfl ?_
  refine r_iconst 0 dX9_dearest_2 rfl ?_
  refine r_iconst 1 dX9_dearest_3 rfl ?_
  refine r_cvK (T := 1) (t := 0) (muX9_dearest_1 p1 μ) (ok_X9_needRange hG p1 0 1 μ) lX9_160 (hG.lt (by decide)) sh0 ⟨_, _, rfl⟩ dX9_dearest_4 (by decide) (by decide) rfl (Nat.le_of_ble_eq_true rfl) rfl (fun c1 => ?_) (fun c1 => ?_)
  · refine kthrow ?_ ?_
    · rfl
    · rfl
  · replace hP := hP c1
    refine r_iconst (-1) dX9_dearest_7 rfl ?_
    refine r_istore_n [(2, _), (0, _), (1, _)] dX9_dearest_8 (Nat.le_of_ble_eq_true rfl) rfl ?_
    refine r_iconst 0 dX9_dearest_9 rfl ?_
    refine r_istore_n [(3, _), (2, _), (0, _), (1, _)] dX9_dearest_10 (Nat.le_of_ble_eq_true rfl) rfl ?_
    refine r_iconst 0 dX9_dearest_11 rfl ?_
    refine r_istore [(4, _), (3, _), (2, _), (0, _), (1, _)] dX9_dearest_12 (Nat.le_of_ble_eq_true rfl) rfl ?_
    have hs1 := hP.1
    replace hP := hP.2
    refine r_sub [3, 4, 2, 1, 0] rfl ?_
    refine lp_X9_dearest_14 hG p1 (muX9_dearest_1 p1 μ) ((-1), 0) ((NX9_dearest_14 p1 μ)) (SX9_dearest_14 p1 μ) rfl hs1 ?_
    refine r_iload dX9_dearest_14 4 rfl ?_
    refine r_aload_n dX9_dearest_16 0 rfl ?_
    refine r_getR 3 fX9_19 (hG.lt (by decide)) sh0 fs0_1 dX9_dearest_17 ?_
    refine r_getI fX9_138 (hG.lt (by decide)) sh3 fs3_8 dX9_dearest_20 ?_
    refine r_icmp_ge 57 dX9_dearest_23 (by decide) (fun c2 => ?_) (fun c2 => ?_)
    · replace hP := hP.1 c2
      refine r_iload_n dX9_dearest_57 1 rfl ?_
      refine r_if_eq 66 dX9_dearest_58 (by decide) (fun c3 => ?_) (fun c3 => ?_)
      · refine r_iload_n dX9_dearest_66 2 rfl ?_
        refine r_goto 71 dX9_dearest_67 (by decide) ?_
        exact r_ireturn _ dX9_dearest_71 rfl rfl ⟨by unfold K_X9_dearest; exact c1, congrArg (fun z => some (Value.int z)) (by unfold F_X9_dearest; rw [if_pos c3]), rfl⟩
      · refine r_iload_n dX9_dearest_61 2 rfl ?_
        refine r_iconst (-1) dX9_dearest_62 rfl ?_
        refine r_icmp_ne 70 dX9_dearest_63 (by decide) (fun c4 => ?_) (fun c4 => ?_)
        · refine r_iload_n dX9_dearest_70 3 rfl ?_
          exact r_ireturn _ dX9_dearest_71 rfl rfl ⟨by unfold K_X9_dearest; exact c1, congrArg (fun z => some (Value.int z)) (by unfold F_X9_dearest; rw [if_neg c3, if_pos c4]), rfl⟩
        · refine r_iload_n dX9_dearest_66 2 rfl ?_
          refine r_goto 71 dX9_dearest_67 (by decide) ?_
          exact r_ireturn _ dX9_dearest_71 rfl rfl ⟨by unfold K_X9_dearest; exact c1, congrArg (fun z => some (Value.int z)) (by unfold F_X9_dearest; rw [if_neg c3, if_neg (not_not_intro c4)]), rfl⟩
    · replace hP := hP.2 c2
      refine r_aload_n dX9_dearest_26 0 rfl ?_
      refine r_getR 43 fX9_56 (hG.lt (by decide)) sh0 fs0_8 dX9_dearest_27 ?_
      refine r_bipush 62 dX9_dearest_30 rfl ?_
      refine r_iload dX9_dearest_32 4 rfl ?_
      refine r_cvI (ok_X5_of hG (IsSt.of43) 62 (nI (NX9_dearest_14 p1 μ)) (muX9_dearest_1 p1 μ)) lX9_193 (hG.lt (by decide)) sh43 ⟨_, _, rfl⟩ dX9_dearest_34 (by decide) (Nat.le_of_ble_eq_true rfl) rfl (Nat.le_of_ble_eq_true rfl) ?_
      refine r_istore [(5, _), (0, _), (1, _), (2, _), (3, _), (4, _)] dX9_dearest_37 (Nat.le_of_ble_eq_true rfl) rfl ?_
      refine r_iload dX9_dearest_39 0 rfl ?_
      refine r_iload_n dX9_dearest_41 4 rfl ?_
      refine r_join 51 [(5, .int (F_X5_of 43 62 (nI (NX9_dearest_14 p1 μ)) (muX9_dearest_1 p1 μ))), (0, .ref (ga G 0)), (1, .int p1), (2, .int (VX9_dearest_2 p1 μ)), (3, .int (VX9_dearest_3 p1 μ)), (4, .int (nI (NX9_dearest_14 p1 μ)))] [] (muX9_dearest_1 p1 μ) ?_ (fun hJ => ?_)
      · refine r_iinc ((nI (NX9_dearest_14 p1 μ)) + 1) [(4, _), (5, _), (0, _), (1, _), (2, _), (3, _)] dX9_dearest_51 5 rfl rfl (Nat.le_of_ble_eq_true rfl) rfl ?_
        refine r_goto 14 dX9_dearest_54 (by decide) ?_
        exact hP.elim
      · refine r_icmp_le 51 dX9_dearest_42 (by decide) (fun c3 => ?_) (fun c3 => ?_)
        · have e : (VX9_dearest_2 p1 μ) = (SX9_dearest_14 p1 μ).1 := by unfold VX9_dearest_2; rw [if_pos c3]
          rw [e] at hJ
          clear e
          have e : (VX9_dearest_3 p1 μ) = (SX9_dearest_14 p1 μ).2 := by unfold VX9_dearest_3; rw [if_pos c3]
          rw [e] at hJ
          exact r_sub [0, 1, 2, 3, 4, 5] rfl hJ
        · refine r_iload dX9_dearest_45 5 rfl ?_
          refine r_istore_n [(2, _), (5, _), (0, _), (1, _), (3, _), (4, _)] dX9_dearest_47 (Nat.le_of_ble_eq_true rfl) rfl ?_
          refine r_iload dX9_dearest_48 1 rfl ?_
          refine r_istore_n [(3, _), (2, _), (5, _), (0, _), (1, _), (4, _)] dX9_dearest_50 (Nat.le_of_ble_eq_true rfl) rfl ?_
          have e : (VX9_dearest_2 p1 μ) = (nI (NX9_dearest_14 p1 μ)) := by unfold VX9_dearest_2; rw [if_neg (i32_ng c3)]
          rw [e] at hJ
          clear e
          have e : (VX9_dearest_3 p1 μ) = (F_X5_of 43 62 (nI (NX9_dearest_14 p1 μ)) (muX9_dearest_1 p1 μ)) := by unfold VX9_dearest_3; rw [if_neg (i32_ng c3)]
          rw [e] at hJ
          exact r_sub [2, 3, 4, 1, 0, 5] rfl hJ
set_option maxRecDepth 20000 in
set_option maxHeartbeats 2000000 in
theorem lp_X9_dry_18 {G : SG} (hG : GK 57 G)  (v1 : Int32) (v2 : Int32) (μ : Mem) (s0 : Int32) (N : Nat) (sN : Int32) (eN : sN = fo N (g_X9_dry_18 v1 v2 μ) s0) (hN : ∀ i, i < N → Pb_X9_dry_18 v1 v2 μ i (fo i (g_X9_dry_18 v1 v2 μ) s0)) {t : Nat} {Q : PQ} {X : PX} (h : R G mX9_dry 18 [(0, .ref (ga G 0)), (1, .int v1), (2, .int v2), (3, .int sN), (4, .int (nI N))] [] μ t Q X) : R G mX9_dry 18 [(0, .ref (ga G 0)), (1, .int v1), (2, .int v2), (3, .int s0), (4, .int 0)] [] μ t Q X := by
  subst eN
  refine down_i N (fun i => R G mX9_dry 18 [(0, .ref (ga G 0)), (1, .int v1), (2, .int v2), (3, .int (fo i (g_X9_dry_18 v1 v2 μ) s0)), (4, .int (nI i))] [] μ t Q X) h (fun i hi hS => ?_)
  have hP := hN i hi
  rw [fo_succ] at hS
  rw [nI_succ] at hS
  generalize fo i (g_X9_dry_18 v1 v2 μ) s0 = s at hS hP ⊢
  unfold Pb_X9_dry_18 at hP
  refine r_iload dX9_dry_18 4 rfl ?_
  refine r_iload_n dX9_dry_20 2 rfl ?_
  refine r_icmp_ge 46 dX9_dry_21 (by decide) (fun c1 => ?_) (fun c1 => ?_)
  · replace hP := hP.1 c1
    exact hP.elim
  · replace hP := hP.2 c1
    refine r_aload_n dX9_dry_24 0 rfl ?_
    refine r_getR 51 fX9_72 (hG.lt (by decide)) sh0 fs0_10 dX9_dry_25 ?_
    refine r_iload_n dX9_dry_28 1 rfl ?_
    refine r_iload dX9_dry_29 4 rfl ?_
    have hs1 := hP
    refine r_cvI (ok_X0_comesIntoAny hG v1 (nI i) μ hs1) lX9_307 (hG.lt (by decide)) sh51 ⟨_, _, rfl⟩ dX9_dry_31 (by decide) (Nat.le_of_ble_eq_true rfl) rfl (Nat.le_of_ble_eq_true rfl) ?_
    refine r_join 40 [(0, .ref (ga G 0)), (1, .int v1), (2, .int v2), (3, .int (VX9_dry_18_1 v1 v2 μ i s)), (4, .int (nI i))] [] μ ?_ (fun hJ => ?_)
    · refine r_iinc ((nI i) + 1) [(4, _), (0, _), (1, _), (2, _), (3, _)] dX9_dry_40 4 rfl rfl (Nat.le_of_ble_eq_true rfl) rfl ?_
      refine r_goto 18 dX9_dry_43 (by decide) ?_
      have e : g_X9_dry_18 v1 v2 μ i s = (VX9_dry_18_1 v1 v2 μ i s) := by unfold g_X9_dry_18; rfl
      rw [e] at hS
      exact r_sub [1, 2, 3, 4, 0] rfl hS
    · refine r_if_ne 40 dX9_dry_34 (by decide) (fun c2 => ?_) (fun c2 => ?_)
      · have e : (VX9_dry_18_1 v1 v2 μ i s) = s := by unfold VX9_dry_18_1; rw [if_pos c2]
        rw [e] at hJ
        exact r_sub [0, 1, 2, 3, 4] rfl hJ
      · refine r_iinc (s + 1) [(3, _), (0, _), (1, _), (2, _), (4, _)] dX9_dry_37 3 rfl rfl (Nat.le_of_ble_eq_true rfl) rfl ?_
        have e : (VX9_dry_18_1 v1 v2 μ i s) = (s + 1) := by unfold VX9_dry_18_1; rw [if_neg (not_not_intro c2)]
        rw [e] at hJ
        exact r_sub [1, 2, 3, 0, 4] rfl hJ
set_option maxRecDepth 20000 in
set_option maxHeartbeats 2000000 in
theorem ok_X9_dry {G : SG} (hG : GK 57 G) (p1 : Int32) (p2 : Int32) (μ : Mem) (hP : P_X9_dry p1 p2 μ) : OkK G mX9_dry 2 [.ref (ga G 0), .int p1, .int p2] μ (K_X9_dry p1 p2 μ) (some (.int (F_X9_dry p1 p2 μ))) (M_X9_dry p1 p2 μ) := by
  refine okK_of hG rfl (by decide) (Nat.le_of_ble_eq_true rfl) ?_
  unfold P_X9_dry at hP
  refine r_aload_n dX9_dry_0 0 rfl ?_
  refine r_iload_n dX9_dry_1 1 rfl ?_
  refine r_cvK (T := 1) (t := 1) (muX9_dry_1 p1 p2 μ) (ok_X9_needHouses hG p1 μ) lX9_250 (hG.lt (by decide)) sh0 ⟨_, _, rfl⟩ dX9_dry_2 (by decide) (by decide) rfl (Nat.le_of_ble_eq_true rfl) rfl (fun c1 => ?_) (fun c1 => ?_)
  · refine kthrow ?_ ?_
    · unfold K_X9_dry; rw [if_neg c1]
    · unfold M_X9_dry; rw [if_neg c1]
  · replace hP := hP c1
    refine r_aload_n dX9_dry_5 0 rfl ?_
    refine r_iload_n dX9_dry_6 2 rfl ?_
    refine r_iconst 0 dX9_dry_7 rfl ?_
    refine r_bipush 60 dX9_dry_8 rfl ?_
    refine r_cvK (T := 1) (t := 0) (muX9_dry_2 p1 p2 μ) (ok_X9_needRange hG p2 0 60 (muX9_dry_1 p1 p2 μ)) lX9_160 (hG.lt (by decide)) sh0 ⟨_, _, rfl⟩ dX9_dry_10 (by decide) (by decide) rfl (Nat.le_of_ble_eq_true rfl) rfl (fun c2 => ?_) (fun c2 => ?_)
    · refine kthrow ?_ ?_
      · unfold K_X9_dry; rw [if_pos c1]
      · unfold M_X9_dry; rw [if_pos c1]
    · replace hP := hP c2
      refine r_iconst 0 dX9_dry_13 rfl ?_
      refine r_istore_n [(3, _), (0, _), (1, _), (2, _)] dX9_dry_14 (Nat.le_of_ble_eq_true rfl) rfl ?_
      refine r_iconst 0 dX9_dry_15 rfl ?_
      refine r_istore [(4, _), (3, _), (0, _), (1, _), (2, _)] dX9_dry_16 (Nat.le_of_ble_eq_true rfl) rfl ?_
      have hs1 := hP.1
      replace hP := hP.2
      refine r_sub [2, 3, 4, 1, 0] rfl ?_
      refine lp_X9_dry_18 hG p1 p2 (muX9_dry_2 p1 p2 μ) 0 ((NX9_dry_18 p1 p2 μ)) (SX9_dry_18 p1 p2 μ) rfl hs1 ?_
      refine r_iload dX9_dry_18 4 rfl ?_
      refine r_iload_n dX9_dry_20 2 rfl ?_
      refine r_icmp_ge 46 dX9_dry_21 (by decide) (fun c3 => ?_) (fun c3 => ?_)
      · replace hP := hP.1 c3
        refine r_iload_n dX9_dry_46 3 rfl ?_
        exact r_ireturn _ dX9_dry_47 rfl rfl ⟨by unfold K_X9_dry; rw [if_pos c1]; exact c2, congrArg (fun z => some (Value.int z)) (rfl), by unfold M_X9_dry; rw [if_pos c1]⟩
      · replace hP := hP.2 c3
        refine r_aload_n dX9_dry_24 0 rfl ?_
        refine r_getR 51 fX9_72 (hG.lt (by decide)) sh0 fs0_10 dX9_dry_25 ?_
        refine r_iload_n dX9_dry_28 1 rfl ?_
        refine r_iload dX9_dry_29 4 rfl ?_
        have hs3 := hP.1
        replace hP := hP.2
        refine r_cvI (ok_X0_comesIntoAny hG p1 (nI (NX9_dry_18 p1 p2 μ)) (muX9_dry_2 p1 p2 μ) hs3) lX9_307 (hG.lt (by decide)) sh51 ⟨_, _, rfl⟩ dX9_dry_31 (by decide) (Nat.le_of_ble_eq_true rfl) rfl (Nat.le_of_ble_eq_true rfl) ?_
        refine r_join 40 [(0, .ref (ga G 0)), (1, .int p1), (2, .int p2), (3, .int (VX9_dry_3 p1 p2 μ)), (4, .int (nI (NX9_dry_18 p1 p2 μ)))] [] (muX9_dry_2 p1 p2 μ) ?_ (fun hJ => ?_)
        · refine r_iinc ((nI (NX9_dry_18 p1 p2 μ)) + 1) [(4, _), (0, _), (1, _), (2, _), (3, _)] dX9_dry_40 4 rfl rfl (Nat.le_of_ble_eq_true rfl) rfl ?_
          refine r_goto 18 dX9_dry_43 (by decide) ?_
          exact hP.elim
        · refine r_if_ne 40 dX9_dry_34 (by decide) (fun c4 => ?_) (fun c4 => ?_)
          · have e : (VX9_dry_3 p1 p2 μ) = (SX9_dry_18 p1 p2 μ) := by unfold VX9_dry_3; rw [if_pos c4]
            rw [e] at hJ
            exact r_sub [0, 1, 2, 3, 4] rfl hJ
          · refine r_iinc ((SX9_dry_18 p1 p2 μ) + 1) [(3, _), (0, _), (1, _), (2, _), (4, _)] dX9_dry_37 3 rfl rfl (Nat.le_of_ble_eq_true rfl) rfl ?_
            have e : (VX9_dry_3 p1 p2 μ) = ((SX9_dry_18 p1 p2 μ) + 1) := by unfold VX9_dry_3; rw [if_neg (not_not_intro c4)]
            rw [e] at hJ
            exact r_sub [1, 2, 3, 0, 4] rfl hJ
