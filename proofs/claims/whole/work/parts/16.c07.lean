def muX7_readInto_1 (row : Nat) (nrow : Nat) (p3 : Int32) (p4 : Int32) (p5 : Int32) (μ : Mem) : Mem := (M_X8_takeNumber p4 p5 μ)
def muX7_readInto_2 (row : Nat) (nrow : Nat) (p3 : Int32) (p4 : Int32) (p5 : Int32) (μ : Mem) : Mem := (M_X9_put row nrow p3 (F_X8_takeNumber p4 p5 μ) (muX7_readInto_1 row nrow p3 p4 p5 μ))
def F_X7_readInto (row nrow : Nat) (p3 : Int32) (p4 : Int32) (p5 : Int32) (μ : Mem) : Int32 := (if (F_X8_takeNumber p4 p5 μ) = (-1) then 0 else 1)
def M_X7_readInto (row nrow : Nat) (p3 : Int32) (p4 : Int32) (p5 : Int32) (μ : Mem) : Mem := (muX7_readInto_2 row nrow p3 p4 p5 μ)
def P_X7_readInto (row nrow : Nat) (p3 : Int32) (p4 : Int32) (p5 : Int32) (μ : Mem) : Prop := (P_X8_takeNumber p4 p5 μ)
theorem bo_X7_readInto (row nrow : Nat) (p3 : Int32) (p4 : Int32) (p5 : Int32) (μ : Mem) : F_X7_readInto row nrow p3 p4 p5 μ = 0 ∨ F_X7_readInto row nrow p3 p4 p5 μ = 1 := by
  unfold F_X7_readInto
  split
  · exact Or.inl rfl
  · exact Or.inr rfl
set_option maxRecDepth 20000 in
set_option maxHeartbeats 2000000 in
theorem ok_X7_readInto {G : SG} (hG : GK 57 G) {row nrow : Nat} (hlrow : row < gh G) (hsrow : shp row = (1, nrow, 0)) (p3 : Int32) (p4 : Int32) (p5 : Int32) (μ : Mem) (hP : P_X7_readInto row nrow p3 p4 p5 μ) : OkF G mX7_readInto [.ref (ga G 12), .ref (ga G 1), .ref (ga G row), .int p3, .int p4, .int p5] μ (some (.int (F_X7_readInto row nrow p3 p4 p5 μ))) (M_X7_readInto row nrow p3 p4 p5 μ) := by
  refine okF_of hG rfl rfl (Nat.le_of_ble_eq_true rfl) ?_
  unfold P_X7_readInto at hP
  refine r_aload_n dX7_readInto_0 1 rfl ?_
  refine r_iload dX7_readInto_1 4 rfl ?_
  refine r_iload dX7_readInto_3 5 rfl ?_
  have hs1 := hP
  refine r_cvI (ok_X8_takeNumber hG p4 p5 μ hs1) lX7_117 (hG.lt (by decide)) sh1 ⟨_, _, rfl⟩ dX7_readInto_5 (by decide) (Nat.le_of_ble_eq_true rfl) rfl (Nat.le_of_ble_eq_true rfl) ?_
  refine r_mu (muX7_readInto_1 row nrow p3 p4 p5 μ) rfl ?_
  refine r_istore [(6, _), (0, _), (1, _), (2, _), (3, _), (4, _), (5, _)] dX7_readInto_8 (Nat.le_of_ble_eq_true rfl) rfl ?_
  refine r_aload_n dX7_readInto_10 3 rfl ?_
  refine r_iload_n dX7_readInto_11 4 rfl ?_
  refine r_iload dX7_readInto_12 0 rfl ?_
  refine r_csV (ok_X9_put hG hlrow hsrow p3 (F_X8_takeNumber p4 p5 μ) (muX7_readInto_1 row nrow p3 p4 p5 μ)) lX7_121 dX7_readInto_14 (by decide) (Nat.le_of_ble_eq_true rfl) rfl (Nat.le_of_ble_eq_true rfl) ?_
  refine r_mu (muX7_readInto_2 row nrow p3 p4 p5 μ) rfl ?_
  refine r_iload dX7_readInto_17 0 rfl ?_
  refine r_iconst (-1) dX7_readInto_19 rfl ?_
  refine r_icmp_eq 27 dX7_readInto_20 (by decide) (fun c1 => ?_) (fun c1 => ?_)
  · refine r_iconst 0 dX7_readInto_27 rfl ?_
    exact r_ireturn _ dX7_readInto_28 rfl rfl ⟨congrArg (fun z => some (Value.int z)) (by unfold F_X7_readInto; rw [if_pos c1]), rfl⟩
  · refine r_iconst 1 dX7_readInto_23 rfl ?_
    refine r_goto 28 dX7_readInto_24 (by decide) ?_
    exact r_ireturn _ dX7_readInto_28 rfl rfl ⟨congrArg (fun z => some (Value.int z)) (by unfold F_X7_readInto; rw [if_neg c1]), rfl⟩
def muX7_readFind_1 (μ : Mem) : Mem := (M_X7_readInto 19 6 (μ 12 11) 1 40 μ)
def muX7_readFind_2 (μ : Mem) : Mem := (M_X7_readInto 20 6 ((muX7_readFind_1 μ) 12 11) 0 16 (muX7_readFind_1 μ))
def VX7_readFind_3 (μ : Mem) : Int32 := (if (F_X7_readInto 19 6 (μ 12 11) 1 40 μ) = 0 then 0 else (if (F_X7_readInto 20 6 ((muX7_readFind_1 μ) 12 11) 0 16 (muX7_readFind_1 μ)) = 0 then 0 else 1))
theorem bo_VX7_readFind_3 (μ : Mem) : (VX7_readFind_3 μ) = 0 ∨ (VX7_readFind_3 μ) = 1 := by
  unfold VX7_readFind_3
  split
  · exact Or.inl rfl
  · split
    · exact Or.inl rfl
    · exact Or.inr rfl
def VX7_readFind_4 (μ : Mem) : Mem := (if (F_X7_readInto 19 6 (μ 12 11) 1 40 μ) = 0 then (muX7_readFind_1 μ) else (muX7_readFind_2 μ))
def muX7_readFind_5 (μ : Mem) : Mem := (upm (VX7_readFind_4 μ) 12 11 (((VX7_readFind_4 μ) 12 11) + 1))
def F_X7_readFind  (μ : Mem) : Int32 := (VX7_readFind_3 μ)
def M_X7_readFind  (μ : Mem) : Mem := (muX7_readFind_5 μ)
def P_X7_readFind  (μ : Mem) : Prop := ((P_X7_readInto 19 6 (μ 12 11) 1 40 μ) ∧ (((F_X7_readInto 19 6 (μ 12 11) 1 40 μ) = 0 → True) ∧ (¬ (F_X7_readInto 19 6 (μ 12 11) 1 40 μ) = 0 → (P_X7_readInto 20 6 ((muX7_readFind_1 μ) 12 11) 0 16 (muX7_readFind_1 μ)))))
theorem bo_X7_readFind  (μ : Mem) : F_X7_readFind  μ = 0 ∨ F_X7_readFind  μ = 1 := by
  unfold F_X7_readFind
  exact (bo_VX7_readFind_3 μ)
set_option maxRecDepth 20000 in
set_option maxHeartbeats 2000000 in
theorem ok_X7_readFind {G : SG} (hG : GK 57 G)  (μ : Mem) (hP : P_X7_readFind  μ) : OkF G mX7_readFind [.ref (ga G 12), .ref (ga G 1)] μ (some (.int (F_X7_readFind  μ))) (M_X7_readFind  μ) := by
  refine okF_of hG rfl rfl (Nat.le_of_ble_eq_true rfl) ?_
  unfold P_X7_readFind at hP
  refine r_aload_n dX7_readFind_0 0 rfl ?_
  refine r_aload_n dX7_readFind_1 1 rfl ?_
  refine r_aload_n dX7_readFind_2 0 rfl ?_
  refine r_getR 19 fX7_30 (hG.lt (by decide)) sh12 fs12_6 dX7_readFind_3 ?_
  refine r_aload_n dX7_readFind_6 0 rfl ?_
  refine r_getI fX7_56 (hG.lt (by decide)) sh12 fs12_11 dX7_readFind_7 ?_
  refine r_iconst 1 dX7_readFind_10 rfl ?_
  refine r_bipush 40 dX7_readFind_11 rfl ?_
  have hs1 := hP.1
  replace hP := hP.2
  refine r_cvI (ok_X7_readInto hG (hG.lt (by decide)) sh19 (μ 12 11) 1 40 μ hs1) lX7_125 (hG.lt (by decide)) sh12 ⟨_, _, rfl⟩ dX7_readFind_13 (by decide) (Nat.le_of_ble_eq_true rfl) rfl (Nat.le_of_ble_eq_true rfl) ?_
  refine r_mu (muX7_readFind_1 μ) rfl ?_
  refine r_join 43 [(0, .ref (ga G 12)), (1, .ref (ga G 1))] [.int (VX7_readFind_3 μ)] (VX7_readFind_4 μ) ?_ (fun hJ => ?_)
  · refine r_istore_n [(2, _), (0, _), (1, _)] dX7_readFind_43 (Nat.le_of_ble_eq_true rfl) rfl ?_
    refine r_aload_n dX7_readFind_44 1 rfl ?_
    refine r_dup dX7_readFind_45 rfl ?_
    refine r_getI fX7_56 (hG.lt (by decide)) sh12 fs12_11 dX7_readFind_46 ?_
    refine r_iconst 1 dX7_readFind_49 rfl ?_
    refine r_iadd dX7_readFind_50 ?_
    refine r_put fiX7_56 (hG.lt (by decide)) sh12 fs12_11 dX7_readFind_51 ?_
    refine r_mu (muX7_readFind_5 μ) rfl ?_
    refine r_iload_n dX7_readFind_54 0 rfl ?_
    exact r_ireturn _ dX7_readFind_55 rfl (nb01 ((bo_VX7_readFind_3 μ))) ⟨congrArg (fun z => some (Value.int z)) (rfl), rfl⟩
  · refine r_if_eq 42 dX7_readFind_16 (by decide) (fun c1 => ?_) (fun c1 => ?_)
    · replace hP := hP.1 c1
      refine r_iconst 0 dX7_readFind_42 rfl ?_
      have e : (VX7_readFind_3 μ) = 0 := by unfold VX7_readFind_3; rw [if_pos c1]
      rw [e] at hJ
      clear e
      have e : (VX7_readFind_4 μ) = (muX7_readFind_1 μ) := by unfold VX7_readFind_4; rw [if_pos c1]
      rw [e] at hJ
      exact r_sub [0, 1] rfl hJ
    · replace hP := hP.2 c1
      refine r_aload_n dX7_readFind_19 0 rfl ?_
      refine r_aload_n dX7_readFind_20 1 rfl ?_
      refine r_aload_n dX7_readFind_21 0 rfl ?_
      refine r_getR 20 fX7_33 (hG.lt (by decide)) sh12 fs12_7 dX7_readFind_22 ?_
      refine r_aload_n dX7_readFind_25 0 rfl ?_
      refine r_getI fX7_56 (hG.lt (by decide)) sh12 fs12_11 dX7_readFind_26 ?_
      refine r_iconst 0 dX7_readFind_29 rfl ?_
      refine r_bipush 16 dX7_readFind_30 rfl ?_
      have hs2 := hP
      refine r_cvI (ok_X7_readInto hG (hG.lt (by decide)) sh20 ((muX7_readFind_1 μ) 12 11) 0 16 (muX7_readFind_1 μ) hs2) lX7_125 (hG.lt (by decide)) sh12 ⟨_, _, rfl⟩ dX7_readFind_32 (by decide) (Nat.le_of_ble_eq_true rfl) rfl (Nat.le_of_ble_eq_true rfl) ?_
      refine r_mu (muX7_readFind_2 μ) rfl ?_
      refine r_if_eq 42 dX7_readFind_35 (by decide) (fun c2 => ?_) (fun c2 => ?_)
      · refine r_iconst 0 dX7_readFind_42 rfl ?_
        have e : (VX7_readFind_3 μ) = 0 := by unfold VX7_readFind_3; rw [if_neg c1, if_pos c2]
        rw [e] at hJ
        clear e
        have e : (VX7_readFind_4 μ) = (muX7_readFind_2 μ) := by unfold VX7_readFind_4; rw [if_neg c1]
        rw [e] at hJ
        exact r_sub [0, 1] rfl hJ
      · refine r_iconst 1 dX7_readFind_38 rfl ?_
        refine r_goto 43 dX7_readFind_39 (by decide) ?_
        have e : (VX7_readFind_3 μ) = 1 := by unfold VX7_readFind_3; rw [if_neg c1, if_neg c2]
        rw [e] at hJ
        clear e
        have e : (VX7_readFind_4 μ) = (muX7_readFind_2 μ) := by unfold VX7_readFind_4; rw [if_neg c1]
        rw [e] at hJ
        exact r_sub [0, 1] rfl hJ
def muX7_readHouse_1 (μ : Mem) : Mem := (M_X7_readInto 13 6 (μ 12 8) 0 40 μ)
def muX7_readHouse_2 (μ : Mem) : Mem := (upm (muX7_readHouse_1 μ) 12 8 (((muX7_readHouse_1 μ) 12 8) + 1))
def F_X7_readHouse  (μ : Mem) : Int32 := (F_X7_readInto 13 6 (μ 12 8) 0 40 μ)
def M_X7_readHouse  (μ : Mem) : Mem := (muX7_readHouse_2 μ)
def P_X7_readHouse  (μ : Mem) : Prop := (P_X7_readInto 13 6 (μ 12 8) 0 40 μ)
theorem bo_X7_readHouse  (μ : Mem) : F_X7_readHouse  μ = 0 ∨ F_X7_readHouse  μ = 1 := by
  unfold F_X7_readHouse
  exact (bo_X7_readInto 13 6 (μ 12 8) 0 40 μ)
set_option maxRecDepth 20000 in
set_option maxHeartbeats 2000000 in
theorem ok_X7_readHouse {G : SG} (hG : GK 57 G)  (μ : Mem) (hP : P_X7_readHouse  μ) : OkF G mX7_readHouse [.ref (ga G 12), .ref (ga G 1)] μ (some (.int (F_X7_readHouse  μ))) (M_X7_readHouse  μ) := by
  refine okF_of hG rfl rfl (Nat.le_of_ble_eq_true rfl) ?_
  unfold P_X7_readHouse at hP
  refine r_aload_n dX7_readHouse_0 0 rfl ?_
  refine r_aload_n dX7_readHouse_1 1 rfl ?_
  refine r_aload_n dX7_readHouse_2 0 rfl ?_
  refine r_getR 13 fX7_9 (hG.lt (by decide)) sh12 fs12_0 dX7_readHouse_3 ?_
  refine r_aload_n dX7_readHouse_6 0 rfl ?_
  refine r_getI fX7_47 (hG.lt (by decide)) sh12 fs12_8 dX7_readHouse_7 ?_
  refine r_iconst 0 dX7_readHouse_10 rfl ?_
  refine r_bipush 40 dX7_readHouse_11 rfl ?_
  have hs1 := hP
  refine r_cvI (ok_X7_readInto hG (hG.lt (by decide)) sh13 (μ 12 8) 0 40 μ hs1) lX7_125 (hG.lt (by decide)) sh12 ⟨_, _, rfl⟩ dX7_readHouse_13 (by decide) (Nat.le_of_ble_eq_true rfl) rfl (Nat.le_of_ble_eq_true rfl) ?_
  refine r_mu (muX7_readHouse_1 μ) rfl ?_
  refine r_istore_n [(2, _), (0, _), (1, _)] dX7_readHouse_16 (Nat.le_of_ble_eq_true rfl) rfl ?_
  refine r_aload_n dX7_readHouse_17 1 rfl ?_
  refine r_dup dX7_readHouse_18 rfl ?_
  refine r_getI fX7_47 (hG.lt (by decide)) sh12 fs12_8 dX7_readHouse_19 ?_
  refine r_iconst 1 dX7_readHouse_22 rfl ?_
  refine r_iadd dX7_readHouse_23 ?_
  refine r_put fiX7_47 (hG.lt (by decide)) sh12 fs12_8 dX7_readHouse_24 ?_
  refine r_mu (muX7_readHouse_2 μ) rfl ?_
  refine r_iload_n dX7_readHouse_27 0 rfl ?_
  exact r_ireturn _ dX7_readHouse_28 rfl (nb01 ((bo_X7_readInto 13 6 (μ 12 8) 0 40 μ))) ⟨congrArg (fun z => some (Value.int z)) (rfl), rfl⟩
def muX7_readRent_1 (μ : Mem) : Mem := (M_X8_takeNumber 0 40 μ)
def muX7_readRent_2 (μ : Mem) : Mem := (upm (muX7_readRent_1 μ) 12 12 (F_X8_takeNumber 0 40 μ))
def F_X7_readRent  (μ : Mem) : Int32 := (if ((muX7_readRent_2 μ) 12 12) = (-1) then 0 else 1)
def M_X7_readRent  (μ : Mem) : Mem := (muX7_readRent_2 μ)
def P_X7_readRent  (μ : Mem) : Prop := (P_X8_takeNumber 0 40 μ)
theorem bo_X7_readRent  (μ : Mem) : F_X7_readRent  μ = 0 ∨ F_X7_readRent  μ = 1 := by
  unfold F_X7_readRent
  split
  · exact Or.inl rfl
  · exact Or.inr rfl
set_option maxRecDepth 20000 in
set_option maxHeartbeats 2000000 in
theorem ok_X7_readRent {G : SG} (hG : GK 57 G)  (μ : Mem) (hP : P_X7_readRent  μ) : OkF G mX7_readRent [.ref (ga G 12), .ref (ga G 1)] μ (some (.int (F_X7_readRent  μ))) (M_X7_readRent  μ) := by
  refine okF_of hG rfl rfl (Nat.le_of_ble_eq_true rfl) ?_
  unfold P_X7_readRent at hP
  refine r_aload_n dX7_readRent_0 0 rfl ?_
  refine r_aload_n dX7_readRent_1 1 rfl ?_
  refine r_iconst 0 dX7_readRent_2 rfl ?_
  refine r_bipush 40 dX7_readRent_3 rfl ?_
  have hs1 := hP
  refine r_cvI (ok_X8_takeNumber hG 0 40 μ hs1) lX7_117 (hG.lt (by decide)) sh1 ⟨_, _, rfl⟩ dX7_readRent_5 (by decide) (Nat.le_of_ble_eq_true rfl) rfl (Nat.le_of_ble_eq_true rfl) ?_
  refine r_mu (muX7_readRent_1 μ) rfl ?_
  refine r_put fiX7_36 (hG.lt (by decide)) sh12 fs12_12 dX7_readRent_8 ?_
  refine r_mu (muX7_readRent_2 μ) rfl ?_
  refine r_aload_n dX7_readRent_11 0 rfl ?_
  refine r_getI fX7_36 (hG.lt (by decide)) sh12 fs12_12 dX7_readRent_12 ?_
  refine r_iconst (-1) dX7_readRent_15 rfl ?_
  refine r_icmp_eq 23 dX7_readRent_16 (by decide) (fun c1 => ?_) (fun c1 => ?_)
  · refine r_iconst 0 dX7_readRent_23 rfl ?_
    exact r_ireturn _ dX7_readRent_24 rfl rfl ⟨congrArg (fun z => some (Value.int z)) (by unfold F_X7_readRent; rw [if_pos c1]), rfl⟩
  · refine r_iconst 1 dX7_readRent_19 rfl ?_
    refine r_goto 24 dX7_readRent_20 (by decide) ?_
    exact r_ireturn _ dX7_readRent_24 rfl rfl ⟨congrArg (fun z => some (Value.int z)) (by unfold F_X7_readRent; rw [if_neg c1]), rfl⟩
def muX7_readRope_1 (μ : Mem) : Mem := (M_X8_takeNumber 1 9 μ)
def muX7_readRope_2 (μ : Mem) : Mem := (upm (muX7_readRope_1 μ) 12 13 (F_X8_takeNumber 1 9 μ))
def F_X7_readRope  (μ : Mem) : Int32 := (if ((muX7_readRope_2 μ) 12 13) = (-1) then 0 else 1)
def M_X7_readRope  (μ : Mem) : Mem := (muX7_readRope_2 μ)
def P_X7_readRope  (μ : Mem) : Prop := (P_X8_takeNumber 1 9 μ)
theorem bo_X7_readRope  (μ : Mem) : F_X7_readRope  μ = 0 ∨ F_X7_readRope  μ = 1 := by
  unfold F_X7_readRope
  split
  · exact Or.inl rfl
  · exact Or.inr rfl
set_option maxRecDepth 20000 in
set_option maxHeartbeats 2000000 in
theorem ok_X7_readRope {G : SG} (hG : GK 57 G)  (μ : Mem) (hP : P_X7_readRope  μ) : OkF G mX7_readRope [.ref (ga G 12), .ref (ga G 1)] μ (some (.int (F_X7_readRope  μ))) (M_X7_readRope  μ) := by
  refine okF_of hG rfl rfl (Nat.le_of_ble_eq_true rfl) ?_
  unfold P_X7_readRope at hP
  refine r_aload_n dX7_readRope_0 0 rfl ?_
  refine r_aload_n dX7_readRope_1 1 rfl ?_
  refine r_iconst 1 dX7_readRope_2 rfl ?_
  refine r_bipush 9 dX7_readRope_3 rfl ?_
  have hs1 := hP
  refine r_cvI (ok_X8_takeNumber hG 1 9 μ hs1) lX7_117 (hG.lt (by decide)) sh1 ⟨_, _, rfl⟩ dX7_readRope_5 (by decide) (Nat.le_of_ble_eq_true rfl) rfl (Nat.le_of_ble_eq_true rfl) ?_
  refine r_mu (muX7_readRope_1 μ) rfl ?_
  refine r_put fiX7_40 (hG.lt (by decide)) sh12 fs12_13 dX7_readRope_8 ?_
  refine r_mu (muX7_readRope_2 μ) rfl ?_
  refine r_aload_n dX7_readRope_11 0 rfl ?_
  refine r_getI fX7_40 (hG.lt (by decide)) sh12 fs12_13 dX7_readRope_12 ?_
  refine r_iconst (-1) dX7_readRope_15 rfl ?_
  refine r_icmp_eq 23 dX7_readRope_16 (by decide) (fun c1 => ?_) (fun c1 => ?_)
  · refine r_iconst 0 dX7_readRope_23 rfl ?_
    exact r_ireturn _ dX7_readRope_24 rfl rfl ⟨congrArg (fun z => some (Value.int z)) (by unfold F_X7_readRope; rw [if_pos c1]), rfl⟩
  · refine r_iconst 1 dX7_readRope_19 rfl ?_
    refine r_goto 24 dX7_readRope_20 (by decide) ?_
    exact r_ireturn _ dX7_readRope_24 rfl rfl ⟨congrArg (fun z => some (Value.int z)) (by unfold F_X7_readRope; rw [if_neg c1]), rfl⟩
def muX7_readThing_1 (μ : Mem) : Mem := (M_X7_readInto 14 10 (μ 12 9) 0 ((μ 12 8) - 1) μ)
def muX7_readThing_2 (μ : Mem) : Mem := (M_X7_readInto 15 10 ((muX7_readThing_1 μ) 12 9) 1 9 (muX7_readThing_1 μ))
def muX7_readThing_3 (μ : Mem) : Mem := (M_X7_readInto 16 10 ((muX7_readThing_2 μ) 12 9) 1 20 (muX7_readThing_2 μ))
def muX7_readThing_4 (μ : Mem) : Mem := (M_X7_readInto 17 10 ((muX7_readThing_3 μ) 12 9) 0 40 (muX7_readThing_3 μ))
def VX7_readThing_5 (μ : Mem) : Int32 := (if (F_X7_readInto 14 10 (μ 12 9) 0 ((μ 12 8) - 1) μ) = 0 then 0 else (if (F_X7_readInto 15 10 ((muX7_readThing_1 μ) 12 9) 1 9 (muX7_readThing_1 μ)) = 0 then 0 else (if (F_X7_readInto 16 10 ((muX7_readThing_2 μ) 12 9) 1 20 (muX7_readThing_2 μ)) = 0 then 0 else (if (F_X7_readInto 17 10 ((muX7_readThing_3 μ) 12 9) 0 40 (muX7_readThing_3 μ)) = 0 then 0 else 1))))
theorem bo_VX7_readThing_5 (μ : Mem) : (VX7_readThing_5 μ) = 0 ∨ (VX7_readThing_5 μ) = 1 := by
  unfold VX7_readThing_5
  split
  · exact Or.inl rfl
  · split
    · exact Or.inl rfl
    · split
      · exact Or.inl rfl
      · split
        · exact Or.inl rfl
        · exact Or.inr rfl
def VX7_readThing_6 (μ : Mem) : Mem := (if (F_X7_readInto 14 10 (μ 12 9) 0 ((μ 12 8) - 1) μ) = 0 then (muX7_readThing_1 μ) else (if (F_X7_readInto 15 10 ((muX7_readThing_1 μ) 12 9) 1 9 (muX7_readThing_1 μ)) = 0 then (muX7_readThing_2 μ) else (if (F_X7_readInto 16 10 ((muX7_readThing_2 μ) 12 9) 1 20 (muX7_readThing_2 μ)) = 0 then (muX7_readThing_3 μ) else (muX7_readThing_4 μ))))
def muX7_readThing_7 (μ : Mem) : Mem := (upm (VX7_readThing_6 μ) 12 9 (((VX7_readThing_6 μ) 12 9) + 1))
def F_X7_readThing  (μ : Mem) : Int32 := (VX7_readThing_5 μ)
def M_X7_readThing  (μ : Mem) : Mem := (muX7_readThing_7 μ)
def P_X7_readThing  (μ : Mem) : Prop := ((P_X7_readInto 14 10 (μ 12 9) 0 ((μ 12 8) - 1) μ) ∧ (((F_X7_readInto 14 10 (μ 12 9) 0 ((μ 12 8) - 1) μ) = 0 → True) ∧ (¬ (F_X7_readInto 14 10 (μ 12 9) 0 ((μ 12 8) - 1) μ) = 0 → ((P_X7_readInto 15 10 ((muX7_readThing_1 μ) 12 9) 1 9 (muX7_readThing_1 μ)) ∧ (((F_X7_readInto 15 10 ((muX7_readThing_1 μ) 12 9) 1 9 (muX7_readThing_1 μ)) = 0 → True) ∧ (¬ (F_X7_readInto 15 10 ((muX7_readThing_1 μ) 12 9) 1 9 (muX7_readThing_1 μ)) = 0 → ((P_X7_readInto 16 10 ((muX7_readThing_2 μ) 12 9) 1 20 (muX7_readThing_2 μ)) ∧ (((F_X7_readInto 16 10 ((muX7_readThing_2 μ) 12 9) 1 20 (muX7_readThing_2 μ)) = 0 → True) ∧ (¬ (F_X7_readInto 16 10 ((muX7_readThing_2 μ) 12 9) 1 20 (muX7_readThing_2 μ)) = 0 → (P_X7_readInto 17 10 ((muX7_readThing_3 μ) 12 9) 0 40 (muX7_readThing_3 μ)))))))))))
theorem bo_X7_readThing  (μ : Mem) : F_X7_readThing  μ = 0 ∨ F_X7_readThing  μ = 1 := by
  unfold F_X7_readThing
  exact (bo_VX7_readThing_5 μ)
set_option maxRecDepth 20000 in
set_option maxHeartbeats 2000000 in
theorem ok_X7_readThing {G : SG} (hG : GK 57 G)  (μ : Mem) (hP : P_X7_readThing  μ) : OkF G mX7_readThing [.ref (ga G 12), .ref (ga G 1)] μ (some (.int (F_X7_readThing  μ))) (M_X7_readThing  μ) := by
  refine okF_of hG rfl rfl (Nat.le_of_ble_eq_true rfl) ?_
  unfold P_X7_readThing at hP
  refine r_aload_n dX7_readThing_0 0 rfl ?_
  refine r_aload_n dX7_readThing_1 1 rfl ?_
  refine r_aload_n dX7_readThing_2 0 rfl ?_
  refine r_getR 14 fX7_15 (hG.lt (by decide)) sh12 fs12_1 dX7_readThing_3 ?_
  refine r_aload_n dX7_readThing_6 0 rfl ?_
  refine r_getI fX7_50 (hG.lt (by decide)) sh12 fs12_9 dX7_readThing_7 ?_
  refine r_iconst 0 dX7_readThing_10 rfl ?_
  refine r_aload_n dX7_readThing_11 0 rfl ?_
  refine r_getI fX7_47 (hG.lt (by decide)) sh12 fs12_8 dX7_readThing_12 ?_
  refine r_iconst 1 dX7_readThing_15 rfl ?_
  refine r_isub dX7_readThing_16 ?_
  have hs1 := hP.1
  replace hP := hP.2
  refine r_cvI (ok_X7_readInto hG (hG.lt (by decide)) sh14 (μ 12 9) 0 ((μ 12 8) - 1) μ hs1) lX7_125 (hG.lt (by decide)) sh12 ⟨_, _, rfl⟩ dX7_readThing_17 (by decide) (Nat.le_of_ble_eq_true rfl) rfl (Nat.le_of_ble_eq_true rfl) ?_
  refine r_mu (muX7_readThing_1 μ) rfl ?_
  refine r_join 85 [(0, .ref (ga G 12)), (1, .ref (ga G 1))] [.int (VX7_readThing_5 μ)] (VX7_readThing_6 μ) ?_ (fun hJ => ?_)
  · refine r_istore_n [(2, _), (0, _), (1, _)] dX7_readThing_85 (Nat.le_of_ble_eq_true rfl) rfl ?_
    refine r_aload_n dX7_readThing_86 1 rfl ?_
    refine r_dup dX7_readThing_87 rfl ?_
    refine r_getI fX7_50 (hG.lt (by decide)) sh12 fs12_9 dX7_readThing_88 ?_
    refine r_iconst 1 dX7_readThing_91 rfl ?_
    refine r_iadd dX7_readThing_92 ?_
    refine r_put fiX7_50 (hG.lt (by decide)) sh12 fs12_9 dX7_readThing_93 ?_
    refine r_mu (muX7_readThing_7 μ) rfl ?_
    refine r_iload_n dX7_readThing_96 0 rfl ?_
    exact r_ireturn _ dX7_readThing_97 rfl (nb01 ((bo_VX7_readThing_5 μ))) ⟨congrArg (fun z => some (Value.int z)) (rfl), rfl⟩
  · refine r_if_eq 84 dX7_readThing_20 (by decide) (fun c1 => ?_) (fun c1 => ?_)
    · replace hP := hP.1 c1
      refine r_iconst 0 dX7_readThing_84 rfl ?_
      have e : (VX7_readThing_5 μ) = 0 := by unfold VX7_readThing_5; rw [if_pos c1]
      rw [e] at hJ
      clear e
      have e : (VX7_readThing_6 μ) = (muX7_readThing_1 μ) := by unfold VX7_readThing_6; rw [if_pos c1]
      rw [e] at hJ
      exact r_sub [0, 1] rfl hJ
    · replace hP := hP.2 c1
      refine r_aload_n dX7_readThing_23 0 rfl ?_
      refine r_aload_n dX7_readThing_24 1 rfl ?_
      refine r_aload_n dX7_readThing_25 0 rfl ?_
      refine r_getR 15 fX7_18 (hG.lt (by decide)) sh12 fs12_2 dX7_readThing_26 ?_
      refine r_aload_n dX7_readThing_29 0 rfl ?_
      refine r_getI fX7_50 (hG.lt (by decide)) sh12 fs12_9 dX7_readThing_30 ?_
      refine r_iconst 1 dX7_readThing_33 rfl ?_
      refine r_bipush 9 dX7_readThing_34 rfl ?_
      have hs2 := hP.1
      replace hP := hP.2
      refine r_cvI (ok_X7_readInto hG (hG.lt (by decide)) sh15 ((muX7_readThing_1 μ) 12 9) 1 9 (muX7_readThing_1 μ) hs2) lX7_125 (hG.lt (by decide)) sh12 ⟨_, _, rfl⟩ dX7_readThing_36 (by decide) (Nat.le_of_ble_eq_true rfl) rfl (Nat.le_of_ble_eq_true rfl) ?_
      refine r_mu (muX7_readThing_2 μ) rfl ?_
      refine r_if_eq 84 dX7_readThing_39 (by decide) (fun c2 => ?_) (fun c2 => ?_)
      · replace hP := hP.1 c2
        refine r_iconst 0 dX7_readThing_84 rfl ?_
        have e : (VX7_readThing_5 μ) = 0 := by unfold VX7_readThing_5; rw [if_neg c1, if_pos c2]
        rw [e] at hJ
        clear e
        have e : (VX7_readThing_6 μ) = (muX7_readThing_2 μ) := by unfold VX7_readThing_6; rw [if_neg c1, if_pos c2]
        rw [e] at hJ
        exact r_sub [0, 1] rfl hJ
      · replace hP := hP.2 c2
        refine r_aload_n dX7_readThing_42 0 rfl ?_
        refine r_aload_n dX7_readThing_43 1 rfl ?_
        refine r_aload_n dX7_readThing_44 0 rfl ?_
        refine r_getR 16 fX7_21 (hG.lt (by decide)) sh12 fs12_3 dX7_readThing_45 ?_
        refine r_aload_n dX7_readThing_48 0 rfl ?_
        refine r_getI fX7_50 (hG.lt (by decide)) sh12 fs12_9 dX7_readThing_49 ?_
        refine r_iconst 1 dX7_readThing_52 rfl ?_
        refine r_bipush 20 dX7_readThing_53 rfl ?_
        have hs3 := hP.1
        replace hP := hP.2
        refine r_cvI (ok_X7_readInto hG (hG.lt (by decide)) sh16 ((muX7_readThing_2 μ) 12 9) 1 20 (muX7_readThing_2 μ) hs3) lX7_125 (hG.lt (by decide)) sh12 ⟨_, _, rfl⟩ dX7_readThing_55 (by decide) (Nat.le_of_ble_eq_true rfl) rfl (Nat.le_of_ble_eq_true rfl) ?_
        refine r_mu (muX7_readThing_3 μ) rfl ?_
        refine r_if_eq 84 dX7_readThing_58 (by decide) (fun c3 => ?_) (fun c3 => ?_)
        · replace hP := hP.1 c3
          refine r_iconst 0 dX7_readThing_84 rfl ?_
          have e : (VX7_readThing_5 μ) = 0 := by unfold VX7_readThing_5; rw [if_neg c1, if_neg c2, if_pos c3]
          rw [e] at hJ
          clear e
          have e : (VX7_readThing_6 μ) = (muX7_readThing_3 μ) := by unfold VX7_readThing_6; rw [if_neg c1, if_neg c2, if_pos c3]
          rw [e] at hJ
          exact r_sub [0, 1] rfl hJ
        · replace hP := hP.2 c3
          refine r_aload_n dX7_readThing_61 0 rfl ?_
          refine r_aload_n dX7_readThing_62 1 rfl ?_
          refine r_aload_n dX7_readThing_63 0 rfl ?_
          refine r_getR 17 fX7_24 (hG.lt (by decide)) sh12 fs12_4 dX7_readThing_64 ?_
          refine r_aload_n dX7_readThing_67 0 rfl ?_
          refine r_getI fX7_50 (hG.lt (by decide)) sh12 fs12_9 dX7_readThing_68 ?_
          refine r_iconst 0 dX7_readThing_71 rfl ?_
          refine r_bipush 40 dX7_readThing_72 rfl ?_
          have hs4 := hP
          refine r_cvI (ok_X7_readInto hG (hG.lt (by decide)) sh17 ((muX7_readThing_3 μ) 12 9) 0 40 (muX7_readThing_3 μ) hs4) lX7_125 (hG.lt (by decide)) sh12 ⟨_, _, rfl⟩ dX7_readThing_74 (by decide) (Nat.le_of_ble_eq_true rfl) rfl (Nat.le_of_ble_eq_true rfl) ?_
          refine r_mu (muX7_readThing_4 μ) rfl ?_
          refine r_if_eq 84 dX7_readThing_77 (by decide) (fun c4 => ?_) (fun c4 => ?_)
          · refine r_iconst 0 dX7_readThing_84 rfl ?_
            have e : (VX7_readThing_5 μ) = 0 := by unfold VX7_readThing_5; rw [if_neg c1, if_neg c2, if_neg c3, if_pos c4]
            rw [e] at hJ
            clear e
            have e : (VX7_readThing_6 μ) = (muX7_readThing_4 μ) := by unfold VX7_readThing_6; rw [if_neg c1, if_neg c2, if_neg c3]
            rw [e] at hJ
            exact r_sub [0, 1] rfl hJ
          · refine r_iconst 1 dX7_readThing_80 rfl ?_
            refine r_goto 85 dX7_readThing_81 (by decide) ?_
            have e : (VX7_readThing_5 μ) = 1 := by unfold VX7_readThing_5; rw [if_neg c1, if_neg c2, if_neg c3, if_neg c4]
            rw [e] at hJ
            clear e
            have e : (VX7_readThing_6 μ) = (muX7_readThing_4 μ) := by unfold VX7_readThing_6; rw [if_neg c1, if_neg c2, if_neg c3]
            rw [e] at hJ
            exact r_sub [0, 1] rfl hJ
def muX7_readTide_1 (μ : Mem) : Mem := (M_X7_readInto 18 12 (μ 12 10) 0 60 μ)
def muX7_readTide_2 (μ : Mem) : Mem := (upm (muX7_readTide_1 μ) 12 10 (((muX7_readTide_1 μ) 12 10) + 1))
def F_X7_readTide  (μ : Mem) : Int32 := (F_X7_readInto 18 12 (μ 12 10) 0 60 μ)
def M_X7_readTide  (μ : Mem) : Mem := (muX7_readTide_2 μ)
def P_X7_readTide  (μ : Mem) : Prop := (P_X7_readInto 18 12 (μ 12 10) 0 60 μ)
theorem bo_X7_readTide  (μ : Mem) : F_X7_readTide  μ = 0 ∨ F_X7_readTide  μ = 1 := by
  unfold F_X7_readTide
  exact (bo_X7_readInto 18 12 (μ 12 10) 0 60 μ)
set_option maxRecDepth 20000 in
set_option maxHeartbeats 2000000 in
theorem ok_X7_readTide {G : SG} (hG : GK 57 G)  (μ : Mem) (hP : P_X7_readTide  μ) : OkF G mX7_readTide [.ref (ga G 12), .ref (ga G 1)] μ (some (.int (F_X7_readTide  μ))) (M_X7_readTide  μ) := by
  refine okF_of hG rfl rfl (Nat.le_of_ble_eq_true rfl) ?_
  unfold P_X7_readTide at hP
  refine r_aload_n dX7_readTide_0 0 rfl ?_
  refine r_aload_n dX7_readTide_1 1 rfl ?_
  refine r_aload_n dX7_readTide_2 0 rfl ?_
  refine r_getR 18 fX7_27 (hG.lt (by decide)) sh12 fs12_5 dX7_readTide_3 ?_
  refine r_aload_n dX7_readTide_6 0 rfl ?_
  refine r_getI fX7_53 (hG.lt (by decide)) sh12 fs12_10 dX7_readTide_7 ?_
  refine r_iconst 0 dX7_readTide_10 rfl ?_
  refine r_bipush 60 dX7_readTide_11 rfl ?_
  have hs1 := hP
  refine r_cvI (ok_X7_readInto hG (hG.lt (by decide)) sh18 (μ 12 10) 0 60 μ hs1) lX7_125 (hG.lt (by decide)) sh12 ⟨_, _, rfl⟩ dX7_readTide_13 (by decide) (Nat.le_of_ble_eq_true rfl) rfl (Nat.le_of_ble_eq_true rfl) ?_
  refine r_mu (muX7_readTide_1 μ) rfl ?_
  refine r_istore_n [(2, _), (0, _), (1, _)] dX7_readTide_16 (Nat.le_of_ble_eq_true rfl) rfl ?_
  refine r_aload_n dX7_readTide_17 1 rfl ?_
  refine r_dup dX7_readTide_18 rfl ?_
  refine r_getI fX7_53 (hG.lt (by decide)) sh12 fs12_10 dX7_readTide_19 ?_
  refine r_iconst 1 dX7_readTide_22 rfl ?_
  refine r_iadd dX7_readTide_23 ?_
  refine r_put fiX7_53 (hG.lt (by decide)) sh12 fs12_10 dX7_readTide_24 ?_
  refine r_mu (muX7_readTide_2 μ) rfl ?_
  refine r_iload_n dX7_readTide_27 0 rfl ?_
  exact r_ireturn _ dX7_readTide_28 rfl (nb01 ((bo_X7_readInto 18 12 (μ 12 10) 0 60 μ))) ⟨congrArg (fun z => some (Value.int z)) (rfl), rfl⟩
def muX7_readClause_1 (p2 : Int32) (μ : Mem) : Mem := (M_X8_failToken 1 μ)
def muX7_readClause_2 (p2 : Int32) (μ : Mem) : Mem := (M_X7_readRope  μ)
def muX7_readClause_3 (p2 : Int32) (μ : Mem) : Mem := (M_X8_failToken 3 μ)
def muX7_readClause_4 (p2 : Int32) (μ : Mem) : Mem := (M_X7_readRent  μ)
def muX7_readClause_5 (p2 : Int32) (μ : Mem) : Mem := (M_X8_failToken 3 μ)
def muX7_readClause_6 (p2 : Int32) (μ : Mem) : Mem := (M_X8_failToken 3 μ)
def muX7_readClause_7 (p2 : Int32) (μ : Mem) : Mem := (M_X7_readFind  μ)
def muX7_readClause_8 (p2 : Int32) (μ : Mem) : Mem := (M_X8_failToken 3 μ)
def muX7_readClause_9 (p2 : Int32) (μ : Mem) : Mem := (M_X8_failToken 3 μ)
def muX7_readClause_10 (p2 : Int32) (μ : Mem) : Mem := (M_X7_readTide  μ)
def muX7_readClause_11 (p2 : Int32) (μ : Mem) : Mem := (M_X8_failToken 3 μ)
def muX7_readClause_12 (p2 : Int32) (μ : Mem) : Mem := (M_X8_failToken 3 μ)
def muX7_readClause_13 (p2 : Int32) (μ : Mem) : Mem := (M_X7_readThing  μ)
def muX7_readClause_14 (p2 : Int32) (μ : Mem) : Mem := (M_X8_failToken 3 μ)
def muX7_readClause_15 (p2 : Int32) (μ : Mem) : Mem := (M_X8_failToken 3 μ)
def muX7_readClause_16 (p2 : Int32) (μ : Mem) : Mem := (M_X7_readHouse  μ)
def muX7_readClause_17 (p2 : Int32) (μ : Mem) : Mem := (M_X8_failToken 3 μ)
def F_X7_readClause (p2 : Int32) (μ : Mem) : Int32 := (if (F_X8_isWord 1 μ) = 0 then (if (F_X8_isWord 2 μ) = 0 then (if (F_X8_isWord 3 μ) = 0 then (if (F_X8_isWord 4 μ) = 0 then (if (F_X8_isWord 5 μ) = 0 then (if (F_X8_isWord 6 μ) = 0 then (F_X8_failToken 1 μ) else (if p2 = 0 then (F_X7_readRope  μ) else (F_X8_failToken 3 μ))) else (if p2 = 0 then (F_X7_readRent  μ) else (F_X8_failToken 3 μ))) else (if p2 ≠ 0 then (F_X8_failToken 3 μ) else (if (μ 12 11) ≠ 6 then (F_X7_readFind  μ) else (F_X8_failToken 3 μ)))) else (if p2 ≠ 0 then (F_X8_failToken 3 μ) else (if (μ 12 10) ≠ 12 then (F_X7_readTide  μ) else (F_X8_failToken 3 μ)))) else (if p2 ≠ 0 then (F_X8_failToken 3 μ) else (if (μ 12 9) ≠ 10 then (F_X7_readThing  μ) else (F_X8_failToken 3 μ)))) else (if p2 ≠ 0 then (F_X8_failToken 3 μ) else (if (μ 12 8) ≠ 6 then (F_X7_readHouse  μ) else (F_X8_failToken 3 μ))))
def M_X7_readClause (p2 : Int32) (μ : Mem) : Mem := (if (F_X8_isWord 1 μ) = 0 then (if (F_X8_isWord 2 μ) = 0 then (if (F_X8_isWord 3 μ) = 0 then (if (F_X8_isWord 4 μ) = 0 then (if (F_X8_isWord 5 μ) = 0 then (if (F_X8_isWord 6 μ) = 0 then (muX7_readClause_1 p2 μ) else (if p2 = 0 then (muX7_readClause_2 p2 μ) else (muX7_readClause_3 p2 μ))) else (if p2 = 0 then (muX7_readClause_4 p2 μ) else (muX7_readClause_5 p2 μ))) else (if p2 ≠ 0 then (muX7_readClause_6 p2 μ) else (if (μ 12 11) ≠ 6 then (muX7_readClause_7 p2 μ) else (muX7_readClause_8 p2 μ)))) else (if p2 ≠ 0 then (muX7_readClause_9 p2 μ) else (if (μ 12 10) ≠ 12 then (muX7_readClause_10 p2 μ) else (muX7_readClause_11 p2 μ)))) else (if p2 ≠ 0 then (muX7_readClause_12 p2 μ) else (if (μ 12 9) ≠ 10 then (muX7_readClause_13 p2 μ) else (muX7_readClause_14 p2 μ)))) else (if p2 ≠ 0 then (muX7_readClause_15 p2 μ) else (if (μ 12 8) ≠ 6 then (muX7_readClause_16 p2 μ) else (muX7_readClause_17 p2 μ))))
def P_X7_readClause (p2 : Int32) (μ : Mem) : Prop := ((P_X8_isWord 1 μ) ∧ (((F_X8_isWord 1 μ) = 0 → ((P_X8_isWord 2 μ) ∧ (((F_X8_isWord 2 μ) = 0 → ((P_X8_isWord 3 μ) ∧ (((F_X8_isWord 3 μ) = 0 → ((P_X8_isWord 4 μ) ∧ (((F_X8_isWord 4 μ) = 0 → ((P_X8_isWord 5 μ) ∧ (((F_X8_isWord 5 μ) = 0 → ((P_X8_isWord 6 μ) ∧ (((F_X8_isWord 6 μ) = 0 → True) ∧ (¬ (F_X8_isWord 6 μ) = 0 → ((p2 = 0 → (P_X7_readRope  μ)) ∧ (¬ p2 = 0 → True)))))) ∧ (¬ (F_X8_isWord 5 μ) = 0 → ((p2 = 0 → (P_X7_readRent  μ)) ∧ (¬ p2 = 0 → True)))))) ∧ (¬ (F_X8_isWord 4 μ) = 0 → ((p2 ≠ 0 → True) ∧ (p2 = 0 → (((μ 12 11) ≠ 6 → (P_X7_readFind  μ)) ∧ ((μ 12 11) = 6 → True)))))))) ∧ (¬ (F_X8_isWord 3 μ) = 0 → ((p2 ≠ 0 → True) ∧ (p2 = 0 → (((μ 12 10) ≠ 12 → (P_X7_readTide  μ)) ∧ ((μ 12 10) = 12 → True)))))))) ∧ (¬ (F_X8_isWord 2 μ) = 0 → ((p2 ≠ 0 → True) ∧ (p2 = 0 → (((μ 12 9) ≠ 10 → (P_X7_readThing  μ)) ∧ ((μ 12 9) = 10 → True)))))))) ∧ (¬ (F_X8_isWord 1 μ) = 0 → ((p2 ≠ 0 → True) ∧ (p2 = 0 → (((μ 12 8) ≠ 6 → (P_X7_readHouse  μ)) ∧ ((μ 12 8) = 6 → True)))))))
theorem bo_X7_readClause (p2 : Int32) (μ : Mem) : F_X7_readClause p2 μ = 0 ∨ F_X7_readClause p2 μ = 1 := by
  unfold F_X7_readClause
  split
  · split
    · split
      · split
        · split
          · split
            · exact (bo_X8_failToken 1 μ)
            · split
              · exact (bo_X7_readRope  μ)
              · exact (bo_X8_failToken 3 μ)
          · split
            · exact (bo_X7_readRent  μ)
            · exact (bo_X8_failToken 3 μ)
        · split
          · exact (bo_X8_failToken 3 μ)
          · split
            · exact (bo_X7_readFind  μ)
            · exact (bo_X8_failToken 3 μ)
      · split
        · exact (bo_X8_failToken 3 μ)
        · split
          · exact (bo_X7_readTide  μ)
          · exact (bo_X8_failToken 3 μ)
    · split
      · exact (bo_X8_failToken 3 μ)
      · split
        · exact (bo_X7_readThing  μ)
        · exact (bo_X8_failToken 3 μ)
  · split
    · exact (bo_X8_failToken 3 μ)
    · split
      · exact (bo_X7_readHouse  μ)
      · exact (bo_X8_failToken 3 μ)
set_option maxRecDepth 20000 in
set_option maxHeartbeats 2000000 in
theorem ok_X7_readClause {G : SG} (hG : GK 57 G) (p2 : Int32) (μ : Mem) (hP : P_X7_readClause p2 μ) : OkF G mX7_readClause [.ref (ga G 12), .ref (ga G 1), .int p2] μ (some (.int (F_X7_readClause p2 μ))) (M_X7_readClause p2 μ) := by
  refine okF_of hG rfl rfl (Nat.le_of_ble_eq_true rfl) ?_
  unfold P_X7_readClause at hP
  refine r_aload_n dX7_readClause_0 1 rfl ?_
  refine r_ldcS (k := 1) (tx := "house") (by decide) dX7_readClause_1 ?_
  have hs1 := hP.1
  replace hP := hP.2
  refine r_cvI (ok_X8_isWord hG (show 1 < nStr by decide) μ hs1) lX7_82 (hG.lt (by decide)) sh1 ⟨_, _, rfl⟩ dX7_readClause_3 (by decide) (Nat.le_of_ble_eq_true rfl) rfl (Nat.le_of_ble_eq_true rfl) ?_
  refine r_if_eq 36 dX7_readClause_6 (by decide) (fun c1 => ?_) (fun c1 => ?_)
  · replace hP := hP.1 c1
    refine r_aload_n dX7_readClause_36 1 rfl ?_
    refine r_ldcS (k := 2) (tx := "thing") (by decide) dX7_readClause_37 ?_
    have hs2 := hP.1
    replace hP := hP.2
    refine r_cvI (ok_X8_isWord hG (show 2 < nStr by decide) μ hs2) lX7_82 (hG.lt (by decide)) sh1 ⟨_, _, rfl⟩ dX7_readClause_39 (by decide) (Nat.le_of_ble_eq_true rfl) rfl (Nat.le_of_ble_eq_true rfl) ?_
    refine r_if_eq 72 dX7_readClause_42 (by decide) (fun c2 => ?_) (fun c2 => ?_)
    · replace hP := hP.1 c2
      refine r_aload_n dX7_readClause_72 1 rfl ?_
      refine r_ldcS (k := 3) (tx := "tide") (by decide) dX7_readClause_73 ?_
      have hs3 := hP.1
      replace hP := hP.2
      refine r_cvI (ok_X8_isWord hG (show 3 < nStr by decide) μ hs3) lX7_82 (hG.lt (by decide)) sh1 ⟨_, _, rfl⟩ dX7_readClause_75 (by decide) (Nat.le_of_ble_eq_true rfl) rfl (Nat.le_of_ble_eq_true rfl) ?_
      refine r_if_eq 108 dX7_readClause_78 (by decide) (fun c3 => ?_) (fun c3 => ?_)
      · replace hP := hP.1 c3
        refine r_aload_n dX7_readClause_108 1 rfl ?_
        refine r_ldcS (k := 4) (tx := "find") (by decide) dX7_readClause_109 ?_
        have hs4 := hP.1
        replace hP := hP.2
        refine r_cvI (ok_X8_isWord hG (show 4 < nStr by decide) μ hs4) lX7_82 (hG.lt (by decide)) sh1 ⟨_, _, rfl⟩ dX7_readClause_111 (by decide) (Nat.le_of_ble_eq_true rfl) rfl (Nat.le_of_ble_eq_true rfl) ?_
        refine r_if_eq 144 dX7_readClause_114 (by decide) (fun c4 => ?_) (fun c4 => ?_)
        · replace hP := hP.1 c4
          refine r_aload_n dX7_readClause_144 1 rfl ?_
          refine r_ldcS (k := 5) (tx := "rent") (by decide) dX7_readClause_145 ?_
          have hs5 := hP.1
          replace hP := hP.2
          refine r_cvI (ok_X8_isWord hG (show 5 < nStr by decide) μ hs5) lX7_82 (hG.lt (by decide)) sh1 ⟨_, _, rfl⟩ dX7_readClause_147 (by decide) (Nat.le_of_ble_eq_true rfl) rfl (Nat.le_of_ble_eq_true rfl) ?_
          refine r_if_eq 171 dX7_readClause_150 (by decide) (fun c5 => ?_) (fun c5 => ?_)
          · replace hP := hP.1 c5
            refine r_aload_n dX7_readClause_171 1 rfl ?_
            refine r_ldcS (k := 6) (tx := "rope") (by decide) dX7_readClause_172 ?_
            have hs6 := hP.1
            replace hP := hP.2
            refine r_cvI (ok_X8_isWord hG (show 6 < nStr by decide) μ hs6) lX7_82 (hG.lt (by decide)) sh1 ⟨_, _, rfl⟩ dX7_readClause_174 (by decide) (Nat.le_of_ble_eq_true rfl) rfl (Nat.le_of_ble_eq_true rfl) ?_
            refine r_if_eq 198 dX7_readClause_177 (by decide) (fun c6 => ?_) (fun c6 => ?_)
            · replace hP := hP.1 c6
              refine r_aload_n dX7_readClause_198 1 rfl ?_
              refine r_iconst 1 dX7_readClause_199 rfl ?_
              refine r_cvI (ok_X8_failToken hG 1 μ) lX7_86 (hG.lt (by decide)) sh1 ⟨_, _, rfl⟩ dX7_readClause_200 (by decide) (Nat.le_of_ble_eq_true rfl) rfl (Nat.le_of_ble_eq_true rfl) ?_
              refine r_mu (muX7_readClause_1 p2 μ) rfl ?_
              exact r_ireturn _ dX7_readClause_203 rfl (nb01 ((bo_X8_failToken 1 μ))) ⟨congrArg (fun z => some (Value.int z)) (by unfold F_X7_readClause; rw [if_pos c1, if_pos c2, if_pos c3, if_pos c4, if_pos c5, if_pos c6]), by unfold M_X7_readClause; rw [if_pos c1, if_pos c2, if_pos c3, if_pos c4, if_pos c5, if_pos c6]⟩
            · replace hP := hP.2 c6
              refine r_iload_n dX7_readClause_180 2 rfl ?_
              refine r_if_eq 192 dX7_readClause_181 (by decide) (fun c7 => ?_) (fun c7 => ?_)
              · replace hP := hP.1 c7
                refine r_aload_n dX7_readClause_192 0 rfl ?_
                refine r_aload_n dX7_readClause_193 1 rfl ?_
                have hs7 := hP
                refine r_cvI (ok_X7_readRope hG  μ hs7) lX7_114 (hG.lt (by decide)) sh12 ⟨_, _, rfl⟩ dX7_readClause_194 (by decide) (Nat.le_of_ble_eq_true rfl) rfl (Nat.le_of_ble_eq_true rfl) ?_
                refine r_mu (muX7_readClause_2 p2 μ) rfl ?_
                exact r_ireturn _ dX7_readClause_197 rfl (nb01 ((bo_X7_readRope  μ))) ⟨congrArg (fun z => some (Value.int z)) (by unfold F_X7_readClause; rw [if_pos c1, if_pos c2, if_pos c3, if_pos c4, if_pos c5, if_neg c6, if_pos c7]), by unfold M_X7_readClause; rw [if_pos c1, if_pos c2, if_pos c3, if_pos c4, if_pos c5, if_neg c6, if_pos c7]⟩
              · replace hP := hP.2 c7
                refine r_aload_n dX7_readClause_184 1 rfl ?_
                refine r_iconst 3 dX7_readClause_185 rfl ?_
                refine r_cvI (ok_X8_failToken hG 3 μ) lX7_86 (hG.lt (by decide)) sh1 ⟨_, _, rfl⟩ dX7_readClause_186 (by decide) (Nat.le_of_ble_eq_true rfl) rfl (Nat.le_of_ble_eq_true rfl) ?_
                refine r_mu (muX7_readClause_3 p2 μ) rfl ?_
                refine r_goto 197 dX7_readClause_189 (by decide) ?_
                exact r_ireturn _ dX7_readClause_197 rfl (nb01 ((bo_X8_failToken 3 μ))) ⟨congrArg (fun z => some (Value.int z)) (by unfold F_X7_readClause; rw [if_pos c1, if_pos c2, if_pos c3, if_pos c4, if_pos c5, if_neg c6, if_neg c7]), by unfold M_X7_readClause; rw [if_pos c1, if_pos c2, if_pos c3, if_pos c4, if_pos c5, if_neg c6, if_neg c7]⟩
          · replace hP := hP.2 c5
            refine r_iload_n dX7_readClause_153 2 rfl ?_
            refine r_if_eq 165 dX7_readClause_154 (by decide) (fun c6 => ?_) (fun c6 => ?_)
            · replace hP := hP.1 c6
              refine r_aload_n dX7_readClause_165 0 rfl ?_
              refine r_aload_n dX7_readClause_166 1 rfl ?_
              have hs8 := hP
              refine r_cvI (ok_X7_readRent hG  μ hs8) lX7_110 (hG.lt (by decide)) sh12 ⟨_, _, rfl⟩ dX7_readClause_167 (by decide) (Nat.le_of_ble_eq_true rfl) rfl (Nat.le_of_ble_eq_true rfl) ?_
              refine r_mu (muX7_readClause_4 p2 μ) rfl ?_
              exact r_ireturn _ dX7_readClause_170 rfl (nb01 ((bo_X7_readRent  μ))) ⟨congrArg (fun z => some (Value.int z)) (by unfold F_X7_readClause; rw [if_pos c1, if_pos c2, if_pos c3, if_pos c4, if_neg c5, if_pos c6]), by unfold M_X7_readClause; rw [if_pos c1, if_pos c2, if_pos c3, if_pos c4, if_neg c5, if_pos c6]⟩
            · replace hP := hP.2 c6
              refine r_aload_n dX7_readClause_157 1 rfl ?_
              refine r_iconst 3 dX7_readClause_158 rfl ?_
              refine r_cvI (ok_X8_failToken hG 3 μ) lX7_86 (hG.lt (by decide)) sh1 ⟨_, _, rfl⟩ dX7_readClause_159 (by decide) (Nat.le_of_ble_eq_true rfl) rfl (Nat.le_of_ble_eq_true rfl) ?_
              refine r_mu (muX7_readClause_5 p2 μ) rfl ?_
              refine r_goto 170 dX7_readClause_162 (by decide) ?_
              exact r_ireturn _ dX7_readClause_170 rfl (nb01 ((bo_X8_failToken 3 μ))) ⟨congrArg (fun z => some (Value.int z)) (by unfold F_X7_readClause; rw [if_pos c1, if_pos c2, if_pos c3, if_pos c4, if_neg c5, if_neg c6]), by unfold M_X7_readClause; rw [if_pos c1, if_pos c2, if_pos c3, if_pos c4, if_neg c5, if_neg c6]⟩
        · replace hP := hP.2 c4
          refine r_iload_n dX7_readClause_117 2 rfl ?_
          refine r_if_ne 130 dX7_readClause_118 (by decide) (fun c5 => ?_) (fun c5 => ?_)
          · replace hP := hP.1 c5
            refine r_aload_n dX7_readClause_130 1 rfl ?_
            refine r_iconst 3 dX7_readClause_131 rfl ?_
            refine r_cvI (ok_X8_failToken hG 3 μ) lX7_86 (hG.lt (by decide)) sh1 ⟨_, _, rfl⟩ dX7_readClause_132 (by decide) (Nat.le_of_ble_eq_true rfl) rfl (Nat.le_of_ble_eq_true rfl) ?_
            refine r_mu (muX7_readClause_6 p2 μ) rfl ?_
            refine r_goto 143 dX7_readClause_135 (by decide) ?_
            exact r_ireturn _ dX7_readClause_143 rfl (nb01 ((bo_X8_failToken 3 μ))) ⟨congrArg (fun z => some (Value.int z)) (by unfold F_X7_readClause; rw [if_pos c1, if_pos c2, if_pos c3, if_neg c4, if_pos c5]), by unfold M_X7_readClause; rw [if_pos c1, if_pos c2, if_pos c3, if_neg c4, if_pos c5]⟩
          · replace hP := hP.2 c5
            refine r_aload_n dX7_readClause_121 0 rfl ?_
            refine r_getI fX7_56 (hG.lt (by decide)) sh12 fs12_11 dX7_readClause_122 ?_
            refine r_bipush 6 dX7_readClause_125 rfl ?_
            refine r_icmp_ne 138 dX7_readClause_127 (by decide) (fun c6 => ?_) (fun c6 => ?_)
            · replace hP := hP.1 c6
              refine r_aload_n dX7_readClause_138 0 rfl ?_
              refine r_aload_n dX7_readClause_139 1 rfl ?_
              have hs9 := hP
              refine r_cvI (ok_X7_readFind hG  μ hs9) lX7_105 (hG.lt (by decide)) sh12 ⟨_, _, rfl⟩ dX7_readClause_140 (by decide) (Nat.le_of_ble_eq_true rfl) rfl (Nat.le_of_ble_eq_true rfl) ?_
              refine r_mu (muX7_readClause_7 p2 μ) rfl ?_
              exact r_ireturn _ dX7_readClause_143 rfl (nb01 ((bo_X7_readFind  μ))) ⟨congrArg (fun z => some (Value.int z)) (by unfold F_X7_readClause; rw [if_pos c1, if_pos c2, if_pos c3, if_neg c4, if_neg (not_not_intro c5), if_pos c6]), by unfold M_X7_readClause; rw [if_pos c1, if_pos c2, if_pos c3, if_neg c4, if_neg (not_not_intro c5), if_pos c6]⟩
            · replace hP := hP.2 c6
              refine r_aload_n dX7_readClause_130 1 rfl ?_
              refine r_iconst 3 dX7_readClause_131 rfl ?_
              refine r_cvI (ok_X8_failToken hG 3 μ) lX7_86 (hG.lt (by decide)) sh1 ⟨_, _, rfl⟩ dX7_readClause_132 (by decide) (Nat.le_of_ble_eq_true rfl) rfl (Nat.le_of_ble_eq_true rfl) ?_
              refine r_mu (muX7_readClause_8 p2 μ) rfl ?_
              refine r_goto 143 dX7_readClause_135 (by decide) ?_
              exact r_ireturn _ dX7_readClause_143 rfl (nb01 ((bo_X8_failToken 3 μ))) ⟨congrArg (fun z => some (Value.int z)) (by unfold F_X7_readClause; rw [if_pos c1, if_pos c2, if_pos c3, if_neg c4, if_neg (not_not_intro c5), if_neg (not_not_intro c6)]), by unfold M_X7_readClause; rw [if_pos c1, if_pos c2, if_pos c3, if_neg c4, if_neg (not_not_intro c5), if_neg (not_not_intro c6)]⟩
      · replace hP := hP.2 c3
        refine r_iload_n dX7_readClause_81 2 rfl ?_
        refine r_if_ne 94 dX7_readClause_82 (by decide) (fun c4 => ?_) (fun c4 => ?_)
        · replace hP := hP.1 c4
          refine r_aload_n dX7_readClause_94 1 rfl ?_
          refine r_iconst 3 dX7_readClause_95 rfl ?_
          refine r_cvI (ok_X8_failToken hG 3 μ) lX7_86 (hG.lt (by decide)) sh1 ⟨_, _, rfl⟩ dX7_readClause_96 (by decide) (Nat.le_of_ble_eq_true rfl) rfl (Nat.le_of_ble_eq_true rfl) ?_
          refine r_mu (muX7_readClause_9 p2 μ) rfl ?_
          refine r_goto 107 dX7_readClause_99 (by decide) ?_
          exact r_ireturn _ dX7_readClause_107 rfl (nb01 ((bo_X8_failToken 3 μ))) ⟨congrArg (fun z => some (Value.int z)) (by unfold F_X7_readClause; rw [if_pos c1, if_pos c2, if_neg c3, if_pos c4]), by unfold M_X7_readClause; rw [if_pos c1, if_pos c2, if_neg c3, if_pos c4]⟩
        · replace hP := hP.2 c4
          refine r_aload_n dX7_readClause_85 0 rfl ?_
          refine r_getI fX7_53 (hG.lt (by decide)) sh12 fs12_10 dX7_readClause_86 ?_
          refine r_bipush 12 dX7_readClause_89 rfl ?_
          refine r_icmp_ne 102 dX7_readClause_91 (by decide) (fun c5 => ?_) (fun c5 => ?_)
          · replace hP := hP.1 c5
            refine r_aload_n dX7_readClause_102 0 rfl ?_
            refine r_aload_n dX7_readClause_103 1 rfl ?_
            have hs10 := hP
            refine r_cvI (ok_X7_readTide hG  μ hs10) lX7_100 (hG.lt (by decide)) sh12 ⟨_, _, rfl⟩ dX7_readClause_104 (by decide) (Nat.le_of_ble_eq_true rfl) rfl (Nat.le_of_ble_eq_true rfl) ?_
            refine r_mu (muX7_readClause_10 p2 μ) rfl ?_
            exact r_ireturn _ dX7_readClause_107 rfl (nb01 ((bo_X7_readTide  μ))) ⟨congrArg (fun z => some (Value.int z)) (by unfold F_X7_readClause; rw [if_pos c1, if_pos c2, if_neg c3, if_neg (not_not_intro c4), if_pos c5]), by unfold M_X7_readClause; rw [if_pos c1, if_pos c2, if_neg c3, if_neg (not_not_intro c4), if_pos c5]⟩
          · replace hP := hP.2 c5
            refine r_aload_n dX7_readClause_94 1 rfl ?_
            refine r_iconst 3 dX7_readClause_95 rfl ?_
            refine r_cvI (ok_X8_failToken hG 3 μ) lX7_86 (hG.lt (by decide)) sh1 ⟨_, _, rfl⟩ dX7_readClause_96 (by decide) (Nat.le_of_ble_eq_true rfl) rfl (Nat.le_of_ble_eq_true rfl) ?_
            refine r_mu (muX7_readClause_11 p2 μ) rfl ?_
            refine r_goto 107 dX7_readClause_99 (by decide) ?_
            exact r_ireturn _ dX7_readClause_107 rfl (nb01 ((bo_X8_failToken 3 μ))) ⟨congrArg (fun z => some (Value.int z)) (by unfold F_X7_readClause; rw [if_pos c1, if_pos c2, if_neg c3, if_neg (not_not_intro c4), if_neg (not_not_intro c5)]), by unfold M_X7_readClause; rw [if_pos c1, if_pos c2, if_neg c3, if_neg (not_not_intro c4), if_neg (not_not_intro c5)]⟩
    · replace hP := hP.2 c2
      refine r_iload_n dX7_readClause_45 2 rfl ?_
      refine r_if_ne 58 dX7_readClause_46 (by decide) (fun c3 => ?_) (fun c3 => ?_)
      · replace hP := hP.1 c3
        refine r_aload_n dX7_readClause_58 1 rfl ?_
        refine r_iconst 3 dX7_readClause_59 rfl ?_
        refine r_cvI (ok_X8_failToken hG 3 μ) lX7_86 (hG.lt (by decide)) sh1 ⟨_, _, rfl⟩ dX7_readClause_60 (by decide) (Nat.le_of_ble_eq_true rfl) rfl (Nat.le_of_ble_eq_true rfl) ?_
        refine r_mu (muX7_readClause_12 p2 μ) rfl ?_
        refine r_goto 71 dX7_readClause_63 (by decide) ?_
        exact r_ireturn _ dX7_readClause_71 rfl (nb01 ((bo_X8_failToken 3 μ))) ⟨congrArg (fun z => some (Value.int z)) (by unfold F_X7_readClause; rw [if_pos c1, if_neg c2, if_pos c3]), by unfold M_X7_readClause; rw [if_pos c1, if_neg c2, if_pos c3]⟩
      · replace hP := hP.2 c3
        refine r_aload_n dX7_readClause_49 0 rfl ?_
        refine r_getI fX7_50 (hG.lt (by decide)) sh12 fs12_9 dX7_readClause_50 ?_
        refine r_bipush 10 dX7_readClause_53 rfl ?_
        refine r_icmp_ne 66 dX7_readClause_55 (by decide) (fun c4 => ?_) (fun c4 => ?_)
        · replace hP := hP.1 c4
          refine r_aload_n dX7_readClause_66 0 rfl ?_
          refine r_aload_n dX7_readClause_67 1 rfl ?_
          have hs11 := hP
          refine r_cvI (ok_X7_readThing hG  μ hs11) lX7_95 (hG.lt (by decide)) sh12 ⟨_, _, rfl⟩ dX7_readClause_68 (by decide) (Nat.le_of_ble_eq_true rfl) rfl (Nat.le_of_ble_eq_true rfl) ?_
          refine r_mu (muX7_readClause_13 p2 μ) rfl ?_
          exact r_ireturn _ dX7_readClause_71 rfl (nb01 ((bo_X7_readThing  μ))) ⟨congrArg (fun z => some (Value.int z)) (by unfold F_X7_readClause; rw [if_pos c1, if_neg c2, if_neg (not_not_intro c3), if_pos c4]), by unfold M_X7_readClause; rw [if_pos c1, if_neg c2, if_neg (not_not_intro c3), if_pos c4]⟩
        · replace hP := hP.2 c4
          refine r_aload_n dX7_readClause_58 1 rfl ?_
          refine r_iconst 3 dX7_readClause_59 rfl ?_
          refine r_cvI (ok_X8_failToken hG 3 μ) lX7_86 (hG.lt (by decide)) sh1 ⟨_, _, rfl⟩ dX7_readClause_60 (by decide) (Nat.le_of_ble_eq_true rfl) rfl (Nat.le_of_ble_eq_true rfl) ?_
          refine r_mu (muX7_readClause_14 p2 μ) rfl ?_
          refine r_goto 71 dX7_readClause_63 (by decide) ?_
          exact r_ireturn _ dX7_readClause_71 rfl (nb01 ((bo_X8_failToken 3 μ))) ⟨congrArg (fun z => some (Value.int z)) (by unfold F_X7_readClause; rw [if_pos c1, if_neg c2, if_neg (not_not_intro c3), if_neg (not_not_intro c4)]), by unfold M_X7_readClause; rw [if_pos c1, if_neg c2, if_neg (not_not_intro c3), if_neg (not_not_intro c4)]⟩
  · replace hP := hP.2 c1
    refine r_iload_n dX7_readClause_9 2 rfl ?_
    refine r_if_ne 22 dX7_readClause_10 (by decide) (fun c2 => ?_) (fun c2 => ?_)
    · replace hP := hP.1 c2
      refine r_aload_n dX7_readClause_22 1 rfl ?_
      refine r_iconst 3 dX7_readClause_23 rfl ?_
      refine r_cvI (ok_X8_failToken hG 3 μ) lX7_86 (hG.lt (by decide)) sh1 ⟨_, _, rfl⟩ dX7_readClause_24 (by decide) (Nat.le_of_ble_eq_true rfl) rfl (Nat.le_of_ble_eq_true rfl) ?_
      refine r_mu (muX7_readClause_15 p2 μ) rfl ?_
      refine r_goto 35 dX7_readClause_27 (by decide) ?_
      exact r_ireturn _ dX7_readClause_35 rfl (nb01 ((bo_X8_failToken 3 μ))) ⟨congrArg (fun z => some (Value.int z)) (by unfold F_X7_readClause; rw [if_neg c1, if_pos c2]), by unfold M_X7_readClause; rw [if_neg c1, if_pos c2]⟩
    · replace hP := hP.2 c2
      refine r_aload_n dX7_readClause_13 0 rfl ?_
      refine r_getI fX7_47 (hG.lt (by decide)) sh12 fs12_8 dX7_readClause_14 ?_
      refine r_bipush 6 dX7_readClause_17 rfl ?_
      refine r_icmp_ne 30 dX7_readClause_19 (by decide) (fun c3 => ?_) (fun c3 => ?_)
      · replace hP := hP.1 c3
        refine r_aload_n dX7_readClause_30 0 rfl ?_
        refine r_aload_n dX7_readClause_31 1 rfl ?_
        have hs12 := hP
        refine r_cvI (ok_X7_readHouse hG  μ hs12) lX7_89 (hG.lt (by decide)) sh12 ⟨_, _, rfl⟩ dX7_readClause_32 (by decide) (Nat.le_of_ble_eq_true rfl) rfl (Nat.le_of_ble_eq_true rfl) ?_
        refine r_mu (muX7_readClause_16 p2 μ) rfl ?_
        exact r_ireturn _ dX7_readClause_35 rfl (nb01 ((bo_X7_readHouse  μ))) ⟨congrArg (fun z => some (Value.int z)) (by unfold F_X7_readClause; rw [if_neg c1, if_neg (not_not_intro c2), if_pos c3]), by unfold M_X7_readClause; rw [if_neg c1, if_neg (not_not_intro c2), if_pos c3]⟩
      · replace hP := hP.2 c3
        refine r_aload_n dX7_readClause_22 1 rfl ?_
        refine r_iconst 3 dX7_readClause_23 rfl ?_
        refine r_cvI (ok_X8_failToken hG 3 μ) lX7_86 (hG.lt (by decide)) sh1 ⟨_, _, rfl⟩ dX7_readClause_24 (by decide) (Nat.le_of_ble_eq_true rfl) rfl (Nat.le_of_ble_eq_true rfl) ?_
        refine r_mu (muX7_readClause_17 p2 μ) rfl ?_
        refine r_goto 35 dX7_readClause_27 (by decide) ?_
        exact r_ireturn _ dX7_readClause_35 rfl (nb01 ((bo_X8_failToken 3 μ))) ⟨congrArg (fun z => some (Value.int z)) (by unfold F_X7_readClause; rw [if_neg c1, if_neg (not_not_intro c2), if_neg (not_not_intro c3)]), by unfold M_X7_readClause; rw [if_neg c1, if_neg (not_not_intro c2), if_neg (not_not_intro c3)]⟩
def muX7_read_1 (μ : Mem) : Mem := (upm μ 12 8 0)
def muX7_read_2 (μ : Mem) : Mem := (upm (muX7_read_1 μ) 12 9 0)
def muX7_read_3 (μ : Mem) : Mem := (upm (muX7_read_2 μ) 12 10 0)
def muX7_read_4 (μ : Mem) : Mem := (upm (muX7_read_3 μ) 12 11 0)
def muX7_read_5 (μ : Mem) : Mem := (upm (muX7_read_4 μ) 12 12 10)
def muX7_read_6 (μ : Mem) : Mem := (upm (muX7_read_5 μ) 12 13 3)
def muX7_read_33_1 (i : Nat) (s : Mem) : Mem := (M_X8_isEnded  s)
def muX7_read_33_2 (i : Nat) (s : Mem) : Mem := (M_X8_takeWord  (muX7_read_33_1 i s))
def VX7_read_33_3 (i : Nat) (s : Mem) : Int32 := (if (nI i) ≠ 60 then 0 else 1)
theorem bo_VX7_read_33_3 (i : Nat) (s : Mem) : (VX7_read_33_3 i s) = 0 ∨ (VX7_read_33_3 i s) = 1 := by
  unfold VX7_read_33_3
  split
  · exact Or.inl rfl
  · exact Or.inr rfl
def muX7_read_33_4 (i : Nat) (s : Mem) : Mem := (M_X7_readClause (VX7_read_33_3 i s) (muX7_read_33_2 i s))
def muX7_read_33_5 (i : Nat) (s : Mem) : Mem := (M_X8_takeSign 59 (muX7_read_33_4 i s))
def g_X7_read_33  (i : Nat) (s : Mem) : Mem := (muX7_read_33_5 i s)
def Pb_X7_read_33  (i : Nat) (s : Mem) : Prop := ((60 < (nI i) → False) ∧ ((nI i) ≤ 60 → (P_X8_isEnded  s) ∧ (((F_X8_isEnded  s) = 0 → (P_X8_takeWord  (muX7_read_33_1 i s)) ∧ (((F_X8_takeWord  (muX7_read_33_1 i s)) = 0 → False) ∧ (¬ (F_X8_takeWord  (muX7_read_33_1 i s)) = 0 → (P_X7_readClause (VX7_read_33_3 i s) (muX7_read_33_2 i s)) ∧ (((F_X7_readClause (VX7_read_33_3 i s) (muX7_read_33_2 i s)) = 0 → False) ∧ (¬ (F_X7_readClause (VX7_read_33_3 i s) (muX7_read_33_2 i s)) = 0 → (P_X8_takeSign 59 (muX7_read_33_4 i s)) ∧ (((F_X8_takeSign 59 (muX7_read_33_4 i s)) ≠ 0 → True) ∧ ((F_X8_takeSign 59 (muX7_read_33_4 i s)) = 0 → False))))))) ∧ (¬ (F_X8_isEnded  s) = 0 → False))))
def Cb_X7_read_33  (i : Nat) (s : Mem) : Bool := (if 60 < (nI i) then false else (if (F_X8_isEnded  s) = 0 then (if (F_X8_takeWord  (muX7_read_33_1 i s)) = 0 then false else (if (F_X7_readClause (VX7_read_33_3 i s) (muX7_read_33_2 i s)) = 0 then false else (if (F_X8_takeSign 59 (muX7_read_33_4 i s)) ≠ 0 then true else false))) else false))
set_option maxRecDepth 20000 in
set_option maxHeartbeats 2000000 in
theorem lp_X7_read_33 {G : SG} (hG : GK 57 G)   (s0 : Mem) (N : Nat) (sN : Mem) (eN : sN = fo N g_X7_read_33 s0) (hN : ∀ i, i < N → Pb_X7_read_33  i (fo i g_X7_read_33 s0)) {t : Nat} {Q : PQ} {X : PX} (h : R G mX7_read 33 [(0, .ref (ga G 12)), (1, .ref (ga G 1)), (2, .int (nI N))] [] sN t Q X) : R G mX7_read 33 [(0, .ref (ga G 12)), (1, .ref (ga G 1)), (2, .int 0)] [] s0 t Q X := by
  subst eN
  refine down_i N (fun i => R G mX7_read 33 [(0, .ref (ga G 12)), (1, .ref (ga G 1)), (2, .int (nI i))] [] (fo i g_X7_read_33 s0) t Q X) h (fun i hi hS => ?_)
  have hP := hN i hi
  rw [fo_succ] at hS
  rw [nI_succ] at hS
  generalize fo i g_X7_read_33 s0 = s at hS hP ⊢
  unfold Pb_X7_read_33 at hP
  refine r_iload_n dX7_read_33 2 rfl ?_
  refine r_bipush 60 dX7_read_34 rfl ?_
  refine r_icmp_gt 91 dX7_read_36 (by decide) (fun c1 => ?_) (fun c1 => ?_)
  · replace hP := hP.1 c1
    exact hP.elim
  · replace hP := hP.2 c1
    refine r_aload_n dX7_read_39 1 rfl ?_
    have hs1 := hP.1
    replace hP := hP.2
    refine r_cvI (ok_X8_isEnded hG  s hs1) lX7_63 (hG.lt (by decide)) sh1 ⟨_, _, rfl⟩ dX7_read_40 (by decide) (Nat.le_of_ble_eq_true rfl) rfl (Nat.le_of_ble_eq_true rfl) ?_
    refine r_mu (muX7_read_33_1 i s) rfl ?_
    refine r_if_eq 48 dX7_read_43 (by decide) (fun c2 => ?_) (fun c2 => ?_)
    · replace hP := hP.1 c2
      refine r_aload_n dX7_read_48 1 rfl ?_
      have hs2 := hP.1
      replace hP := hP.2
      refine r_cvI (ok_X8_takeWord hG  (muX7_read_33_1 i s) hs2) lX7_69 (hG.lt (by decide)) sh1 ⟨_, _, rfl⟩ dX7_read_49 (by decide) (Nat.le_of_ble_eq_true rfl) rfl (Nat.le_of_ble_eq_true rfl) ?_
      refine r_mu (muX7_read_33_2 i s) rfl ?_
      refine r_if_eq 83 dX7_read_52 (by decide) (fun c3 => ?_) (fun c3 => ?_)
      · replace hP := hP.1 c3
        refine r_iconst 0 dX7_read_83 rfl ?_
        exact hP.elim
      · replace hP := hP.2 c3
        refine r_aload_n dX7_read_55 0 rfl ?_
        refine r_aload_n dX7_read_56 1 rfl ?_
        refine r_iload_n dX7_read_57 2 rfl ?_
        refine r_bipush 60 dX7_read_58 rfl ?_
        refine r_join 68 [(0, .ref (ga G 12)), (1, .ref (ga G 1)), (2, .int (nI i))] [.int (VX7_read_33_3 i s), .ref (ga G 1), .ref (ga G 12)] (muX7_read_33_2 i s) ?_ (fun hJ => ?_)
        · have hs3 := hP.1
          replace hP := hP.2
          refine r_cvI (ok_X7_readClause hG (VX7_read_33_3 i s) (muX7_read_33_2 i s) hs3) lX7_72 (hG.lt (by decide)) sh12 ⟨_, _, rfl⟩ dX7_read_68 (by decide) (Nat.le_of_ble_eq_true rfl) rfl (Nat.le_of_ble_eq_true rfl) ?_
          refine r_mu (muX7_read_33_4 i s) rfl ?_
          refine r_if_eq 83 dX7_read_71 (by decide) (fun c4 => ?_) (fun c4 => ?_)
          · replace hP := hP.1 c4
            refine r_iconst 0 dX7_read_83 rfl ?_
            exact hP.elim
          · replace hP := hP.2 c4
            refine r_aload_n dX7_read_74 1 rfl ?_
            refine r_bipush 59 dX7_read_75 rfl ?_
            have hs4 := hP.1
            replace hP := hP.2
            refine r_cvI (ok_X8_takeSign hG 59 (muX7_read_33_4 i s) hs4) lX7_76 (hG.lt (by decide)) sh1 ⟨_, _, rfl⟩ dX7_read_77 (by decide) (Nat.le_of_ble_eq_true rfl) rfl (Nat.le_of_ble_eq_true rfl) ?_
            refine r_mu (muX7_read_33_5 i s) rfl ?_
            refine r_if_ne 85 dX7_read_80 (by decide) (fun c5 => ?_) (fun c5 => ?_)
            · replace hP := hP.1 c5
              refine r_iinc ((nI i) + 1) [(2, _), (0, _), (1, _)] dX7_read_85 2 rfl rfl (Nat.le_of_ble_eq_true rfl) rfl ?_
              refine r_goto 33 dX7_read_88 (by decide) ?_
              have e : g_X7_read_33  i s = (muX7_read_33_5 i s) := by unfold g_X7_read_33; rfl
              rw [e] at hS
              exact r_sub [1, 2, 0] rfl hS
            · replace hP := hP.2 c5
              refine r_iconst 0 dX7_read_83 rfl ?_
              exact hP.elim
        · refine r_icmp_ne 67 dX7_read_60 (by decide) (fun c4 => ?_) (fun c4 => ?_)
          · refine r_iconst 0 dX7_read_67 rfl ?_
            have e : (VX7_read_33_3 i s) = 0 := by unfold VX7_read_33_3; rw [if_pos c4]
            rw [e] at hJ
            exact r_sub [0, 1, 2] rfl hJ
          · refine r_iconst 1 dX7_read_63 rfl ?_
            refine r_goto 68 dX7_read_64 (by decide) ?_
            have e : (VX7_read_33_3 i s) = 1 := by unfold VX7_read_33_3; rw [if_neg (not_not_intro c4)]
            rw [e] at hJ
            exact r_sub [0, 1, 2] rfl hJ
    · replace hP := hP.2 c2
      refine r_iconst 1 dX7_read_46 rfl ?_
      exact hP.elim
def NX7_read_33 (μ : Mem) : Nat := (fst 62 (fun j9 => !Cb_X7_read_33  j9 (fo j9 g_X7_read_33 (muX7_read_6 μ))))
def SX7_read_33 (μ : Mem) : Mem := fo (NX7_read_33 μ) g_X7_read_33 (muX7_read_6 μ)
def muX7_read_7 (μ : Mem) : Mem := (M_X8_isEnded  (SX7_read_33 μ))
def muX7_read_8 (μ : Mem) : Mem := (M_X8_takeWord  (muX7_read_7 μ))
def VX7_read_9 (μ : Mem) : Int32 := (if (nI (NX7_read_33 μ)) ≠ 60 then 0 else 1)
theorem bo_VX7_read_9 (μ : Mem) : (VX7_read_9 μ) = 0 ∨ (VX7_read_9 μ) = 1 := by
  unfold VX7_read_9
  split
  · exact Or.inl rfl
  · exact Or.inr rfl
def muX7_read_10 (μ : Mem) : Mem := (M_X7_readClause (VX7_read_9 μ) (muX7_read_8 μ))
def muX7_read_11 (μ : Mem) : Mem := (M_X8_takeSign 59 (muX7_read_10 μ))
def F_X7_read  (μ : Mem) : Int32 := (if 60 < (nI (NX7_read_33 μ)) then 0 else (if (F_X8_isEnded  (SX7_read_33 μ)) = 0 then 0 else 1))
def M_X7_read  (μ : Mem) : Mem := (if 60 < (nI (NX7_read_33 μ)) then (SX7_read_33 μ) else (if (F_X8_isEnded  (SX7_read_33 μ)) = 0 then (if (F_X8_takeWord  (muX7_read_7 μ)) = 0 then (muX7_read_8 μ) else (if (F_X7_readClause (VX7_read_9 μ) (muX7_read_8 μ)) = 0 then (muX7_read_10 μ) else (muX7_read_11 μ))) else (muX7_read_7 μ)))
def P_X7_read  (μ : Mem) : Prop := ((∀ j9, j9 < (NX7_read_33 μ) → Pb_X7_read_33  j9 (fo j9 g_X7_read_33 (muX7_read_6 μ))) ∧ ((60 < (nI (NX7_read_33 μ)) → True) ∧ ((nI (NX7_read_33 μ)) ≤ 60 → ((P_X8_isEnded  (SX7_read_33 μ)) ∧ (((F_X8_isEnded  (SX7_read_33 μ)) = 0 → ((P_X8_takeWord  (muX7_read_7 μ)) ∧ (((F_X8_takeWord  (muX7_read_7 μ)) = 0 → True) ∧ (¬ (F_X8_takeWord  (muX7_read_7 μ)) = 0 → ((P_X7_readClause (VX7_read_9 μ) (muX7_read_8 μ)) ∧ (((F_X7_readClause (VX7_read_9 μ) (muX7_read_8 μ)) = 0 → True) ∧ (¬ (F_X7_readClause (VX7_read_9 μ) (muX7_read_8 μ)) = 0 → ((P_X8_takeSign 59 (muX7_read_10 μ)) ∧ (((F_X8_takeSign 59 (muX7_read_10 μ)) ≠ 0 → False) ∧ ((F_X8_takeSign 59 (muX7_read_10 μ)) = 0 → True)))))))))) ∧ (¬ (F_X8_isEnded  (SX7_read_33 μ)) = 0 → True))))))
theorem bo_X7_read  (μ : Mem) : F_X7_read  μ = 0 ∨ F_X7_read  μ = 1 := by
  unfold F_X7_read
  split
  · exact Or.inl rfl
  · split
    · exact Or.inl rfl
    · exact Or.inr rfl
set_option maxRecDepth 20000 in
set_option maxHeartbeats 2000000 in
theorem ok_X7_read {G : SG} (hG : GK 57 G)  (μ : Mem) (hP : P_X7_read  μ) : OkF G mX7_read [.ref (ga G 12), .ref (ga G 1)] μ (some (.int (F_X7_read  μ))) (M_X7_read  μ) := by
  refine okF_of hG rfl rfl (Nat.le_of_ble_eq_true rfl) ?_
  unfold P_X7_read at hP
  refine r_aload_n dX7_read_0 0 rfl ?_
  refine r_iconst 0 dX7_read_1 rfl ?_
  refine r_put fiX7_47 (hG.lt (by decide)) sh12 fs12_8 dX7_read_2 ?_
  refine r_mu (muX7_read_1 μ) rfl ?_
  refine r_aload_n dX7_read_5 0 rfl ?_
  refine r_iconst 0 dX7_read_6 rfl ?_
  refine r_put fiX7_50 (hG.lt (by decide)) sh12 fs12_9 dX7_read_7 ?_
  refine r_mu (muX7_read_2 μ) rfl ?_
  refine r_aload_n dX7_read_10 0 rfl ?_
  refine r_iconst 0 dX7_read_11 rfl ?_
  refine r_put fiX7_53 (hG.lt (by decide)) sh12 fs12_10 dX7_read_12 ?_
  refine r_mu (muX7_read_3 μ) rfl ?_
  refine r_aload_n dX7_read_15 0 rfl ?_
  refine r_iconst 0 dX7_read_16 rfl ?_
  refine r_put fiX7_56 (hG.lt (by decide)) sh12 fs12_11 dX7_read_17 ?_
  refine r_mu (muX7_read_4 μ) rfl ?_
  refine r_aload_n dX7_read_20 0 rfl ?_
  refine r_bipush 10 dX7_read_21 rfl ?_
  refine r_put fiX7_36 (hG.lt (by decide)) sh12 fs12_12 dX7_read_23 ?_
  refine r_mu (muX7_read_5 μ) rfl ?_
  refine r_aload_n dX7_read_26 0 rfl ?_
  refine r_iconst 3 dX7_read_27 rfl ?_
  refine r_put fiX7_40 (hG.lt (by decide)) sh12 fs12_13 dX7_read_28 ?_
  refine r_mu (muX7_read_6 μ) rfl ?_
  refine r_iconst 0 dX7_read_31 rfl ?_
  refine r_istore_n [(2, _), (0, _), (1, _)] dX7_read_32 (Nat.le_of_ble_eq_true rfl) rfl ?_
  have hs1 := hP.1
  replace hP := hP.2
  refine r_sub [1, 2, 0] rfl ?_
  refine lp_X7_read_33 hG (muX7_read_6 μ) ((NX7_read_33 μ)) (SX7_read_33 μ) rfl hs1 ?_
  refine r_iload_n dX7_read_33 2 rfl ?_
  refine r_bipush 60 dX7_read_34 rfl ?_
  refine r_icmp_gt 91 dX7_read_36 (by decide) (fun c1 => ?_) (fun c1 => ?_)
  · replace hP := hP.1 c1
    refine r_iconst 0 dX7_read_91 rfl ?_
    exact r_ireturn _ dX7_read_92 rfl rfl ⟨congrArg (fun z => some (Value.int z)) (by unfold F_X7_read; rw [if_pos c1]), by unfold M_X7_read; rw [if_pos c1]⟩
  · replace hP := hP.2 c1
    refine r_aload_n dX7_read_39 1 rfl ?_
    have hs2 := hP.1
    replace hP := hP.2
    refine r_cvI (ok_X8_isEnded hG  (SX7_read_33 μ) hs2) lX7_63 (hG.lt (by decide)) sh1 ⟨_, _, rfl⟩ dX7_read_40 (by decide) (Nat.le_of_ble_eq_true rfl) rfl (Nat.le_of_ble_eq_true rfl) ?_
    refine r_mu (muX7_read_7 μ) rfl ?_
    refine r_if_eq 48 dX7_read_43 (by decide) (fun c2 => ?_) (fun c2 => ?_)
    · replace hP := hP.1 c2
      refine r_aload_n dX7_read_48 1 rfl ?_
      have hs3 := hP.1
      replace hP := hP.2
      refine r_cvI (ok_X8_takeWord hG  (muX7_read_7 μ) hs3) lX7_69 (hG.lt (by decide)) sh1 ⟨_, _, rfl⟩ dX7_read_49 (by decide) (Nat.le_of_ble_eq_true rfl) rfl (Nat.le_of_ble_eq_true rfl) ?_
      refine r_mu (muX7_read_8 μ) rfl ?_
      refine r_if_eq 83 dX7_read_52 (by decide) (fun c3 => ?_) (fun c3 => ?_)
      · replace hP := hP.1 c3
        refine r_iconst 0 dX7_read_83 rfl ?_
        exact r_ireturn _ dX7_read_84 rfl rfl ⟨congrArg (fun z => some (Value.int z)) (by unfold F_X7_read; rw [if_neg (i32_nl c1), if_pos c2]), by unfold M_X7_read; rw [if_neg (i32_nl c1), if_pos c2, if_pos c3]⟩
      · replace hP := hP.2 c3
        refine r_aload_n dX7_read_55 0 rfl ?_
        refine r_aload_n dX7_read_56 1 rfl ?_
        refine r_iload_n dX7_read_57 2 rfl ?_
        refine r_bipush 60 dX7_read_58 rfl ?_
        refine r_join 68 [(0, .ref (ga G 12)), (1, .ref (ga G 1)), (2, .int (nI (NX7_read_33 μ)))] [.int (VX7_read_9 μ), .ref (ga G 1), .ref (ga G 12)] (muX7_read_8 μ) ?_ (fun hJ => ?_)
        · have hs4 := hP.1
          replace hP := hP.2
          refine r_cvI (ok_X7_readClause hG (VX7_read_9 μ) (muX7_read_8 μ) hs4) lX7_72 (hG.lt (by decide)) sh12 ⟨_, _, rfl⟩ dX7_read_68 (by decide) (Nat.le_of_ble_eq_true rfl) rfl (Nat.le_of_ble_eq_true rfl) ?_
          refine r_mu (muX7_read_10 μ) rfl ?_
          refine r_if_eq 83 dX7_read_71 (by decide) (fun c4 => ?_) (fun c4 => ?_)
          · replace hP := hP.1 c4
            refine r_iconst 0 dX7_read_83 rfl ?_
            exact r_ireturn _ dX7_read_84 rfl rfl ⟨congrArg (fun z => some (Value.int z)) (by unfold F_X7_read; rw [if_neg (i32_nl c1), if_pos c2]), by unfold M_X7_read; rw [if_neg (i32_nl c1), if_pos c2, if_neg c3, if_pos c4]⟩
          · replace hP := hP.2 c4
            refine r_aload_n dX7_read_74 1 rfl ?_
            refine r_bipush 59 dX7_read_75 rfl ?_
            have hs5 := hP.1
            replace hP := hP.2
            refine r_cvI (ok_X8_takeSign hG 59 (muX7_read_10 μ) hs5) lX7_76 (hG.lt (by decide)) sh1 ⟨_, _, rfl⟩ dX7_read_77 (by decide) (Nat.le_of_ble_eq_true rfl) rfl (Nat.le_of_ble_eq_true rfl) ?_
            refine r_mu (muX7_read_11 μ) rfl ?_
            refine r_if_ne 85 dX7_read_80 (by decide) (fun c5 => ?_) (fun c5 => ?_)
            · replace hP := hP.1 c5
              refine r_iinc ((nI (NX7_read_33 μ)) + 1) [(2, _), (0, _), (1, _)] dX7_read_85 2 rfl rfl (Nat.le_of_ble_eq_true rfl) rfl ?_
              refine r_goto 33 dX7_read_88 (by decide) ?_
              exact hP.elim
            · replace hP := hP.2 c5
              refine r_iconst 0 dX7_read_83 rfl ?_
              exact r_ireturn _ dX7_read_84 rfl rfl ⟨congrArg (fun z => some (Value.int z)) (by unfold F_X7_read; rw [if_neg (i32_nl c1), if_pos c2]), by unfold M_X7_read; rw [if_neg (i32_nl c1), if_pos c2, if_neg c3, if_neg c4]⟩
        · refine r_icmp_ne 67 dX7_read_60 (by decide) (fun c4 => ?_) (fun c4 => ?_)
          · refine r_iconst 0 dX7_read_67 rfl ?_
            have e : (VX7_read_9 μ) = 0 := by unfold VX7_read_9; rw [if_pos c4]
            rw [e] at hJ
            exact r_sub [0, 1, 2] rfl hJ
          · refine r_iconst 1 dX7_read_63 rfl ?_
            refine r_goto 68 dX7_read_64 (by decide) ?_
            have e : (VX7_read_9 μ) = 1 := by unfold VX7_read_9; rw [if_neg (not_not_intro c4)]
            rw [e] at hJ
            exact r_sub [0, 1, 2] rfl hJ
    · replace hP := hP.2 c2
      refine r_iconst 1 dX7_read_46 rfl ?_
      exact r_ireturn _ dX7_read_47 rfl rfl ⟨congrArg (fun z => some (Value.int z)) (by unfold F_X7_read; rw [if_neg (i32_nl c1), if_neg c2]), by unfold M_X7_read; rw [if_neg (i32_nl c1), if_neg c2]⟩
def F_X8_hasRoom (p1 : Int32) (μ : Mem) : Int32 := (if 600 < ((μ 1 1) + p1) then 0 else 1)
theorem bo_X8_hasRoom (p1 : Int32) (μ : Mem) : F_X8_hasRoom p1 μ = 0 ∨ F_X8_hasRoom p1 μ = 1 := by
  unfold F_X8_hasRoom
  split
  · exact Or.inl rfl
  · exact Or.inr rfl
set_option maxRecDepth 20000 in
set_option maxHeartbeats 2000000 in
theorem ok_X8_hasRoom {G : SG} (hG : GK 57 G) (p1 : Int32) (μ : Mem) : OkF G mX8_hasRoom [.ref (ga G 1), .int p1] μ (some (.int (F_X8_hasRoom p1 μ))) μ := by
  refine okF_of hG rfl rfl (Nat.le_of_ble_eq_true rfl) ?_
  refine r_aload_n dX8_hasRoom_0 0 rfl ?_
  refine r_getI fX8_19 (hG.lt (by decide)) sh1 fs1_1 dX8_hasRoom_1 ?_
  refine r_iload_n dX8_hasRoom_4 1 rfl ?_
  refine r_iadd dX8_hasRoom_5 ?_
  refine r_sipush 600 dX8_hasRoom_6 rfl ?_
  refine r_icmp_gt 16 dX8_hasRoom_9 (by decide) (fun c1 => ?_) (fun c1 => ?_)
  · refine r_iconst 0 dX8_hasRoom_16 rfl ?_
    exact r_ireturn _ dX8_hasRoom_17 rfl rfl ⟨congrArg (fun z => some (Value.int z)) (by unfold F_X8_hasRoom; rw [if_pos c1]), rfl⟩
  · refine r_iconst 1 dX8_hasRoom_12 rfl ?_
    refine r_goto 17 dX8_hasRoom_13 (by decide) ?_
    exact r_ireturn _ dX8_hasRoom_17 rfl rfl ⟨congrArg (fun z => some (Value.int z)) (by unfold F_X8_hasRoom; rw [if_neg (i32_nl c1)]), rfl⟩
def muX8_addNumber_3_1 (v1 : Int32) (i : Nat) (s : Int32 × Mem) : Mem := (M_X9_put 2 600 (s.2 1 1) ((v1 >>> (s.1 &&& 31)) &&& 255) s.2)
def muX8_addNumber_3_2 (v1 : Int32) (i : Nat) (s : Int32 × Mem) : Mem := (upm (muX8_addNumber_3_1 v1 i s) 1 1 (((muX8_addNumber_3_1 v1 i s) 1 1) + 1))
def g_X8_addNumber_3 (v1 : Int32) (i : Nat) (s : Int32 × Mem) : Int32 × Mem := ((s.1 + (-8)), (muX8_addNumber_3_2 v1 i s))
def Pb_X8_addNumber_3 (v1 : Int32) (i : Nat) (s : Int32 × Mem) : Prop := ((s.1 < 0 → False) ∧ (0 ≤ s.1 → True))
set_option maxRecDepth 20000 in
set_option maxHeartbeats 2000000 in
theorem lp_X8_addNumber_3 {G : SG} (hG : GK 57 G)  (v1 : Int32) (s0 : Int32 × Mem) (N : Nat) (sN : Int32 × Mem) (eN : sN = fo N (g_X8_addNumber_3 v1) s0) (hN : ∀ i, i < N → Pb_X8_addNumber_3 v1 i (fo i (g_X8_addNumber_3 v1) s0)) {t : Nat} {Q : PQ} {X : PX} (h : R G mX8_addNumber 3 [(0, .ref (ga G 1)), (1, .int v1), (2, .int (sN).1)] [] (sN).2 t Q X) : R G mX8_addNumber 3 [(0, .ref (ga G 1)), (1, .int v1), (2, .int (s0).1)] [] (s0).2 t Q X := by
  subst eN
  refine down_i N (fun i => R G mX8_addNumber 3 [(0, .ref (ga G 1)), (1, .int v1), (2, .int ((fo i (g_X8_addNumber_3 v1) s0)).1)] [] ((fo i (g_X8_addNumber_3 v1) s0)).2 t Q X) h (fun i hi hS => ?_)
  have hP := hN i hi
  rw [fo_succ] at hS
  generalize fo i (g_X8_addNumber_3 v1) s0 = s at hS hP ⊢
  unfold Pb_X8_addNumber_3 at hP
  refine r_iload_n dX8_addNumber_3 2 rfl ?_
  refine r_if_lt 41 dX8_addNumber_4 (by decide) (fun c1 => ?_) (fun c1 => ?_)
  · replace hP := hP.1 c1
    exact hP.elim
  · replace hP := hP.2 c1
    refine r_aload_n dX8_addNumber_7 0 rfl ?_
    refine r_getR 2 fX8_9 (hG.lt (by decide)) sh1 fs1_0 dX8_addNumber_8 ?_
    refine r_aload_n dX8_addNumber_11 0 rfl ?_
    refine r_getI fX8_19 (hG.lt (by decide)) sh1 fs1_1 dX8_addNumber_12 ?_
    refine r_iload_n dX8_addNumber_15 1 rfl ?_
    refine r_iload_n dX8_addNumber_16 2 rfl ?_
    refine r_ishr dX8_addNumber_17 rfl ?_
    refine r_sipush 255 dX8_addNumber_18 rfl ?_
    refine r_iand dX8_addNumber_21 ?_
    refine r_csV (ok_X9_put hG (hG.lt (by decide)) sh2 (s.2 1 1) ((v1 >>> (s.1 &&& 31)) &&& 255) s.2) lX8_22 dX8_addNumber_22 (by decide) (Nat.le_of_ble_eq_true rfl) rfl (Nat.le_of_ble_eq_true rfl) ?_
    refine r_mu (muX8_addNumber_3_1 v1 i s) rfl ?_
    refine r_aload_n dX8_addNumber_25 0 rfl ?_
    refine r_dup dX8_addNumber_26 rfl ?_
    refine r_getI fX8_19 (hG.lt (by decide)) sh1 fs1_1 dX8_addNumber_27 ?_
    refine r_iconst 1 dX8_addNumber_30 rfl ?_
    refine r_iadd dX8_addNumber_31 ?_
    refine r_put fiX8_19 (hG.lt (by decide)) sh1 fs1_1 dX8_addNumber_32 ?_
    refine r_mu (muX8_addNumber_3_2 v1 i s) rfl ?_
    refine r_iinc (s.1 + (-8)) [(2, _), (0, _), (1, _)] dX8_addNumber_35 2 rfl rfl (Nat.le_of_ble_eq_true rfl) rfl ?_
    refine r_goto 3 dX8_addNumber_38 (by decide) ?_
    have e : g_X8_addNumber_3 v1 i s = ((s.1 + (-8)), (muX8_addNumber_3_2 v1 i s)) := by unfold g_X8_addNumber_3; rfl
    rw [e] at hS
    dsimp only at hS
    exact r_sub [1, 2, 0] rfl hS
def NX8_addNumber_3 (p1 : Int32) (μ : Mem) : Nat := 4
def SX8_addNumber_3 (p1 : Int32) (μ : Mem) : Int32 × Mem := fo (NX8_addNumber_3 p1 μ) (g_X8_addNumber_3 p1) (24, μ)
def muX8_addNumber_1 (p1 : Int32) (μ : Mem) : Mem := (M_X9_put 2 600 ((SX8_addNumber_3 p1 μ).2 1 1) ((p1 >>> ((SX8_addNumber_3 p1 μ).1 &&& 31)) &&& 255) (SX8_addNumber_3 p1 μ).2)
def muX8_addNumber_2 (p1 : Int32) (μ : Mem) : Mem := (upm (muX8_addNumber_1 p1 μ) 1 1 (((muX8_addNumber_1 p1 μ) 1 1) + 1))
def M_X8_addNumber (p1 : Int32) (μ : Mem) : Mem := (SX8_addNumber_3 p1 μ).2
def P_X8_addNumber (p1 : Int32) (μ : Mem) : Prop := ((∀ j9, j9 < (NX8_addNumber_3 p1 μ) → Pb_X8_addNumber_3 p1 j9 (fo j9 (g_X8_addNumber_3 p1) (24, μ))) ∧ (((SX8_addNumber_3 p1 μ).1 < 0 → True) ∧ (0 ≤ (SX8_addNumber_3 p1 μ).1 → False)))
set_option maxRecDepth 20000 in
set_option maxHeartbeats 2000000 in
theorem ok_X8_addNumber {G : SG} (hG : GK 57 G) (p1 : Int32) (μ : Mem) (hP : P_X8_addNumber p1 μ) : OkF G mX8_addNumber [.ref (ga G 1), .int p1] μ none (M_X8_addNumber p1 μ) := by
  refine okF_of hG rfl rfl (Nat.le_of_ble_eq_true rfl) ?_
  unfold P_X8_addNumber at hP
  refine r_bipush 24 dX8_addNumber_0 rfl ?_
  refine r_istore_n [(2, _), (0, _), (1, _)] dX8_addNumber_2 (Nat.le_of_ble_eq_true rfl) rfl ?_
  have hs1 := hP.1
  replace hP := hP.2
  refine r_sub [1, 2, 0] rfl ?_
  refine lp_X8_addNumber_3 hG p1 (24, μ) ((NX8_addNumber_3 p1 μ)) (SX8_addNumber_3 p1 μ) rfl hs1 ?_
  refine r_iload_n dX8_addNumber_3 2 rfl ?_
  refine r_if_lt 41 dX8_addNumber_4 (by decide) (fun c1 => ?_) (fun c1 => ?_)
  · replace hP := hP.1 c1
    exact r_return dX8_addNumber_41 rfl ⟨rfl, rfl⟩
  · replace hP := hP.2 c1
    refine r_aload_n dX8_addNumber_7 0 rfl ?_
    refine r_getR 2 fX8_9 (hG.lt (by decide)) sh1 fs1_0 dX8_addNumber_8 ?_
    refine r_aload_n dX8_addNumber_11 0 rfl ?_
    refine r_getI fX8_19 (hG.lt (by decide)) sh1 fs1_1 dX8_addNumber_12 ?_
    refine r_iload_n dX8_addNumber_15 1 rfl ?_
    refine r_iload_n dX8_addNumber_16 2 rfl ?_
    refine r_ishr dX8_addNumber_17 rfl ?_
    refine r_sipush 255 dX8_addNumber_18 rfl ?_
    refine r_iand dX8_addNumber_21 ?_
    refine r_csV (ok_X9_put hG (hG.lt (by decide)) sh2 ((SX8_addNumber_3 p1 μ).2 1 1) ((p1 >>> ((SX8_addNumber_3 p1 μ).1 &&& 31)) &&& 255) (SX8_addNumber_3 p1 μ).2) lX8_22 dX8_addNumber_22 (by decide) (Nat.le_of_ble_eq_true rfl) rfl (Nat.le_of_ble_eq_true rfl) ?_
    refine r_mu (muX8_addNumber_1 p1 μ) rfl ?_
    refine r_aload_n dX8_addNumber_25 0 rfl ?_
    refine r_dup dX8_addNumber_26 rfl ?_
    refine r_getI fX8_19 (hG.lt (by decide)) sh1 fs1_1 dX8_addNumber_27 ?_
    refine r_iconst 1 dX8_addNumber_30 rfl ?_
    refine r_iadd dX8_addNumber_31 ?_
    refine r_put fiX8_19 (hG.lt (by decide)) sh1 fs1_1 dX8_addNumber_32 ?_
    refine r_mu (muX8_addNumber_2 p1 μ) rfl ?_
    refine r_iinc ((SX8_addNumber_3 p1 μ).1 + (-8)) [(2, _), (0, _), (1, _)] dX8_addNumber_35 2 rfl rfl (Nat.le_of_ble_eq_true rfl) rfl ?_
    refine r_goto 3 dX8_addNumber_38 (by decide) ?_
    exact hP.elim
def muX8_begin_1 (p1 : Int32) (μ : Mem) : Mem := (upm μ 1 2 p1)
def muX8_begin_2 (p1 : Int32) (μ : Mem) : Mem := (upm (muX8_begin_1 p1 μ) 1 1 0)
def muX8_begin_3 (p1 : Int32) (μ : Mem) : Mem := (upm (muX8_begin_2 p1 μ) 1 3 0)
def muX8_begin_4 (p1 : Int32) (μ : Mem) : Mem := (upm (muX8_begin_3 p1 μ) 1 4 0)
def muX8_begin_5 (p1 : Int32) (μ : Mem) : Mem := (upm (muX8_begin_4 p1 μ) 1 5 0)
def muX8_begin_6 (p1 : Int32) (μ : Mem) : Mem := (upm (muX8_begin_5 p1 μ) 1 6 0)
def muX8_begin_7 (p1 : Int32) (μ : Mem) : Mem := (upm (muX8_begin_6 p1 μ) 1 7 (-1))
def M_X8_begin (p1 : Int32) (μ : Mem) : Mem := (muX8_begin_7 p1 μ)
set_option maxRecDepth 20000 in
set_option maxHeartbeats 2000000 in
theorem ok_X8_begin {G : SG} (hG : GK 57 G) (p1 : Int32) (μ : Mem) : OkF G mX8_begin [.ref (ga G 1), .int p1] μ none (M_X8_begin p1 μ) := by
  refine okF_of hG rfl rfl (Nat.le_of_ble_eq_true rfl) ?_
  refine r_aload_n dX8_begin_0 0 rfl ?_
  refine r_iload_n dX8_begin_1 1 rfl ?_
  refine r_put fiX8_26 (hG.lt (by decide)) sh1 fs1_2 dX8_begin_2 ?_
  refine r_mu (muX8_begin_1 p1 μ) rfl ?_
  refine r_aload_n dX8_begin_5 0 rfl ?_
  refine r_iconst 0 dX8_begin_6 rfl ?_
  refine r_put fiX8_19 (hG.lt (by decide)) sh1 fs1_1 dX8_begin_7 ?_
  refine r_mu (muX8_begin_2 p1 μ) rfl ?_
  refine r_aload_n dX8_begin_10 0 rfl ?_
  refine r_iconst 0 dX8_begin_11 rfl ?_
  refine r_put fiX8_29 (hG.lt (by decide)) sh1 fs1_3 dX8_begin_12 ?_
  refine r_mu (muX8_begin_3 p1 μ) rfl ?_
  refine r_aload_n dX8_begin_15 0 rfl ?_
  refine r_iconst 0 dX8_begin_16 rfl ?_
  refine r_put fiX8_32 (hG.lt (by decide)) sh1 fs1_4 dX8_begin_17 ?_
  refine r_mu (muX8_begin_4 p1 μ) rfl ?_
  refine r_aload_n dX8_begin_20 0 rfl ?_
  refine r_iconst 0 dX8_begin_21 rfl ?_
  refine r_put fiX8_35 (hG.lt (by decide)) sh1 fs1_5 dX8_begin_22 ?_
  refine r_mu (muX8_begin_5 p1 μ) rfl ?_
  refine r_aload_n dX8_begin_25 0 rfl ?_
  refine r_iconst 0 dX8_begin_26 rfl ?_
  refine r_put fiX8_38 (hG.lt (by decide)) sh1 fs1_6 dX8_begin_27 ?_
  refine r_mu (muX8_begin_6 p1 μ) rfl ?_
  refine r_aload_n dX8_begin_30 0 rfl ?_
  refine r_iconst (-1) dX8_begin_31 rfl ?_
  refine r_put fiX8_15 (hG.lt (by decide)) sh1 fs1_7 dX8_begin_32 ?_
  refine r_mu (muX8_begin_7 p1 μ) rfl ?_
  exact r_return dX8_begin_35 rfl ⟨rfl, rfl⟩
def F_X8_faultAnswer  (μ : Mem) : Int32 := ((μ 1 6) - 10)
set_option maxRecDepth 20000 in
set_option maxHeartbeats 2000000 in
theorem ok_X8_faultAnswer {G : SG} (hG : GK 57 G)  (μ : Mem) : OkF G mX8_faultAnswer [.ref (ga G 1)] μ (some (.int (F_X8_faultAnswer  μ))) μ := by
  refine okF_of hG rfl rfl (Nat.le_of_ble_eq_true rfl) ?_
  refine r_aload_n dX8_faultAnswer_0 0 rfl ?_
  refine r_getI fX8_38 (hG.lt (by decide)) sh1 fs1_6 dX8_faultAnswer_1 ?_
  refine r_bipush 10 dX8_faultAnswer_4 rfl ?_
  refine r_isub dX8_faultAnswer_6 ?_
  exact r_ireturn _ dX8_faultAnswer_7 rfl rfl ⟨congrArg (fun z => some (Value.int z)) (rfl), rfl⟩
