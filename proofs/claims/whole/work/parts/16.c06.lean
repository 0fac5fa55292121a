def muX7_copyFrom_1 (μ : Mem) : Mem := (M_X9_copyWhole 13 6 4 6 μ)
def muX7_copyFrom_2 (μ : Mem) : Mem := (M_X9_copyWhole 14 10 5 10 (muX7_copyFrom_1 μ))
def muX7_copyFrom_3 (μ : Mem) : Mem := (M_X9_copyWhole 15 10 6 10 (muX7_copyFrom_2 μ))
def muX7_copyFrom_4 (μ : Mem) : Mem := (M_X9_copyWhole 16 10 7 10 (muX7_copyFrom_3 μ))
def muX7_copyFrom_5 (μ : Mem) : Mem := (M_X9_copyWhole 17 10 8 10 (muX7_copyFrom_4 μ))
def muX7_copyFrom_6 (μ : Mem) : Mem := (M_X9_copyWhole 18 12 9 12 (muX7_copyFrom_5 μ))
def muX7_copyFrom_7 (μ : Mem) : Mem := (M_X9_copyWhole 19 6 10 6 (muX7_copyFrom_6 μ))
def muX7_copyFrom_8 (μ : Mem) : Mem := (M_X9_copyWhole 20 6 11 6 (muX7_copyFrom_7 μ))
def muX7_copyFrom_9 (μ : Mem) : Mem := (upm (muX7_copyFrom_8 μ) 3 8 ((muX7_copyFrom_8 μ) 12 8))
def muX7_copyFrom_10 (μ : Mem) : Mem := (upm (muX7_copyFrom_9 μ) 3 9 ((muX7_copyFrom_9 μ) 12 9))
def muX7_copyFrom_11 (μ : Mem) : Mem := (upm (muX7_copyFrom_10 μ) 3 10 ((muX7_copyFrom_10 μ) 12 10))
def muX7_copyFrom_12 (μ : Mem) : Mem := (upm (muX7_copyFrom_11 μ) 3 11 ((muX7_copyFrom_11 μ) 12 11))
def muX7_copyFrom_13 (μ : Mem) : Mem := (upm (muX7_copyFrom_12 μ) 3 12 ((muX7_copyFrom_12 μ) 12 12))
def muX7_copyFrom_14 (μ : Mem) : Mem := (upm (muX7_copyFrom_13 μ) 3 13 ((muX7_copyFrom_13 μ) 12 13))
def M_X7_copyFrom  (μ : Mem) : Mem := (muX7_copyFrom_14 μ)
def P_X7_copyFrom  (μ : Mem) : Prop := ((P_X9_copyWhole 13 6 4 6 μ) ∧ ((P_X9_copyWhole 14 10 5 10 (muX7_copyFrom_1 μ)) ∧ ((P_X9_copyWhole 15 10 6 10 (muX7_copyFrom_2 μ)) ∧ ((P_X9_copyWhole 16 10 7 10 (muX7_copyFrom_3 μ)) ∧ ((P_X9_copyWhole 17 10 8 10 (muX7_copyFrom_4 μ)) ∧ ((P_X9_copyWhole 18 12 9 12 (muX7_copyFrom_5 μ)) ∧ ((P_X9_copyWhole 19 6 10 6 (muX7_copyFrom_6 μ)) ∧ (P_X9_copyWhole 20 6 11 6 (muX7_copyFrom_7 μ)))))))))
set_option maxRecDepth 20000 in
set_option maxHeartbeats 2000000 in
theorem ok_X7_copyFrom {G : SG} (hG : GK 57 G)  (μ : Mem) (hP : P_X7_copyFrom  μ) : OkF G mX7_copyFrom [.ref (ga G 3), .ref (ga G 12)] μ none (M_X7_copyFrom  μ) := by
  refine okF_of hG rfl (by decide) (Nat.le_of_ble_eq_true rfl) ?_
  unfold P_X7_copyFrom at hP
  refine r_aload_n dX7_copyFrom_0 1 rfl ?_
  refine r_getR 13 fX7_9 (hG.lt (by decide)) sh12 fs12_0 dX7_copyFrom_1 ?_
  refine r_aload_n dX7_copyFrom_4 0 rfl ?_
  refine r_getR 4 fX7_9 (hG.lt (by decide)) sh3 fs3_0 dX7_copyFrom_5 ?_
  have hs1 := hP.1
  replace hP := hP.2
  refine r_csV (ok_X9_copyWhole hG (hG.lt (by decide)) sh13 (hG.lt (by decide)) sh4 μ hs1) lX7_43 dX7_copyFrom_8 (by decide) (by decide) rfl (Nat.le_of_ble_eq_true rfl) ?_
  refine r_mu (muX7_copyFrom_1 μ) rfl ?_
  refine r_aload_n dX7_copyFrom_11 1 rfl ?_
  refine r_getR 14 fX7_15 (hG.lt (by decide)) sh12 fs12_1 dX7_copyFrom_12 ?_
  refine r_aload_n dX7_copyFrom_15 0 rfl ?_
  refine r_getR 5 fX7_15 (hG.lt (by decide)) sh3 fs3_1 dX7_copyFrom_16 ?_
  have hs2 := hP.1
  replace hP := hP.2
  refine r_csV (ok_X9_copyWhole hG (hG.lt (by decide)) sh14 (hG.lt (by decide)) sh5 (muX7_copyFrom_1 μ) hs2) lX7_43 dX7_copyFrom_19 (by decide) (by decide) rfl (Nat.le_of_ble_eq_true rfl) ?_
  refine r_mu (muX7_copyFrom_2 μ) rfl ?_
  refine r_aload_n dX7_copyFrom_22 1 rfl ?_
  refine r_getR 15 fX7_18 (hG.lt (by decide)) sh12 fs12_2 dX7_copyFrom_23 ?_
  refine r_aload_n dX7_copyFrom_26 0 rfl ?_
  refine r_getR 6 fX7_18 (hG.lt (by decide)) sh3 fs3_2 dX7_copyFrom_27 ?_
  have hs3 := hP.1
  replace hP := hP.2
  refine r_csV (ok_X9_copyWhole hG (hG.lt (by decide)) sh15 (hG.lt (by decide)) sh6 (muX7_copyFrom_2 μ) hs3) lX7_43 dX7_copyFrom_30 (by decide) (by decide) rfl (Nat.le_of_ble_eq_true rfl) ?_
  refine r_mu (muX7_copyFrom_3 μ) rfl ?_
  refine r_aload_n dX7_copyFrom_33 1 rfl ?_
  refine r_getR 16 fX7_21 (hG.lt (by decide)) sh12 fs12_3 dX7_copyFrom_34 ?_
  refine r_aload_n dX7_copyFrom_37 0 rfl ?_
  refine r_getR 7 fX7_21 (hG.lt (by decide)) sh3 fs3_3 dX7_copyFrom_38 ?_
  have hs4 := hP.1
  replace hP := hP.2
  refine r_csV (ok_X9_copyWhole hG (hG.lt (by decide)) sh16 (hG.lt (by decide)) sh7 (muX7_copyFrom_3 μ) hs4) lX7_43 dX7_copyFrom_41 (by decide) (by decide) rfl (Nat.le_of_ble_eq_true rfl) ?_
  refine r_mu (muX7_copyFrom_4 μ) rfl ?_
  refine r_aload_n dX7_copyFrom_44 1 rfl ?_
  refine r_getR 17 fX7_24 (hG.lt (by decide)) sh12 fs12_4 dX7_copyFrom_45 ?_
  refine r_aload_n dX7_copyFrom_48 0 rfl ?_
  refine r_getR 8 fX7_24 (hG.lt (by decide)) sh3 fs3_4 dX7_copyFrom_49 ?_
  have hs5 := hP.1
  replace hP := hP.2
  refine r_csV (ok_X9_copyWhole hG (hG.lt (by decide)) sh17 (hG.lt (by decide)) sh8 (muX7_copyFrom_4 μ) hs5) lX7_43 dX7_copyFrom_52 (by decide) (by decide) rfl (Nat.le_of_ble_eq_true rfl) ?_
  refine r_mu (muX7_copyFrom_5 μ) rfl ?_
  refine r_aload_n dX7_copyFrom_55 1 rfl ?_
  refine r_getR 18 fX7_27 (hG.lt (by decide)) sh12 fs12_5 dX7_copyFrom_56 ?_
  refine r_aload_n dX7_copyFrom_59 0 rfl ?_
  refine r_getR 9 fX7_27 (hG.lt (by decide)) sh3 fs3_5 dX7_copyFrom_60 ?_
  have hs6 := hP.1
  replace hP := hP.2
  refine r_csV (ok_X9_copyWhole hG (hG.lt (by decide)) sh18 (hG.lt (by decide)) sh9 (muX7_copyFrom_5 μ) hs6) lX7_43 dX7_copyFrom_63 (by decide) (by decide) rfl (Nat.le_of_ble_eq_true rfl) ?_
  refine r_mu (muX7_copyFrom_6 μ) rfl ?_
  refine r_aload_n dX7_copyFrom_66 1 rfl ?_
  refine r_getR 19 fX7_30 (hG.lt (by decide)) sh12 fs12_6 dX7_copyFrom_67 ?_
  refine r_aload_n dX7_copyFrom_70 0 rfl ?_
  refine r_getR 10 fX7_30 (hG.lt (by decide)) sh3 fs3_6 dX7_copyFrom_71 ?_
  have hs7 := hP.1
  replace hP := hP.2
  refine r_csV (ok_X9_copyWhole hG (hG.lt (by decide)) sh19 (hG.lt (by decide)) sh10 (muX7_copyFrom_6 μ) hs7) lX7_43 dX7_copyFrom_74 (by decide) (by decide) rfl (Nat.le_of_ble_eq_true rfl) ?_
  refine r_mu (muX7_copyFrom_7 μ) rfl ?_
  refine r_aload_n dX7_copyFrom_77 1 rfl ?_
  refine r_getR 20 fX7_33 (hG.lt (by decide)) sh12 fs12_7 dX7_copyFrom_78 ?_
  refine r_aload_n dX7_copyFrom_81 0 rfl ?_
  refine r_getR 11 fX7_33 (hG.lt (by decide)) sh3 fs3_7 dX7_copyFrom_82 ?_
  have hs8 := hP
  refine r_csV (ok_X9_copyWhole hG (hG.lt (by decide)) sh20 (hG.lt (by decide)) sh11 (muX7_copyFrom_7 μ) hs8) lX7_43 dX7_copyFrom_85 (by decide) (by decide) rfl (Nat.le_of_ble_eq_true rfl) ?_
  refine r_mu (muX7_copyFrom_8 μ) rfl ?_
  refine r_aload_n dX7_copyFrom_88 0 rfl ?_
  refine r_aload_n dX7_copyFrom_89 1 rfl ?_
  refine r_getI fX7_47 (hG.lt (by decide)) sh12 fs12_8 dX7_copyFrom_90 ?_
  refine r_put fiX7_47 (hG.lt (by decide)) sh3 fs3_8 dX7_copyFrom_93 ?_
  refine r_mu (muX7_copyFrom_9 μ) rfl ?_
  refine r_aload_n dX7_copyFrom_96 0 rfl ?_
  refine r_aload_n dX7_copyFrom_97 1 rfl ?_
  refine r_getI fX7_50 (hG.lt (by decide)) sh12 fs12_9 dX7_copyFrom_98 ?_
  refine r_put fiX7_50 (hG.lt (by decide)) sh3 fs3_9 dX7_copyFrom_101 ?_
  refine r_mu (muX7_copyFrom_10 μ) rfl ?_
  refine r_aload_n dX7_copyFrom_104 0 rfl ?_
  refine r_aload_n dX7_copyFrom_105 1 rfl ?_
  refine r_getI fX7_53 (hG.lt (by decide)) sh12 fs12_10 dX7_copyFrom_106 ?_
  refine r_put fiX7_53 (hG.lt (by decide)) sh3 fs3_10 dX7_copyFrom_109 ?_
  refine r_mu (muX7_copyFrom_11 μ) rfl ?_
  refine r_aload_n dX7_copyFrom_112 0 rfl ?_
  refine r_aload_n dX7_copyFrom_113 1 rfl ?_
  refine r_getI fX7_56 (hG.lt (by decide)) sh12 fs12_11 dX7_copyFrom_114 ?_
  refine r_put fiX7_56 (hG.lt (by decide)) sh3 fs3_11 dX7_copyFrom_117 ?_
  refine r_mu (muX7_copyFrom_12 μ) rfl ?_
  refine r_aload_n dX7_copyFrom_120 0 rfl ?_
  refine r_aload_n dX7_copyFrom_121 1 rfl ?_
  refine r_getI fX7_36 (hG.lt (by decide)) sh12 fs12_12 dX7_copyFrom_122 ?_
  refine r_put fiX7_36 (hG.lt (by decide)) sh3 fs3_12 dX7_copyFrom_125 ?_
  refine r_mu (muX7_copyFrom_13 μ) rfl ?_
  refine r_aload_n dX7_copyFrom_128 0 rfl ?_
  refine r_aload_n dX7_copyFrom_129 1 rfl ?_
  refine r_getI fX7_40 (hG.lt (by decide)) sh12 fs12_13 dX7_copyFrom_130 ?_
  refine r_put fiX7_40 (hG.lt (by decide)) sh3 fs3_13 dX7_copyFrom_133 ?_
  refine r_mu (muX7_copyFrom_14 μ) rfl ?_
  exact r_return dX7_copyFrom_136 rfl ⟨rfl, rfl⟩
def muX7_readInto_1 (row : Nat) (nrow : Nat) (p3 : Int32) (p4 : Int32) (p5 : Int32) (μ : Mem) : Mem := (M_X8_takeNumber p4 p5 μ)
def muX7_readInto_2 (row : Nat) (nrow : Nat) (p3 : Int32) (p4 : Int32) (p5 : Int32) (μ : Mem) : Mem := (M_X9_put row nrow p3 (F_X8_takeNumber p4 p5 μ) (muX7_readInto_1 row nrow p3 p4 p5 μ))
def F_X7_readInto (row nrow : Nat) (p3 : Int32) (p4 : Int32) (p5 : Int32) (μ : Mem) : Int32 := (if (F_X8_takeNumber p4 p5 μ) = (-1) then 0 else 1)
def M_X7_readInto (row nrow : Nat) (p3 : Int32) (p4 : Int32) (p5 : Int32) (μ : Mem) : Mem := (muX7_readInto_2 row nrow p3 p4 p5 μ)
def P_X7_readInto (row nrow : Nat) (p3 : Int32) (p4 : Int32) (p5 : Int32) (μ : Mem) : Prop := (P_X8_takeNumber p4 p5 μ)
theorem bo_X7_readInto (row nrow : Nat) (p3 : Int32) (p4 : Int32) (p5 : Int32) (μ : Mem) : F_X7_readInto row nrow p3 p4 p5 μ = 0 ∨ F_X7_readInto row nrow p3 p4 p5 μ = 1 := by
  unfold F_X7_readInto
  split
  · exact Or.inl rfl
  · exact Or.inr rfl
set_option maxRecDepth 20000 in
set_option maxHeartbeats 2000000 in
theorem ok_X7_readInto {G : SG} (hG : GK 57 G) {row nrow : Nat} (hlrow : row < gh G) (hsrow : shp row = (1, nrow, 0)) (p3 : Int32) (p4 : Int32) (p5 : Int32) (μ : Mem) (hP : P_X7_readInto row nrow p3 p4 p5 μ) : OkF G mX7_readInto [.ref (ga G 12), .ref (ga G 1), .ref (ga G row), .int p3, .int p4, .int p5] μ (some (.int (F_X7_readInto row nrow p3 p4 p5 μ))) (M_X7_readInto row nrow p3 p4 p5 μ) := by
  refine okF_of hG rfl (by decide) (Nat.le_of_ble_eq_true rfl) ?_
  unfold P_X7_readInto at hP
  refine r_aload_n dX7_readInto_0 1 rfl ?_
  refine r_iload dX7_readInto_1 4 rfl ?_
  refine r_iload dX7_readInto_3 5 rfl ?_
  have hs1 := hP
  refine r_cvI (ok_X8_takeNumber hG p4 p5 μ hs1) lX7_117 (hG.lt (by decide)) sh1 ⟨_, _, rfl⟩ dX7_readInto_5 (by decide) (by decide) rfl (Nat.le_of_ble_eq_true rfl) ?_
  refine r_mu (muX7_readInto_1 row nrow p3 p4 p5 μ) rfl ?_
  refine r_istore [(6, _), (0, _), (1, _), (2, _), (3, _), (4, _), (5, _)] dX7_readInto_8 (by decide) rfl ?_
  refine r_aload_n dX7_readInto_10 3 rfl ?_
  refine r_iload_n dX7_readInto_11 4 rfl ?_
  refine r_iload dX7_readInto_12 0 rfl ?_
  refine r_csV (ok_X9_put hG hlrow hsrow p3 (F_X8_takeNumber p4 p5 μ) (muX7_readInto_1 row nrow p3 p4 p5 μ)) lX7_121 dX7_readInto_14 (by decide) (by decide) rfl (Nat.le_of_ble_eq_true rfl) ?_
  refine r_mu (muX7_readInto_2 row nrow p3 p4 p5 μ) rfl ?_
  refine r_iload dX7_readInto_17 0 rfl ?_
  refine r_iconst (-1) dX7_readInto_19 rfl ?_
  refine r_icmp_eq 27 dX7_readInto_20 (by decide) (fun c1 => ?_) (fun c1 => ?_)
  · refine r_iconst 0 dX7_readInto_27 rfl ?_
    exact r_ireturn _ dX7_readInto_28 rfl rfl ⟨congrArg (fun z => some (Value.int z)) (by unfold F_X7_readInto; rw [if_pos c1]), rfl⟩
  · refine r_iconst 1 dX7_readInto_23 rfl ?_
    refine r_goto 28 dX7_readInto_24 (by decide) ?_
    exact r_ireturn _ dX7_readInto_28 rfl rfl ⟨congrArg (fun z => some (Value.int z)) (by unfold F_X7_readInto; rw [if_neg c1]), rfl⟩
def muX7_readFind_1 (μ : Mem) : Mem := (M_X7_readInto 19 6 (μ 12 11) 1 40 μ)
def muX7_readFind_2 (μ : Mem) : Mem := (M_X7_readInto 20 6 ((muX7_readFind_1 μ) 12 11) 0 16 (muX7_readFind_1 μ))
def VX7_readFind_3 (μ : Mem) : Int32 := (if (F_X7_readInto 19 6 (μ 12 11) 1 40 μ) = 0 then 0 else (if (F_X7_readInto 20 6 ((muX7_readFind_1 μ) 12 11) 0 16 (muX7_readFind_1 μ)) = 0 then 0 else 1))
theorem bo_VX7_readFind_3 (μ : Mem) : (VX7_readFind_3 μ) = 0 ∨ (VX7_readFind_3 μ) = 1 := by
  unfold VX7_readFind_3
  split
  · exact Or.inl rfl
  · split
    · exact Or.inl rfl
    · exact Or.inr rfl
def VX7_readFind_4 (μ : Mem) : Mem := (if (F_X7_readInto 19 6 (μ 12 11) 1 40 μ) = 0 then (muX7_readFind_1 μ) else (muX7_readFind_2 μ))
def muX7_readFind_5 (μ : Mem) : Mem := (upm (VX7_readFind_4 μ) 12 11 (((VX7_readFind_4 μ) 12 11) + 1))
def F_X7_readFind  (μ : Mem) : Int32 := (VX7_readFind_3 μ)
def M_X7_readFind  (μ : Mem) : Mem := (muX7_readFind_5 μ)
def P_X7_readFind  (μ : Mem) : Prop := ((P_X7_readInto 19 6 (μ 12 11) 1 40 μ) ∧ (((F_X7_readInto 19 6 (μ 12 11) 1 40 μ) = 0 → True) ∧ (¬ (F_X7_readInto 19 6 (μ 12 11) 1 40 μ) = 0 → (P_X7_readInto 20 6 ((muX7_readFind_1 μ) 12 11) 0 16 (muX7_readFind_1 μ)))))
theorem bo_X7_readFind  (μ : Mem) : F_X7_readFind  μ = 0 ∨ F_X7_readFind  μ = 1 := by
  unfold F_X7_readFind
  exact (bo_VX7_readFind_3 μ)
set_option maxRecDepth 20000 in
set_option maxHeartbeats 2000000 in
theorem ok_X7_readFind {G : SG} (hG : GK 57 G)  (μ : Mem) (hP : P_X7_readFind  μ) : OkF G mX7_readFind [.ref (ga G 12), .ref (ga G 1)] μ (some (.int (F_X7_readFind  μ))) (M_X7_readFind  μ) := by
  refine okF_of hG rfl (by decide) (Nat.le_of_ble_eq_true rfl) ?_
  unfold P_X7_readFind at hP
  refine r_aload_n dX7_readFind_0 0 rfl ?_
  refine r_aload_n dX7_readFind_1 1 rfl ?_
  refine r_aload_n dX7_readFind_2 0 rfl ?_
  refine r_getR 19 fX7_30 (hG.lt (by decide)) sh12 fs12_6 dX7_readFind_3 ?_
  refine r_aload_n dX7_readFind_6 0 rfl ?_
  refine r_getI fX7_56 (hG.lt (by decide)) sh12 fs12_11 dX7_readFind_7 ?_
  refine r_iconst 1 dX7_readFind_10 rfl ?_
  refine r_bipush 40 dX7_readFind_11 rfl ?_
  have hs1 := hP.1
  replace hP := hP.2
  refine r_cvI (ok_X7_readInto hG (hG.lt (by decide)) sh19 (μ 12 11) 1 40 μ hs1) lX7_125 (hG.lt (by decide)) sh12 ⟨_, _, rfl⟩ dX7_readFind_13 (by decide) (by decide) rfl (Nat.le_of_ble_eq_true rfl) ?_
  refine r_mu (muX7_readFind_1 μ) rfl ?_
  refine r_join 43 [(0, .ref (ga G 12)), (1, .ref (ga G 1))] [.int (VX7_readFind_3 μ)] (VX7_readFind_4 μ) ?_ (fun hJ => ?_)
  · refine r_istore_n [(2, _), (0, _), (1, _)] dX7_readFind_43 (by decide) rfl ?_
    refine r_aload_n dX7_readFind_44 1 rfl ?_
    refine r_dup dX7_readFind_45 rfl ?_
    refine r_getI fX7_56 (hG.lt (by decide)) sh12 fs12_11 dX7_readFind_46 ?_
    refine r_iconst 1 dX7_readFind_49 rfl ?_
    refine r_iadd dX7_readFind_50 ?_
    refine r_put fiX7_56 (hG.lt (by decide)) sh12 fs12_11 dX7_readFind_51 ?_
    refine r_mu (muX7_readFind_5 μ) rfl ?_
    refine r_iload_n dX7_readFind_54 0 rfl ?_
    exact r_ireturn _ dX7_readFind_55 rfl (nb01 ((bo_VX7_readFind_3 μ))) ⟨congrArg (fun z => some (Value.int z)) (rfl), rfl⟩
  · refine r_if_eq 42 dX7_readFind_16 (by decide) (fun c1 => ?_) (fun c1 => ?_)
    · replace hP := hP.1 c1
      refine r_iconst 0 dX7_readFind_42 rfl ?_
      have e : (VX7_readFind_3 μ) = 0 := by unfold VX7_readFind_3; rw [if_pos c1]
      rw [e] at hJ
      clear e
      have e : (VX7_readFind_4 μ) = (muX7_readFind_1 μ) := by unfold VX7_readFind_4; rw [if_pos c1]
      rw [e] at hJ
      exact r_sub [0, 1] rfl hJ
    · replace hP := hP.2 c1
      refine r_aload_n dX7_readFind_19 0 rfl ?_
      refine r_aload_n dX7_readFind_20 1 rfl ?_
      refine r_aload_n dX7_readFind_21 0 rfl ?_
      refine r_getR 20 fX7_33 (hG.lt (by decide)) sh12 fs12_7 dX7_readFind_22 ?_
      refine r_aload_n dX7_readFind_25 0 rfl ?_
      refine r_getI fX7_56 (hG.lt (by decide)) sh12 fs12_11 dX7_readFind_26 ?_
      refine r_iconst 0 dX7_readFind_29 rfl ?_
      refine r_bipush 16 dX7_readFind_30 rfl ?_
      have hs2 := hP
      refine r_cvI (ok_X7_readInto hG (hG.lt (by decide)) sh20 ((muX7_readFind_1 μ) 12 11) 0 16 (muX7_readFind_1 μ) hs2) lX7_125 (hG.lt (by decide)) sh12 ⟨_, _, rfl⟩ dX7_readFind_32 (by decide) (by decide) rfl (Nat.le_of_ble_eq_true rfl) ?_
      refine r_mu (muX7_readFind_2 μ) rfl ?_
      refine r_if_eq 42 dX7_readFind_35 (by decide) (fun c2 => ?_) (fun c2 => ?_)
      · refine r_iconst 0 dX7_readFind_42 rfl ?_
        have e : (VX7_readFind_3 μ) = 0 := by unfold VX7_readFind_3; rw [if_neg c1, if_pos c2]
        rw [e] at hJ
        clear e
        have e : (VX7_readFind_4 μ) = (muX7_readFind_2 μ) := by unfold VX7_readFind_4; rw [if_neg c1]
        rw [e] at hJ
        exact r_sub [0, 1] rfl hJ
      · refine r_iconst 1 dX7_readFind_38 rfl ?_
        refine r_goto 43 dX7_readFind_39 (by decide) ?_
        have e : (VX7_readFind_3 μ) = 1 := by unfold VX7_readFind_3; rw [if_neg c1, if_neg c2]
        rw [e] at hJ
        clear e
        have e : (VX7_readFind_4 μ) = (muX7_readFind_2 μ) := by unfold VX7_readFind_4; rw [if_neg c1]
        rw [e] at hJ
        exact r_sub [0, 1] rfl hJ
def muX7_readHouse_1 (μ : Mem) : Mem := (M_X7_readInto 13 6 (μ 12 8) 0 40 μ)
def muX7_readHouse_2 (μ : Mem) : Mem := (upm (muX7_readHouse_1 μ) 12 8 (((muX7_readHouse_1 μ) 12 8) + 1))
def F_X7_readHouse  (μ : Mem) : Int32 := (F_X7_readInto 13 6 (μ 12 8) 0 40 μ)
def M_X7_readHouse  (μ : Mem) : Mem := (muX7_readHouse_2 μ)
def P_X7_readHouse  (μ : Mem) : Prop := (P_X7_readInto 13 6 (μ 12 8) 0 40 μ)
theorem bo_X7_readHouse  (μ : Mem) : F_X7_readHouse  μ = 0 ∨ F_X7_readHouse  μ = 1 := by
  unfold F_X7_readHouse
  exact (bo_X7_readInto 13 6 (μ 12 8) 0 40 μ)
set_option maxRecDepth 20000 in
set_option maxHeartbeats 2000000 in
theorem ok_X7_readHouse {G : SG} (hG : GK 57 G)  (μ : Mem) (hP : P_X7_readHouse  μ) : OkF G mX7_readHouse [.ref (ga G 12), .ref (ga G 1)] μ (some (.int (F_X7_readHouse  μ))) (M_X7_readHouse  μ) := by
  refine okF_of hG rfl (by decide) (Nat.le_of_ble_eq_true rfl) ?_
  unfold P_X7_readHouse at hP
  refine r_aload_n dX7_readHouse_0 0 rfl ?_
  refine r_aload_n dX7_readHouse_1 1 rfl ?_
  refine r_aload_n dX7_readHouse_2 0 rfl ?_
  refine r_getR 13 fX7_9 (hG.lt (by decide)) sh12 fs12_0 dX7_readHouse_3 ?_
  refine r_aload_n dX7_readHouse_6 0 rfl ?_
  refine r_getI fX7_47 (hG.lt (by decide)) sh12 fs12_8 dX7_readHouse_7 ?_
  refine r_iconst 0 dX7_readHouse_10 rfl ?_
  refine r_bipush 40 dX7_readHouse_11 rfl ?_
  have hs1 := hP
  refine r_cvI (ok_X7_readInto hG (hG.lt (by decide)) sh13 (μ 12 8) 0 40 μ hs1) lX7_125 (hG.lt (by decide)) sh12 ⟨_, _, rfl⟩ dX7_readHouse_13 (by decide) (by decide) rfl (Nat.le_of_ble_eq_true rfl) ?_
  refine r_mu (muX7_readHouse_1 μ) rfl ?_
  refine r_istore_n [(2, _), (0, _), (1, _)] dX7_readHouse_16 (by decide) rfl ?_
  refine r_aload_n dX7_readHouse_17 1 rfl ?_
  refine r_dup dX7_readHouse_18 rfl ?_
  refine r_getI fX7_47 (hG.lt (by decide)) sh12 fs12_8 dX7_readHouse_19 ?_
  refine r_iconst 1 dX7_readHouse_22 rfl ?_
  refine r_iadd dX7_readHouse_23 ?_
  refine r_put fiX7_47 (hG.lt (by decide)) sh12 fs12_8 dX7_readHouse_24 ?_
  refine r_mu (muX7_readHouse_2 μ) rfl ?_
  refine r_iload_n dX7_readHouse_27 0 rfl ?_
  exact r_ireturn _ dX7_readHouse_28 rfl (nb01 ((bo_X7_readInto 13 6 (μ 12 8) 0 40 μ))) ⟨congrArg (fun z => some (Value.int z)) (rfl), rfl⟩
def muX7_readRent_1 (μ : Mem) : Mem := (M_X8_takeNumber 0 40 μ)
def muX7_readRent_2 (μ : Mem) : Mem := (upm (muX7_readRent_1 μ) 12 12 (F_X8_takeNumber 0 40 μ))
def F_X7_readRent  (μ : Mem) : Int32 := (if ((muX7_readRent_2 μ) 12 12) = (-1) then 0 else 1)
def M_X7_readRent  (μ : Mem) : Mem := (muX7_readRent_2 μ)
def P_X7_readRent  (μ : Mem) : Prop := (P_X8_takeNumber 0 40 μ)
theorem bo_X7_readRent  (μ : Mem) : F_X7_readRent  μ = 0 ∨ F_X7_readRent  μ = 1 := by
  unfold F_X7_readRent
  split
  · exact Or.inl rfl
  · exact Or.inr rfl
set_option maxRecDepth 20000 in
set_option maxHeartbeats 2000000 in
theorem ok_X7_readRent {G : SG} (hG : GK 57 G)  (μ : Mem) (hP : P_X7_readRent  μ) : OkF G mX7_readRent [.ref (ga G 12), .ref (ga G 1)] μ (some (.int (F_X7_readRent  μ))) (M_X7_readRent  μ) := by
  refine okF_of hG rfl (by decide) (Nat.le_of_ble_eq_true rfl) ?_
  unfold P_X7_readRent at hP
  refine r_aload_n dX7_readRent_0 0 rfl ?_
  refine r_aload_n dX7_readRent_1 1 rfl ?_
  refine r_iconst 0 dX7_readRent_2 rfl ?_
  refine r_bipush 40 dX7_readRent_3 rfl ?_
  have hs1 := hP
  refine r_cvI (ok_X8_takeNumber hG 0 40 μ hs1) lX7_117 (hG.lt (by decide)) sh1 ⟨_, _, rfl⟩ dX7_readRent_5 (by decide) (by decide) rfl (Nat.le_of_ble_eq_true rfl) ?_
  refine r_mu (muX7_readRent_1 μ) rfl ?_
  refine r_put fiX7_36 (hG.lt (by decide)) sh12 fs12_12 dX7_readRent_8 ?_
  refine r_mu (muX7_readRent_2 μ) rfl ?_
  refine r_aload_n dX7_readRent_11 0 rfl ?_
  refine r_getI fX7_36 (hG.lt (by decide)) sh12 fs12_12 dX7_readRent_12 ?_
  refine r_iconst (-1) dX7_readRent_15 rfl ?_
  refine r_icmp_eq 23 dX7_readRent_16 (by decide) (fun c1 => ?_) (fun c1 => ?_)
  · refine r_iconst 0 dX7_readRent_23 rfl ?_
    exact r_ireturn _ dX7_readRent_24 rfl rfl ⟨congrArg (fun z => some (Value.int z)) (by unfold F_X7_readRent; rw [if_pos c1]), rfl⟩
  · refine r_iconst 1 dX7_readRent_19 rfl ?_
    refine r_goto 24 dX7_readRent_20 (by decide) ?_
    exact r_ireturn _ dX7_readRent_24 rfl rfl ⟨congrArg (fun z => some (Value.int z)) (by unfold F_X7_readRent; rw [if_neg c1]), rfl⟩
def muX7_readRope_1 (μ : Mem) : Mem := (M_X8_takeNumber 1 9 μ)
def muX7_readRope_2 (μ : Mem) : Mem := (upm (muX7_readRope_1 μ) 12 13 (F_X8_takeNumber 1 9 μ))
def F_X7_readRope  (μ : Mem) : Int32 := (if ((muX7_readRope_2 μ) 12 13) = (-1) then 0 else 1)
def M_X7_readRope  (μ : Mem) : Mem := (muX7_readRope_2 μ)
def P_X7_readRope  (μ : Mem) : Prop := (P_X8_takeNumber 1 9 μ)
theorem bo_X7_readRope  (μ : Mem) : F_X7_readRope  μ = 0 ∨ F_X7_readRope  μ = 1 := by
  unfold F_X7_readRope
  split
  · exact Or.inl rfl
  · exact Or.inr rfl
set_option maxRecDepth 20000 in
set_option maxHeartbeats 2000000 in
theorem ok_X7_readRope {G : SG} (hG : GK 57 G)  (μ : Mem) (hP : P_X7_readRope  μ) : OkF G mX7_readRope [.ref (ga G 12), .ref (ga G 1)] μ (some (.int (F_X7_readRope  μ))) (M_X7_readRope  μ) := by
  refine okF_of hG rfl (by decide) (Nat.le_of_ble_eq_true rfl) ?_
  unfold P_X7_readRope at hP
  refine r_aload_n dX7_readRope_0 0 rfl ?_
  refine r_aload_n dX7_readRope_1 1 rfl ?_
  refine r_iconst 1 dX7_readRope_2 rfl ?_
  refine r_bipush 9 dX7_readRope_3 rfl ?_
  have hs1 := hP
  refine r_cvI (ok_X8_takeNumber hG 1 9 μ hs1) lX7_117 (hG.lt (by decide)) sh1 ⟨_, _, rfl⟩ dX7_readRope_5 (by decide) (by decide) rfl (Nat.le_of_ble_eq_true rfl) ?_
  refine r_mu (muX7_readRope_1 μ) rfl ?_
  refine r_put fiX7_40 (hG.lt (by decide)) sh12 fs12_13 dX7_readRope_8 ?_
  refine r_mu (muX7_readRope_2 μ) rfl ?_
  refine r_aload_n dX7_readRope_11 0 rfl ?_
  refine r_getI fX7_40 (hG.lt (by decide)) sh12 fs12_13 dX7_readRope_12 ?_
  refine r_iconst (-1) dX7_readRope_15 rfl ?_
  refine r_icmp_eq 23 dX7_readRope_16 (by decide) (fun c1 => ?_) (fun c1 => ?_)
  · refine r_iconst 0 dX7_readRope_23 rfl ?_
    exact r_ireturn _ dX7_readRope_24 rfl rfl ⟨congrArg (fun z => some (Value.int z)) (by unfold F_X7_readRope; rw [if_pos c1]), rfl⟩
  · refine r_iconst 1 dX7_readRope_19 rfl ?_
    refine r_goto 24 dX7_readRope_20 (by decide) ?_
    exact r_ireturn _ dX7_readRope_24 rfl rfl ⟨congrArg (fun z => some (Value.int z)) (by unfold F_X7_readRope; rw [if_neg c1]), rfl⟩
def muX7_readThing_1 (μ : Mem) : Mem := (M_X7_readInto 14 10 (μ 12 9) 0 ((μ 12 8) - 1) μ)
def muX7_readThing_2 (μ : Mem) : Mem := (M_X7_readInto 15 10 ((muX7_readThing_1 μ) 12 9) 1 9 (muX7_readThing_1 μ))
def muX7_readThing_3 (μ : Mem) : Mem := (M_X7_readInto 16 10 ((muX7_readThing_2 μ) 12 9) 1 20 (muX7_readThing_2 μ))
def muX7_readThing_4 (μ : Mem) : Mem := (M_X7_readInto 17 10 ((muX7_readThing_3 μ) 12 9) 0 40 (muX7_readThing_3 μ))
def VX7_readThing_5 (μ : Mem) : Int32 := (if (F_X7_readInto 14 10 (μ 12 9) 0 ((μ 12 8) - 1) μ) = 0 then 0 else (if (F_X7_readInto 15 10 ((muX7_readThing_1 μ) 12 9) 1 9 (muX7_readThing_1 μ)) = 0 then 0 else (if (F_X7_readInto 16 10 ((muX7_readThing_2 μ) 12 9) 1 20 (muX7_readThing_2 μ)) = 0 then 0 else (if (F_X7_readInto 17 10 ((muX7_readThing_3 μ) 12 9) 0 40 (muX7_readThing_3 μ)) = 0 then 0 else 1))))
theorem bo_VX7_readThing_5 (μ : Mem) : (VX7_readThing_5 μ) = 0 ∨ (VX7_readThing_5 μ) = 1 := by
  unfold VX7_readThing_5
  split
  · exact Or.inl rfl
  · split
    · exact Or.inl rfl
    · split
      · exact Or.inl rfl
      · split
        · exact Or.inl rfl
        · exact Or.inr rfl
def VX7_readThing_6 (μ : Mem) : Mem := (if (F_X7_readInto 14 10 (μ 12 9) 0 ((μ 12 8) - 1) μ) = 0 then (muX7_readThing_1 μ) else (if (F_X7_readInto 15 10 ((muX7_readThing_1 μ) 12 9) 1 9 (muX7_readThing_1 μ)) = 0 then (muX7_readThing_2 μ) else (if (F_X7_readInto 16 10 ((muX7_readThing_2 μ) 12 9) 1 20 (muX7_readThing_2 μ)) = 0 then (muX7_readThing_3 μ) else (muX7_readThing_4 μ))))
def muX7_readThing_7 (μ : Mem) : Mem := (upm (VX7_readThing_6 μ) 12 9 (((VX7_readThing_6 μ) 12 9) + 1))
def F_X7_readThing  (μ : Mem) : Int32 := (VX7_readThing_5 μ)
def M_X7_readThing  (μ : Mem) : Mem := (muX7_readThing_7 μ)
def P_X7_readThing  (μ : Mem) : Prop := ((P_X7_readInto 14 10 (μ 12 9) 0 ((μ 12 8) - 1) μ) ∧ (((F_X7_readInto 14 10 (μ 12 9) 0 ((μ 12 8) - 1) μ) = 0 → True) ∧ (¬ (F_X7_readInto 14 10 (μ 12 9) 0 ((μ 12 8) - 1) μ) = 0 → ((P_X7_readInto 15 10 ((muX7_readThing_1 μ) 12 9) 1 9 (muX7_readThing_1 μ)) ∧ (((F_X7_readInto 15 10 ((muX7_readThing_1 μ) 12 9) 1 9 (muX7_readThing_1 μ)) = 0 → True) ∧ (¬ (F_X7_readInto 15 10 ((muX7_readThing_1 μ) 12 9) 1 9 (muX7_readThing_1 μ)) = 0 → ((P_X7_readInto 16 10 ((muX7_readThing_2 μ) 12 9) 1 20 (muX7_readThing_2 μ)) ∧ (((F_X7_readInto 16 10 ((muX7_readThing_2 μ) 12 9) 1 20 (muX7_readThing_2 μ)) = 0 → True) ∧ (¬ (F_X7_readInto 16 10 ((muX7_readThing_2 μ) 12 9) 1 20 (muX7_readThing_2 μ)) = 0 → (P_X7_readInto 17 10 ((muX7_readThing_3 μ) 12 9) 0 40 (muX7_readThing_3 μ)))))))))))
theorem bo_X7_readThing  (μ : Mem) : F_X7_readThing  μ = 0 ∨ F_X7_readThing  μ = 1 := by
  unfold F_X7_readThing
  exact (bo_VX7_readThing_5 μ)
set_option maxRecDepth 20000 in
set_option maxHeartbeats 2000000 in
theorem ok_X7_readThing {G : SG} (hG : GK 57 G)  (μ : Mem) (hP : P_X7_readThing  μ) : OkF G mX7_readThing [.ref (ga G 12), .ref (ga G 1)] μ (some (.int (F_X7_readThing  μ))) (M_X7_readThing  μ) := by
  refine okF_of hG rfl (by decide) (Nat.le_of_ble_eq_true rfl) ?_
  unfold P_X7_readThing at hP
  refine r_aload_n dX7_readThing_0 0 rfl ?_
  refine r_aload_n dX7_readThing_1 1 rfl ?_
  refine r_aload_n dX7_readThing_2 0 rfl ?_
  refine r_getR 14 fX7_15 (hG.lt (by decide)) sh12 fs12_1 dX7_readThing_3 ?_
  refine r_aload_n dX7_readThing_6 0 rfl ?_
  refine r_getI fX7_50 (hG.lt (by decide)) sh12 fs12_9 dX7_readThing_7 ?_
  refine r_iconst 0 dX7_readThing_10 rfl ?_
  refine r_aload_n dX7_readThing_11 0 rfl ?_
  refine r_getI fX7_47 (hG.lt (by decide)) sh12 fs12_8 dX7_readThing_12 ?_
  refine r_iconst 1 dX7_readThing_15 rfl ?_
  refine r_isub dX7_readThing_16 ?_
  have hs1 := hP.1
  replace hP := hP.2
  refine r_cvI (ok_X7_readInto hG (hG.lt (by decide)) sh14 (μ 12 9) 0 ((μ 12 8) - 1) μ hs1) lX7_125 (hG.lt (by decide)) sh12 ⟨_, _, rfl⟩ dX7_readThing_17 (by decide) (by decide) rfl (Nat.le_of_ble_eq_true rfl) ?_
  refine r_mu (muX7_readThing_1 μ) rfl ?_
  refine r_join 85 [(0, .ref (ga G 12)), (1, .ref (ga G 1))] [.int (VX7_readThing_5 μ)] (VX7_readThing_6 μ) ?_ (fun hJ => ?_)
  · refine r_istore_n [(2, _), (0, _), (1, _)] dX7_readThing_85 (by decide) rfl ?_
    refine r_aload_n dX7_readThing_86 1 rfl ?_
    refine r_dup dX7_readThing_87 rfl ?_
    refine r_getI fX7_50 (hG.lt (by decide)) sh12 fs12_9 dX7_readThing_88 ?_
    refine r_iconst 1 dX7_readThing_91 rfl ?_
    refine r_iadd dX7_readThing_92 ?_
    refine r_put fiX7_50 (hG.lt (by decide)) sh12 fs12_9 dX7_readThing_93 ?_
    refine r_mu (muX7_readThing_7 μ) rfl ?_
    refine r_iload_n dX7_readThing_96 0 rfl ?_
    exact r_ireturn _ dX7_readThing_97 rfl (nb01 ((bo_VX7_readThing_5 μ))) ⟨congrArg (fun z => some (Value.int z)) (rfl), rfl⟩
  · refine r_if_eq 84 dX7_readThing_20 (by decide) (fun c1 => ?_) (fun c1 => ?_)
    · replace hP := hP.1 c1
      refine r_iconst 0 dX7_readThing_84 rfl ?_
      have e : (VX7_readThing_5 μ) = 0 := by unfold VX7_readThing_5; rw [if_pos c1]
      rw [e] at hJ
      clear e
      have e : (VX7_readThing_6 μ) = (muX7_readThing_1 μ) := by unfold VX7_readThing_6; rw [if_pos c1]
      rw [e] at hJ
      exact r_sub [0, 1] rfl hJ
    · replace hP := hP.2 c1
      refine r_aload_n dX7_readThing_23 0 rfl ?_
      refine r_aload_n dX7_readThing_24 1 rfl ?_
      refine r_aload_n dX7_readThing_25 0 rfl ?_
      refine r_getR 15 fX7_18 (hG.lt (by decide)) sh12 fs12_2 dX7_readThing_26 ?_
      refine r_aload_n dX7_readThing_29 0 rfl ?_
      refine r_getI fX7_50 (hG.lt (by decide)) sh12 fs12_9 dX7_readThing_30 ?_
      refine r_iconst 1 dX7_readThing_33 rfl ?_
      refine r_bipush 9 dX7_readThing_34 rfl ?_
      have hs2 := hP.1
      replace hP := hP.2
      refine r_cvI (ok_X7_readInto hG (hG.lt (by decide)) sh15 ((muX7_readThing_1 μ) 12 9) 1 9 (muX7_readThing_1 μ) hs2) lX7_125 (hG.lt (by decide)) sh12 ⟨_, _, rfl⟩ dX7_readThing_36 (by decide) (by decide) rfl (Nat.le_of_ble_eq_true rfl) ?_
      refine r_mu (muX7_readThing_2 μ) rfl ?_
      refine r_if_eq 84 dX7_readThing_39 (by decide) (fun c2 => ?_) (fun c2 => ?_)
      · replace hP := hP.1 c2
        refine r_iconst 0 dX7_readThing_84 rfl ?_
        have e : (VX7_readThing_5 μ) = 0 := by unfold VX7_readThing_5; rw [if_neg c1, if_pos c2]
        rw [e] at hJ
        clear e
        have e : (VX7_readThing_6 μ) = (muX7_readThing_2 μ) := by unfold VX7_readThing_6; rw [if_neg c1, if_pos c2]
        rw [e] at hJ
        exact r_sub [0, 1] rfl hJ
      · replace hP := hP.2 c2
        refine r_aload_n dX7_readThing_42 0 rfl ?_
        refine r_aload_n dX7_readThing_43 1 rfl ?_
        refine r_aload_n dX7_readThing_44 0 rfl ?_
        refine r_getR 16 fX7_21 (hG.lt (by decide)) sh12 fs12_3 dX7_readThing_45 ?_
        refine r_aload_n dX7_readThing_48 0 rfl ?_
        refine r_getI fX7_50 (hG.lt (by decide)) sh12 fs12_9 dX7_readThing_49 ?_
        refine r_iconst 1 dX7_readThing_52 rfl ?_
        refine r_bipush 20 dX7_readThing_53 rfl ?_
        have hs3 := hP.1
        replace hP := hP.2
        refine r_cvI (ok_X7_readInto hG (hG.lt (by decide)) sh16 ((muX7_readThing_2 μ) 12 9) 1 20 (muX7_readThing_2 μ) hs3) lX7_125 (hG.lt (by decide)) sh12 ⟨_, _, rfl⟩ dX7_readThing_55 (by decide) (by decide) rfl (Nat.le_of_ble_eq_true rfl) ?_
        refine r_mu (muX7_readThing_3 μ) rfl ?_
        refine r_if_eq 84 dX7_readThing_58 (by decide) (fun c3 => ?_) (fun c3 => ?_)
        · replace hP := hP.1 c3
          refine r_iconst 0 dX7_readThing_84 rfl ?_
          have e : (VX7_readThing_5 μ) = 0 := by unfold VX7_readThing_5; rw [if_neg c1, if_neg c2, if_pos c3]
          rw [e] at hJ
          clear e
          have e : (VX7_readThing_6 μ) = (muX7_readThing_3 μ) := by unfold VX7_readThing_6; rw [if_neg c1, if_neg c2, if_pos c3]
          rw [e] at hJ
          exact r_sub [0, 1] rfl hJ
        · replace hP := hP.2 c3
          refine r_aload_n dX7_readThing_61 0 rfl ?_
          refine r_aload_n dX7_readThing_62 1 rfl ?_
          refine r_aload_n dX7_readThing_63 0 rfl ?_
          refine r_getR 17 fX7_24 (hG.lt (by decide)) sh12 fs12_4 dX7_readThing_64 ?_
          refine r_aload_n dX7_readThing_67 0 rfl ?_
          refine r_getI fX7_50 (hG.lt (by decide)) sh12 fs12_9 dX7_readThing_68 ?_
          refine r_iconst 0 dX7_readThing_71 rfl ?_
          refine r_bipush 40 dX7_readThing_72 rfl ?_
          have hs4 := hP
          refine r_cvI (ok_X7_readInto hG (hG.lt (by decide)) sh17 ((muX7_readThing_3 μ) 12 9) 0 40 (muX7_readThing_3 μ) hs4) lX7_125 (hG.lt (by decide)) sh12 ⟨_, _, rfl⟩ dX7_readThing_74 (by decide) (by decide) rfl (Nat.le_of_ble_eq_true rfl) ?_
          refine r_mu (muX7_readThing_4 μ) rfl ?_
          refine r_if_eq 84 dX7_readThing_77 (by decide) (fun c4 => ?_) (fun c4 => ?_)
          · refine r_iconst 0 dX7_readThing_84 rfl ?_
            have e : (VX7_readThing_5 μ) = 0 := by unfold VX7_readThing_5; rw [if_neg c1, if_neg c2, if_neg c3, if_pos c4]
            rw [e] at hJ
            clear e
            have e : (VX7_readThing_6 μ) = (muX7_readThing_4 μ) := by unfold VX7_readThing_6; rw [if_neg c1, if_neg c2, if_neg c3]
            rw [e] at hJ
            exact r_sub [0, 1] rfl hJ
          · refine r_iconst 1 dX7_readThing_80 rfl ?_
            refine r_goto 85 dX7_readThing_81 (by decide) ?_
            have e : (VX7_readThing_5 μ) = 1 := by unfold VX7_readThing_5; rw [if_neg c1, if_neg c2, if_neg c3, if_neg c4]
            rw [e] at hJ
            clear e
            have e : (VX7_readThing_6 μ) = (muX7_readThing_4 μ) := by unfold VX7_readThing_6; rw [if_neg c1, if_neg c2, if_neg c3]
            rw [e] at hJ
            exact r_sub [0, 1] rfl hJ
def muX7_readTide_1 (μ : Mem) : Mem := (M_X7_readInto 18 12 (μ 12 10) 0 60 μ)
def muX7_readTide_2 (μ : Mem) : Mem := (upm (muX7_readTide_1 μ) 12 10 (((muX7_readTide_1 μ) 12 10) + 1))
def F_X7_readTide  (μ : Mem) : Int32 := (F_X7_readInto 18 12 (μ 12 10) 0 60 μ)
def M_X7_readTide  (μ : Mem) : Mem := (muX7_readTide_2 μ)
def P_X7_readTide  (μ : Mem) : Prop := (P_X7_readInto 18 12 (μ 12 10) 0 60 μ)
theorem bo_X7_readTide  (μ : Mem) : F_X7_readTide  μ = 0 ∨ F_X7_readTide  μ = 1 := by
  unfold F_X7_readTide
  exact (bo_X7_readInto 18 12 (μ 12 10) 0 60 μ)
set_option maxRecDepth 20000 in
set_option maxHeartbeats 2000000 in
theorem ok_X7_readTide {G : SG} (hG : GK 57 G)  (μ : Mem) (hP : P_X7_readTide  μ) : OkF G mX7_readTide [.ref (ga G 12), .ref (ga G 1)] μ (some (.int (F_X7_readTide  μ))) (M_X7_readTide  μ) := by
  refine okF_of hG rfl (by decide) (Nat.le_of_ble_eq_true rfl) ?_
  unfold P_X7_readTide at hP
  refine r_aload_n dX7_readTide_0 0 rfl ?_
  refine r_aload_n dX7_readTide_1 1 rfl ?_
  refine r_aload_n dX7_readTide_2 0 rfl ?_
  refine r_getR 18 fX7_27 (hG.lt (by decide)) sh12 fs12_5 dX7_readTide_3 ?_
  refine r_aload_n dX7_readTide_6 0 rfl ?_
  refine r_getI fX7_53 (hG.lt (by decide)) sh12 fs12_10 dX7_readTide_7 ?_
  refine r_iconst 0 dX7_readTide_10 rfl ?_
  refine r_bipush 60 dX7_readTide_11 rfl ?_
  have hs1 := hP
  refine r_cvI (ok_X7_readInto hG (hG.lt (by decide)) sh18 (μ 12 10) 0 60 μ hs1) lX7_125 (hG.lt (by decide)) sh12 ⟨_, _, rfl⟩ dX7_readTide_13 (by decide) (by decide) rfl (Nat.le_of_ble_eq_true rfl) ?_
  refine r_mu (muX7_readTide_1 μ) rfl ?_
  refine r_istore_n [(2, _), (0, _), (1, _)] dX7_readTide_16 (by decide) rfl ?_
  refine r_aload_n dX7_readTide_17 1 rfl ?_
  refine r_dup dX7_readTide_18 rfl ?_
  refine r_getI fX7_53 (hG.lt (by decide)) sh12 fs12_10 dX7_readTide_19 ?_
  refine r_iconst 1 dX7_readTide_22 rfl ?_
  refine r_iadd dX7_readTide_23 ?_
  refine r_put fiX7_53 (hG.lt (by decide)) sh12 fs12_10 dX7_readTide_24 ?_
  refine r_mu (muX7_readTide_2 μ) rfl ?_
  refine r_iload_n dX7_readTide_27 0 rfl ?_
  exact r_ireturn _ dX7_readTide_28 rfl (nb01 ((bo_X7_readInto 18 12 (μ 12 10) 0 60 μ))) ⟨congrArg (fun z => some (Value.int z)) (rfl), rfl⟩
def F_X8_hasRoom (p1 : Int32) (μ : Mem) : Int32 := (if 600 < ((μ 1 1) + p1) then 0 else 1)
theorem bo_X8_hasRoom (p1 : Int32) (μ : Mem) : F_X8_hasRoom p1 μ = 0 ∨ F_X8_hasRoom p1 μ = 1 := by
  unfold F_X8_hasRoom
  split
  · exact Or.inl rfl
  · exact Or.inr rfl
set_option maxRecDepth 20000 in
set_option maxHeartbeats 2000000 in
theorem ok_X8_hasRoom {G : SG} (hG : GK 57 G) (p1 : Int32) (μ : Mem) : OkF G mX8_hasRoom [.ref (ga G 1), .int p1] μ (some (.int (F_X8_hasRoom p1 μ))) μ := by
  refine okF_of hG rfl (by decide) (Nat.le_of_ble_eq_true rfl) ?_
  refine r_aload_n dX8_hasRoom_0 0 rfl ?_
  refine r_getI fX8_19 (hG.lt (by decide)) sh1 fs1_1 dX8_hasRoom_1 ?_
  refine r_iload_n dX8_hasRoom_4 1 rfl ?_
  refine r_iadd dX8_hasRoom_5 ?_
  refine r_sipush 600 dX8_hasRoom_6 rfl ?_
  refine r_icmp_gt 16 dX8_hasRoom_9 (by decide) (fun c1 => ?_) (fun c1 => ?_)
  · refine r_iconst 0 dX8_hasRoom_16 rfl ?_
    exact r_ireturn _ dX8_hasRoom_17 rfl rfl ⟨congrArg (fun z => some (Value.int z)) (by unfold F_X8_hasRoom; rw [if_pos c1]), rfl⟩
  · refine r_iconst 1 dX8_hasRoom_12 rfl ?_
    refine r_goto 17 dX8_hasRoom_13 (by decide) ?_
    exact r_ireturn _ dX8_hasRoom_17 rfl rfl ⟨congrArg (fun z => some (Value.int z)) (by unfold F_X8_hasRoom; rw [if_neg (i32_nl c1)]), rfl⟩
def muX8_addNumber_3_1 (v1 : Int32) (i : Nat) (s : Int32 × Mem) : Mem := (M_X9_put 2 600 (s.2 1 1) ((v1 >>> (s.1 &&& 31)) &&& 255) s.2)
def muX8_addNumber_3_2 (v1 : Int32) (i : Nat) (s : Int32 × Mem) : Mem := (upm (muX8_addNumber_3_1 v1 i s) 1 1 (((muX8_addNumber_3_1 v1 i s) 1 1) + 1))
def g_X8_addNumber_3 (v1 : Int32) (i : Nat) (s : Int32 × Mem) : Int32 × Mem := ((s.1 + (-8)), (muX8_addNumber_3_2 v1 i s))
def Pb_X8_addNumber_3 (v1 : Int32) (i : Nat) (s : Int32 × Mem) : Prop := ((s.1 < 0 → False) ∧ (0 ≤ s.1 → True))
set_option maxRecDepth 20000 in
set_option maxHeartbeats 2000000 in
theorem lp_X8_addNumber_3 {G : SG} (hG : GK 57 G)  (v1 : Int32) (s0 : Int32 × Mem) (N : Nat) (sN : Int32 × Mem) (eN : sN = fo N (g_X8_addNumber_3 v1) s0) (hN : ∀ i, i < N → Pb_X8_addNumber_3 v1 i (fo i (g_X8_addNumber_3 v1) s0)) {t : Nat} {Q : PQ} {X : PX} (h : R G mX8_addNumber 3 [(0, .ref (ga G 1)), (1, .int v1), (2, .int (sN).1)] [] (sN).2 t Q X) : R G mX8_addNumber 3 [(0, .ref (ga G 1)), (1, .int v1), (2, .int (s0).1)] [] (s0).2 t Q X := by
  subst eN
  refine down_i N (fun i => R G mX8_addNumber 3 [(0, .ref (ga G 1)), (1, .int v1), (2, .int ((fo i (g_X8_addNumber_3 v1) s0)).1)] [] ((fo i (g_X8_addNumber_3 v1) s0)).2 t Q X) h (fun i hi hS => ?_)
  have hP := hN i hi
  rw [fo_succ] at hS
  generalize fo i (g_X8_addNumber_3 v1) s0 = s at hS hP ⊢
  unfold Pb_X8_addNumber_3 at hP
  refine r_iload_n dX8_addNumber_3 2 rfl ?_
  refine r_if_lt 41 dX8_addNumber_4 (by decide) (fun c1 => ?_) (fun c1 => ?_)
  · replace hP := hP.1 c1
    exact hP.elim
  · replace hP := hP.2 c1
    refine r_aload_n dX8_addNumber_7 0 rfl ?_
    refine r_getR 2 fX8_9 (hG.lt (by decide)) sh1 fs1_0 dX8_addNumber_8 ?_
    refine r_aload_n dX8_addNumber_11 0 rfl ?_
    refine r_getI fX8_19 (hG.lt (by decide)) sh1 fs1_1 dX8_addNumber_12 ?_
    refine r_iload_n dX8_addNumber_15 1 rfl ?_
    refine r_iload_n dX8_addNumber_16 2 rfl ?_
    refine r_ishr dX8_addNumber_17 rfl ?_
    refine r_sipush 255 dX8_addNumber_18 rfl ?_
    refine r_iand dX8_addNumber_21 ?_
    refine r_csV (ok_X9_put hG (hG.lt (by decide)) sh2 (s.2 1 1) ((v1 >>> (s.1 &&& 31)) &&& 255) s.2) lX8_22 dX8_addNumber_22 (by decide) (by decide) rfl (Nat.le_of_ble_eq_true rfl) ?_
    refine r_mu (muX8_addNumber_3_1 v1 i s) rfl ?_
    refine r_aload_n dX8_addNumber_25 0 rfl ?_
    refine r_dup dX8_addNumber_26 rfl ?_
    refine r_getI fX8_19 (hG.lt (by decide)) sh1 fs1_1 dX8_addNumber_27 ?_
    refine r_iconst 1 dX8_addNumber_30 rfl ?_
    refine r_iadd dX8_addNumber_31 ?_
    refine r_put fiX8_19 (hG.lt (by decide)) sh1 fs1_1 dX8_addNumber_32 ?_
    refine r_mu (muX8_addNumber_3_2 v1 i s) rfl ?_
    refine r_iinc (s.1 + (-8)) [(2, _), (0, _), (1, _)] dX8_addNumber_35 2 rfl rfl (by decide) rfl ?_
    refine r_goto 3 dX8_addNumber_38 (by decide) ?_
    have e : g_X8_addNumber_3 v1 i s = ((s.1 + (-8)), (muX8_addNumber_3_2 v1 i s)) := by unfold g_X8_addNumber_3; rfl
    rw [e] at hS
    dsimp only at hS
    exact r_sub [1, 2, 0] rfl hS
def NX8_addNumber_3 (p1 : Int32) (μ : Mem) : Nat := 4
def SX8_addNumber_3 (p1 : Int32) (μ : Mem) : Int32 × Mem := fo (NX8_addNumber_3 p1 μ) (g_X8_addNumber_3 p1) (24, μ)
def muX8_addNumber_1 (p1 : Int32) (μ : Mem) : Mem := (M_X9_put 2 600 ((SX8_addNumber_3 p1 μ).2 1 1) ((p1 >>> ((SX8_addNumber_3 p1 μ).1 &&& 31)) &&& 255) (SX8_addNumber_3 p1 μ).2)
def muX8_addNumber_2 (p1 : Int32) (μ : Mem) : Mem := (upm (muX8_addNumber_1 p1 μ) 1 1 (((muX8_addNumber_1 p1 μ) 1 1) + 1))
def M_X8_addNumber (p1 : Int32) (μ : Mem) : Mem := (SX8_addNumber_3 p1 μ).2
def P_X8_addNumber (p1 : Int32) (μ : Mem) : Prop := ((∀ j9, j9 < (NX8_addNumber_3 p1 μ) → Pb_X8_addNumber_3 p1 j9 (fo j9 (g_X8_addNumber_3 p1) (24, μ))) ∧ (((SX8_addNumber_3 p1 μ).1 < 0 → True) ∧ (0 ≤ (SX8_addNumber_3 p1 μ).1 → False)))
set_option maxRecDepth 20000 in
set_option maxHeartbeats 2000000 in
theorem ok_X8_addNumber {G : SG} (hG : GK 57 G) (p1 : Int32) (μ : Mem) (hP : P_X8_addNumber p1 μ) : OkF G mX8_addNumber [.ref (ga G 1), .int p1] μ none (M_X8_addNumber p1 μ) := by
  refine okF_of hG rfl (by decide) (Nat.le_of_ble_eq_true rfl) ?_
  unfold P_X8_addNumber at hP
  refine r_bipush 24 dX8_addNumber_0 rfl ?_
  refine r_istore_n [(2, _), (0, _), (1, _)] dX8_addNumber_2 (by decide) rfl ?_
  have hs1 := hP.1
  replace hP := hP.2
  refine r_sub [1, 2, 0] rfl ?_
  refine lp_X8_addNumber_3 hG p1 (24, μ) ((NX8_addNumber_3 p1 μ)) (SX8_addNumber_3 p1 μ) rfl hs1 ?_
  refine r_iload_n dX8_addNumber_3 2 rfl ?_
  refine r_if_lt 41 dX8_addNumber_4 (by decide) (fun c1 => ?_) (fun c1 => ?_)
  · replace hP := hP.1 c1
    exact r_return dX8_addNumber_41 rfl ⟨rfl, rfl⟩
  · replace hP := hP.2 c1
    refine r_aload_n dX8_addNumber_7 0 rfl ?_
    refine r_getR 2 fX8_9 (hG.lt (by decide)) sh1 fs1_0 dX8_addNumber_8 ?_
    refine r_aload_n dX8_addNumber_11 0 rfl ?_
    refine r_getI fX8_19 (hG.lt (by decide)) sh1 fs1_1 dX8_addNumber_12 ?_
    refine r_iload_n dX8_addNumber_15 1 rfl ?_
    refine r_iload_n dX8_addNumber_16 2 rfl ?_
    refine r_ishr dX8_addNumber_17 rfl ?_
    refine r_sipush 255 dX8_addNumber_18 rfl ?_
    refine r_iand dX8_addNumber_21 ?_
    refine r_csV (ok_X9_put hG (hG.lt (by decide)) sh2 ((SX8_addNumber_3 p1 μ).2 1 1) ((p1 >>> ((SX8_addNumber_3 p1 μ).1 &&& 31)) &&& 255) (SX8_addNumber_3 p1 μ).2) lX8_22 dX8_addNumber_22 (by decide) (by decide) rfl (Nat.le_of_ble_eq_true rfl) ?_
    refine r_mu (muX8_addNumber_1 p1 μ) rfl ?_
    refine r_aload_n dX8_addNumber_25 0 rfl ?_
    refine r_dup dX8_addNumber_26 rfl ?_
    refine r_getI fX8_19 (hG.lt (by decide)) sh1 fs1_1 dX8_addNumber_27 ?_
    refine r_iconst 1 dX8_addNumber_30 rfl ?_
    refine r_iadd dX8_addNumber_31 ?_
    refine r_put fiX8_19 (hG.lt (by decide)) sh1 fs1_1 dX8_addNumber_32 ?_
    refine r_mu (muX8_addNumber_2 p1 μ) rfl ?_
    refine r_iinc ((SX8_addNumber_3 p1 μ).1 + (-8)) [(2, _), (0, _), (1, _)] dX8_addNumber_35 2 rfl rfl (by decide) rfl ?_
    refine r_goto 3 dX8_addNumber_38 (by decide) ?_
    exact hP.elim
def muX8_begin_1 (p1 : Int32) (μ : Mem) : Mem := (upm μ 1 2 p1)
def muX8_begin_2 (p1 : Int32) (μ : Mem) : Mem := (upm (muX8_begin_1 p1 μ) 1 1 0)
def muX8_begin_3 (p1 : Int32) (μ : Mem) : Mem := (upm (muX8_begin_2 p1 μ) 1 3 0)
def muX8_begin_4 (p1 : Int32) (μ : Mem) : Mem := (upm (muX8_begin_3 p1 μ) 1 4 0)
def muX8_begin_5 (p1 : Int32) (μ : Mem) : Mem := (upm (muX8_begin_4 p1 μ) 1 5 0)
def muX8_begin_6 (p1 : Int32) (μ : Mem) : Mem := (upm (muX8_begin_5 p1 μ) 1 6 0)
def muX8_begin_7 (p1 : Int32) (μ : Mem) : Mem := (upm (muX8_begin_6 p1 μ) 1 7 (-1))
def M_X8_begin (p1 : Int32) (μ : Mem) : Mem := (muX8_begin_7 p1 μ)
set_option maxRecDepth 20000 in
set_option maxHeartbeats 2000000 in
theorem ok_X8_begin {G : SG} (hG : GK 57 G) (p1 : Int32) (μ : Mem) : OkF G mX8_begin [.ref (ga G 1), .int p1] μ none (M_X8_begin p1 μ) := by
  refine okF_of hG rfl (by decide) (Nat.le_of_ble_eq_true rfl) ?_
  refine r_aload_n dX8_begin_0 0 rfl ?_
  refine r_iload_n dX8_begin_1 1 rfl ?_
  refine r_put fiX8_26 (hG.lt (by decide)) sh1 fs1_2 dX8_begin_2 ?_
  refine r_mu (muX8_begin_1 p1 μ) rfl ?_
  refine r_aload_n dX8_begin_5 0 rfl ?_
  refine r_iconst 0 dX8_begin_6 rfl ?_
  refine r_put fiX8_19 (hG.lt (by decide)) sh1 fs1_1 dX8_begin_7 ?_
  refine r_mu (muX8_begin_2 p1 μ) rfl ?_
  refine r_aload_n dX8_begin_10 0 rfl ?_
  refine r_iconst 0 dX8_begin_11 rfl ?_
  refine r_put fiX8_29 (hG.lt (by decide)) sh1 fs1_3 dX8_begin_12 ?_
  refine r_mu (muX8_begin_3 p1 μ) rfl ?_
  refine r_aload_n dX8_begin_15 0 rfl ?_
  refine r_iconst 0 dX8_begin_16 rfl ?_
  refine r_put fiX8_32 (hG.lt (by decide)) sh1 fs1_4 dX8_begin_17 ?_
  refine r_mu (muX8_begin_4 p1 μ) rfl ?_
  refine r_aload_n dX8_begin_20 0 rfl ?_
  refine r_iconst 0 dX8_begin_21 rfl ?_
  refine r_put fiX8_35 (hG.lt (by decide)) sh1 fs1_5 dX8_begin_22 ?_
  refine r_mu (muX8_begin_5 p1 μ) rfl ?_
  refine r_aload_n dX8_begin_25 0 rfl ?_
  refine r_iconst 0 dX8_begin_26 rfl ?_
  refine r_put fiX8_38 (hG.lt (by decide)) sh1 fs1_6 dX8_begin_27 ?_
  refine r_mu (muX8_begin_6 p1 μ) rfl ?_
  refine r_aload_n dX8_begin_30 0 rfl ?_
  refine r_iconst (-1) dX8_begin_31 rfl ?_
  refine r_put fiX8_15 (hG.lt (by decide)) sh1 fs1_7 dX8_begin_32 ?_
  refine r_mu (muX8_begin_7 p1 μ) rfl ?_
  exact r_return dX8_begin_35 rfl ⟨rfl, rfl⟩
def F_X8_faultAnswer  (μ : Mem) : Int32 := ((μ 1 6) - 10)
set_option maxRecDepth 20000 in
set_option maxHeartbeats 2000000 in
theorem ok_X8_faultAnswer {G : SG} (hG : GK 57 G)  (μ : Mem) : OkF G mX8_faultAnswer [.ref (ga G 1)] μ (some (.int (F_X8_faultAnswer  μ))) μ := by
  refine okF_of hG rfl (by decide) (Nat.le_of_ble_eq_true rfl) ?_
  refine r_aload_n dX8_faultAnswer_0 0 rfl ?_
  refine r_getI fX8_38 (hG.lt (by decide)) sh1 fs1_6 dX8_faultAnswer_1 ?_
  refine r_bipush 10 dX8_faultAnswer_4 rfl ?_
  refine r_isub dX8_faultAnswer_6 ?_
  exact r_ireturn _ dX8_faultAnswer_7 rfl rfl ⟨congrArg (fun z => some (Value.int z)) (rfl), rfl⟩
