def muX0_goYear_1 (p1 : Int32) (p2 : Int32) (p3 : Int32) (p4 : Int32) (μ : Mem) : Mem := (M_X0_goWindy p1 p2 p3 p4 0 μ)
def F_X0_goYear (p1 : Int32) (p2 : Int32) (p3 : Int32) (p4 : Int32) (μ : Mem) : Int32 := (F_X0_goWindy p1 p2 p3 p4 0 μ)
def M_X0_goYear (p1 : Int32) (p2 : Int32) (p3 : Int32) (p4 : Int32) (μ : Mem) : Mem := (muX0_goYear_1 p1 p2 p3 p4 μ)
def P_X0_goYear (p1 : Int32) (p2 : Int32) (p3 : Int32) (p4 : Int32) (μ : Mem) : Prop := (P_X0_goWindy p1 p2 p3 p4 0 μ)
set_option maxRecDepth 20000 in
set_option maxHeartbeats 2000000 in
theorem ok_X0_goYear {G : SG} (hG : GK 57 G) (p1 : Int32) (p2 : Int32) (p3 : Int32) (p4 : Int32) (μ : Mem) (hP : P_X0_goYear p1 p2 p3 p4 μ) : OkF G mX0_goYear [.ref (ga G 51), .int p1, .int p2, .int p3, .int p4] μ (some (.int (F_X0_goYear p1 p2 p3 p4 μ))) (M_X0_goYear p1 p2 p3 p4 μ) := by
  refine okF_of hG rfl rfl (Nat.le_of_ble_eq_true rfl) ?_
  unfold P_X0_goYear at hP
  refine r_aload_n dX0_goYear_0 0 rfl ?_
  refine r_iload_n dX0_goYear_1 1 rfl ?_
  refine r_iload_n dX0_goYear_2 2 rfl ?_
  refine r_iload_n dX0_goYear_3 3 rfl ?_
  refine r_iload dX0_goYear_4 4 rfl ?_
  refine r_iconst 0 dX0_goYear_6 rfl ?_
  have hs1 := hP
  refine r_cvI (ok_X0_goWindy hG p1 p2 p3 p4 0 μ hs1) lX0_146 (hG.lt (by decide)) sh51 ⟨_, _, rfl⟩ dX0_goYear_7 (by decide) (Nat.le_of_ble_eq_true rfl) rfl (Nat.le_of_ble_eq_true rfl) ?_
  refine r_mu (muX0_goYear_1 p1 p2 p3 p4 μ) rfl ?_
  exact r_ireturn _ dX0_goYear_10 rfl rfl ⟨congrArg (fun z => some (Value.int z)) (rfl), rfl⟩
def muX0_yearBy_1 (p1 : Int32) (p2 : Int32) (p3 : Int32) (p4 : Int32) (p5 : Int32) (μ : Mem) : Mem := (M_X0_goWindy p1 p2 p3 p4 1 μ)
def F_X0_yearBy (p1 : Int32) (p2 : Int32) (p3 : Int32) (p4 : Int32) (p5 : Int32) (μ : Mem) : Int32 := (if p5 = 0 then (F_X5_worthLeft 52 (muX0_yearBy_1 p1 p2 p3 p4 p5 μ)) else (if p5 = 1 then (F_X0_paidThen  (muX0_yearBy_1 p1 p2 p3 p4 p5 μ)) else (if p5 = 2 then (F_X0_goneThen  (muX0_yearBy_1 p1 p2 p3 p4 p5 μ)) else (F_X0_goWindy p1 p2 p3 p4 1 μ))))
def M_X0_yearBy (p1 : Int32) (p2 : Int32) (p3 : Int32) (p4 : Int32) (p5 : Int32) (μ : Mem) : Mem := (muX0_yearBy_1 p1 p2 p3 p4 p5 μ)
def P_X0_yearBy (p1 : Int32) (p2 : Int32) (p3 : Int32) (p4 : Int32) (p5 : Int32) (μ : Mem) : Prop := ((P_X0_goWindy p1 p2 p3 p4 1 μ) ∧ ((p5 = 0 → (P_X5_worthLeft 52 (muX0_yearBy_1 p1 p2 p3 p4 p5 μ))) ∧ (p5 = 1 → (P_X0_paidThen  (muX0_yearBy_1 p1 p2 p3 p4 p5 μ))) ∧ (p5 = 2 → (P_X0_goneThen  (muX0_yearBy_1 p1 p2 p3 p4 p5 μ))) ∧ (¬ p5 = 0 ∧ ¬ p5 = 1 ∧ ¬ p5 = 2 → True)))
set_option maxRecDepth 20000 in
set_option maxHeartbeats 2000000 in
theorem ok_X0_yearBy {G : SG} (hG : GK 57 G) (p1 : Int32) (p2 : Int32) (p3 : Int32) (p4 : Int32) (p5 : Int32) (μ : Mem) (hP : P_X0_yearBy p1 p2 p3 p4 p5 μ) : OkF G mX0_yearBy [.ref (ga G 51), .int p1, .int p2, .int p3, .int p4, .int p5] μ (some (.int (F_X0_yearBy p1 p2 p3 p4 p5 μ))) (M_X0_yearBy p1 p2 p3 p4 p5 μ) := by
  refine okF_of hG rfl rfl (Nat.le_of_ble_eq_true rfl) ?_
  unfold P_X0_yearBy at hP
  refine r_aload_n dX0_yearBy_0 0 rfl ?_
  refine r_iload_n dX0_yearBy_1 1 rfl ?_
  refine r_iload_n dX0_yearBy_2 2 rfl ?_
  refine r_iload_n dX0_yearBy_3 3 rfl ?_
  refine r_iload dX0_yearBy_4 4 rfl ?_
  refine r_iconst 1 dX0_yearBy_6 rfl ?_
  have hs1 := hP.1
  replace hP := hP.2
  refine r_cvI (ok_X0_goWindy hG p1 p2 p3 p4 1 μ hs1) lX0_146 (hG.lt (by decide)) sh51 ⟨_, _, rfl⟩ dX0_yearBy_7 (by decide) (Nat.le_of_ble_eq_true rfl) rfl (Nat.le_of_ble_eq_true rfl) ?_
  refine r_mu (muX0_yearBy_1 p1 p2 p3 p4 p5 μ) rfl ?_
  refine r_istore [(6, _), (0, _), (1, _), (2, _), (3, _), (4, _), (5, _)] dX0_yearBy_10 (Nat.le_of_ble_eq_true rfl) rfl ?_
  refine r_iload dX0_yearBy_12 6 rfl ?_
  by_cases c1 : p5 = 0
  · replace hP := hP.1 c1
    refine r_tableIn (26) 40 dX0_yearBy_14 (by rw [c1]; decide) (by rw [c1]; decide) (by rw [c1]; rfl) (by decide) ?_
    refine r_aload_n dX0_yearBy_40 1 rfl ?_
    refine r_getR 52 fX0_12 (hG.lt (by decide)) sh51 fs51_3 dX0_yearBy_41 ?_
    refine r_aload_n dX0_yearBy_44 1 rfl ?_
    refine r_getR 3 fX0_18 (hG.lt (by decide)) sh51 fs51_0 dX0_yearBy_45 ?_
    have hs2 := hP
    refine r_cvI (ok_X5_worthLeft hG (IsSt.of52) (muX0_yearBy_1 p1 p2 p3 p4 p5 μ) hs2) lX0_99 (hG.lt (by decide)) sh52 ⟨_, _, rfl⟩ dX0_yearBy_48 (by decide) (Nat.le_of_ble_eq_true rfl) rfl (Nat.le_of_ble_eq_true rfl) ?_
    exact r_ireturn _ dX0_yearBy_51 rfl rfl ⟨congrArg (fun z => some (Value.int z)) (by unfold F_X0_yearBy; rw [if_pos c1]), rfl⟩
  by_cases c2 : p5 = 1
  · replace hP := hP.2.1 c2
    refine r_tableIn (38) 52 dX0_yearBy_14 (by rw [c2]; decide) (by rw [c2]; decide) (by rw [c2]; rfl) (by decide) ?_
    refine r_aload_n dX0_yearBy_52 1 rfl ?_
    have hs3 := hP
    refine r_cvI (ok_X0_paidThen hG  (muX0_yearBy_1 p1 p2 p3 p4 p5 μ) hs3) lX0_105 (hG.lt (by decide)) sh51 ⟨_, _, rfl⟩ dX0_yearBy_53 (by decide) (Nat.le_of_ble_eq_true rfl) rfl (Nat.le_of_ble_eq_true rfl) ?_
    exact r_ireturn _ dX0_yearBy_56 rfl rfl ⟨congrArg (fun z => some (Value.int z)) (by unfold F_X0_yearBy; rw [if_neg c1, if_pos c2]), rfl⟩
  by_cases c3 : p5 = 2
  · replace hP := hP.2.2.1 c3
    refine r_tableIn (43) 57 dX0_yearBy_14 (by rw [c3]; decide) (by rw [c3]; decide) (by rw [c3]; rfl) (by decide) ?_
    refine r_aload_n dX0_yearBy_57 1 rfl ?_
    have hs4 := hP
    refine r_cvI (ok_X0_goneThen hG  (muX0_yearBy_1 p1 p2 p3 p4 p5 μ) hs4) lX0_102 (hG.lt (by decide)) sh51 ⟨_, _, rfl⟩ dX0_yearBy_58 (by decide) (Nat.le_of_ble_eq_true rfl) rfl (Nat.le_of_ble_eq_true rfl) ?_
    exact r_ireturn _ dX0_yearBy_61 rfl rfl ⟨congrArg (fun z => some (Value.int z)) (by unfold F_X0_yearBy; rw [if_neg c1, if_neg c2, if_pos c3]), rfl⟩
  replace hP := hP.2.2.2 ⟨c1, c2, c3⟩
  have ec1 := i32_ti c1
  have ec2 := i32_ti c2
  have ec3 := i32_ti c3
  refine r_tableOut 62 dX0_yearBy_14 (by simp only [Int32.reduceToInt] at ec1 ec2 ec3; omega) (by decide) ?_
  refine r_iload dX0_yearBy_62 0 rfl ?_
  exact r_ireturn _ dX0_yearBy_64 rfl rfl ⟨congrArg (fun z => some (Value.int z)) (by unfold F_X0_yearBy; rw [if_neg c1, if_neg c2, if_neg c3]), rfl⟩
def muX1_copyFrom_1 (μ : Mem) : Mem := (M_X9_copyWhole 27 150 22 150 μ)
def muX1_copyFrom_2 (μ : Mem) : Mem := (M_X9_copyWhole 28 150 23 150 (muX1_copyFrom_1 μ))
def muX1_copyFrom_3 (μ : Mem) : Mem := (upm (muX1_copyFrom_2 μ) 21 4 ((muX1_copyFrom_2 μ) 26 4))
def M_X1_copyFrom  (μ : Mem) : Mem := (muX1_copyFrom_3 μ)
def P_X1_copyFrom  (μ : Mem) : Prop := ((P_X9_copyWhole 27 150 22 150 μ) ∧ (P_X9_copyWhole 28 150 23 150 (muX1_copyFrom_1 μ)))
set_option maxRecDepth 20000 in
set_option maxHeartbeats 2000000 in
theorem ok_X1_copyFrom {G : SG} (hG : GK 57 G)  (μ : Mem) (hP : P_X1_copyFrom  μ) : OkF G mX1_copyFrom [.ref (ga G 21), .ref (ga G 26)] μ none (M_X1_copyFrom  μ) := by
  refine okF_of hG rfl rfl (Nat.le_of_ble_eq_true rfl) ?_
  unfold P_X1_copyFrom at hP
  refine r_aload_n dX1_copyFrom_0 1 rfl ?_
  refine r_getR 27 fX1_9 (hG.lt (by decide)) sh26 fs26_0 dX1_copyFrom_1 ?_
  refine r_aload_n dX1_copyFrom_4 0 rfl ?_
  refine r_getR 22 fX1_9 (hG.lt (by decide)) sh21 fs21_0 dX1_copyFrom_5 ?_
  have hs1 := hP.1
  replace hP := hP.2
  refine r_csV (ok_X9_copyWhole hG (hG.lt (by decide)) sh27 (hG.lt (by decide)) sh22 μ hs1) lX1_24 dX1_copyFrom_8 (by decide) (Nat.le_of_ble_eq_true rfl) rfl (Nat.le_of_ble_eq_true rfl) ?_
  refine r_mu (muX1_copyFrom_1 μ) rfl ?_
  refine r_aload_n dX1_copyFrom_11 1 rfl ?_
  refine r_getR 28 fX1_15 (hG.lt (by decide)) sh26 fs26_1 dX1_copyFrom_12 ?_
  refine r_aload_n dX1_copyFrom_15 0 rfl ?_
  refine r_getR 23 fX1_15 (hG.lt (by decide)) sh21 fs21_1 dX1_copyFrom_16 ?_
  have hs2 := hP
  refine r_csV (ok_X9_copyWhole hG (hG.lt (by decide)) sh28 (hG.lt (by decide)) sh23 (muX1_copyFrom_1 μ) hs2) lX1_24 dX1_copyFrom_19 (by decide) (Nat.le_of_ble_eq_true rfl) rfl (Nat.le_of_ble_eq_true rfl) ?_
  refine r_mu (muX1_copyFrom_2 μ) rfl ?_
  refine r_aload_n dX1_copyFrom_22 0 rfl ?_
  refine r_aload_n dX1_copyFrom_23 1 rfl ?_
  refine r_getI fX1_28 (hG.lt (by decide)) sh26 fs26_4 dX1_copyFrom_24 ?_
  refine r_put fiX1_28 (hG.lt (by decide)) sh21 fs21_4 dX1_copyFrom_27 ?_
  refine r_mu (muX1_copyFrom_3 μ) rfl ?_
  exact r_return dX1_copyFrom_30 rfl ⟨rfl, rfl⟩
def muX1_add_1 (th : Nat) (p1 : Int32) (μ : Mem) : Mem := (M_X9_put (th + 1) 150 (μ th 4) p1 μ)
def muX1_add_2 (th : Nat) (p1 : Int32) (μ : Mem) : Mem := (upm (muX1_add_1 th p1 μ) th 4 (((muX1_add_1 th p1 μ) th 4) + 1))
def F_X1_add (th : Nat) (p1 : Int32) (μ : Mem) : Int32 := 1
def M_X1_add (th : Nat) (p1 : Int32) (μ : Mem) : Mem := (muX1_add_2 th p1 μ)
theorem bo_X1_add (th : Nat) (p1 : Int32) (μ : Mem) : F_X1_add th p1 μ = 0 ∨ F_X1_add th p1 μ = 1 := by
  unfold F_X1_add
  exact Or.inr rfl
set_option maxRecDepth 20000 in
set_option maxHeartbeats 2000000 in
theorem ok_X1_add {G : SG} (hG : GK 57 G) {th : Nat} (hth : IsLw th) (p1 : Int32) (μ : Mem) : OkF G mX1_add [.ref (ga G th), .int p1] μ (some (.int (F_X1_add th p1 μ))) (M_X1_add th p1 μ) := by
  refine okF_of hG rfl rfl (Nat.le_of_ble_eq_true rfl) ?_
  refine r_aload_n dX1_add_0 0 rfl ?_
  refine r_getR (th + 1) fX1_9 (hth.lt hG) hth.sh (hth.f0) dX1_add_1 ?_
  refine r_aload_n dX1_add_4 0 rfl ?_
  refine r_getI fX1_28 (hth.lt hG) hth.sh (hth.f4) dX1_add_5 ?_
  refine r_iload_n dX1_add_8 1 rfl ?_
  refine r_csV (ok_X9_put hG (hth.lt0 hG) hth.s0 (μ th 4) p1 μ) lX1_39 dX1_add_9 (by decide) (Nat.le_of_ble_eq_true rfl) rfl (Nat.le_of_ble_eq_true rfl) ?_
  refine r_mu (muX1_add_1 th p1 μ) rfl ?_
  refine r_aload_n dX1_add_12 0 rfl ?_
  refine r_dup dX1_add_13 rfl ?_
  refine r_getI fX1_28 (hth.lt hG) hth.sh (hth.f4) dX1_add_14 ?_
  refine r_iconst 1 dX1_add_17 rfl ?_
  refine r_iadd dX1_add_18 ?_
  refine r_put fiX1_28 (hth.lt hG) hth.sh (hth.f4) dX1_add_19 ?_
  refine r_mu (muX1_add_2 th p1 μ) rfl ?_
  refine r_iconst 1 dX1_add_22 rfl ?_
  exact r_ireturn _ dX1_add_23 rfl rfl ⟨congrArg (fun z => some (Value.int z)) (rfl), rfl⟩
def muX1_addConstant_1 (th : Nat) (p1 : Int32) (μ : Mem) : Mem := (M_X9_put (th + 2) 150 (μ th 4) p1 μ)
def muX1_addConstant_2 (th : Nat) (p1 : Int32) (μ : Mem) : Mem := (M_X9_put (th + 1) 150 ((muX1_addConstant_1 th p1 μ) th 4) 7 (muX1_addConstant_1 th p1 μ))
def muX1_addConstant_3 (th : Nat) (p1 : Int32) (μ : Mem) : Mem := (upm (muX1_addConstant_2 th p1 μ) th 4 (((muX1_addConstant_2 th p1 μ) th 4) + 1))
def F_X1_addConstant (th : Nat) (p1 : Int32) (μ : Mem) : Int32 := 1
def M_X1_addConstant (th : Nat) (p1 : Int32) (μ : Mem) : Mem := (muX1_addConstant_3 th p1 μ)
theorem bo_X1_addConstant (th : Nat) (p1 : Int32) (μ : Mem) : F_X1_addConstant th p1 μ = 0 ∨ F_X1_addConstant th p1 μ = 1 := by
  unfold F_X1_addConstant
  exact Or.inr rfl
set_option maxRecDepth 20000 in
set_option maxHeartbeats 2000000 in
theorem ok_X1_addConstant {G : SG} (hG : GK 57 G) {th : Nat} (hth : IsLw th) (p1 : Int32) (μ : Mem) : OkF G mX1_addConstant [.ref (ga G th), .int p1] μ (some (.int (F_X1_addConstant th p1 μ))) (M_X1_addConstant th p1 μ) := by
  refine okF_of hG rfl rfl (Nat.le_of_ble_eq_true rfl) ?_
  refine r_aload_n dX1_addConstant_0 0 rfl ?_
  refine r_getR (th + 2) fX1_15 (hth.lt hG) hth.sh (hth.f1) dX1_addConstant_1 ?_
  refine r_aload_n dX1_addConstant_4 0 rfl ?_
  refine r_getI fX1_28 (hth.lt hG) hth.sh (hth.f4) dX1_addConstant_5 ?_
  refine r_iload_n dX1_addConstant_8 1 rfl ?_
  refine r_csV (ok_X9_put hG (hth.lt1 hG) hth.s1 (μ th 4) p1 μ) lX1_39 dX1_addConstant_9 (by decide) (Nat.le_of_ble_eq_true rfl) rfl (Nat.le_of_ble_eq_true rfl) ?_
  refine r_mu (muX1_addConstant_1 th p1 μ) rfl ?_
  refine r_aload_n dX1_addConstant_12 0 rfl ?_
  refine r_getR (th + 1) fX1_9 (hth.lt hG) hth.sh (hth.f0) dX1_addConstant_13 ?_
  refine r_aload_n dX1_addConstant_16 0 rfl ?_
  refine r_getI fX1_28 (hth.lt hG) hth.sh (hth.f4) dX1_addConstant_17 ?_
  refine r_bipush 7 dX1_addConstant_20 rfl ?_
  refine r_csV (ok_X9_put hG (hth.lt0 hG) hth.s0 ((muX1_addConstant_1 th p1 μ) th 4) 7 (muX1_addConstant_1 th p1 μ)) lX1_39 dX1_addConstant_22 (by decide) (Nat.le_of_ble_eq_true rfl) rfl (Nat.le_of_ble_eq_true rfl) ?_
  refine r_mu (muX1_addConstant_2 th p1 μ) rfl ?_
  refine r_aload_n dX1_addConstant_25 0 rfl ?_
  refine r_dup dX1_addConstant_26 rfl ?_
  refine r_getI fX1_28 (hth.lt hG) hth.sh (hth.f4) dX1_addConstant_27 ?_
  refine r_iconst 1 dX1_addConstant_30 rfl ?_
  refine r_iadd dX1_addConstant_31 ?_
  refine r_put fiX1_28 (hth.lt hG) hth.sh (hth.f4) dX1_addConstant_32 ?_
  refine r_mu (muX1_addConstant_3 th p1 μ) rfl ?_
  refine r_iconst 1 dX1_addConstant_35 rfl ?_
  exact r_ireturn _ dX1_addConstant_36 rfl rfl ⟨congrArg (fun z => some (Value.int z)) (rfl), rfl⟩
def muX1_beDefault_1 (μ : Mem) : Mem := (upm μ 21 4 0)
def muX1_beDefault_2 (μ : Mem) : Mem := (M_X1_add 21 0 (muX1_beDefault_1 μ))
def muX1_beDefault_3 (μ : Mem) : Mem := (M_X1_addConstant 21 4 (muX1_beDefault_2 μ))
def muX1_beDefault_4 (μ : Mem) : Mem := (M_X1_add 21 11 (muX1_beDefault_3 μ))
def muX1_beDefault_5 (μ : Mem) : Mem := (M_X1_add 21 1 (muX1_beDefault_4 μ))
def muX1_beDefault_6 (μ : Mem) : Mem := (M_X1_addConstant 21 3 (muX1_beDefault_5 μ))
def muX1_beDefault_7 (μ : Mem) : Mem := (M_X1_add 21 10 (muX1_beDefault_6 μ))
def muX1_beDefault_8 (μ : Mem) : Mem := (M_X1_add 21 8 (muX1_beDefault_7 μ))
def muX1_beDefault_9 (μ : Mem) : Mem := (M_X1_add 21 5 (muX1_beDefault_8 μ))
def muX1_beDefault_10 (μ : Mem) : Mem := (M_X1_add 21 9 (muX1_beDefault_9 μ))
def M_X1_beDefault  (μ : Mem) : Mem := (muX1_beDefault_10 μ)
set_option maxRecDepth 20000 in
set_option maxHeartbeats 2000000 in
theorem ok_X1_beDefault {G : SG} (hG : GK 57 G)  (μ : Mem) : OkF G mX1_beDefault [.ref (ga G 21)] μ none (M_X1_beDefault  μ) := by
  refine okF_of hG rfl rfl (Nat.le_of_ble_eq_true rfl) ?_
  refine r_aload_n dX1_beDefault_0 0 rfl ?_
  refine r_iconst 0 dX1_beDefault_1 rfl ?_
  refine r_put fiX1_28 (hG.lt (by decide)) sh21 fs21_4 dX1_beDefault_2 ?_
  refine r_mu (muX1_beDefault_1 μ) rfl ?_
  refine r_aload_n dX1_beDefault_5 0 rfl ?_
  refine r_iconst 0 dX1_beDefault_6 rfl ?_
  refine r_cvI (ok_X1_add hG (IsLw.of21) 0 (muX1_beDefault_1 μ)) lX1_32 (hG.lt (by decide)) sh21 ⟨_, _, rfl⟩ dX1_beDefault_7 (by decide) (Nat.le_of_ble_eq_true rfl) rfl (Nat.le_of_ble_eq_true rfl) ?_
  refine r_mu (muX1_beDefault_2 μ) rfl ?_
  refine r_pop dX1_beDefault_10 rfl ?_
  refine r_aload_n dX1_beDefault_11 0 rfl ?_
  refine r_iconst 4 dX1_beDefault_12 rfl ?_
  refine r_cvI (ok_X1_addConstant hG (IsLw.of21) 4 (muX1_beDefault_2 μ)) lX1_36 (hG.lt (by decide)) sh21 ⟨_, _, rfl⟩ dX1_beDefault_13 (by decide) (Nat.le_of_ble_eq_true rfl) rfl (Nat.le_of_ble_eq_true rfl) ?_
  refine r_mu (muX1_beDefault_3 μ) rfl ?_
  refine r_pop dX1_beDefault_16 rfl ?_
  refine r_aload_n dX1_beDefault_17 0 rfl ?_
  refine r_bipush 11 dX1_beDefault_18 rfl ?_
  refine r_cvI (ok_X1_add hG (IsLw.of21) 11 (muX1_beDefault_3 μ)) lX1_32 (hG.lt (by decide)) sh21 ⟨_, _, rfl⟩ dX1_beDefault_20 (by decide) (Nat.le_of_ble_eq_true rfl) rfl (Nat.le_of_ble_eq_true rfl) ?_
  refine r_mu (muX1_beDefault_4 μ) rfl ?_
  refine r_pop dX1_beDefault_23 rfl ?_
  refine r_aload_n dX1_beDefault_24 0 rfl ?_
  refine r_iconst 1 dX1_beDefault_25 rfl ?_
  refine r_cvI (ok_X1_add hG (IsLw.of21) 1 (muX1_beDefault_4 μ)) lX1_32 (hG.lt (by decide)) sh21 ⟨_, _, rfl⟩ dX1_beDefault_26 (by decide) (Nat.le_of_ble_eq_true rfl) rfl (Nat.le_of_ble_eq_true rfl) ?_
  refine r_mu (muX1_beDefault_5 μ) rfl ?_
  refine r_pop dX1_beDefault_29 rfl ?_
  refine r_aload_n dX1_beDefault_30 0 rfl ?_
  refine r_iconst 3 dX1_beDefault_31 rfl ?_
  refine r_cvI (ok_X1_addConstant hG (IsLw.of21) 3 (muX1_beDefault_5 μ)) lX1_36 (hG.lt (by decide)) sh21 ⟨_, _, rfl⟩ dX1_beDefault_32 (by decide) (Nat.le_of_ble_eq_true rfl) rfl (Nat.le_of_ble_eq_true rfl) ?_
  refine r_mu (muX1_beDefault_6 μ) rfl ?_
  refine r_pop dX1_beDefault_35 rfl ?_
  refine r_aload_n dX1_beDefault_36 0 rfl ?_
  refine r_bipush 10 dX1_beDefault_37 rfl ?_
  refine r_cvI (ok_X1_add hG (IsLw.of21) 10 (muX1_beDefault_6 μ)) lX1_32 (hG.lt (by decide)) sh21 ⟨_, _, rfl⟩ dX1_beDefault_39 (by decide) (Nat.le_of_ble_eq_true rfl) rfl (Nat.le_of_ble_eq_true rfl) ?_
  refine r_mu (muX1_beDefault_7 μ) rfl ?_
  refine r_pop dX1_beDefault_42 rfl ?_
  refine r_aload_n dX1_beDefault_43 0 rfl ?_
  refine r_bipush 8 dX1_beDefault_44 rfl ?_
  refine r_cvI (ok_X1_add hG (IsLw.of21) 8 (muX1_beDefault_7 μ)) lX1_32 (hG.lt (by decide)) sh21 ⟨_, _, rfl⟩ dX1_beDefault_46 (by decide) (Nat.le_of_ble_eq_true rfl) rfl (Nat.le_of_ble_eq_true rfl) ?_
  refine r_mu (muX1_beDefault_8 μ) rfl ?_
  refine r_pop dX1_beDefault_49 rfl ?_
  refine r_aload_n dX1_beDefault_50 0 rfl ?_
  refine r_iconst 5 dX1_beDefault_51 rfl ?_
  refine r_cvI (ok_X1_add hG (IsLw.of21) 5 (muX1_beDefault_8 μ)) lX1_32 (hG.lt (by decide)) sh21 ⟨_, _, rfl⟩ dX1_beDefault_52 (by decide) (Nat.le_of_ble_eq_true rfl) rfl (Nat.le_of_ble_eq_true rfl) ?_
  refine r_mu (muX1_beDefault_9 μ) rfl ?_
  refine r_pop dX1_beDefault_55 rfl ?_
  refine r_aload_n dX1_beDefault_56 0 rfl ?_
  refine r_bipush 9 dX1_beDefault_57 rfl ?_
  refine r_cvI (ok_X1_add hG (IsLw.of21) 9 (muX1_beDefault_9 μ)) lX1_32 (hG.lt (by decide)) sh21 ⟨_, _, rfl⟩ dX1_beDefault_59 (by decide) (Nat.le_of_ble_eq_true rfl) rfl (Nat.le_of_ble_eq_true rfl) ?_
  refine r_mu (muX1_beDefault_10 μ) rfl ?_
  refine r_pop dX1_beDefault_62 rfl ?_
  exact r_return dX1_beDefault_63 rfl ⟨rfl, rfl⟩
def muX8_failHere_1 (p1 : Int32) (μ : Mem) : Mem := (upm μ 1 6 p1)
def muX8_failHere_2 (p1 : Int32) (μ : Mem) : Mem := (upm (muX8_failHere_1 p1 μ) 1 7 ((muX8_failHere_1 p1 μ) 1 3))
def F_X8_failHere (p1 : Int32) (μ : Mem) : Int32 := 0
def M_X8_failHere (p1 : Int32) (μ : Mem) : Mem := (muX8_failHere_2 p1 μ)
theorem bo_X8_failHere (p1 : Int32) (μ : Mem) : F_X8_failHere p1 μ = 0 ∨ F_X8_failHere p1 μ = 1 := by
  unfold F_X8_failHere
  exact Or.inl rfl
set_option maxRecDepth 20000 in
set_option maxHeartbeats 2000000 in
theorem ok_X8_failHere {G : SG} (hG : GK 57 G) (p1 : Int32) (μ : Mem) : OkF G mX8_failHere [.ref (ga G 1), .int p1] μ (some (.int (F_X8_failHere p1 μ))) (M_X8_failHere p1 μ) := by
  refine okF_of hG rfl rfl (Nat.le_of_ble_eq_true rfl) ?_
  refine r_aload_n dX8_failHere_0 0 rfl ?_
  refine r_iload_n dX8_failHere_1 1 rfl ?_
  refine r_put fiX8_38 (hG.lt (by decide)) sh1 fs1_6 dX8_failHere_2 ?_
  refine r_mu (muX8_failHere_1 p1 μ) rfl ?_
  refine r_aload_n dX8_failHere_5 0 rfl ?_
  refine r_aload_n dX8_failHere_6 0 rfl ?_
  refine r_getI fX8_29 (hG.lt (by decide)) sh1 fs1_3 dX8_failHere_7 ?_
  refine r_put fiX8_15 (hG.lt (by decide)) sh1 fs1_7 dX8_failHere_10 ?_
  refine r_mu (muX8_failHere_2 p1 μ) rfl ?_
  refine r_iconst 0 dX8_failHere_13 rfl ?_
  exact r_ireturn _ dX8_failHere_14 rfl rfl ⟨congrArg (fun z => some (Value.int z)) (rfl), rfl⟩
def muX8_peek_13_1 (v1 : Int32) (i : Nat) (s : Mem) : Mem := (upm s 1 3 ((s 1 3) + 1))
def g_X8_peek_13 (v1 : Int32) (i : Nat) (s : Mem) : Mem := (muX8_peek_13_1 v1 i s)
def Pb_X8_peek_13 (v1 : Int32) (i : Nat) (s : Mem) : Prop := (((s 1 3) < 0 → False) ∧ (0 ≤ (s 1 3) → ((v1 ≤ (s 1 3) → False) ∧ ((s 1 3) < v1 → (vp_in (s 1 3) 600) ∧ (((s 2 (ix (s 1 3))) ≠ 32 → False) ∧ ((s 2 (ix (s 1 3))) = 32 → True))))))
def Cb_X8_peek_13 (v1 : Int32) (i : Nat) (s : Mem) : Bool := (if (s 1 3) < 0 then false else (if v1 ≤ (s 1 3) then false else (if (s 2 (ix (s 1 3))) ≠ 32 then false else true)))
set_option maxRecDepth 20000 in
set_option maxHeartbeats 2000000 in
theorem lp_X8_peek_13 {G : SG} (hG : GK 57 G)  (v1 : Int32) (s0 : Mem) (N : Nat) (sN : Mem) (eN : sN = fo N (g_X8_peek_13 v1) s0) (hN : ∀ i, i < N → Pb_X8_peek_13 v1 i (fo i (g_X8_peek_13 v1) s0)) {t : Nat} {Q : PQ} {X : PX} (h : R G mX8_peek 13 [(0, .ref (ga G 1)), (1, .int v1)] [] sN t Q X) : R G mX8_peek 13 [(0, .ref (ga G 1)), (1, .int v1)] [] s0 t Q X := by
  subst eN
  refine down_i N (fun i => R G mX8_peek 13 [(0, .ref (ga G 1)), (1, .int v1)] [] (fo i (g_X8_peek_13 v1) s0) t Q X) h (fun i hi hS => ?_)
  have hP := hN i hi
  rw [fo_succ] at hS
  generalize fo i (g_X8_peek_13 v1) s0 = s at hS hP ⊢
  unfold Pb_X8_peek_13 at hP
  refine r_aload_n dX8_peek_13 0 rfl ?_
  refine r_getI fX8_29 (hG.lt (by decide)) sh1 fs1_3 dX8_peek_14 ?_
  refine r_if_lt 55 dX8_peek_17 (by decide) (fun c1 => ?_) (fun c1 => ?_)
  · replace hP := hP.1 c1
    exact hP.elim
  · replace hP := hP.2 c1
    refine r_aload_n dX8_peek_20 0 rfl ?_
    refine r_getI fX8_29 (hG.lt (by decide)) sh1 fs1_3 dX8_peek_21 ?_
    refine r_iload_n dX8_peek_24 1 rfl ?_
    refine r_icmp_ge 55 dX8_peek_25 (by decide) (fun c2 => ?_) (fun c2 => ?_)
    · replace hP := hP.1 c2
      exact hP.elim
    · replace hP := hP.2 c2
      refine r_aload_n dX8_peek_28 0 rfl ?_
      refine r_getR 2 fX8_9 (hG.lt (by decide)) sh1 fs1_0 dX8_peek_29 ?_
      refine r_aload_n dX8_peek_32 0 rfl ?_
      refine r_getI fX8_29 (hG.lt (by decide)) sh1 fs1_3 dX8_peek_33 ?_
      have hs1 := hP.1
      replace hP := hP.2
      refine r_iald (hG.lt (by decide)) sh2 hs1 dX8_peek_36 ?_
      refine r_bipush 32 dX8_peek_37 rfl ?_
      refine r_icmp_ne 55 dX8_peek_39 (by decide) (fun c3 => ?_) (fun c3 => ?_)
      · replace hP := hP.1 c3
        exact hP.elim
      · replace hP := hP.2 c3
        refine r_aload_n dX8_peek_42 0 rfl ?_
        refine r_dup dX8_peek_43 rfl ?_
        refine r_getI fX8_29 (hG.lt (by decide)) sh1 fs1_3 dX8_peek_44 ?_
        refine r_iconst 1 dX8_peek_47 rfl ?_
        refine r_iadd dX8_peek_48 ?_
        refine r_put fiX8_29 (hG.lt (by decide)) sh1 fs1_3 dX8_peek_49 ?_
        refine r_mu (muX8_peek_13_1 v1 i s) rfl ?_
        refine r_goto 13 dX8_peek_52 (by decide) ?_
        have e : g_X8_peek_13 v1 i s = (muX8_peek_13_1 v1 i s) := by unfold g_X8_peek_13; rfl
        rw [e] at hS
        exact r_sub [0, 1] rfl hS
def NX8_peek_13 (μ : Mem) : Nat := (fst 601 (fun j9 => !Cb_X8_peek_13 (imin (μ 1 2) 600) j9 (fo j9 (g_X8_peek_13 (imin (μ 1 2) 600)) μ)))
def SX8_peek_13 (μ : Mem) : Mem := fo (NX8_peek_13 μ) (g_X8_peek_13 (imin (μ 1 2) 600)) μ
def muX8_peek_1 (μ : Mem) : Mem := (upm (SX8_peek_13 μ) 1 3 (((SX8_peek_13 μ) 1 3) + 1))
def F_X8_peek  (μ : Mem) : Int32 := (if ((SX8_peek_13 μ) 1 3) < 0 then (-1) else (if (imin (μ 1 2) 600) ≤ ((SX8_peek_13 μ) 1 3) then (-1) else ((SX8_peek_13 μ) 2 (ix ((SX8_peek_13 μ) 1 3)))))
def M_X8_peek  (μ : Mem) : Mem := (SX8_peek_13 μ)
def P_X8_peek  (μ : Mem) : Prop := ((∀ j9, j9 < (NX8_peek_13 μ) → Pb_X8_peek_13 (imin (μ 1 2) 600) j9 (fo j9 (g_X8_peek_13 (imin (μ 1 2) 600)) μ)) ∧ ((((SX8_peek_13 μ) 1 3) < 0 → ((((SX8_peek_13 μ) 1 3) < 0 → True) ∧ (0 ≤ ((SX8_peek_13 μ) 1 3) → (((imin (μ 1 2) 600) ≤ ((SX8_peek_13 μ) 1 3) → True) ∧ (((SX8_peek_13 μ) 1 3) < (imin (μ 1 2) 600) → (vp_in ((SX8_peek_13 μ) 1 3) 600)))))) ∧ (0 ≤ ((SX8_peek_13 μ) 1 3) → (((imin (μ 1 2) 600) ≤ ((SX8_peek_13 μ) 1 3) → ((((SX8_peek_13 μ) 1 3) < 0 → True) ∧ (0 ≤ ((SX8_peek_13 μ) 1 3) → (((imin (μ 1 2) 600) ≤ ((SX8_peek_13 μ) 1 3) → True) ∧ (((SX8_peek_13 μ) 1 3) < (imin (μ 1 2) 600) → (vp_in ((SX8_peek_13 μ) 1 3) 600)))))) ∧ (((SX8_peek_13 μ) 1 3) < (imin (μ 1 2) 600) → ((vp_in ((SX8_peek_13 μ) 1 3) 600) ∧ ((((SX8_peek_13 μ) 2 (ix ((SX8_peek_13 μ) 1 3))) ≠ 32 → ((((SX8_peek_13 μ) 1 3) < 0 → True) ∧ (0 ≤ ((SX8_peek_13 μ) 1 3) → (((imin (μ 1 2) 600) ≤ ((SX8_peek_13 μ) 1 3) → True) ∧ (((SX8_peek_13 μ) 1 3) < (imin (μ 1 2) 600) → (vp_in ((SX8_peek_13 μ) 1 3) 600)))))) ∧ (((SX8_peek_13 μ) 2 (ix ((SX8_peek_13 μ) 1 3))) = 32 → False))))))))
set_option maxRecDepth 20000 in
set_option maxHeartbeats 2000000 in
theorem ok_X8_peek {G : SG} (hG : GK 57 G)  (μ : Mem) (hP : P_X8_peek  μ) : OkF G mX8_peek [.ref (ga G 1)] μ (some (.int (F_X8_peek  μ))) (M_X8_peek  μ) := by
  refine okF_of hG rfl rfl (Nat.le_of_ble_eq_true rfl) ?_
  unfold P_X8_peek at hP
  refine r_aload_n dX8_peek_0 0 rfl ?_
  refine r_getI fX8_26 (hG.lt (by decide)) sh1 fs1_2 dX8_peek_1 ?_
  refine r_aload_n dX8_peek_4 0 rfl ?_
  refine r_getR 2 fX8_9 (hG.lt (by decide)) sh1 fs1_0 dX8_peek_5 ?_
  refine r_alen 600 (hG.lt (by decide)) sh2 rfl dX8_peek_8 ?_
  refine r_mmin lX8_41 (Nat.le_of_ble_eq_true rfl) dX8_peek_9 ?_
  refine r_istore_n [(1, _), (0, _)] dX8_peek_12 (Nat.le_of_ble_eq_true rfl) rfl ?_
  have hs1 := hP.1
  replace hP := hP.2
  refine r_sub [1, 0] rfl ?_
  refine lp_X8_peek_13 hG (imin (μ 1 2) 600) μ ((NX8_peek_13 μ)) (SX8_peek_13 μ) rfl hs1 ?_
  refine r_aload_n dX8_peek_13 0 rfl ?_
  refine r_getI fX8_29 (hG.lt (by decide)) sh1 fs1_3 dX8_peek_14 ?_
  refine r_if_lt 55 dX8_peek_17 (by decide) (fun c1 => ?_) (fun c1 => ?_)
  · replace hP := hP.1 c1
    refine r_aload_n dX8_peek_55 0 rfl ?_
    refine r_getI fX8_29 (hG.lt (by decide)) sh1 fs1_3 dX8_peek_56 ?_
    refine r_if_lt 82 dX8_peek_59 (by decide) (fun c2 => ?_) (fun c2 => ?_)
    · replace hP := hP.1 c2
      refine r_iconst (-1) dX8_peek_82 rfl ?_
      exact r_ireturn _ dX8_peek_83 rfl rfl ⟨congrArg (fun z => some (Value.int z)) (by unfold F_X8_peek; rw [if_pos c2]), rfl⟩
    · replace hP := hP.2 c2
      refine r_aload_n dX8_peek_62 0 rfl ?_
      refine r_getI fX8_29 (hG.lt (by decide)) sh1 fs1_3 dX8_peek_63 ?_
      refine r_iload_n dX8_peek_66 1 rfl ?_
      refine r_icmp_ge 82 dX8_peek_67 (by decide) (fun c3 => ?_) (fun c3 => ?_)
      · replace hP := hP.1 c3
        refine r_iconst (-1) dX8_peek_82 rfl ?_
        exact r_ireturn _ dX8_peek_83 rfl rfl ⟨congrArg (fun z => some (Value.int z)) (by unfold F_X8_peek; rw [if_neg (i32_nl c2), if_pos c3]), rfl⟩
      · replace hP := hP.2 c3
        refine r_aload_n dX8_peek_70 0 rfl ?_
        refine r_getR 2 fX8_9 (hG.lt (by decide)) sh1 fs1_0 dX8_peek_71 ?_
        refine r_aload_n dX8_peek_74 0 rfl ?_
        refine r_getI fX8_29 (hG.lt (by decide)) sh1 fs1_3 dX8_peek_75 ?_
        have hs3 := hP
        refine r_iald (hG.lt (by decide)) sh2 hs3 dX8_peek_78 ?_
        refine r_goto 83 dX8_peek_79 (by decide) ?_
        exact r_ireturn _ dX8_peek_83 rfl rfl ⟨congrArg (fun z => some (Value.int z)) (by unfold F_X8_peek; rw [if_neg (i32_nl c2), if_neg (i32_ng c3)]), rfl⟩
  · replace hP := hP.2 c1
    refine r_aload_n dX8_peek_20 0 rfl ?_
    refine r_getI fX8_29 (hG.lt (by decide)) sh1 fs1_3 dX8_peek_21 ?_
    refine r_iload_n dX8_peek_24 1 rfl ?_
    refine r_icmp_ge 55 dX8_peek_25 (by decide) (fun c2 => ?_) (fun c2 => ?_)
    · replace hP := hP.1 c2
      refine r_aload_n dX8_peek_55 0 rfl ?_
      refine r_getI fX8_29 (hG.lt (by decide)) sh1 fs1_3 dX8_peek_56 ?_
      refine r_if_lt 82 dX8_peek_59 (by decide) (fun c3 => ?_) (fun c3 => ?_)
      · replace hP := hP.1 c3
        refine r_iconst (-1) dX8_peek_82 rfl ?_
        exact r_ireturn _ dX8_peek_83 rfl rfl ⟨congrArg (fun z => some (Value.int z)) (by unfold F_X8_peek; rw [if_pos c3]), rfl⟩
      · replace hP := hP.2 c3
        refine r_aload_n dX8_peek_62 0 rfl ?_
        refine r_getI fX8_29 (hG.lt (by decide)) sh1 fs1_3 dX8_peek_63 ?_
        refine r_iload_n dX8_peek_66 1 rfl ?_
        refine r_icmp_ge 82 dX8_peek_67 (by decide) (fun c4 => ?_) (fun c4 => ?_)
        · replace hP := hP.1 c4
          refine r_iconst (-1) dX8_peek_82 rfl ?_
          exact r_ireturn _ dX8_peek_83 rfl rfl ⟨congrArg (fun z => some (Value.int z)) (by unfold F_X8_peek; rw [if_neg (i32_nl c3), if_pos c4]), rfl⟩
        · replace hP := hP.2 c4
          refine r_aload_n dX8_peek_70 0 rfl ?_
          refine r_getR 2 fX8_9 (hG.lt (by decide)) sh1 fs1_0 dX8_peek_71 ?_
          refine r_aload_n dX8_peek_74 0 rfl ?_
          refine r_getI fX8_29 (hG.lt (by decide)) sh1 fs1_3 dX8_peek_75 ?_
          have hs5 := hP
          refine r_iald (hG.lt (by decide)) sh2 hs5 dX8_peek_78 ?_
          refine r_goto 83 dX8_peek_79 (by decide) ?_
          exact r_ireturn _ dX8_peek_83 rfl rfl ⟨congrArg (fun z => some (Value.int z)) (by unfold F_X8_peek; rw [if_neg (i32_nl c3), if_neg (i32_ng c4)]), rfl⟩
    · replace hP := hP.2 c2
      refine r_aload_n dX8_peek_28 0 rfl ?_
      refine r_getR 2 fX8_9 (hG.lt (by decide)) sh1 fs1_0 dX8_peek_29 ?_
      refine r_aload_n dX8_peek_32 0 rfl ?_
      refine r_getI fX8_29 (hG.lt (by decide)) sh1 fs1_3 dX8_peek_33 ?_
      have hs6 := hP.1
      replace hP := hP.2
      refine r_iald (hG.lt (by decide)) sh2 hs6 dX8_peek_36 ?_
      refine r_bipush 32 dX8_peek_37 rfl ?_
      refine r_icmp_ne 55 dX8_peek_39 (by decide) (fun c3 => ?_) (fun c3 => ?_)
      · replace hP := hP.1 c3
        refine r_aload_n dX8_peek_55 0 rfl ?_
        refine r_getI fX8_29 (hG.lt (by decide)) sh1 fs1_3 dX8_peek_56 ?_
        refine r_if_lt 82 dX8_peek_59 (by decide) (fun c4 => ?_) (fun c4 => ?_)
        · replace hP := hP.1 c4
          refine r_iconst (-1) dX8_peek_82 rfl ?_
          exact r_ireturn _ dX8_peek_83 rfl rfl ⟨congrArg (fun z => some (Value.int z)) (by unfold F_X8_peek; rw [if_pos c4]), rfl⟩
        · replace hP := hP.2 c4
          refine r_aload_n dX8_peek_62 0 rfl ?_
          refine r_getI fX8_29 (hG.lt (by decide)) sh1 fs1_3 dX8_peek_63 ?_
          refine r_iload_n dX8_peek_66 1 rfl ?_
          refine r_icmp_ge 82 dX8_peek_67 (by decide) (fun c5 => ?_) (fun c5 => ?_)
          · replace hP := hP.1 c5
            refine r_iconst (-1) dX8_peek_82 rfl ?_
            exact r_ireturn _ dX8_peek_83 rfl rfl ⟨congrArg (fun z => some (Value.int z)) (by unfold F_X8_peek; rw [if_neg (i32_nl c4), if_pos c5]), rfl⟩
          · replace hP := hP.2 c5
            refine r_aload_n dX8_peek_70 0 rfl ?_
            refine r_getR 2 fX8_9 (hG.lt (by decide)) sh1 fs1_0 dX8_peek_71 ?_
            refine r_aload_n dX8_peek_74 0 rfl ?_
            refine r_getI fX8_29 (hG.lt (by decide)) sh1 fs1_3 dX8_peek_75 ?_
            have hs7 := hP
            refine r_iald (hG.lt (by decide)) sh2 hs7 dX8_peek_78 ?_
            refine r_goto 83 dX8_peek_79 (by decide) ?_
            exact r_ireturn _ dX8_peek_83 rfl rfl ⟨congrArg (fun z => some (Value.int z)) (by unfold F_X8_peek; rw [if_neg (i32_nl c4), if_neg (i32_ng c5)]), rfl⟩
      · replace hP := hP.2 c3
        refine r_aload_n dX8_peek_42 0 rfl ?_
        refine r_dup dX8_peek_43 rfl ?_
        refine r_getI fX8_29 (hG.lt (by decide)) sh1 fs1_3 dX8_peek_44 ?_
        refine r_iconst 1 dX8_peek_47 rfl ?_
        refine r_iadd dX8_peek_48 ?_
        refine r_put fiX8_29 (hG.lt (by decide)) sh1 fs1_3 dX8_peek_49 ?_
        refine r_mu (muX8_peek_1 μ) rfl ?_
        refine r_goto 13 dX8_peek_52 (by decide) ?_
        exact hP.elim
def muX8_isEnded_1 (μ : Mem) : Mem := (M_X8_peek  μ)
def F_X8_isEnded  (μ : Mem) : Int32 := (if (F_X8_peek  μ) ≠ (-1) then 0 else 1)
def M_X8_isEnded  (μ : Mem) : Mem := (muX8_isEnded_1 μ)
def P_X8_isEnded  (μ : Mem) : Prop := (P_X8_peek  μ)
theorem bo_X8_isEnded  (μ : Mem) : F_X8_isEnded  μ = 0 ∨ F_X8_isEnded  μ = 1 := by
  unfold F_X8_isEnded
  split
  · exact Or.inl rfl
  · exact Or.inr rfl
set_option maxRecDepth 20000 in
set_option maxHeartbeats 2000000 in
theorem ok_X8_isEnded {G : SG} (hG : GK 57 G)  (μ : Mem) (hP : P_X8_isEnded  μ) : OkF G mX8_isEnded [.ref (ga G 1)] μ (some (.int (F_X8_isEnded  μ))) (M_X8_isEnded  μ) := by
  refine okF_of hG rfl rfl (Nat.le_of_ble_eq_true rfl) ?_
  unfold P_X8_isEnded at hP
  refine r_aload_n dX8_isEnded_0 0 rfl ?_
  have hs1 := hP
  refine r_cvI (ok_X8_peek hG  μ hs1) lX8_47 (hG.lt (by decide)) sh1 ⟨_, _, rfl⟩ dX8_isEnded_1 (by decide) (Nat.le_of_ble_eq_true rfl) rfl (Nat.le_of_ble_eq_true rfl) ?_
  refine r_mu (muX8_isEnded_1 μ) rfl ?_
  refine r_iconst (-1) dX8_isEnded_4 rfl ?_
  refine r_icmp_ne 12 dX8_isEnded_5 (by decide) (fun c1 => ?_) (fun c1 => ?_)
  · refine r_iconst 0 dX8_isEnded_12 rfl ?_
    exact r_ireturn _ dX8_isEnded_13 rfl rfl ⟨congrArg (fun z => some (Value.int z)) (by unfold F_X8_isEnded; rw [if_pos c1]), rfl⟩
  · refine r_iconst 1 dX8_isEnded_8 rfl ?_
    refine r_goto 13 dX8_isEnded_9 (by decide) ?_
    exact r_ireturn _ dX8_isEnded_13 rfl rfl ⟨congrArg (fun z => some (Value.int z)) (by unfold F_X8_isEnded; rw [if_neg (not_not_intro c1)]), rfl⟩
def g_X8_isWord_20 (k : Nat) (μ : Mem) (i : Nat) (s : Unit) : Unit := ()
def Pb_X8_isWord_20 (k : Nat) (μ : Mem) (i : Nat) (s : Unit) : Prop := (((nI (strLen.getD k 0)) ≤ (nI i) → False) ∧ ((nI i) < (nI (strLen.getD k 0)) → ((((μ 1 4) + (nI i)) < 0 → False) ∧ (0 ≤ ((μ 1 4) + (nI i)) → ((600 ≤ ((μ 1 4) + (nI i)) → False) ∧ (((μ 1 4) + (nI i)) < 600 → (vp_in (nI i) (strLen.getD k 0)) ∧ (((μ 2 (ix ((μ 1 4) + (nI i)))) = ((strByt.getD k []).getD (ix (nI i)) 0) → True) ∧ (¬ (μ 2 (ix ((μ 1 4) + (nI i)))) = ((strByt.getD k []).getD (ix (nI i)) 0) → False))))))))
def Cb_X8_isWord_20 (k : Nat) (μ : Mem) (i : Nat) (s : Unit) : Bool := (if (nI (strLen.getD k 0)) ≤ (nI i) then false else (if ((μ 1 4) + (nI i)) < 0 then false else (if 600 ≤ ((μ 1 4) + (nI i)) then false else (if (μ 2 (ix ((μ 1 4) + (nI i)))) = ((strByt.getD k []).getD (ix (nI i)) 0) then true else false))))
set_option maxRecDepth 20000 in
set_option maxHeartbeats 2000000 in
theorem lp_X8_isWord_20 {G : SG} (hG : GK 57 G) {k : Nat} (hk : k < nStr) (μ : Mem) (s0 : Unit) (N : Nat) (sN : Unit) (eN : sN = fo N (g_X8_isWord_20 k μ) s0) (hN : ∀ i, i < N → Pb_X8_isWord_20 k μ i (fo i (g_X8_isWord_20 k μ) s0)) {t : Nat} {Q : PQ} {X : PX} (h : R G mX8_isWord 20 [(0, .ref (ga G 1)), (1, .ref (ga G (1000 + k))), (2, .int (nI N))] [] μ t Q X) : R G mX8_isWord 20 [(0, .ref (ga G 1)), (1, .ref (ga G (1000 + k))), (2, .int 0)] [] μ t Q X := by
  subst eN
  refine down_i N (fun i => R G mX8_isWord 20 [(0, .ref (ga G 1)), (1, .ref (ga G (1000 + k))), (2, .int (nI i))] [] μ t Q X) h (fun i hi hS => ?_)
  have hP := hN i hi
  rw [nI_succ] at hS
  generalize fo i (g_X8_isWord_20 k μ) s0 = s at hS hP ⊢
  unfold Pb_X8_isWord_20 at hP
  refine r_iload_n dX8_isWord_20 2 rfl ?_
  refine r_aload_n dX8_isWord_21 1 rfl ?_
  refine r_cvS hk (ok_J0_length hG k hk μ) lX8_69 rfl dX8_isWord_22 (by decide) (by decide) rfl (Nat.le_of_ble_eq_true rfl) ?_
  refine r_icmp_ge 70 dX8_isWord_25 (by decide) (fun c1 => ?_) (fun c1 => ?_)
  · replace hP := hP.1 c1
    exact hP.elim
  · replace hP := hP.2 c1
    refine r_aload_n dX8_isWord_28 0 rfl ?_
    refine r_getI fX8_32 (hG.lt (by decide)) sh1 fs1_4 dX8_isWord_29 ?_
    refine r_iload_n dX8_isWord_32 2 rfl ?_
    refine r_iadd dX8_isWord_33 ?_
    refine r_istore_n [(3, _), (0, _), (1, _), (2, _)] dX8_isWord_34 (Nat.le_of_ble_eq_true rfl) rfl ?_
    refine r_iload_n dX8_isWord_35 0 rfl ?_
    refine r_if_lt 62 dX8_isWord_36 (by decide) (fun c2 => ?_) (fun c2 => ?_)
    · replace hP := hP.1 c2
      refine r_iconst 0 dX8_isWord_62 rfl ?_
      exact hP.elim
    · replace hP := hP.2 c2
      refine r_iload_n dX8_isWord_39 0 rfl ?_
      refine r_aload_n dX8_isWord_40 1 rfl ?_
      refine r_getR 2 fX8_9 (hG.lt (by decide)) sh1 fs1_0 dX8_isWord_41 ?_
      refine r_alen 600 (hG.lt (by decide)) sh2 rfl dX8_isWord_44 ?_
      refine r_icmp_ge 62 dX8_isWord_45 (by decide) (fun c3 => ?_) (fun c3 => ?_)
      · replace hP := hP.1 c3
        refine r_iconst 0 dX8_isWord_62 rfl ?_
        exact hP.elim
      · replace hP := hP.2 c3
        refine r_aload_n dX8_isWord_48 1 rfl ?_
        refine r_getR 2 fX8_9 (hG.lt (by decide)) sh1 fs1_0 dX8_isWord_49 ?_
        refine r_iload_n dX8_isWord_52 0 rfl ?_
        refine r_iald (hG.lt (by decide)) sh2 (vpI 600 c2 c3 (by decide)) dX8_isWord_53 ?_
        refine r_aload_n dX8_isWord_54 2 rfl ?_
        refine r_iload_n dX8_isWord_55 3 rfl ?_
        have hs1 := hP.1
        replace hP := hP.2
        refine r_cvS hk (ok_J0_charAt hG k hk (nI i) hs1 μ) lX8_73 rfl dX8_isWord_56 (by decide) (by decide) rfl (Nat.le_of_ble_eq_true rfl) ?_
        refine r_icmp_eq 64 dX8_isWord_59 (by decide) (fun c4 => ?_) (fun c4 => ?_)
        · replace hP := hP.1 c4
          refine r_iinc ((nI i) + 1) [(2, _), (3, _), (0, _), (1, _)] dX8_isWord_64 3 rfl rfl (Nat.le_of_ble_eq_true rfl) rfl ?_
          refine r_goto 20 dX8_isWord_67 (by decide) ?_
          exact r_sub [2, 3, 0] rfl hS
        · replace hP := hP.2 c4
          refine r_iconst 0 dX8_isWord_62 rfl ?_
          exact hP.elim
def NX8_isWord_20 (k : Nat) (μ : Mem) : Nat := (fst 8 (fun j9 => !Cb_X8_isWord_20 k μ j9 (fo j9 (g_X8_isWord_20 k μ) ())))
def SX8_isWord_20 (k : Nat) (μ : Mem) : Unit := fo (NX8_isWord_20 k μ) (g_X8_isWord_20 k μ) ()
def F_X8_isWord (k : Nat) (μ : Mem) : Int32 := (if ((μ 1 5) - (μ 1 4)) = (nI (strLen.getD k 0)) then (if (nI (strLen.getD k 0)) ≤ (nI (NX8_isWord_20 k μ)) then 1 else 0) else 0)
def P_X8_isWord (k : Nat) (μ : Mem) : Prop := ((((μ 1 5) - (μ 1 4)) = (nI (strLen.getD k 0)) → ((∀ j9, j9 < (NX8_isWord_20 k μ) → Pb_X8_isWord_20 k μ j9 (fo j9 (g_X8_isWord_20 k μ) ())) ∧ (((nI (strLen.getD k 0)) ≤ (nI (NX8_isWord_20 k μ)) → True) ∧ ((nI (NX8_isWord_20 k μ)) < (nI (strLen.getD k 0)) → ((((μ 1 4) + (nI (NX8_isWord_20 k μ))) < 0 → True) ∧ (0 ≤ ((μ 1 4) + (nI (NX8_isWord_20 k μ))) → ((600 ≤ ((μ 1 4) + (nI (NX8_isWord_20 k μ))) → True) ∧ (((μ 1 4) + (nI (NX8_isWord_20 k μ))) < 600 → ((vp_in (nI (NX8_isWord_20 k μ)) (strLen.getD k 0)) ∧ (((μ 2 (ix ((μ 1 4) + (nI (NX8_isWord_20 k μ))))) = ((strByt.getD k []).getD (ix (nI (NX8_isWord_20 k μ))) 0) → False) ∧ (¬ (μ 2 (ix ((μ 1 4) + (nI (NX8_isWord_20 k μ))))) = ((strByt.getD k []).getD (ix (nI (NX8_isWord_20 k μ))) 0) → True))))))))))) ∧ (¬ ((μ 1 5) - (μ 1 4)) = (nI (strLen.getD k 0)) → True))
theorem bo_X8_isWord (k : Nat) (μ : Mem) : F_X8_isWord k μ = 0 ∨ F_X8_isWord k μ = 1 := by
  unfold F_X8_isWord
  split
  · split
    · exact Or.inr rfl
    · exact Or.inl rfl
  · exact Or.inl rfl
set_option maxRecDepth 20000 in
set_option maxHeartbeats 2000000 in
theorem ok_X8_isWord {G : SG} (hG : GK 57 G) {k : Nat} (hk : k < nStr) (μ : Mem) (hP : P_X8_isWord k μ) : OkF G mX8_isWord [.ref (ga G 1), .ref (ga G (1000 + k))] μ (some (.int (F_X8_isWord k μ))) μ := by
  refine okF_of hG rfl rfl (Nat.le_of_ble_eq_true rfl) ?_
  unfold P_X8_isWord at hP
  refine r_aload_n dX8_isWord_0 0 rfl ?_
  refine r_getI fX8_35 (hG.lt (by decide)) sh1 fs1_5 dX8_isWord_1 ?_
  refine r_aload_n dX8_isWord_4 0 rfl ?_
  refine r_getI fX8_32 (hG.lt (by decide)) sh1 fs1_4 dX8_isWord_5 ?_
  refine r_isub dX8_isWord_8 ?_
  refine r_aload_n dX8_isWord_9 1 rfl ?_
  refine r_cvS hk (ok_J0_length hG k hk μ) lX8_69 rfl dX8_isWord_10 (by decide) (by decide) rfl (Nat.le_of_ble_eq_true rfl) ?_
  refine r_icmp_eq 18 dX8_isWord_13 (by decide) (fun c1 => ?_) (fun c1 => ?_)
  · replace hP := hP.1 c1
    refine r_iconst 0 dX8_isWord_18 rfl ?_
    refine r_istore_n [(2, _), (0, _), (1, _)] dX8_isWord_19 (Nat.le_of_ble_eq_true rfl) rfl ?_
    have hs1 := hP.1
    replace hP := hP.2
    refine r_sub [1, 2, 0] rfl ?_
    refine lp_X8_isWord_20 hG hk μ () ((NX8_isWord_20 k μ)) (SX8_isWord_20 k μ) rfl hs1 ?_
    refine r_iload_n dX8_isWord_20 2 rfl ?_
    refine r_aload_n dX8_isWord_21 1 rfl ?_
    refine r_cvS hk (ok_J0_length hG k hk μ) lX8_69 rfl dX8_isWord_22 (by decide) (by decide) rfl (Nat.le_of_ble_eq_true rfl) ?_
    refine r_icmp_ge 70 dX8_isWord_25 (by decide) (fun c2 => ?_) (fun c2 => ?_)
    · replace hP := hP.1 c2
      refine r_iconst 1 dX8_isWord_70 rfl ?_
      exact r_ireturn _ dX8_isWord_71 rfl rfl ⟨congrArg (fun z => some (Value.int z)) (by unfold F_X8_isWord; rw [if_pos c1, if_pos c2]), rfl⟩
    · replace hP := hP.2 c2
      refine r_aload_n dX8_isWord_28 0 rfl ?_
      refine r_getI fX8_32 (hG.lt (by decide)) sh1 fs1_4 dX8_isWord_29 ?_
      refine r_iload_n dX8_isWord_32 2 rfl ?_
      refine r_iadd dX8_isWord_33 ?_
      refine r_istore_n [(3, _), (0, _), (1, _), (2, _)] dX8_isWord_34 (Nat.le_of_ble_eq_true rfl) rfl ?_
      refine r_iload_n dX8_isWord_35 0 rfl ?_
      refine r_if_lt 62 dX8_isWord_36 (by decide) (fun c3 => ?_) (fun c3 => ?_)
      · replace hP := hP.1 c3
        refine r_iconst 0 dX8_isWord_62 rfl ?_
        exact r_ireturn _ dX8_isWord_63 rfl rfl ⟨congrArg (fun z => some (Value.int z)) (by unfold F_X8_isWord; rw [if_pos c1, if_neg (i32_ng c2)]), rfl⟩
      · replace hP := hP.2 c3
        refine r_iload_n dX8_isWord_39 0 rfl ?_
        refine r_aload_n dX8_isWord_40 1 rfl ?_
        refine r_getR 2 fX8_9 (hG.lt (by decide)) sh1 fs1_0 dX8_isWord_41 ?_
        refine r_alen 600 (hG.lt (by decide)) sh2 rfl dX8_isWord_44 ?_
        refine r_icmp_ge 62 dX8_isWord_45 (by decide) (fun c4 => ?_) (fun c4 => ?_)
        · replace hP := hP.1 c4
          refine r_iconst 0 dX8_isWord_62 rfl ?_
          exact r_ireturn _ dX8_isWord_63 rfl rfl ⟨congrArg (fun z => some (Value.int z)) (by unfold F_X8_isWord; rw [if_pos c1, if_neg (i32_ng c2)]), rfl⟩
        · replace hP := hP.2 c4
          refine r_aload_n dX8_isWord_48 1 rfl ?_
          refine r_getR 2 fX8_9 (hG.lt (by decide)) sh1 fs1_0 dX8_isWord_49 ?_
          refine r_iload_n dX8_isWord_52 0 rfl ?_
          refine r_iald (hG.lt (by decide)) sh2 (vpI 600 c3 c4 (by decide)) dX8_isWord_53 ?_
          refine r_aload_n dX8_isWord_54 2 rfl ?_
          refine r_iload_n dX8_isWord_55 3 rfl ?_
          have hs2 := hP.1
          replace hP := hP.2
          refine r_cvS hk (ok_J0_charAt hG k hk (nI (NX8_isWord_20 k μ)) hs2 μ) lX8_73 rfl dX8_isWord_56 (by decide) (by decide) rfl (Nat.le_of_ble_eq_true rfl) ?_
          refine r_icmp_eq 64 dX8_isWord_59 (by decide) (fun c5 => ?_) (fun c5 => ?_)
          · replace hP := hP.1 c5
            refine r_iinc ((nI (NX8_isWord_20 k μ)) + 1) [(2, _), (3, _), (0, _), (1, _)] dX8_isWord_64 3 rfl rfl (Nat.le_of_ble_eq_true rfl) rfl ?_
            refine r_goto 20 dX8_isWord_67 (by decide) ?_
            exact hP.elim
          · replace hP := hP.2 c5
            refine r_iconst 0 dX8_isWord_62 rfl ?_
            exact r_ireturn _ dX8_isWord_63 rfl rfl ⟨congrArg (fun z => some (Value.int z)) (by unfold F_X8_isWord; rw [if_pos c1, if_neg (i32_ng c2)]), rfl⟩
  · replace hP := hP.2 c1
    refine r_iconst 0 dX8_isWord_16 rfl ?_
    exact r_ireturn _ dX8_isWord_17 rfl rfl ⟨congrArg (fun z => some (Value.int z)) (by unfold F_X8_isWord; rw [if_neg c1]), rfl⟩
def F_X1_codeOf  (μ : Mem) : Int32 := (if (F_X8_isWord 7 μ) = 0 then (if (F_X8_isWord 8 μ) = 0 then (if (F_X8_isWord 9 μ) = 0 then (if (F_X8_isWord 3 μ) = 0 then (if (F_X8_isWord 10 μ) = 0 then (if (F_X8_isWord 5 μ) = 0 then (if (F_X8_isWord 1 μ) = 0 then (if (F_X8_isWord 11 μ) = 0 then (if (F_X8_isWord 12 μ) = 0 then (-1) else 13) else 12) else 6) else 5) else 4) else 3) else 2) else 1) else 0)
def P_X1_codeOf  (μ : Mem) : Prop := ((P_X8_isWord 7 μ) ∧ (((F_X8_isWord 7 μ) = 0 → ((P_X8_isWord 8 μ) ∧ (((F_X8_isWord 8 μ) = 0 → ((P_X8_isWord 9 μ) ∧ (((F_X8_isWord 9 μ) = 0 → ((P_X8_isWord 3 μ) ∧ (((F_X8_isWord 3 μ) = 0 → ((P_X8_isWord 10 μ) ∧ (((F_X8_isWord 10 μ) = 0 → ((P_X8_isWord 5 μ) ∧ (((F_X8_isWord 5 μ) = 0 → ((P_X8_isWord 1 μ) ∧ (((F_X8_isWord 1 μ) = 0 → ((P_X8_isWord 11 μ) ∧ (((F_X8_isWord 11 μ) = 0 → (P_X8_isWord 12 μ)) ∧ (¬ (F_X8_isWord 11 μ) = 0 → True)))) ∧ (¬ (F_X8_isWord 1 μ) = 0 → True)))) ∧ (¬ (F_X8_isWord 5 μ) = 0 → True)))) ∧ (¬ (F_X8_isWord 10 μ) = 0 → True)))) ∧ (¬ (F_X8_isWord 3 μ) = 0 → True)))) ∧ (¬ (F_X8_isWord 9 μ) = 0 → True)))) ∧ (¬ (F_X8_isWord 8 μ) = 0 → True)))) ∧ (¬ (F_X8_isWord 7 μ) = 0 → True)))
set_option maxRecDepth 20000 in
set_option maxHeartbeats 2000000 in
theorem ok_X1_codeOf {G : SG} (hG : GK 57 G)  (μ : Mem) (hP : P_X1_codeOf  μ) : OkF G mX1_codeOf [.ref (ga G 1)] μ (some (.int (F_X1_codeOf  μ))) μ := by
  refine okF_of hG rfl rfl (Nat.le_of_ble_eq_true rfl) ?_
  unfold P_X1_codeOf at hP
  refine r_aload_n dX1_codeOf_0 0 rfl ?_
  refine r_ldcS (k := 7) (tx := "depth") (by decide) dX1_codeOf_1 ?_
  have hs1 := hP.1
  replace hP := hP.2
  refine r_cvI (ok_X8_isWord hG (show 7 < nStr by decide) μ hs1) lX1_94 (hG.lt (by decide)) sh1 ⟨_, _, rfl⟩ dX1_codeOf_3 (by decide) (Nat.le_of_ble_eq_true rfl) rfl (Nat.le_of_ble_eq_true rfl) ?_
  refine r_if_eq 13 dX1_codeOf_6 (by decide) (fun c1 => ?_) (fun c1 => ?_)
  · replace hP := hP.1 c1
    refine r_aload_n dX1_codeOf_13 0 rfl ?_
    refine r_ldcS (k := 8) (tx := "lost") (by decide) dX1_codeOf_14 ?_
    have hs2 := hP.1
    replace hP := hP.2
    refine r_cvI (ok_X8_isWord hG (show 8 < nStr by decide) μ hs2) lX1_94 (hG.lt (by decide)) sh1 ⟨_, _, rfl⟩ dX1_codeOf_16 (by decide) (Nat.le_of_ble_eq_true rfl) rfl (Nat.le_of_ble_eq_true rfl) ?_
    refine r_if_eq 26 dX1_codeOf_19 (by decide) (fun c2 => ?_) (fun c2 => ?_)
    · replace hP := hP.1 c2
      refine r_aload_n dX1_codeOf_26 0 rfl ?_
      refine r_ldcS (k := 9) (tx := "wet") (by decide) dX1_codeOf_27 ?_
      have hs3 := hP.1
      replace hP := hP.2
      refine r_cvI (ok_X8_isWord hG (show 9 < nStr by decide) μ hs3) lX1_94 (hG.lt (by decide)) sh1 ⟨_, _, rfl⟩ dX1_codeOf_29 (by decide) (Nat.le_of_ble_eq_true rfl) rfl (Nat.le_of_ble_eq_true rfl) ?_
      refine r_if_eq 39 dX1_codeOf_32 (by decide) (fun c3 => ?_) (fun c3 => ?_)
      · replace hP := hP.1 c3
        refine r_aload_n dX1_codeOf_39 0 rfl ?_
        refine r_ldcS (k := 3) (tx := "tide") (by decide) dX1_codeOf_40 ?_
        have hs4 := hP.1
        replace hP := hP.2
        refine r_cvI (ok_X8_isWord hG (show 3 < nStr by decide) μ hs4) lX1_94 (hG.lt (by decide)) sh1 ⟨_, _, rfl⟩ dX1_codeOf_42 (by decide) (Nat.le_of_ble_eq_true rfl) rfl (Nat.le_of_ble_eq_true rfl) ?_
        refine r_if_eq 52 dX1_codeOf_45 (by decide) (fun c4 => ?_) (fun c4 => ?_)
        · replace hP := hP.1 c4
          refine r_aload_n dX1_codeOf_52 0 rfl ?_
          refine r_ldcS (k := 10) (tx := "moon") (by decide) dX1_codeOf_53 ?_
          have hs5 := hP.1
          replace hP := hP.2
          refine r_cvI (ok_X8_isWord hG (show 10 < nStr by decide) μ hs5) lX1_94 (hG.lt (by decide)) sh1 ⟨_, _, rfl⟩ dX1_codeOf_55 (by decide) (Nat.le_of_ble_eq_true rfl) rfl (Nat.le_of_ble_eq_true rfl) ?_
          refine r_if_eq 65 dX1_codeOf_58 (by decide) (fun c5 => ?_) (fun c5 => ?_)
          · replace hP := hP.1 c5
            refine r_aload_n dX1_codeOf_65 0 rfl ?_
            refine r_ldcS (k := 5) (tx := "rent") (by decide) dX1_codeOf_66 ?_
            have hs6 := hP.1
            replace hP := hP.2
            refine r_cvI (ok_X8_isWord hG (show 5 < nStr by decide) μ hs6) lX1_94 (hG.lt (by decide)) sh1 ⟨_, _, rfl⟩ dX1_codeOf_68 (by decide) (Nat.le_of_ble_eq_true rfl) rfl (Nat.le_of_ble_eq_true rfl) ?_
            refine r_if_eq 78 dX1_codeOf_71 (by decide) (fun c6 => ?_) (fun c6 => ?_)
            · replace hP := hP.1 c6
              refine r_aload_n dX1_codeOf_78 0 rfl ?_
              refine r_ldcS (k := 1) (tx := "house") (by decide) dX1_codeOf_79 ?_
              have hs7 := hP.1
              replace hP := hP.2
              refine r_cvI (ok_X8_isWord hG (show 1 < nStr by decide) μ hs7) lX1_94 (hG.lt (by decide)) sh1 ⟨_, _, rfl⟩ dX1_codeOf_81 (by decide) (Nat.le_of_ble_eq_true rfl) rfl (Nat.le_of_ble_eq_true rfl) ?_
              refine r_if_eq 92 dX1_codeOf_84 (by decide) (fun c7 => ?_) (fun c7 => ?_)
              · replace hP := hP.1 c7
                refine r_aload_n dX1_codeOf_92 0 rfl ?_
                refine r_ldcS (k := 11) (tx := "least") (by decide) dX1_codeOf_93 ?_
                have hs8 := hP.1
                replace hP := hP.2
                refine r_cvI (ok_X8_isWord hG (show 11 < nStr by decide) μ hs8) lX1_94 (hG.lt (by decide)) sh1 ⟨_, _, rfl⟩ dX1_codeOf_95 (by decide) (Nat.le_of_ble_eq_true rfl) rfl (Nat.le_of_ble_eq_true rfl) ?_
                refine r_if_eq 106 dX1_codeOf_98 (by decide) (fun c8 => ?_) (fun c8 => ?_)
                · replace hP := hP.1 c8
                  refine r_aload_n dX1_codeOf_106 0 rfl ?_
                  refine r_ldcS (k := 12) (tx := "most") (by decide) dX1_codeOf_107 ?_
                  have hs9 := hP
                  refine r_cvI (ok_X8_isWord hG (show 12 < nStr by decide) μ hs9) lX1_94 (hG.lt (by decide)) sh1 ⟨_, _, rfl⟩ dX1_codeOf_109 (by decide) (Nat.le_of_ble_eq_true rfl) rfl (Nat.le_of_ble_eq_true rfl) ?_
                  refine r_if_eq 120 dX1_codeOf_112 (by decide) (fun c9 => ?_) (fun c9 => ?_)
                  · refine r_iconst (-1) dX1_codeOf_120 rfl ?_
                    exact r_ireturn _ dX1_codeOf_121 rfl rfl ⟨congrArg (fun z => some (Value.int z)) (by unfold F_X1_codeOf; rw [if_pos c1, if_pos c2, if_pos c3, if_pos c4, if_pos c5, if_pos c6, if_pos c7, if_pos c8, if_pos c9]), rfl⟩
                  · refine r_bipush 13 dX1_codeOf_115 rfl ?_
                    refine r_goto 121 dX1_codeOf_117 (by decide) ?_
                    exact r_ireturn _ dX1_codeOf_121 rfl rfl ⟨congrArg (fun z => some (Value.int z)) (by unfold F_X1_codeOf; rw [if_pos c1, if_pos c2, if_pos c3, if_pos c4, if_pos c5, if_pos c6, if_pos c7, if_pos c8, if_neg c9]), rfl⟩
                · replace hP := hP.2 c8
                  refine r_bipush 12 dX1_codeOf_101 rfl ?_
                  refine r_goto 121 dX1_codeOf_103 (by decide) ?_
                  exact r_ireturn _ dX1_codeOf_121 rfl rfl ⟨congrArg (fun z => some (Value.int z)) (by unfold F_X1_codeOf; rw [if_pos c1, if_pos c2, if_pos c3, if_pos c4, if_pos c5, if_pos c6, if_pos c7, if_neg c8]), rfl⟩
              · replace hP := hP.2 c7
                refine r_bipush 6 dX1_codeOf_87 rfl ?_
                refine r_goto 121 dX1_codeOf_89 (by decide) ?_
                exact r_ireturn _ dX1_codeOf_121 rfl rfl ⟨congrArg (fun z => some (Value.int z)) (by unfold F_X1_codeOf; rw [if_pos c1, if_pos c2, if_pos c3, if_pos c4, if_pos c5, if_pos c6, if_neg c7]), rfl⟩
            · replace hP := hP.2 c6
              refine r_iconst 5 dX1_codeOf_74 rfl ?_
              refine r_goto 121 dX1_codeOf_75 (by decide) ?_
              exact r_ireturn _ dX1_codeOf_121 rfl rfl ⟨congrArg (fun z => some (Value.int z)) (by unfold F_X1_codeOf; rw [if_pos c1, if_pos c2, if_pos c3, if_pos c4, if_pos c5, if_neg c6]), rfl⟩
          · replace hP := hP.2 c5
            refine r_iconst 4 dX1_codeOf_61 rfl ?_
            refine r_goto 121 dX1_codeOf_62 (by decide) ?_
            exact r_ireturn _ dX1_codeOf_121 rfl rfl ⟨congrArg (fun z => some (Value.int z)) (by unfold F_X1_codeOf; rw [if_pos c1, if_pos c2, if_pos c3, if_pos c4, if_neg c5]), rfl⟩
        · replace hP := hP.2 c4
          refine r_iconst 3 dX1_codeOf_48 rfl ?_
          refine r_goto 121 dX1_codeOf_49 (by decide) ?_
          exact r_ireturn _ dX1_codeOf_121 rfl rfl ⟨congrArg (fun z => some (Value.int z)) (by unfold F_X1_codeOf; rw [if_pos c1, if_pos c2, if_pos c3, if_neg c4]), rfl⟩
      · replace hP := hP.2 c3
        refine r_iconst 2 dX1_codeOf_35 rfl ?_
        refine r_goto 121 dX1_codeOf_36 (by decide) ?_
        exact r_ireturn _ dX1_codeOf_121 rfl rfl ⟨congrArg (fun z => some (Value.int z)) (by unfold F_X1_codeOf; rw [if_pos c1, if_pos c2, if_neg c3]), rfl⟩
    · replace hP := hP.2 c2
      refine r_iconst 1 dX1_codeOf_22 rfl ?_
      refine r_goto 121 dX1_codeOf_23 (by decide) ?_
      exact r_ireturn _ dX1_codeOf_121 rfl rfl ⟨congrArg (fun z => some (Value.int z)) (by unfold F_X1_codeOf; rw [if_pos c1, if_neg c2]), rfl⟩
  · replace hP := hP.2 c1
    refine r_iconst 0 dX1_codeOf_9 rfl ?_
    refine r_goto 121 dX1_codeOf_10 (by decide) ?_
    exact r_ireturn _ dX1_codeOf_121 rfl rfl ⟨congrArg (fun z => some (Value.int z)) (by unfold F_X1_codeOf; rw [if_neg c1]), rfl⟩
def muX2_clear_1 (th : Nat) (μ : Mem) : Mem := (upm μ th 2 0)
def muX2_clear_7_1 (th : Nat) (i : Nat) (s : Mem) : Mem := (M_X9_put (th + 1) 6 (nI i) (-1) s)
def g_X2_clear_7 (th : Nat) (i : Nat) (s : Mem) : Mem := (muX2_clear_7_1 th i s)
def Pb_X2_clear_7 (th : Nat) (i : Nat) (s : Mem) : Prop := ((6 ≤ (nI i) → False) ∧ ((nI i) < 6 → True))
set_option maxRecDepth 20000 in
set_option maxHeartbeats 2000000 in
theorem lp_X2_clear_7 {G : SG} (hG : GK 57 G) {th : Nat} (hth : IsMk th)  (s0 : Mem) (N : Nat) (sN : Mem) (eN : sN = fo N (g_X2_clear_7 th) s0) (hN : ∀ i, i < N → Pb_X2_clear_7 th i (fo i (g_X2_clear_7 th) s0)) {t : Nat} {Q : PQ} {X : PX} (h : R G mX2_clear 7 [(0, .ref (ga G th)), (1, .int (nI N))] [] sN t Q X) : R G mX2_clear 7 [(0, .ref (ga G th)), (1, .int 0)] [] s0 t Q X := by
  subst eN
  refine down_i N (fun i => R G mX2_clear 7 [(0, .ref (ga G th)), (1, .int (nI i))] [] (fo i (g_X2_clear_7 th) s0) t Q X) h (fun i hi hS => ?_)
  have hP := hN i hi
  rw [fo_succ] at hS
  rw [nI_succ] at hS
  generalize fo i (g_X2_clear_7 th) s0 = s at hS hP ⊢
  unfold Pb_X2_clear_7 at hP
  refine r_iload_n dX2_clear_7 1 rfl ?_
  refine r_bipush 6 dX2_clear_8 rfl ?_
  refine r_icmp_ge 28 dX2_clear_10 (by decide) (fun c1 => ?_) (fun c1 => ?_)
  · replace hP := hP.1 c1
    exact hP.elim
  · replace hP := hP.2 c1
    refine r_aload_n dX2_clear_13 0 rfl ?_
    refine r_getR (th + 1) fX2_9 (hth.lt hG) hth.sh (hth.f0) dX2_clear_14 ?_
    refine r_iload_n dX2_clear_17 1 rfl ?_
    refine r_iconst (-1) dX2_clear_18 rfl ?_
    refine r_csV (ok_X9_put hG (hth.lt0 hG) hth.s0 (nI i) (-1) s) lX2_22 dX2_clear_19 (by decide) (Nat.le_of_ble_eq_true rfl) rfl (Nat.le_of_ble_eq_true rfl) ?_
    refine r_mu (muX2_clear_7_1 th i s) rfl ?_
    refine r_iinc ((nI i) + 1) [(1, _), (0, _)] dX2_clear_22 1 rfl rfl (Nat.le_of_ble_eq_true rfl) rfl ?_
    refine r_goto 7 dX2_clear_25 (by decide) ?_
    have e : g_X2_clear_7 th i s = (muX2_clear_7_1 th i s) := by unfold g_X2_clear_7; rfl
    rw [e] at hS
    exact r_sub [1, 0] rfl hS
def NX2_clear_7 (th : Nat) (μ : Mem) : Nat := 6
def SX2_clear_7 (th : Nat) (μ : Mem) : Mem := fo (NX2_clear_7 th μ) (g_X2_clear_7 th) (muX2_clear_1 th μ)
def muX2_clear_2 (th : Nat) (μ : Mem) : Mem := (M_X9_put (th + 1) 6 (nI (NX2_clear_7 th μ)) (-1) (SX2_clear_7 th μ))
def M_X2_clear (th : Nat) (μ : Mem) : Mem := (SX2_clear_7 th μ)
def P_X2_clear (th : Nat) (μ : Mem) : Prop := ((∀ j9, j9 < (NX2_clear_7 th μ) → Pb_X2_clear_7 th j9 (fo j9 (g_X2_clear_7 th) (muX2_clear_1 th μ))) ∧ ((6 ≤ (nI (NX2_clear_7 th μ)) → True) ∧ ((nI (NX2_clear_7 th μ)) < 6 → False)))
set_option maxRecDepth 20000 in
set_option maxHeartbeats 2000000 in
theorem ok_X2_clear {G : SG} (hG : GK 57 G) {th : Nat} (hth : IsMk th) (μ : Mem) (hP : P_X2_clear th μ) : OkF G mX2_clear [.ref (ga G th)] μ none (M_X2_clear th μ) := by
  refine okF_of hG rfl rfl (Nat.le_of_ble_eq_true rfl) ?_
  unfold P_X2_clear at hP
  refine r_aload_n dX2_clear_0 0 rfl ?_
  refine r_iconst 0 dX2_clear_1 rfl ?_
  refine r_put fiX2_18 (hth.lt hG) hth.sh (hth.f2) dX2_clear_2 ?_
  refine r_mu (muX2_clear_1 th μ) rfl ?_
  refine r_iconst 0 dX2_clear_5 rfl ?_
  refine r_istore_n [(1, _), (0, _)] dX2_clear_6 (Nat.le_of_ble_eq_true rfl) rfl ?_
  have hs1 := hP.1
  replace hP := hP.2
  refine r_sub [1, 0] rfl ?_
  refine lp_X2_clear_7 hG hth (muX2_clear_1 th μ) ((NX2_clear_7 th μ)) (SX2_clear_7 th μ) rfl hs1 ?_
  refine r_iload_n dX2_clear_7 1 rfl ?_
  refine r_bipush 6 dX2_clear_8 rfl ?_
  refine r_icmp_ge 28 dX2_clear_10 (by decide) (fun c1 => ?_) (fun c1 => ?_)
  · replace hP := hP.1 c1
    exact r_return dX2_clear_28 rfl ⟨rfl, rfl⟩
  · replace hP := hP.2 c1
    refine r_aload_n dX2_clear_13 0 rfl ?_
    refine r_getR (th + 1) fX2_9 (hth.lt hG) hth.sh (hth.f0) dX2_clear_14 ?_
    refine r_iload_n dX2_clear_17 1 rfl ?_
    refine r_iconst (-1) dX2_clear_18 rfl ?_
    refine r_csV (ok_X9_put hG (hth.lt0 hG) hth.s0 (nI (NX2_clear_7 th μ)) (-1) (SX2_clear_7 th μ)) lX2_22 dX2_clear_19 (by decide) (Nat.le_of_ble_eq_true rfl) rfl (Nat.le_of_ble_eq_true rfl) ?_
    refine r_mu (muX2_clear_2 th μ) rfl ?_
    refine r_iinc ((nI (NX2_clear_7 th μ)) + 1) [(1, _), (0, _)] dX2_clear_22 1 rfl rfl (Nat.le_of_ble_eq_true rfl) rfl ?_
    refine r_goto 7 dX2_clear_25 (by decide) ?_
    exact hP.elim
def muX2_copyFrom_1 (μ : Mem) : Mem := (M_X9_copyWhole 41 6 38 6 μ)
def muX2_copyFrom_2 (μ : Mem) : Mem := (upm (muX2_copyFrom_1 μ) 37 2 ((muX2_copyFrom_1 μ) 40 2))
def M_X2_copyFrom  (μ : Mem) : Mem := (muX2_copyFrom_2 μ)
def P_X2_copyFrom  (μ : Mem) : Prop := (P_X9_copyWhole 41 6 38 6 μ)
set_option maxRecDepth 20000 in
set_option maxHeartbeats 2000000 in
theorem ok_X2_copyFrom {G : SG} (hG : GK 57 G)  (μ : Mem) (hP : P_X2_copyFrom  μ) : OkF G mX2_copyFrom [.ref (ga G 37), .ref (ga G 40)] μ none (M_X2_copyFrom  μ) := by
  refine okF_of hG rfl rfl (Nat.le_of_ble_eq_true rfl) ?_
  unfold P_X2_copyFrom at hP
  refine r_aload_n dX2_copyFrom_0 1 rfl ?_
  refine r_getR 41 fX2_9 (hG.lt (by decide)) sh40 fs40_0 dX2_copyFrom_1 ?_
  refine r_aload_n dX2_copyFrom_4 0 rfl ?_
  refine r_getR 38 fX2_9 (hG.lt (by decide)) sh37 fs37_0 dX2_copyFrom_5 ?_
  have hs1 := hP
  refine r_csV (ok_X9_copyWhole hG (hG.lt (by decide)) sh41 (hG.lt (by decide)) sh38 μ hs1) lX2_26 dX2_copyFrom_8 (by decide) (Nat.le_of_ble_eq_true rfl) rfl (Nat.le_of_ble_eq_true rfl) ?_
  refine r_mu (muX2_copyFrom_1 μ) rfl ?_
  refine r_aload_n dX2_copyFrom_11 0 rfl ?_
  refine r_aload_n dX2_copyFrom_12 1 rfl ?_
  refine r_getI fX2_18 (hG.lt (by decide)) sh40 fs40_2 dX2_copyFrom_13 ?_
  refine r_put fiX2_18 (hG.lt (by decide)) sh37 fs37_2 dX2_copyFrom_16 ?_
  refine r_mu (muX2_copyFrom_2 μ) rfl ?_
  exact r_return dX2_copyFrom_19 rfl ⟨rfl, rfl⟩
def muX8_failToken_1 (p1 : Int32) (μ : Mem) : Mem := (upm μ 1 6 p1)
def muX8_failToken_2 (p1 : Int32) (μ : Mem) : Mem := (upm (muX8_failToken_1 p1 μ) 1 7 ((muX8_failToken_1 p1 μ) 1 4))
def F_X8_failToken (p1 : Int32) (μ : Mem) : Int32 := 0
def M_X8_failToken (p1 : Int32) (μ : Mem) : Mem := (muX8_failToken_2 p1 μ)
theorem bo_X8_failToken (p1 : Int32) (μ : Mem) : F_X8_failToken p1 μ = 0 ∨ F_X8_failToken p1 μ = 1 := by
  unfold F_X8_failToken
  exact Or.inl rfl
set_option maxRecDepth 20000 in
set_option maxHeartbeats 2000000 in
theorem ok_X8_failToken {G : SG} (hG : GK 57 G) (p1 : Int32) (μ : Mem) : OkF G mX8_failToken [.ref (ga G 1), .int p1] μ (some (.int (F_X8_failToken p1 μ))) (M_X8_failToken p1 μ) := by
  refine okF_of hG rfl rfl (Nat.le_of_ble_eq_true rfl) ?_
  refine r_aload_n dX8_failToken_0 0 rfl ?_
  refine r_iload_n dX8_failToken_1 1 rfl ?_
  refine r_put fiX8_38 (hG.lt (by decide)) sh1 fs1_6 dX8_failToken_2 ?_
  refine r_mu (muX8_failToken_1 p1 μ) rfl ?_
  refine r_aload_n dX8_failToken_5 0 rfl ?_
  refine r_aload_n dX8_failToken_6 0 rfl ?_
  refine r_getI fX8_32 (hG.lt (by decide)) sh1 fs1_4 dX8_failToken_7 ?_
  refine r_put fiX8_15 (hG.lt (by decide)) sh1 fs1_7 dX8_failToken_10 ?_
  refine r_mu (muX8_failToken_2 p1 μ) rfl ?_
  refine r_iconst 0 dX8_failToken_13 rfl ?_
  exact r_ireturn _ dX8_failToken_14 rfl rfl ⟨congrArg (fun z => some (Value.int z)) (rfl), rfl⟩
def F_X8_isDigit (p0 : Int32) (μ : Mem) : Int32 := (if p0 < 48 then 0 else (if 57 < p0 then 0 else 1))
theorem bo_X8_isDigit (p0 : Int32) (μ : Mem) : F_X8_isDigit p0 μ = 0 ∨ F_X8_isDigit p0 μ = 1 := by
  unfold F_X8_isDigit
  split
  · exact Or.inl rfl
  · split
    · exact Or.inl rfl
    · exact Or.inr rfl
set_option maxRecDepth 20000 in
set_option maxHeartbeats 2000000 in
theorem ok_X8_isDigit {G : SG} (hG : GK 57 G) (p0 : Int32) (μ : Mem) : OkF G mX8_isDigit [.int p0] μ (some (.int (F_X8_isDigit p0 μ))) μ := by
  refine okF_of hG rfl rfl (Nat.le_of_ble_eq_true rfl) ?_
  refine r_iload_n dX8_isDigit_0 0 rfl ?_
  refine r_bipush 48 dX8_isDigit_1 rfl ?_
  refine r_icmp_lt 16 dX8_isDigit_3 (by decide) (fun c1 => ?_) (fun c1 => ?_)
  · refine r_iconst 0 dX8_isDigit_16 rfl ?_
    exact r_ireturn _ dX8_isDigit_17 rfl rfl ⟨congrArg (fun z => some (Value.int z)) (by unfold F_X8_isDigit; rw [if_pos c1]), rfl⟩
  · refine r_iload_n dX8_isDigit_6 0 rfl ?_
    refine r_bipush 57 dX8_isDigit_7 rfl ?_
    refine r_icmp_gt 16 dX8_isDigit_9 (by decide) (fun c2 => ?_) (fun c2 => ?_)
    · refine r_iconst 0 dX8_isDigit_16 rfl ?_
      exact r_ireturn _ dX8_isDigit_17 rfl rfl ⟨congrArg (fun z => some (Value.int z)) (by unfold F_X8_isDigit; rw [if_neg (i32_nl c1), if_pos c2]), rfl⟩
    · refine r_iconst 1 dX8_isDigit_12 rfl ?_
      refine r_goto 17 dX8_isDigit_13 (by decide) ?_
      exact r_ireturn _ dX8_isDigit_17 rfl rfl ⟨congrArg (fun z => some (Value.int z)) (by unfold F_X8_isDigit; rw [if_neg (i32_nl c1), if_neg (i32_nl c2)]), rfl⟩
def muX8_takeNumber_1 (p1 : Int32) (p2 : Int32) (μ : Mem) : Mem := (M_X8_peek  μ)
def muX8_takeNumber_2 (p1 : Int32) (p2 : Int32) (μ : Mem) : Mem := (upm (muX8_takeNumber_1 p1 p2 μ) 1 4 ((muX8_takeNumber_1 p1 p2 μ) 1 3))
def muX8_takeNumber_28_1 (v1 : Int32) (v2 : Int32) (i : Nat) (s : Int32 × Mem) : Mem := (upm s.2 1 3 ((s.2 1 3) + 1))
def g_X8_takeNumber_28 (v1 : Int32) (v2 : Int32) (i : Nat) (s : Int32 × Mem) : Int32 × Mem := ((imin 100000 (((s.1 * 10) + (F_X9_at 2 600 (s.2 1 3) s.2)) - 48)), (muX8_takeNumber_28_1 v1 v2 i s))
def Pb_X8_takeNumber_28 (v1 : Int32) (v2 : Int32) (i : Nat) (s : Int32 × Mem) : Prop := (((s.2 1 2) ≤ (s.2 1 3) → False) ∧ ((s.2 1 3) < (s.2 1 2) → (((F_X8_isDigit (F_X9_at 2 600 (s.2 1 3) s.2) s.2) = 0 → False) ∧ (¬ (F_X8_isDigit (F_X9_at 2 600 (s.2 1 3) s.2) s.2) = 0 → True))))
def Cb_X8_takeNumber_28 (v1 : Int32) (v2 : Int32) (i : Nat) (s : Int32 × Mem) : Bool := (if (s.2 1 2) ≤ (s.2 1 3) then false else (if (F_X8_isDigit (F_X9_at 2 600 (s.2 1 3) s.2) s.2) = 0 then false else true))
set_option maxRecDepth 20000 in
set_option maxHeartbeats 2000000 in
theorem lp_X8_takeNumber_28 {G : SG} (hG : GK 57 G)  (v1 : Int32) (v2 : Int32) (s0 : Int32 × Mem) (N : Nat) (sN : Int32 × Mem) (eN : sN = fo N (g_X8_takeNumber_28 v1 v2) s0) (hN : ∀ i, i < N → Pb_X8_takeNumber_28 v1 v2 i (fo i (g_X8_takeNumber_28 v1 v2) s0)) {t : Nat} {Q : PQ} {X : PX} (h : R G mX8_takeNumber 28 [(0, .ref (ga G 1)), (1, .int v1), (2, .int v2), (3, .int (sN).1)] [] (sN).2 t Q X) : R G mX8_takeNumber 28 [(0, .ref (ga G 1)), (1, .int v1), (2, .int v2), (3, .int (s0).1)] [] (s0).2 t Q X := by
  subst eN
  refine down_i N (fun i => R G mX8_takeNumber 28 [(0, .ref (ga G 1)), (1, .int v1), (2, .int v2), (3, .int ((fo i (g_X8_takeNumber_28 v1 v2) s0)).1)] [] ((fo i (g_X8_takeNumber_28 v1 v2) s0)).2 t Q X) h (fun i hi hS => ?_)
  have hP := hN i hi
  rw [fo_succ] at hS
  generalize fo i (g_X8_takeNumber_28 v1 v2) s0 = s at hS hP ⊢
  unfold Pb_X8_takeNumber_28 at hP
  refine r_aload_n dX8_takeNumber_28 0 rfl ?_
  refine r_getI fX8_29 (hG.lt (by decide)) sh1 fs1_3 dX8_takeNumber_29 ?_
  refine r_aload_n dX8_takeNumber_32 0 rfl ?_
  refine r_getI fX8_26 (hG.lt (by decide)) sh1 fs1_2 dX8_takeNumber_33 ?_
  refine r_icmp_ge 94 dX8_takeNumber_36 (by decide) (fun c1 => ?_) (fun c1 => ?_)
  · replace hP := hP.1 c1
    exact hP.elim
  · replace hP := hP.2 c1
    refine r_aload_n dX8_takeNumber_39 0 rfl ?_
    refine r_getR 2 fX8_9 (hG.lt (by decide)) sh1 fs1_0 dX8_takeNumber_40 ?_
    refine r_aload_n dX8_takeNumber_43 0 rfl ?_
    refine r_getI fX8_29 (hG.lt (by decide)) sh1 fs1_3 dX8_takeNumber_44 ?_
    refine r_csI (ok_X9_at hG (hG.lt (by decide)) sh2 (s.2 1 3) s.2) lX8_58 dX8_takeNumber_47 (by decide) (Nat.le_of_ble_eq_true rfl) rfl (Nat.le_of_ble_eq_true rfl) ?_
    refine r_csI (ok_X8_isDigit hG (F_X9_at 2 600 (s.2 1 3) s.2) s.2) lX8_55 dX8_takeNumber_50 (by decide) (Nat.le_of_ble_eq_true rfl) rfl (Nat.le_of_ble_eq_true rfl) ?_
    refine r_if_eq 94 dX8_takeNumber_53 (by decide) (fun c2 => ?_) (fun c2 => ?_)
    · replace hP := hP.1 c2
      exact hP.elim
    · replace hP := hP.2 c2
      refine r_ldcI 100000 (bc3 128 (by decide +kernel) (by decide +kernel)) dX8_takeNumber_56 ?_
      refine r_iload_n dX8_takeNumber_58 3 rfl ?_
      refine r_bipush 10 dX8_takeNumber_59 rfl ?_
      refine r_imul dX8_takeNumber_61 ?_
      refine r_aload_n dX8_takeNumber_62 0 rfl ?_
      refine r_getR 2 fX8_9 (hG.lt (by decide)) sh1 fs1_0 dX8_takeNumber_63 ?_
      refine r_aload_n dX8_takeNumber_66 0 rfl ?_
      refine r_getI fX8_29 (hG.lt (by decide)) sh1 fs1_3 dX8_takeNumber_67 ?_
      refine r_csI (ok_X9_at hG (hG.lt (by decide)) sh2 (s.2 1 3) s.2) lX8_58 dX8_takeNumber_70 (by decide) (Nat.le_of_ble_eq_true rfl) rfl (Nat.le_of_ble_eq_true rfl) ?_
      refine r_iadd dX8_takeNumber_73 ?_
      refine r_bipush 48 dX8_takeNumber_74 rfl ?_
      refine r_isub dX8_takeNumber_76 ?_
      refine r_mmin lX8_41 (Nat.le_of_ble_eq_true rfl) dX8_takeNumber_77 ?_
      refine r_istore_n [(3, _), (0, _), (1, _), (2, _)] dX8_takeNumber_80 (Nat.le_of_ble_eq_true rfl) rfl ?_
      refine r_aload_n dX8_takeNumber_81 1 rfl ?_
      refine r_dup dX8_takeNumber_82 rfl ?_
      refine r_getI fX8_29 (hG.lt (by decide)) sh1 fs1_3 dX8_takeNumber_83 ?_
      refine r_iconst 1 dX8_takeNumber_86 rfl ?_
      refine r_iadd dX8_takeNumber_87 ?_
      refine r_put fiX8_29 (hG.lt (by decide)) sh1 fs1_3 dX8_takeNumber_88 ?_
      refine r_mu (muX8_takeNumber_28_1 v1 v2 i s) rfl ?_
      refine r_goto 28 dX8_takeNumber_91 (by decide) ?_
      have e : g_X8_takeNumber_28 v1 v2 i s = ((imin 100000 (((s.1 * 10) + (F_X9_at 2 600 (s.2 1 3) s.2)) - 48)), (muX8_takeNumber_28_1 v1 v2 i s)) := by unfold g_X8_takeNumber_28; rfl
      rw [e] at hS
      dsimp only at hS
      exact r_sub [1, 2, 3, 0] rfl hS
def NX8_takeNumber_28 (p1 : Int32) (p2 : Int32) (μ : Mem) : Nat := (fst 601 (fun j9 => !Cb_X8_takeNumber_28 p1 p2 j9 (fo j9 (g_X8_takeNumber_28 p1 p2) (0, (muX8_takeNumber_2 p1 p2 μ)))))
def SX8_takeNumber_28 (p1 : Int32) (p2 : Int32) (μ : Mem) : Int32 × Mem := fo (NX8_takeNumber_28 p1 p2 μ) (g_X8_takeNumber_28 p1 p2) (0, (muX8_takeNumber_2 p1 p2 μ))
def muX8_takeNumber_3 (p1 : Int32) (p2 : Int32) (μ : Mem) : Mem := (upm (SX8_takeNumber_28 p1 p2 μ).2 1 5 ((SX8_takeNumber_28 p1 p2 μ).2 1 3))
def muX8_takeNumber_4 (p1 : Int32) (p2 : Int32) (μ : Mem) : Mem := (M_X8_failToken 2 (muX8_takeNumber_3 p1 p2 μ))
def muX8_takeNumber_5 (p1 : Int32) (p2 : Int32) (μ : Mem) : Mem := (M_X8_failToken 2 (muX8_takeNumber_3 p1 p2 μ))
def muX8_takeNumber_6 (p1 : Int32) (p2 : Int32) (μ : Mem) : Mem := (upm (SX8_takeNumber_28 p1 p2 μ).2 1 5 ((SX8_takeNumber_28 p1 p2 μ).2 1 3))
def muX8_takeNumber_7 (p1 : Int32) (p2 : Int32) (μ : Mem) : Mem := (M_X8_failToken 2 (muX8_takeNumber_6 p1 p2 μ))
def muX8_takeNumber_8 (p1 : Int32) (p2 : Int32) (μ : Mem) : Mem := (M_X8_failToken 2 (muX8_takeNumber_6 p1 p2 μ))
def muX8_takeNumber_9 (p1 : Int32) (p2 : Int32) (μ : Mem) : Mem := (upm (SX8_takeNumber_28 p1 p2 μ).2 1 3 (((SX8_takeNumber_28 p1 p2 μ).2 1 3) + 1))
def muX8_takeNumber_10 (p1 : Int32) (p2 : Int32) (μ : Mem) : Mem := (M_X8_failHere 1 (muX8_takeNumber_1 p1 p2 μ))
def F_X8_takeNumber (p1 : Int32) (p2 : Int32) (μ : Mem) : Int32 := (if (F_X8_isDigit (F_X8_peek  μ) (muX8_takeNumber_1 p1 p2 μ)) ≠ 0 then (if (SX8_takeNumber_28 p1 p2 μ).1 < p1 then (-1) else (if (SX8_takeNumber_28 p1 p2 μ).1 ≤ p2 then (SX8_takeNumber_28 p1 p2 μ).1 else (-1))) else (-1))
def M_X8_takeNumber (p1 : Int32) (p2 : Int32) (μ : Mem) : Mem := (if (F_X8_isDigit (F_X8_peek  μ) (muX8_takeNumber_1 p1 p2 μ)) ≠ 0 then (if ((SX8_takeNumber_28 p1 p2 μ).2 1 2) ≤ ((SX8_takeNumber_28 p1 p2 μ).2 1 3) then (if (SX8_takeNumber_28 p1 p2 μ).1 < p1 then (muX8_takeNumber_4 p1 p2 μ) else (if (SX8_takeNumber_28 p1 p2 μ).1 ≤ p2 then (muX8_takeNumber_3 p1 p2 μ) else (muX8_takeNumber_5 p1 p2 μ))) else (if (SX8_takeNumber_28 p1 p2 μ).1 < p1 then (muX8_takeNumber_7 p1 p2 μ) else (if (SX8_takeNumber_28 p1 p2 μ).1 ≤ p2 then (muX8_takeNumber_6 p1 p2 μ) else (muX8_takeNumber_8 p1 p2 μ)))) else (muX8_takeNumber_10 p1 p2 μ))
def P_X8_takeNumber (p1 : Int32) (p2 : Int32) (μ : Mem) : Prop := ((P_X8_peek  μ) ∧ (((F_X8_isDigit (F_X8_peek  μ) (muX8_takeNumber_1 p1 p2 μ)) ≠ 0 → ((∀ j9, j9 < (NX8_takeNumber_28 p1 p2 μ) → Pb_X8_takeNumber_28 p1 p2 j9 (fo j9 (g_X8_takeNumber_28 p1 p2) (0, (muX8_takeNumber_2 p1 p2 μ)))) ∧ ((((SX8_takeNumber_28 p1 p2 μ).2 1 2) ≤ ((SX8_takeNumber_28 p1 p2 μ).2 1 3) → True) ∧ (((SX8_takeNumber_28 p1 p2 μ).2 1 3) < ((SX8_takeNumber_28 p1 p2 μ).2 1 2) → (((F_X8_isDigit (F_X9_at 2 600 ((SX8_takeNumber_28 p1 p2 μ).2 1 3) (SX8_takeNumber_28 p1 p2 μ).2) (SX8_takeNumber_28 p1 p2 μ).2) = 0 → True) ∧ (¬ (F_X8_isDigit (F_X9_at 2 600 ((SX8_takeNumber_28 p1 p2 μ).2 1 3) (SX8_takeNumber_28 p1 p2 μ).2) (SX8_takeNumber_28 p1 p2 μ).2) = 0 → False)))))) ∧ ((F_X8_isDigit (F_X8_peek  μ) (muX8_takeNumber_1 p1 p2 μ)) = 0 → True)))
set_option maxRecDepth 20000 in
set_option maxHeartbeats 2000000 in
theorem ok_X8_takeNumber {G : SG} (hG : GK 57 G) (p1 : Int32) (p2 : Int32) (μ : Mem) (hP : P_X8_takeNumber p1 p2 μ) : OkF G mX8_takeNumber [.ref (ga G 1), .int p1, .int p2] μ (some (.int (F_X8_takeNumber p1 p2 μ))) (M_X8_takeNumber p1 p2 μ) := by
  refine okF_of hG rfl rfl (Nat.le_of_ble_eq_true rfl) ?_
  unfold P_X8_takeNumber at hP
  refine r_aload_n dX8_takeNumber_0 0 rfl ?_
  have hs1 := hP.1
  replace hP := hP.2
  refine r_cvI (ok_X8_peek hG  μ hs1) lX8_47 (hG.lt (by decide)) sh1 ⟨_, _, rfl⟩ dX8_takeNumber_1 (by decide) (Nat.le_of_ble_eq_true rfl) rfl (Nat.le_of_ble_eq_true rfl) ?_
  refine r_mu (muX8_takeNumber_1 p1 p2 μ) rfl ?_
  refine r_csI (ok_X8_isDigit hG (F_X8_peek  μ) (muX8_takeNumber_1 p1 p2 μ)) lX8_55 dX8_takeNumber_4 (by decide) (Nat.le_of_ble_eq_true rfl) rfl (Nat.le_of_ble_eq_true rfl) ?_
  refine r_if_ne 18 dX8_takeNumber_7 (by decide) (fun c1 => ?_) (fun c1 => ?_)
  · replace hP := hP.1 c1
    refine r_aload_n dX8_takeNumber_18 0 rfl ?_
    refine r_aload_n dX8_takeNumber_19 0 rfl ?_
    refine r_getI fX8_29 (hG.lt (by decide)) sh1 fs1_3 dX8_takeNumber_20 ?_
    refine r_put fiX8_32 (hG.lt (by decide)) sh1 fs1_4 dX8_takeNumber_23 ?_
    refine r_mu (muX8_takeNumber_2 p1 p2 μ) rfl ?_
    refine r_iconst 0 dX8_takeNumber_26 rfl ?_
    refine r_istore_n [(3, _), (0, _), (1, _), (2, _)] dX8_takeNumber_27 (Nat.le_of_ble_eq_true rfl) rfl ?_
    have hs2 := hP.1
    replace hP := hP.2
    refine r_sub [1, 2, 3, 0] rfl ?_
    refine lp_X8_takeNumber_28 hG p1 p2 (0, (muX8_takeNumber_2 p1 p2 μ)) ((NX8_takeNumber_28 p1 p2 μ)) (SX8_takeNumber_28 p1 p2 μ) rfl hs2 ?_
    refine r_aload_n dX8_takeNumber_28 0 rfl ?_
    refine r_getI fX8_29 (hG.lt (by decide)) sh1 fs1_3 dX8_takeNumber_29 ?_
    refine r_aload_n dX8_takeNumber_32 0 rfl ?_
    refine r_getI fX8_26 (hG.lt (by decide)) sh1 fs1_2 dX8_takeNumber_33 ?_
    refine r_icmp_ge 94 dX8_takeNumber_36 (by decide) (fun c2 => ?_) (fun c2 => ?_)
    · replace hP := hP.1 c2
      refine r_aload_n dX8_takeNumber_94 0 rfl ?_
      refine r_aload_n dX8_takeNumber_95 0 rfl ?_
      refine r_getI fX8_29 (hG.lt (by decide)) sh1 fs1_3 dX8_takeNumber_96 ?_
      refine r_put fiX8_35 (hG.lt (by decide)) sh1 fs1_5 dX8_takeNumber_99 ?_
      refine r_mu (muX8_takeNumber_3 p1 p2 μ) rfl ?_
      refine r_iload_n dX8_takeNumber_102 3 rfl ?_
      refine r_iload_n dX8_takeNumber_103 1 rfl ?_
      refine r_icmp_lt 112 dX8_takeNumber_104 (by decide) (fun c3 => ?_) (fun c3 => ?_)
      · refine r_aload_n dX8_takeNumber_112 0 rfl ?_
        refine r_iconst 2 dX8_takeNumber_113 rfl ?_
        refine r_cvI (ok_X8_failToken hG 2 (muX8_takeNumber_3 p1 p2 μ)) lX8_63 (hG.lt (by decide)) sh1 ⟨_, _, rfl⟩ dX8_takeNumber_114 (by decide) (Nat.le_of_ble_eq_true rfl) rfl (Nat.le_of_ble_eq_true rfl) ?_
        refine r_mu (muX8_takeNumber_4 p1 p2 μ) rfl ?_
        refine r_pop dX8_takeNumber_117 rfl ?_
        refine r_iconst (-1) dX8_takeNumber_118 rfl ?_
        exact r_ireturn _ dX8_takeNumber_119 rfl rfl ⟨congrArg (fun z => some (Value.int z)) (by unfold F_X8_takeNumber; rw [if_pos c1, if_pos c3]), by unfold M_X8_takeNumber; rw [if_pos c1, if_pos c2, if_pos c3]⟩
      · refine r_iload_n dX8_takeNumber_107 3 rfl ?_
        refine r_iload_n dX8_takeNumber_108 2 rfl ?_
        refine r_icmp_le 120 dX8_takeNumber_109 (by decide) (fun c4 => ?_) (fun c4 => ?_)
        · refine r_iload_n dX8_takeNumber_120 3 rfl ?_
          exact r_ireturn _ dX8_takeNumber_121 rfl rfl ⟨congrArg (fun z => some (Value.int z)) (by unfold F_X8_takeNumber; rw [if_pos c1, if_neg (i32_nl c3), if_pos c4]), by unfold M_X8_takeNumber; rw [if_pos c1, if_pos c2, if_neg (i32_nl c3), if_pos c4]⟩
        · refine r_aload_n dX8_takeNumber_112 0 rfl ?_
          refine r_iconst 2 dX8_takeNumber_113 rfl ?_
          refine r_cvI (ok_X8_failToken hG 2 (muX8_takeNumber_3 p1 p2 μ)) lX8_63 (hG.lt (by decide)) sh1 ⟨_, _, rfl⟩ dX8_takeNumber_114 (by decide) (Nat.le_of_ble_eq_true rfl) rfl (Nat.le_of_ble_eq_true rfl) ?_
          refine r_mu (muX8_takeNumber_5 p1 p2 μ) rfl ?_
          refine r_pop dX8_takeNumber_117 rfl ?_
          refine r_iconst (-1) dX8_takeNumber_118 rfl ?_
          exact r_ireturn _ dX8_takeNumber_119 rfl rfl ⟨congrArg (fun z => some (Value.int z)) (by unfold F_X8_takeNumber; rw [if_pos c1, if_neg (i32_nl c3), if_neg (i32_ng c4)]), by unfold M_X8_takeNumber; rw [if_pos c1, if_pos c2, if_neg (i32_nl c3), if_neg (i32_ng c4)]⟩
    · replace hP := hP.2 c2
      refine r_aload_n dX8_takeNumber_39 0 rfl ?_
      refine r_getR 2 fX8_9 (hG.lt (by decide)) sh1 fs1_0 dX8_takeNumber_40 ?_
      refine r_aload_n dX8_takeNumber_43 0 rfl ?_
      refine r_getI fX8_29 (hG.lt (by decide)) sh1 fs1_3 dX8_takeNumber_44 ?_
      refine r_csI (ok_X9_at hG (hG.lt (by decide)) sh2 ((SX8_takeNumber_28 p1 p2 μ).2 1 3) (SX8_takeNumber_28 p1 p2 μ).2) lX8_58 dX8_takeNumber_47 (by decide) (Nat.le_of_ble_eq_true rfl) rfl (Nat.le_of_ble_eq_true rfl) ?_
      refine r_csI (ok_X8_isDigit hG (F_X9_at 2 600 ((SX8_takeNumber_28 p1 p2 μ).2 1 3) (SX8_takeNumber_28 p1 p2 μ).2) (SX8_takeNumber_28 p1 p2 μ).2) lX8_55 dX8_takeNumber_50 (by decide) (Nat.le_of_ble_eq_true rfl) rfl (Nat.le_of_ble_eq_true rfl) ?_
      refine r_if_eq 94 dX8_takeNumber_53 (by decide) (fun c3 => ?_) (fun c3 => ?_)
      · replace hP := hP.1 c3
        refine r_aload_n dX8_takeNumber_94 0 rfl ?_
        refine r_aload_n dX8_takeNumber_95 0 rfl ?_
        refine r_getI fX8_29 (hG.lt (by decide)) sh1 fs1_3 dX8_takeNumber_96 ?_
        refine r_put fiX8_35 (hG.lt (by decide)) sh1 fs1_5 dX8_takeNumber_99 ?_
        refine r_mu (muX8_takeNumber_6 p1 p2 μ) rfl ?_
        refine r_iload_n dX8_takeNumber_102 3 rfl ?_
        refine r_iload_n dX8_takeNumber_103 1 rfl ?_
        refine r_icmp_lt 112 dX8_takeNumber_104 (by decide) (fun c4 => ?_) (fun c4 => ?_)
        · refine r_aload_n dX8_takeNumber_112 0 rfl ?_
          refine r_iconst 2 dX8_takeNumber_113 rfl ?_
          refine r_cvI (ok_X8_failToken hG 2 (muX8_takeNumber_6 p1 p2 μ)) lX8_63 (hG.lt (by decide)) sh1 ⟨_, _, rfl⟩ dX8_takeNumber_114 (by decide) (Nat.le_of_ble_eq_true rfl) rfl (Nat.le_of_ble_eq_true rfl) ?_
          refine r_mu (muX8_takeNumber_7 p1 p2 μ) rfl ?_
          refine r_pop dX8_takeNumber_117 rfl ?_
          refine r_iconst (-1) dX8_takeNumber_118 rfl ?_
          exact r_ireturn _ dX8_takeNumber_119 rfl rfl ⟨congrArg (fun z => some (Value.int z)) (by unfold F_X8_takeNumber; rw [if_pos c1, if_pos c4]), by unfold M_X8_takeNumber; rw [if_pos c1, if_neg (i32_ng c2), if_pos c4]⟩
        · refine r_iload_n dX8_takeNumber_107 3 rfl ?_
          refine r_iload_n dX8_takeNumber_108 2 rfl ?_
          refine r_icmp_le 120 dX8_takeNumber_109 (by decide) (fun c5 => ?_) (fun c5 => ?_)
          · refine r_iload_n dX8_takeNumber_120 3 rfl ?_
            exact r_ireturn _ dX8_takeNumber_121 rfl rfl ⟨congrArg (fun z => some (Value.int z)) (by unfold F_X8_takeNumber; rw [if_pos c1, if_neg (i32_nl c4), if_pos c5]), by unfold M_X8_takeNumber; rw [if_pos c1, if_neg (i32_ng c2), if_neg (i32_nl c4), if_pos c5]⟩
          · refine r_aload_n dX8_takeNumber_112 0 rfl ?_
            refine r_iconst 2 dX8_takeNumber_113 rfl ?_
            refine r_cvI (ok_X8_failToken hG 2 (muX8_takeNumber_6 p1 p2 μ)) lX8_63 (hG.lt (by decide)) sh1 ⟨_, _, rfl⟩ dX8_takeNumber_114 (by decide) (Nat.le_of_ble_eq_true rfl) rfl (Nat.le_of_ble_eq_true rfl) ?_
            refine r_mu (muX8_takeNumber_8 p1 p2 μ) rfl ?_
            refine r_pop dX8_takeNumber_117 rfl ?_
            refine r_iconst (-1) dX8_takeNumber_118 rfl ?_
            exact r_ireturn _ dX8_takeNumber_119 rfl rfl ⟨congrArg (fun z => some (Value.int z)) (by unfold F_X8_takeNumber; rw [if_pos c1, if_neg (i32_nl c4), if_neg (i32_ng c5)]), by unfold M_X8_takeNumber; rw [if_pos c1, if_neg (i32_ng c2), if_neg (i32_nl c4), if_neg (i32_ng c5)]⟩
      · replace hP := hP.2 c3
        refine r_ldcI 100000 (bc3 128 (by decide +kernel) (by decide +kernel)) dX8_takeNumber_56 ?_
        refine r_iload_n dX8_takeNumber_58 3 rfl ?_
        refine r_bipush 10 dX8_takeNumber_59 rfl ?_
        refine r_imul dX8_takeNumber_61 ?_
        refine r_aload_n dX8_takeNumber_62 0 rfl ?_
        refine r_getR 2 fX8_9 (hG.lt (by decide)) sh1 fs1_0 dX8_takeNumber_63 ?_
        refine r_aload_n dX8_takeNumber_66 0 rfl ?_
        refine r_getI fX8_29 (hG.lt (by decide)) sh1 fs1_3 dX8_takeNumber_67 ?_
        refine r_csI (ok_X9_at hG (hG.lt (by decide)) sh2 ((SX8_takeNumber_28 p1 p2 μ).2 1 3) (SX8_takeNumber_28 p1 p2 μ).2) lX8_58 dX8_takeNumber_70 (by decide) (Nat.le_of_ble_eq_true rfl) rfl (Nat.le_of_ble_eq_true rfl) ?_
        refine r_iadd dX8_takeNumber_73 ?_
        refine r_bipush 48 dX8_takeNumber_74 rfl ?_
        refine r_isub dX8_takeNumber_76 ?_
        refine r_mmin lX8_41 (Nat.le_of_ble_eq_true rfl) dX8_takeNumber_77 ?_
        refine r_istore_n [(3, _), (0, _), (1, _), (2, _)] dX8_takeNumber_80 (Nat.le_of_ble_eq_true rfl) rfl ?_
        refine r_aload_n dX8_takeNumber_81 1 rfl ?_
        refine r_dup dX8_takeNumber_82 rfl ?_
        refine r_getI fX8_29 (hG.lt (by decide)) sh1 fs1_3 dX8_takeNumber_83 ?_
        refine r_iconst 1 dX8_takeNumber_86 rfl ?_
        refine r_iadd dX8_takeNumber_87 ?_
        refine r_put fiX8_29 (hG.lt (by decide)) sh1 fs1_3 dX8_takeNumber_88 ?_
        refine r_mu (muX8_takeNumber_9 p1 p2 μ) rfl ?_
        refine r_goto 28 dX8_takeNumber_91 (by decide) ?_
        exact hP.elim
  · replace hP := hP.2 c1
    refine r_aload_n dX8_takeNumber_10 0 rfl ?_
    refine r_iconst 1 dX8_takeNumber_11 rfl ?_
    refine r_cvI (ok_X8_failHere hG 1 (muX8_takeNumber_1 p1 p2 μ)) lX8_51 (hG.lt (by decide)) sh1 ⟨_, _, rfl⟩ dX8_takeNumber_12 (by decide) (Nat.le_of_ble_eq_true rfl) rfl (Nat.le_of_ble_eq_true rfl) ?_
    refine r_mu (muX8_takeNumber_10 p1 p2 μ) rfl ?_
    refine r_pop dX8_takeNumber_15 rfl ?_
    refine r_iconst (-1) dX8_takeNumber_16 rfl ?_
    exact r_ireturn _ dX8_takeNumber_17 rfl rfl ⟨congrArg (fun z => some (Value.int z)) (by unfold F_X8_takeNumber; rw [if_neg (not_not_intro c1)]), by unfold M_X8_takeNumber; rw [if_neg (not_not_intro c1)]⟩
def muX8_takeSign_1 (p1 : Int32) (μ : Mem) : Mem := (M_X8_peek  μ)
def muX8_takeSign_2 (p1 : Int32) (μ : Mem) : Mem := (upm (muX8_takeSign_1 p1 μ) 1 3 (((muX8_takeSign_1 p1 μ) 1 3) + 1))
def muX8_takeSign_3 (p1 : Int32) (μ : Mem) : Mem := (M_X8_failHere 1 (muX8_takeSign_1 p1 μ))
def F_X8_takeSign (p1 : Int32) (μ : Mem) : Int32 := (if (F_X8_peek  μ) = p1 then 1 else (F_X8_failHere 1 (muX8_takeSign_1 p1 μ)))
def M_X8_takeSign (p1 : Int32) (μ : Mem) : Mem := (if (F_X8_peek  μ) = p1 then (muX8_takeSign_2 p1 μ) else (muX8_takeSign_3 p1 μ))
def P_X8_takeSign (p1 : Int32) (μ : Mem) : Prop := (P_X8_peek  μ)
theorem bo_X8_takeSign (p1 : Int32) (μ : Mem) : F_X8_takeSign p1 μ = 0 ∨ F_X8_takeSign p1 μ = 1 := by
  unfold F_X8_takeSign
  split
  · exact Or.inr rfl
  · exact (bo_X8_failHere 1 (muX8_takeSign_1 p1 μ))
set_option maxRecDepth 20000 in
set_option maxHeartbeats 2000000 in
theorem ok_X8_takeSign {G : SG} (hG : GK 57 G) (p1 : Int32) (μ : Mem) (hP : P_X8_takeSign p1 μ) : OkF G mX8_takeSign [.ref (ga G 1), .int p1] μ (some (.int (F_X8_takeSign p1 μ))) (M_X8_takeSign p1 μ) := by
  refine okF_of hG rfl rfl (Nat.le_of_ble_eq_true rfl) ?_
  unfold P_X8_takeSign at hP
  refine r_aload_n dX8_takeSign_0 0 rfl ?_
  have hs1 := hP
  refine r_cvI (ok_X8_peek hG  μ hs1) lX8_47 (hG.lt (by decide)) sh1 ⟨_, _, rfl⟩ dX8_takeSign_1 (by decide) (Nat.le_of_ble_eq_true rfl) rfl (Nat.le_of_ble_eq_true rfl) ?_
  refine r_mu (muX8_takeSign_1 p1 μ) rfl ?_
  refine r_iload_n dX8_takeSign_4 1 rfl ?_
  refine r_icmp_eq 14 dX8_takeSign_5 (by decide) (fun c1 => ?_) (fun c1 => ?_)
  · refine r_aload_n dX8_takeSign_14 0 rfl ?_
    refine r_dup dX8_takeSign_15 rfl ?_
    refine r_getI fX8_29 (hG.lt (by decide)) sh1 fs1_3 dX8_takeSign_16 ?_
    refine r_iconst 1 dX8_takeSign_19 rfl ?_
    refine r_iadd dX8_takeSign_20 ?_
    refine r_put fiX8_29 (hG.lt (by decide)) sh1 fs1_3 dX8_takeSign_21 ?_
    refine r_mu (muX8_takeSign_2 p1 μ) rfl ?_
    refine r_iconst 1 dX8_takeSign_24 rfl ?_
    exact r_ireturn _ dX8_takeSign_25 rfl rfl ⟨congrArg (fun z => some (Value.int z)) (by unfold F_X8_takeSign; rw [if_pos c1]), by unfold M_X8_takeSign; rw [if_pos c1]⟩
  · refine r_aload_n dX8_takeSign_8 0 rfl ?_
    refine r_iconst 1 dX8_takeSign_9 rfl ?_
    refine r_cvI (ok_X8_failHere hG 1 (muX8_takeSign_1 p1 μ)) lX8_51 (hG.lt (by decide)) sh1 ⟨_, _, rfl⟩ dX8_takeSign_10 (by decide) (Nat.le_of_ble_eq_true rfl) rfl (Nat.le_of_ble_eq_true rfl) ?_
    refine r_mu (muX8_takeSign_3 p1 μ) rfl ?_
    exact r_ireturn _ dX8_takeSign_13 rfl (nb01 ((bo_X8_failHere 1 (muX8_takeSign_1 p1 μ)))) ⟨congrArg (fun z => some (Value.int z)) (by unfold F_X8_takeSign; rw [if_neg c1]), by unfold M_X8_takeSign; rw [if_neg c1]⟩
def muX2_readLine_1 (p2 : Int32) (μ : Mem) : Mem := (M_X8_takeNumber 0 (p2 - 1) μ)
def muX2_readLine_2 (p2 : Int32) (μ : Mem) : Mem := (M_X8_takeNumber 0 60 (muX2_readLine_1 p2 μ))
def muX2_readLine_3 (p2 : Int32) (μ : Mem) : Mem := (M_X9_put 41 6 (F_X8_takeNumber 0 (p2 - 1) μ) (F_X8_takeNumber 0 60 (muX2_readLine_1 p2 μ)) (muX2_readLine_2 p2 μ))
def muX2_readLine_4 (p2 : Int32) (μ : Mem) : Mem := (upm (muX2_readLine_3 p2 μ) 40 2 (((muX2_readLine_3 p2 μ) 40 2) + 1))
def muX2_readLine_5 (p2 : Int32) (μ : Mem) : Mem := (M_X8_takeSign 59 (muX2_readLine_4 p2 μ))
def muX2_readLine_6 (p2 : Int32) (μ : Mem) : Mem := (M_X8_failToken 2 (muX2_readLine_1 p2 μ))
def F_X2_readLine (p2 : Int32) (μ : Mem) : Int32 := (if (F_X8_takeNumber 0 (p2 - 1) μ) ≠ (-1) then (if (F_X9_at 41 6 (F_X8_takeNumber 0 (p2 - 1) μ) (muX2_readLine_1 p2 μ)) = (-1) then (if (F_X8_takeNumber 0 60 (muX2_readLine_1 p2 μ)) ≠ (-1) then (F_X8_takeSign 59 (muX2_readLine_4 p2 μ)) else 0) else (F_X8_failToken 2 (muX2_readLine_1 p2 μ))) else 0)
def M_X2_readLine (p2 : Int32) (μ : Mem) : Mem := (if (F_X8_takeNumber 0 (p2 - 1) μ) ≠ (-1) then (if (F_X9_at 41 6 (F_X8_takeNumber 0 (p2 - 1) μ) (muX2_readLine_1 p2 μ)) = (-1) then (if (F_X8_takeNumber 0 60 (muX2_readLine_1 p2 μ)) ≠ (-1) then (muX2_readLine_5 p2 μ) else (muX2_readLine_2 p2 μ)) else (muX2_readLine_6 p2 μ)) else (muX2_readLine_1 p2 μ))
def P_X2_readLine (p2 : Int32) (μ : Mem) : Prop := ((P_X8_takeNumber 0 (p2 - 1) μ) ∧ (((F_X8_takeNumber 0 (p2 - 1) μ) ≠ (-1) → (((F_X9_at 41 6 (F_X8_takeNumber 0 (p2 - 1) μ) (muX2_readLine_1 p2 μ)) = (-1) → ((P_X8_takeNumber 0 60 (muX2_readLine_1 p2 μ)) ∧ (((F_X8_takeNumber 0 60 (muX2_readLine_1 p2 μ)) ≠ (-1) → (P_X8_takeSign 59 (muX2_readLine_4 p2 μ))) ∧ ((F_X8_takeNumber 0 60 (muX2_readLine_1 p2 μ)) = (-1) → True)))) ∧ (¬ (F_X9_at 41 6 (F_X8_takeNumber 0 (p2 - 1) μ) (muX2_readLine_1 p2 μ)) = (-1) → True))) ∧ ((F_X8_takeNumber 0 (p2 - 1) μ) = (-1) → True)))
theorem bo_X2_readLine (p2 : Int32) (μ : Mem) : F_X2_readLine p2 μ = 0 ∨ F_X2_readLine p2 μ = 1 := by
  unfold F_X2_readLine
  split
  · split
    · split
      · exact (bo_X8_takeSign 59 (muX2_readLine_4 p2 μ))
      · exact Or.inl rfl
    · exact (bo_X8_failToken 2 (muX2_readLine_1 p2 μ))
  · exact Or.inl rfl
set_option maxRecDepth 20000 in
set_option maxHeartbeats 2000000 in
theorem ok_X2_readLine {G : SG} (hG : GK 57 G) (p2 : Int32) (μ : Mem) (hP : P_X2_readLine p2 μ) : OkF G mX2_readLine [.ref (ga G 40), .ref (ga G 1), .int p2] μ (some (.int (F_X2_readLine p2 μ))) (M_X2_readLine p2 μ) := by
  refine okF_of hG rfl rfl (Nat.le_of_ble_eq_true rfl) ?_
  unfold P_X2_readLine at hP
  refine r_aload_n dX2_readLine_0 1 rfl ?_
  refine r_iconst 0 dX2_readLine_1 rfl ?_
  refine r_iload_n dX2_readLine_2 2 rfl ?_
  refine r_iconst 1 dX2_readLine_3 rfl ?_
  refine r_isub dX2_readLine_4 ?_
  have hs1 := hP.1
  replace hP := hP.2
  refine r_cvI (ok_X8_takeNumber hG 0 (p2 - 1) μ hs1) lX2_43 (hG.lt (by decide)) sh1 ⟨_, _, rfl⟩ dX2_readLine_5 (by decide) (Nat.le_of_ble_eq_true rfl) rfl (Nat.le_of_ble_eq_true rfl) ?_
  refine r_mu (muX2_readLine_1 p2 μ) rfl ?_
  refine r_istore_n [(3, _), (0, _), (1, _), (2, _)] dX2_readLine_8 (Nat.le_of_ble_eq_true rfl) rfl ?_
  refine r_iload_n dX2_readLine_9 0 rfl ?_
  refine r_iconst (-1) dX2_readLine_10 rfl ?_
  refine r_icmp_ne 16 dX2_readLine_11 (by decide) (fun c1 => ?_) (fun c1 => ?_)
  · replace hP := hP.1 c1
    refine r_aload_n dX2_readLine_16 1 rfl ?_
    refine r_getR 41 fX2_9 (hG.lt (by decide)) sh40 fs40_0 dX2_readLine_17 ?_
    refine r_iload_n dX2_readLine_20 0 rfl ?_
    refine r_csI (ok_X9_at hG (hG.lt (by decide)) sh41 (F_X8_takeNumber 0 (p2 - 1) μ) (muX2_readLine_1 p2 μ)) lX2_47 dX2_readLine_21 (by decide) (Nat.le_of_ble_eq_true rfl) rfl (Nat.le_of_ble_eq_true rfl) ?_
    refine r_iconst (-1) dX2_readLine_24 rfl ?_
    refine r_icmp_eq 34 dX2_readLine_25 (by decide) (fun c2 => ?_) (fun c2 => ?_)
    · replace hP := hP.1 c2
      refine r_aload_n dX2_readLine_34 2 rfl ?_
      refine r_iconst 0 dX2_readLine_35 rfl ?_
      refine r_bipush 60 dX2_readLine_36 rfl ?_
      have hs2 := hP.1
      replace hP := hP.2
      refine r_cvI (ok_X8_takeNumber hG 0 60 (muX2_readLine_1 p2 μ) hs2) lX2_43 (hG.lt (by decide)) sh1 ⟨_, _, rfl⟩ dX2_readLine_38 (by decide) (Nat.le_of_ble_eq_true rfl) rfl (Nat.le_of_ble_eq_true rfl) ?_
      refine r_mu (muX2_readLine_2 p2 μ) rfl ?_
      refine r_istore [(4, _), (3, _), (0, _), (1, _), (2, _)] dX2_readLine_41 (Nat.le_of_ble_eq_true rfl) rfl ?_
      refine r_iload dX2_readLine_43 0 rfl ?_
      refine r_iconst (-1) dX2_readLine_45 rfl ?_
      refine r_icmp_ne 51 dX2_readLine_46 (by decide) (fun c3 => ?_) (fun c3 => ?_)
      · replace hP := hP.1 c3
        refine r_aload_n dX2_readLine_51 2 rfl ?_
        refine r_getR 41 fX2_9 (hG.lt (by decide)) sh40 fs40_0 dX2_readLine_52 ?_
        refine r_iload_n dX2_readLine_55 1 rfl ?_
        refine r_iload dX2_readLine_56 0 rfl ?_
        refine r_csV (ok_X9_put hG (hG.lt (by decide)) sh41 (F_X8_takeNumber 0 (p2 - 1) μ) (F_X8_takeNumber 0 60 (muX2_readLine_1 p2 μ)) (muX2_readLine_2 p2 μ)) lX2_22 dX2_readLine_58 (by decide) (Nat.le_of_ble_eq_true rfl) rfl (Nat.le_of_ble_eq_true rfl) ?_
        refine r_mu (muX2_readLine_3 p2 μ) rfl ?_
        refine r_aload_n dX2_readLine_61 2 rfl ?_
        refine r_dup dX2_readLine_62 rfl ?_
        refine r_getI fX2_18 (hG.lt (by decide)) sh40 fs40_2 dX2_readLine_63 ?_
        refine r_iconst 1 dX2_readLine_66 rfl ?_
        refine r_iadd dX2_readLine_67 ?_
        refine r_put fiX2_18 (hG.lt (by decide)) sh40 fs40_2 dX2_readLine_68 ?_
        refine r_mu (muX2_readLine_4 p2 μ) rfl ?_
        refine r_aload_n dX2_readLine_71 3 rfl ?_
        refine r_bipush 59 dX2_readLine_72 rfl ?_
        have hs3 := hP
        refine r_cvI (ok_X8_takeSign hG 59 (muX2_readLine_4 p2 μ) hs3) lX2_55 (hG.lt (by decide)) sh1 ⟨_, _, rfl⟩ dX2_readLine_74 (by decide) (Nat.le_of_ble_eq_true rfl) rfl (Nat.le_of_ble_eq_true rfl) ?_
        refine r_mu (muX2_readLine_5 p2 μ) rfl ?_
        exact r_ireturn _ dX2_readLine_77 rfl (nb01 ((bo_X8_takeSign 59 (muX2_readLine_4 p2 μ)))) ⟨congrArg (fun z => some (Value.int z)) (by unfold F_X2_readLine; rw [if_pos c1, if_pos c2, if_pos c3]), by unfold M_X2_readLine; rw [if_pos c1, if_pos c2, if_pos c3]⟩
      · replace hP := hP.2 c3
        refine r_iconst 0 dX2_readLine_49 rfl ?_
        exact r_ireturn _ dX2_readLine_50 rfl rfl ⟨congrArg (fun z => some (Value.int z)) (by unfold F_X2_readLine; rw [if_pos c1, if_pos c2, if_neg (not_not_intro c3)]), by unfold M_X2_readLine; rw [if_pos c1, if_pos c2, if_neg (not_not_intro c3)]⟩
    · replace hP := hP.2 c2
      refine r_aload_n dX2_readLine_28 2 rfl ?_
      refine r_iconst 2 dX2_readLine_29 rfl ?_
      refine r_cvI (ok_X8_failToken hG 2 (muX2_readLine_1 p2 μ)) lX2_51 (hG.lt (by decide)) sh1 ⟨_, _, rfl⟩ dX2_readLine_30 (by decide) (Nat.le_of_ble_eq_true rfl) rfl (Nat.le_of_ble_eq_true rfl) ?_
      refine r_mu (muX2_readLine_6 p2 μ) rfl ?_
      exact r_ireturn _ dX2_readLine_33 rfl (nb01 ((bo_X8_failToken 2 (muX2_readLine_1 p2 μ)))) ⟨congrArg (fun z => some (Value.int z)) (by unfold F_X2_readLine; rw [if_pos c1, if_neg c2]), by unfold M_X2_readLine; rw [if_pos c1, if_neg c2]⟩
  · replace hP := hP.2 c1
    refine r_iconst 0 dX2_readLine_14 rfl ?_
    exact r_ireturn _ dX2_readLine_15 rfl rfl ⟨congrArg (fun z => some (Value.int z)) (by unfold F_X2_readLine; rw [if_neg (not_not_intro c1)]), by unfold M_X2_readLine; rw [if_neg (not_not_intro c1)]⟩
def muX2_read_1 (p2 : Int32) (μ : Mem) : Mem := (M_X2_clear 40 μ)
def muX2_read_6_1 (v2 : Int32) (i : Nat) (s : Mem) : Mem := (M_X8_isEnded  s)
def muX2_read_6_2 (v2 : Int32) (i : Nat) (s : Mem) : Mem := (M_X2_readLine v2 (muX2_read_6_1 v2 i s))
def g_X2_read_6 (v2 : Int32) (i : Nat) (s : Mem) : Mem := (muX2_read_6_2 v2 i s)
def Pb_X2_read_6 (v2 : Int32) (i : Nat) (s : Mem) : Prop := ((6 < (nI i) → False) ∧ ((nI i) ≤ 6 → (P_X8_isEnded  s) ∧ (((F_X8_isEnded  s) = 0 → (P_X2_readLine v2 (muX2_read_6_1 v2 i s)) ∧ (((F_X2_readLine v2 (muX2_read_6_1 v2 i s)) ≠ 0 → True) ∧ ((F_X2_readLine v2 (muX2_read_6_1 v2 i s)) = 0 → False))) ∧ (¬ (F_X8_isEnded  s) = 0 → False))))
def Cb_X2_read_6 (v2 : Int32) (i : Nat) (s : Mem) : Bool := (if 6 < (nI i) then false else (if (F_X8_isEnded  s) = 0 then (if (F_X2_readLine v2 (muX2_read_6_1 v2 i s)) ≠ 0 then true else false) else false))
set_option maxRecDepth 20000 in
set_option maxHeartbeats 2000000 in
theorem lp_X2_read_6 {G : SG} (hG : GK 57 G)  (v2 : Int32) (s0 : Mem) (N : Nat) (sN : Mem) (eN : sN = fo N (g_X2_read_6 v2) s0) (hN : ∀ i, i < N → Pb_X2_read_6 v2 i (fo i (g_X2_read_6 v2) s0)) {t : Nat} {Q : PQ} {X : PX} (h : R G mX2_read 6 [(0, .ref (ga G 40)), (1, .ref (ga G 1)), (2, .int v2), (3, .int (nI N))] [] sN t Q X) : R G mX2_read 6 [(0, .ref (ga G 40)), (1, .ref (ga G 1)), (2, .int v2), (3, .int 0)] [] s0 t Q X := by
  subst eN
  refine down_i N (fun i => R G mX2_read 6 [(0, .ref (ga G 40)), (1, .ref (ga G 1)), (2, .int v2), (3, .int (nI i))] [] (fo i (g_X2_read_6 v2) s0) t Q X) h (fun i hi hS => ?_)
  have hP := hN i hi
  rw [fo_succ] at hS
  rw [nI_succ] at hS
  generalize fo i (g_X2_read_6 v2) s0 = s at hS hP ⊢
  unfold Pb_X2_read_6 at hP
  refine r_iload_n dX2_read_6 3 rfl ?_
  refine r_bipush 6 dX2_read_7 rfl ?_
  refine r_icmp_gt 38 dX2_read_9 (by decide) (fun c1 => ?_) (fun c1 => ?_)
  · replace hP := hP.1 c1
    exact hP.elim
  · replace hP := hP.2 c1
    refine r_aload_n dX2_read_12 1 rfl ?_
    have hs1 := hP.1
    replace hP := hP.2
    refine r_cvI (ok_X8_isEnded hG  s hs1) lX2_33 (hG.lt (by decide)) sh1 ⟨_, _, rfl⟩ dX2_read_13 (by decide) (Nat.le_of_ble_eq_true rfl) rfl (Nat.le_of_ble_eq_true rfl) ?_
    refine r_mu (muX2_read_6_1 v2 i s) rfl ?_
    refine r_if_eq 21 dX2_read_16 (by decide) (fun c2 => ?_) (fun c2 => ?_)
    · replace hP := hP.1 c2
      refine r_aload_n dX2_read_21 0 rfl ?_
      refine r_aload_n dX2_read_22 1 rfl ?_
      refine r_iload_n dX2_read_23 2 rfl ?_
      have hs2 := hP.1
      replace hP := hP.2
      refine r_cvI (ok_X2_readLine hG v2 (muX2_read_6_1 v2 i s) hs2) lX2_39 (hG.lt (by decide)) sh40 ⟨_, _, rfl⟩ dX2_read_24 (by decide) (Nat.le_of_ble_eq_true rfl) rfl (Nat.le_of_ble_eq_true rfl) ?_
      refine r_mu (muX2_read_6_2 v2 i s) rfl ?_
      refine r_if_ne 32 dX2_read_27 (by decide) (fun c3 => ?_) (fun c3 => ?_)
      · replace hP := hP.1 c3
        refine r_iinc ((nI i) + 1) [(3, _), (0, _), (1, _), (2, _)] dX2_read_32 3 rfl rfl (Nat.le_of_ble_eq_true rfl) rfl ?_
        refine r_goto 6 dX2_read_35 (by decide) ?_
        have e : g_X2_read_6 v2 i s = (muX2_read_6_2 v2 i s) := by unfold g_X2_read_6; rfl
        rw [e] at hS
        exact r_sub [1, 2, 3, 0] rfl hS
      · replace hP := hP.2 c3
        refine r_iconst 0 dX2_read_30 rfl ?_
        exact hP.elim
    · replace hP := hP.2 c2
      refine r_iconst 1 dX2_read_19 rfl ?_
      exact hP.elim
def NX2_read_6 (p2 : Int32) (μ : Mem) : Nat := (fst 8 (fun j9 => !Cb_X2_read_6 p2 j9 (fo j9 (g_X2_read_6 p2) (muX2_read_1 p2 μ))))
def SX2_read_6 (p2 : Int32) (μ : Mem) : Mem := fo (NX2_read_6 p2 μ) (g_X2_read_6 p2) (muX2_read_1 p2 μ)
def muX2_read_2 (p2 : Int32) (μ : Mem) : Mem := (M_X8_isEnded  (SX2_read_6 p2 μ))
def muX2_read_3 (p2 : Int32) (μ : Mem) : Mem := (M_X2_readLine p2 (muX2_read_2 p2 μ))
def F_X2_read (p2 : Int32) (μ : Mem) : Int32 := (if 6 < (nI (NX2_read_6 p2 μ)) then 0 else (if (F_X8_isEnded  (SX2_read_6 p2 μ)) = 0 then 0 else 1))
def M_X2_read (p2 : Int32) (μ : Mem) : Mem := (if 6 < (nI (NX2_read_6 p2 μ)) then (SX2_read_6 p2 μ) else (if (F_X8_isEnded  (SX2_read_6 p2 μ)) = 0 then (muX2_read_3 p2 μ) else (muX2_read_2 p2 μ)))
def P_X2_read (p2 : Int32) (μ : Mem) : Prop := ((P_X2_clear 40 μ) ∧ ((∀ j9, j9 < (NX2_read_6 p2 μ) → Pb_X2_read_6 p2 j9 (fo j9 (g_X2_read_6 p2) (muX2_read_1 p2 μ))) ∧ ((6 < (nI (NX2_read_6 p2 μ)) → True) ∧ ((nI (NX2_read_6 p2 μ)) ≤ 6 → ((P_X8_isEnded  (SX2_read_6 p2 μ)) ∧ (((F_X8_isEnded  (SX2_read_6 p2 μ)) = 0 → ((P_X2_readLine p2 (muX2_read_2 p2 μ)) ∧ (((F_X2_readLine p2 (muX2_read_2 p2 μ)) ≠ 0 → False) ∧ ((F_X2_readLine p2 (muX2_read_2 p2 μ)) = 0 → True)))) ∧ (¬ (F_X8_isEnded  (SX2_read_6 p2 μ)) = 0 → True)))))))
theorem bo_X2_read (p2 : Int32) (μ : Mem) : F_X2_read p2 μ = 0 ∨ F_X2_read p2 μ = 1 := by
  unfold F_X2_read
  split
  · exact Or.inl rfl
  · split
    · exact Or.inl rfl
    · exact Or.inr rfl
set_option maxRecDepth 20000 in
set_option maxHeartbeats 2000000 in
theorem ok_X2_read {G : SG} (hG : GK 57 G) (p2 : Int32) (μ : Mem) (hP : P_X2_read p2 μ) : OkF G mX2_read [.ref (ga G 40), .ref (ga G 1), .int p2] μ (some (.int (F_X2_read p2 μ))) (M_X2_read p2 μ) := by
  refine okF_of hG rfl rfl (Nat.le_of_ble_eq_true rfl) ?_
  unfold P_X2_read at hP
  refine r_aload_n dX2_read_0 0 rfl ?_
  have hs1 := hP.1
  replace hP := hP.2
  refine r_cvV (ok_X2_clear hG (IsMk.of40) μ hs1) lX2_30 (hG.lt (by decide)) sh40 ⟨_, _, rfl⟩ dX2_read_1 (by decide) (Nat.le_of_ble_eq_true rfl) rfl (Nat.le_of_ble_eq_true rfl) ?_
  refine r_mu (muX2_read_1 p2 μ) rfl ?_
  refine r_iconst 0 dX2_read_4 rfl ?_
  refine r_istore_n [(3, _), (0, _), (1, _), (2, _)] dX2_read_5 (Nat.le_of_ble_eq_true rfl) rfl ?_
  have hs2 := hP.1
  replace hP := hP.2
  refine r_sub [1, 2, 3, 0] rfl ?_
  refine lp_X2_read_6 hG p2 (muX2_read_1 p2 μ) ((NX2_read_6 p2 μ)) (SX2_read_6 p2 μ) rfl hs2 ?_
  refine r_iload_n dX2_read_6 3 rfl ?_
  refine r_bipush 6 dX2_read_7 rfl ?_
  refine r_icmp_gt 38 dX2_read_9 (by decide) (fun c1 => ?_) (fun c1 => ?_)
  · replace hP := hP.1 c1
    refine r_iconst 0 dX2_read_38 rfl ?_
    exact r_ireturn _ dX2_read_39 rfl rfl ⟨congrArg (fun z => some (Value.int z)) (by unfold F_X2_read; rw [if_pos c1]), by unfold M_X2_read; rw [if_pos c1]⟩
  · replace hP := hP.2 c1
    refine r_aload_n dX2_read_12 1 rfl ?_
    have hs3 := hP.1
    replace hP := hP.2
    refine r_cvI (ok_X8_isEnded hG  (SX2_read_6 p2 μ) hs3) lX2_33 (hG.lt (by decide)) sh1 ⟨_, _, rfl⟩ dX2_read_13 (by decide) (Nat.le_of_ble_eq_true rfl) rfl (Nat.le_of_ble_eq_true rfl) ?_
    refine r_mu (muX2_read_2 p2 μ) rfl ?_
    refine r_if_eq 21 dX2_read_16 (by decide) (fun c2 => ?_) (fun c2 => ?_)
    · replace hP := hP.1 c2
      refine r_aload_n dX2_read_21 0 rfl ?_
      refine r_aload_n dX2_read_22 1 rfl ?_
      refine r_iload_n dX2_read_23 2 rfl ?_
      have hs4 := hP.1
      replace hP := hP.2
      refine r_cvI (ok_X2_readLine hG p2 (muX2_read_2 p2 μ) hs4) lX2_39 (hG.lt (by decide)) sh40 ⟨_, _, rfl⟩ dX2_read_24 (by decide) (Nat.le_of_ble_eq_true rfl) rfl (Nat.le_of_ble_eq_true rfl) ?_
      refine r_mu (muX2_read_3 p2 μ) rfl ?_
      refine r_if_ne 32 dX2_read_27 (by decide) (fun c3 => ?_) (fun c3 => ?_)
      · replace hP := hP.1 c3
        refine r_iinc ((nI (NX2_read_6 p2 μ)) + 1) [(3, _), (0, _), (1, _), (2, _)] dX2_read_32 3 rfl rfl (Nat.le_of_ble_eq_true rfl) rfl ?_
        refine r_goto 6 dX2_read_35 (by decide) ?_
        exact hP.elim
      · replace hP := hP.2 c3
        refine r_iconst 0 dX2_read_30 rfl ?_
        exact r_ireturn _ dX2_read_31 rfl rfl ⟨congrArg (fun z => some (Value.int z)) (by unfold F_X2_read; rw [if_neg (i32_nl c1), if_pos c2]), by unfold M_X2_read; rw [if_neg (i32_nl c1), if_pos c2]⟩
    · replace hP := hP.2 c2
      refine r_iconst 1 dX2_read_19 rfl ?_
      exact r_ireturn _ dX2_read_20 rfl rfl ⟨congrArg (fun z => some (Value.int z)) (by unfold F_X2_read; rw [if_neg (i32_nl c1), if_neg c2]), by unfold M_X2_read; rw [if_neg (i32_nl c1), if_neg c2]⟩
