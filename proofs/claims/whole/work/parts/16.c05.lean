def muX4_clear_1 (μ : Mem) : Mem := (upm μ 48 2 0)
def muX4_clear_2 (μ : Mem) : Mem := (upm (muX4_clear_1 μ) 48 3 0)
def M_X4_clear  (μ : Mem) : Mem := (muX4_clear_2 μ)
set_option maxRecDepth 20000 in
set_option maxHeartbeats 2000000 in
theorem ok_X4_clear {G : SG} (hG : GK 57 G)  (μ : Mem) : OkF G mX4_clear [.ref (ga G 48)] μ none (M_X4_clear  μ) := by
  refine okF_of hG rfl rfl (Nat.le_of_ble_eq_true rfl) ?_
  refine r_aload_n dX4_clear_0 0 rfl ?_
  refine r_iconst 0 dX4_clear_1 rfl ?_
  refine r_put fiX4_20 (hG.lt (by decide)) sh48 fs48_2 dX4_clear_2 ?_
  refine r_mu (muX4_clear_1 μ) rfl ?_
  refine r_aload_n dX4_clear_5 0 rfl ?_
  refine r_iconst 0 dX4_clear_6 rfl ?_
  refine r_put fiX4_24 (hG.lt (by decide)) sh48 fs48_3 dX4_clear_7 ?_
  refine r_mu (muX4_clear_2 μ) rfl ?_
  exact r_return dX4_clear_10 rfl ⟨rfl, rfl⟩
def F_X4_isFull  (μ : Mem) : Int32 := (if (μ 48 2) < 16 then 0 else 1)
theorem bo_X4_isFull  (μ : Mem) : F_X4_isFull  μ = 0 ∨ F_X4_isFull  μ = 1 := by
  unfold F_X4_isFull
  split
  · exact Or.inl rfl
  · exact Or.inr rfl
set_option maxRecDepth 20000 in
set_option maxHeartbeats 2000000 in
theorem ok_X4_isFull {G : SG} (hG : GK 57 G)  (μ : Mem) : OkF G mX4_isFull [.ref (ga G 48)] μ (some (.int (F_X4_isFull  μ))) μ := by
  refine okF_of hG rfl rfl (Nat.le_of_ble_eq_true rfl) ?_
  refine r_aload_n dX4_isFull_0 0 rfl ?_
  refine r_getI fX4_20 (hG.lt (by decide)) sh48 fs48_2 dX4_isFull_1 ?_
  refine r_bipush 16 dX4_isFull_4 rfl ?_
  refine r_icmp_lt 13 dX4_isFull_6 (by decide) (fun c1 => ?_) (fun c1 => ?_)
  · refine r_iconst 0 dX4_isFull_13 rfl ?_
    exact r_ireturn _ dX4_isFull_14 rfl rfl ⟨congrArg (fun z => some (Value.int z)) (by unfold F_X4_isFull; rw [if_pos c1]), rfl⟩
  · refine r_iconst 1 dX4_isFull_9 rfl ?_
    refine r_goto 14 dX4_isFull_10 (by decide) ?_
    exact r_ireturn _ dX4_isFull_14 rfl rfl ⟨congrArg (fun z => some (Value.int z)) (by unfold F_X4_isFull; rw [if_neg (i32_nl c1)]), rfl⟩
def muX4_keep_1 (μ : Mem) : Mem := (M_X9_copyRow 44 69 0 49 1104 ((μ 48 2) * 69) 69 μ)
def muX4_keep_2 (μ : Mem) : Mem := (upm (muX4_keep_1 μ) 48 2 (((muX4_keep_1 μ) 48 2) + 1))
def M_X4_keep  (μ : Mem) : Mem := (muX4_keep_2 μ)
def P_X4_keep  (μ : Mem) : Prop := (P_X9_copyRow 44 69 0 49 1104 ((μ 48 2) * 69) 69 μ)
set_option maxRecDepth 20000 in
set_option maxHeartbeats 2000000 in
theorem ok_X4_keep {G : SG} (hG : GK 57 G)  (μ : Mem) (hP : P_X4_keep  μ) : OkF G mX4_keep [.ref (ga G 48), .ref (ga G 43)] μ none (M_X4_keep  μ) := by
  refine okF_of hG rfl rfl (Nat.le_of_ble_eq_true rfl) ?_
  unfold P_X4_keep at hP
  refine r_aload_n dX4_keep_0 1 rfl ?_
  refine r_getR 44 fX4_27 (hG.lt (by decide)) sh43 fs43_0 dX4_keep_1 ?_
  refine r_iconst 0 dX4_keep_4 rfl ?_
  refine r_aload_n dX4_keep_5 0 rfl ?_
  refine r_getR 49 fX4_13 (hG.lt (by decide)) sh48 fs48_0 dX4_keep_6 ?_
  refine r_aload_n dX4_keep_9 0 rfl ?_
  refine r_getI fX4_20 (hG.lt (by decide)) sh48 fs48_2 dX4_keep_10 ?_
  refine r_bipush 69 dX4_keep_13 rfl ?_
  refine r_imul dX4_keep_15 ?_
  refine r_bipush 69 dX4_keep_16 rfl ?_
  have hs1 := hP
  refine r_csV (ok_X9_copyRow hG (hG.lt (by decide)) sh44 0 (hG.lt (by decide)) sh49 ((μ 48 2) * 69) 69 μ hs1) lX4_30 dX4_keep_18 (by decide) (Nat.le_of_ble_eq_true rfl) rfl (Nat.le_of_ble_eq_true rfl) ?_
  refine r_mu (muX4_keep_1 μ) rfl ?_
  refine r_aload_n dX4_keep_21 0 rfl ?_
  refine r_dup dX4_keep_22 rfl ?_
  refine r_getI fX4_20 (hG.lt (by decide)) sh48 fs48_2 dX4_keep_23 ?_
  refine r_iconst 1 dX4_keep_26 rfl ?_
  refine r_iadd dX4_keep_27 ?_
  refine r_put fiX4_20 (hG.lt (by decide)) sh48 fs48_2 dX4_keep_28 ?_
  refine r_mu (muX4_keep_2 μ) rfl ?_
  exact r_return dX4_keep_31 rfl ⟨rfl, rfl⟩
def muX4_takeBack_1 (μ : Mem) : Mem := (upm μ 48 2 ((μ 48 2) - 1))
def muX4_takeBack_2 (μ : Mem) : Mem := (M_X9_copyRow 49 1104 (((muX4_takeBack_1 μ) 48 2) * 69) 44 69 0 69 (muX4_takeBack_1 μ))
def F_X4_takeBack  (μ : Mem) : Int32 := (if (μ 48 2) ≠ 0 then 1 else 0)
def M_X4_takeBack  (μ : Mem) : Mem := (if (μ 48 2) ≠ 0 then (muX4_takeBack_2 μ) else μ)
def P_X4_takeBack  (μ : Mem) : Prop := (((μ 48 2) ≠ 0 → (P_X9_copyRow 49 1104 (((muX4_takeBack_1 μ) 48 2) * 69) 44 69 0 69 (muX4_takeBack_1 μ))) ∧ ((μ 48 2) = 0 → True))
theorem bo_X4_takeBack  (μ : Mem) : F_X4_takeBack  μ = 0 ∨ F_X4_takeBack  μ = 1 := by
  unfold F_X4_takeBack
  split
  · exact Or.inr rfl
  · exact Or.inl rfl
set_option maxRecDepth 20000 in
set_option maxHeartbeats 2000000 in
theorem ok_X4_takeBack {G : SG} (hG : GK 57 G)  (μ : Mem) (hP : P_X4_takeBack  μ) : OkF G mX4_takeBack [.ref (ga G 48), .ref (ga G 43)] μ (some (.int (F_X4_takeBack  μ))) (M_X4_takeBack  μ) := by
  refine okF_of hG rfl rfl (Nat.le_of_ble_eq_true rfl) ?_
  unfold P_X4_takeBack at hP
  refine r_aload_n dX4_takeBack_0 0 rfl ?_
  refine r_getI fX4_20 (hG.lt (by decide)) sh48 fs48_2 dX4_takeBack_1 ?_
  refine r_if_ne 9 dX4_takeBack_4 (by decide) (fun c1 => ?_) (fun c1 => ?_)
  · replace hP := hP.1 c1
    refine r_aload_n dX4_takeBack_9 0 rfl ?_
    refine r_dup dX4_takeBack_10 rfl ?_
    refine r_getI fX4_20 (hG.lt (by decide)) sh48 fs48_2 dX4_takeBack_11 ?_
    refine r_iconst 1 dX4_takeBack_14 rfl ?_
    refine r_isub dX4_takeBack_15 ?_
    refine r_put fiX4_20 (hG.lt (by decide)) sh48 fs48_2 dX4_takeBack_16 ?_
    refine r_mu (muX4_takeBack_1 μ) rfl ?_
    refine r_aload_n dX4_takeBack_19 0 rfl ?_
    refine r_getR 49 fX4_13 (hG.lt (by decide)) sh48 fs48_0 dX4_takeBack_20 ?_
    refine r_aload_n dX4_takeBack_23 0 rfl ?_
    refine r_getI fX4_20 (hG.lt (by decide)) sh48 fs48_2 dX4_takeBack_24 ?_
    refine r_bipush 69 dX4_takeBack_27 rfl ?_
    refine r_imul dX4_takeBack_29 ?_
    refine r_aload_n dX4_takeBack_30 1 rfl ?_
    refine r_getR 44 fX4_27 (hG.lt (by decide)) sh43 fs43_0 dX4_takeBack_31 ?_
    refine r_iconst 0 dX4_takeBack_34 rfl ?_
    refine r_bipush 69 dX4_takeBack_35 rfl ?_
    have hs1 := hP
    refine r_csV (ok_X9_copyRow hG (hG.lt (by decide)) sh49 (((muX4_takeBack_1 μ) 48 2) * 69) (hG.lt (by decide)) sh44 0 69 (muX4_takeBack_1 μ) hs1) lX4_30 dX4_takeBack_37 (by decide) (Nat.le_of_ble_eq_true rfl) rfl (Nat.le_of_ble_eq_true rfl) ?_
    refine r_mu (muX4_takeBack_2 μ) rfl ?_
    refine r_iconst 1 dX4_takeBack_40 rfl ?_
    exact r_ireturn _ dX4_takeBack_41 rfl rfl ⟨congrArg (fun z => some (Value.int z)) (by unfold F_X4_takeBack; rw [if_pos c1]), by unfold M_X4_takeBack; rw [if_pos c1]⟩
  · replace hP := hP.2 c1
    refine r_iconst 0 dX4_takeBack_7 rfl ?_
    exact r_ireturn _ dX4_takeBack_8 rfl rfl ⟨congrArg (fun z => some (Value.int z)) (by unfold F_X4_takeBack; rw [if_neg (not_not_intro c1)]), by unfold M_X4_takeBack; rw [if_neg (not_not_intro c1)]⟩
def muX4_addImage_1 (μ : Mem) : Mem := (M_X9_put 50 3522 ((μ 48 3) * 1174) (μ 48 2) μ)
def muX4_addImage_2 (μ : Mem) : Mem := (M_X9_copyRow 44 69 0 50 3522 (((μ 48 3) * 1174) + 1) 69 (muX4_addImage_1 μ))
def muX4_addImage_3 (μ : Mem) : Mem := (M_X9_copyRow 49 1104 0 50 3522 (((μ 48 3) * 1174) + 70) 1104 (muX4_addImage_2 μ))
def muX4_addImage_4 (μ : Mem) : Mem := (upm (muX4_addImage_3 μ) 48 3 (((muX4_addImage_3 μ) 48 3) + 1))
def F_X4_addImage  (μ : Mem) : Int32 := (if (μ 48 3) < 3 then 1 else 0)
def M_X4_addImage  (μ : Mem) : Mem := (if (μ 48 3) < 3 then (muX4_addImage_4 μ) else μ)
def P_X4_addImage  (μ : Mem) : Prop := (((μ 48 3) < 3 → ((P_X9_copyRow 44 69 0 50 3522 (((μ 48 3) * 1174) + 1) 69 (muX4_addImage_1 μ)) ∧ (P_X9_copyRow 49 1104 0 50 3522 (((μ 48 3) * 1174) + 70) 1104 (muX4_addImage_2 μ)))) ∧ (3 ≤ (μ 48 3) → True))
theorem bo_X4_addImage  (μ : Mem) : F_X4_addImage  μ = 0 ∨ F_X4_addImage  μ = 1 := by
  unfold F_X4_addImage
  split
  · exact Or.inr rfl
  · exact Or.inl rfl
set_option maxRecDepth 20000 in
set_option maxHeartbeats 2000000 in
theorem ok_X4_addImage {G : SG} (hG : GK 57 G)  (μ : Mem) (hP : P_X4_addImage  μ) : OkF G mX4_addImage [.ref (ga G 48), .ref (ga G 43)] μ (some (.int (F_X4_addImage  μ))) (M_X4_addImage  μ) := by
  refine okF_of hG rfl rfl (Nat.le_of_ble_eq_true rfl) ?_
  unfold P_X4_addImage at hP
  refine r_aload_n dX4_addImage_0 0 rfl ?_
  refine r_getI fX4_24 (hG.lt (by decide)) sh48 fs48_3 dX4_addImage_1 ?_
  refine r_iconst 3 dX4_addImage_4 rfl ?_
  refine r_icmp_lt 10 dX4_addImage_5 (by decide) (fun c1 => ?_) (fun c1 => ?_)
  · replace hP := hP.1 c1
    refine r_aload_n dX4_addImage_10 0 rfl ?_
    refine r_getI fX4_24 (hG.lt (by decide)) sh48 fs48_3 dX4_addImage_11 ?_
    refine r_sipush 1174 dX4_addImage_14 rfl ?_
    refine r_imul dX4_addImage_17 ?_
    refine r_istore_n [(2, _), (0, _), (1, _)] dX4_addImage_18 (Nat.le_of_ble_eq_true rfl) rfl ?_
    refine r_aload_n dX4_addImage_19 1 rfl ?_
    refine r_getR 50 fX4_17 (hG.lt (by decide)) sh48 fs48_1 dX4_addImage_20 ?_
    refine r_iload_n dX4_addImage_23 0 rfl ?_
    refine r_aload_n dX4_addImage_24 1 rfl ?_
    refine r_getI fX4_20 (hG.lt (by decide)) sh48 fs48_2 dX4_addImage_25 ?_
    refine r_csV (ok_X9_put hG (hG.lt (by decide)) sh50 ((μ 48 3) * 1174) (μ 48 2) μ) lX4_34 dX4_addImage_28 (by decide) (Nat.le_of_ble_eq_true rfl) rfl (Nat.le_of_ble_eq_true rfl) ?_
    refine r_mu (muX4_addImage_1 μ) rfl ?_
    refine r_aload_n dX4_addImage_31 2 rfl ?_
    refine r_getR 44 fX4_27 (hG.lt (by decide)) sh43 fs43_0 dX4_addImage_32 ?_
    refine r_iconst 0 dX4_addImage_35 rfl ?_
    refine r_aload_n dX4_addImage_36 1 rfl ?_
    refine r_getR 50 fX4_17 (hG.lt (by decide)) sh48 fs48_1 dX4_addImage_37 ?_
    refine r_iload_n dX4_addImage_40 0 rfl ?_
    refine r_iconst 1 dX4_addImage_41 rfl ?_
    refine r_iadd dX4_addImage_42 ?_
    refine r_bipush 69 dX4_addImage_43 rfl ?_
    have hs1 := hP.1
    replace hP := hP.2
    refine r_csV (ok_X9_copyRow hG (hG.lt (by decide)) sh44 0 (hG.lt (by decide)) sh50 (((μ 48 3) * 1174) + 1) 69 (muX4_addImage_1 μ) hs1) lX4_30 dX4_addImage_45 (by decide) (Nat.le_of_ble_eq_true rfl) rfl (Nat.le_of_ble_eq_true rfl) ?_
    refine r_mu (muX4_addImage_2 μ) rfl ?_
    refine r_aload_n dX4_addImage_48 1 rfl ?_
    refine r_getR 49 fX4_13 (hG.lt (by decide)) sh48 fs48_0 dX4_addImage_49 ?_
    refine r_iconst 0 dX4_addImage_52 rfl ?_
    refine r_aload_n dX4_addImage_53 1 rfl ?_
    refine r_getR 50 fX4_17 (hG.lt (by decide)) sh48 fs48_1 dX4_addImage_54 ?_
    refine r_iload_n dX4_addImage_57 0 rfl ?_
    refine r_bipush 70 dX4_addImage_58 rfl ?_
    refine r_iadd dX4_addImage_60 ?_
    refine r_sipush 1104 dX4_addImage_61 rfl ?_
    have hs2 := hP
    refine r_csV (ok_X9_copyRow hG (hG.lt (by decide)) sh49 0 (hG.lt (by decide)) sh50 (((μ 48 3) * 1174) + 70) 1104 (muX4_addImage_2 μ) hs2) lX4_30 dX4_addImage_64 (by decide) (Nat.le_of_ble_eq_true rfl) rfl (Nat.le_of_ble_eq_true rfl) ?_
    refine r_mu (muX4_addImage_3 μ) rfl ?_
    refine r_aload_n dX4_addImage_67 1 rfl ?_
    refine r_dup dX4_addImage_68 rfl ?_
    refine r_getI fX4_24 (hG.lt (by decide)) sh48 fs48_3 dX4_addImage_69 ?_
    refine r_iconst 1 dX4_addImage_72 rfl ?_
    refine r_iadd dX4_addImage_73 ?_
    refine r_put fiX4_24 (hG.lt (by decide)) sh48 fs48_3 dX4_addImage_74 ?_
    refine r_mu (muX4_addImage_4 μ) rfl ?_
    refine r_iconst 1 dX4_addImage_77 rfl ?_
    exact r_ireturn _ dX4_addImage_78 rfl rfl ⟨congrArg (fun z => some (Value.int z)) (by unfold F_X4_addImage; rw [if_pos c1]), by unfold M_X4_addImage; rw [if_pos c1]⟩
  · replace hP := hP.2 c1
    refine r_iconst 0 dX4_addImage_8 rfl ?_
    exact r_ireturn _ dX4_addImage_9 rfl rfl ⟨congrArg (fun z => some (Value.int z)) (by unfold F_X4_addImage; rw [if_neg (i32_nl c1)]), by unfold M_X4_addImage; rw [if_neg (i32_nl c1)]⟩
def muX4_takeImage_1 (μ : Mem) : Mem := (upm μ 48 3 ((μ 48 3) - 1))
def muX4_takeImage_2 (μ : Mem) : Mem := (upm (muX4_takeImage_1 μ) 48 2 (F_X9_at 50 3522 (((muX4_takeImage_1 μ) 48 3) * 1174) (muX4_takeImage_1 μ)))
def muX4_takeImage_3 (μ : Mem) : Mem := (M_X9_copyRow 50 3522 ((((muX4_takeImage_1 μ) 48 3) * 1174) + 1) 44 69 0 69 (muX4_takeImage_2 μ))
def muX4_takeImage_4 (μ : Mem) : Mem := (M_X9_copyRow 50 3522 ((((muX4_takeImage_1 μ) 48 3) * 1174) + 70) 49 1104 0 1104 (muX4_takeImage_3 μ))
def F_X4_takeImage  (μ : Mem) : Int32 := (if (μ 48 3) ≠ 0 then 1 else 0)
def M_X4_takeImage  (μ : Mem) : Mem := (if (μ 48 3) ≠ 0 then (muX4_takeImage_4 μ) else μ)
def P_X4_takeImage  (μ : Mem) : Prop := (((μ 48 3) ≠ 0 → ((P_X9_copyRow 50 3522 ((((muX4_takeImage_1 μ) 48 3) * 1174) + 1) 44 69 0 69 (muX4_takeImage_2 μ)) ∧ (P_X9_copyRow 50 3522 ((((muX4_takeImage_1 μ) 48 3) * 1174) + 70) 49 1104 0 1104 (muX4_takeImage_3 μ)))) ∧ ((μ 48 3) = 0 → True))
theorem bo_X4_takeImage  (μ : Mem) : F_X4_takeImage  μ = 0 ∨ F_X4_takeImage  μ = 1 := by
  unfold F_X4_takeImage
  split
  · exact Or.inr rfl
  · exact Or.inl rfl
set_option maxRecDepth 20000 in
set_option maxHeartbeats 2000000 in
theorem ok_X4_takeImage {G : SG} (hG : GK 57 G)  (μ : Mem) (hP : P_X4_takeImage  μ) : OkF G mX4_takeImage [.ref (ga G 48), .ref (ga G 43)] μ (some (.int (F_X4_takeImage  μ))) (M_X4_takeImage  μ) := by
  refine okF_of hG rfl rfl (Nat.le_of_ble_eq_true rfl) ?_
  unfold P_X4_takeImage at hP
  refine r_aload_n dX4_takeImage_0 0 rfl ?_
  refine r_getI fX4_24 (hG.lt (by decide)) sh48 fs48_3 dX4_takeImage_1 ?_
  refine r_if_ne 9 dX4_takeImage_4 (by decide) (fun c1 => ?_) (fun c1 => ?_)
  · replace hP := hP.1 c1
    refine r_aload_n dX4_takeImage_9 0 rfl ?_
    refine r_dup dX4_takeImage_10 rfl ?_
    refine r_getI fX4_24 (hG.lt (by decide)) sh48 fs48_3 dX4_takeImage_11 ?_
    refine r_iconst 1 dX4_takeImage_14 rfl ?_
    refine r_isub dX4_takeImage_15 ?_
    refine r_put fiX4_24 (hG.lt (by decide)) sh48 fs48_3 dX4_takeImage_16 ?_
    refine r_mu (muX4_takeImage_1 μ) rfl ?_
    refine r_aload_n dX4_takeImage_19 0 rfl ?_
    refine r_getI fX4_24 (hG.lt (by decide)) sh48 fs48_3 dX4_takeImage_20 ?_
    refine r_sipush 1174 dX4_takeImage_23 rfl ?_
    refine r_imul dX4_takeImage_26 ?_
    refine r_istore_n [(2, _), (0, _), (1, _)] dX4_takeImage_27 (Nat.le_of_ble_eq_true rfl) rfl ?_
    refine r_aload_n dX4_takeImage_28 1 rfl ?_
    refine r_aload_n dX4_takeImage_29 1 rfl ?_
    refine r_getR 50 fX4_17 (hG.lt (by decide)) sh48 fs48_1 dX4_takeImage_30 ?_
    refine r_iload_n dX4_takeImage_33 0 rfl ?_
    refine r_csI (ok_X9_at hG (hG.lt (by decide)) sh50 (((muX4_takeImage_1 μ) 48 3) * 1174) (muX4_takeImage_1 μ)) lX4_38 dX4_takeImage_34 (by decide) (Nat.le_of_ble_eq_true rfl) rfl (Nat.le_of_ble_eq_true rfl) ?_
    refine r_put fiX4_20 (hG.lt (by decide)) sh48 fs48_2 dX4_takeImage_37 ?_
    refine r_mu (muX4_takeImage_2 μ) rfl ?_
    refine r_aload_n dX4_takeImage_40 1 rfl ?_
    refine r_getR 50 fX4_17 (hG.lt (by decide)) sh48 fs48_1 dX4_takeImage_41 ?_
    refine r_iload_n dX4_takeImage_44 0 rfl ?_
    refine r_iconst 1 dX4_takeImage_45 rfl ?_
    refine r_iadd dX4_takeImage_46 ?_
    refine r_aload_n dX4_takeImage_47 2 rfl ?_
    refine r_getR 44 fX4_27 (hG.lt (by decide)) sh43 fs43_0 dX4_takeImage_48 ?_
    refine r_iconst 0 dX4_takeImage_51 rfl ?_
    refine r_bipush 69 dX4_takeImage_52 rfl ?_
    have hs1 := hP.1
    replace hP := hP.2
    refine r_csV (ok_X9_copyRow hG (hG.lt (by decide)) sh50 ((((muX4_takeImage_1 μ) 48 3) * 1174) + 1) (hG.lt (by decide)) sh44 0 69 (muX4_takeImage_2 μ) hs1) lX4_30 dX4_takeImage_54 (by decide) (Nat.le_of_ble_eq_true rfl) rfl (Nat.le_of_ble_eq_true rfl) ?_
    refine r_mu (muX4_takeImage_3 μ) rfl ?_
    refine r_aload_n dX4_takeImage_57 1 rfl ?_
    refine r_getR 50 fX4_17 (hG.lt (by decide)) sh48 fs48_1 dX4_takeImage_58 ?_
    refine r_iload_n dX4_takeImage_61 0 rfl ?_
    refine r_bipush 70 dX4_takeImage_62 rfl ?_
    refine r_iadd dX4_takeImage_64 ?_
    refine r_aload_n dX4_takeImage_65 1 rfl ?_
    refine r_getR 49 fX4_13 (hG.lt (by decide)) sh48 fs48_0 dX4_takeImage_66 ?_
    refine r_iconst 0 dX4_takeImage_69 rfl ?_
    refine r_sipush 1104 dX4_takeImage_70 rfl ?_
    have hs2 := hP
    refine r_csV (ok_X9_copyRow hG (hG.lt (by decide)) sh50 ((((muX4_takeImage_1 μ) 48 3) * 1174) + 70) (hG.lt (by decide)) sh49 0 1104 (muX4_takeImage_3 μ) hs2) lX4_30 dX4_takeImage_73 (by decide) (Nat.le_of_ble_eq_true rfl) rfl (Nat.le_of_ble_eq_true rfl) ?_
    refine r_mu (muX4_takeImage_4 μ) rfl ?_
    refine r_iconst 1 dX4_takeImage_76 rfl ?_
    exact r_ireturn _ dX4_takeImage_77 rfl rfl ⟨congrArg (fun z => some (Value.int z)) (by unfold F_X4_takeImage; rw [if_pos c1]), by unfold M_X4_takeImage; rw [if_pos c1]⟩
  · replace hP := hP.2 c1
    refine r_iconst 0 dX4_takeImage_7 rfl ?_
    exact r_ireturn _ dX4_takeImage_8 rfl rfl ⟨congrArg (fun z => some (Value.int z)) (by unfold F_X4_takeImage; rw [if_neg (not_not_intro c1)]), by unfold M_X4_takeImage; rw [if_neg (not_not_intro c1)]⟩
def muX5_open_2_1 (th : Nat) (i : Nat) (s : Mem) : Mem := (M_X9_put (th + 1) 69 (nI i) 0 s)
def g_X5_open_2 (th : Nat) (i : Nat) (s : Mem) : Mem := (muX5_open_2_1 th i s)
def Pb_X5_open_2 (th : Nat) (i : Nat) (s : Mem) : Prop := ((69 ≤ (nI i) → False) ∧ ((nI i) < 69 → True))
set_option maxRecDepth 20000 in
set_option maxHeartbeats 2000000 in
theorem lp_X5_open_2 {G : SG} (hG : GK 57 G) {th : Nat} (hth : IsSt th)  (s0 : Mem) (N : Nat) (sN : Mem) (eN : sN = fo N (g_X5_open_2 th) s0) (hN : ∀ i, i < N → Pb_X5_open_2 th i (fo i (g_X5_open_2 th) s0)) {t : Nat} {Q : PQ} {X : PX} (h : R G mX5_open 2 [(0, .ref (ga G th)), (1, .ref (ga G 3)), (2, .int (nI N))] [] sN t Q X) : R G mX5_open 2 [(0, .ref (ga G th)), (1, .ref (ga G 3)), (2, .int 0)] [] s0 t Q X := by
  subst eN
  refine down_i N (fun i => R G mX5_open 2 [(0, .ref (ga G th)), (1, .ref (ga G 3)), (2, .int (nI i))] [] (fo i (g_X5_open_2 th) s0) t Q X) h (fun i hi hS => ?_)
  have hP := hN i hi
  rw [fo_succ] at hS
  rw [nI_succ] at hS
  generalize fo i (g_X5_open_2 th) s0 = s at hS hP ⊢
  unfold Pb_X5_open_2 at hP
  refine r_iload_n dX5_open_2 2 rfl ?_
  refine r_bipush 69 dX5_open_3 rfl ?_
  refine r_icmp_ge 23 dX5_open_5 (by decide) (fun c1 => ?_) (fun c1 => ?_)
  · replace hP := hP.1 c1
    exact hP.elim
  · replace hP := hP.2 c1
    refine r_aload_n dX5_open_8 0 rfl ?_
    refine r_getR (th + 1) fX5_11 (hth.lt hG) hth.sh (hth.f0) dX5_open_9 ?_
    refine r_iload_n dX5_open_12 2 rfl ?_
    refine r_iconst 0 dX5_open_13 rfl ?_
    refine r_csV (ok_X9_put hG (hth.lt0 hG) hth.s0 (nI i) 0 s) lX5_24 dX5_open_14 (by decide) (Nat.le_of_ble_eq_true rfl) rfl (Nat.le_of_ble_eq_true rfl) ?_
    refine r_mu (muX5_open_2_1 th i s) rfl ?_
    refine r_iinc ((nI i) + 1) [(2, _), (0, _), (1, _)] dX5_open_17 2 rfl rfl (Nat.le_of_ble_eq_true rfl) rfl ?_
    refine r_goto 2 dX5_open_20 (by decide) ?_
    have e : g_X5_open_2 th i s = (muX5_open_2_1 th i s) := by unfold g_X5_open_2; rfl
    rw [e] at hS
    exact r_sub [1, 2, 0] rfl hS
def NX5_open_2 (th : Nat) (μ : Mem) : Nat := 69
def SX5_open_2 (th : Nat) (μ : Mem) : Mem := fo (NX5_open_2 th μ) (g_X5_open_2 th) μ
def muX5_open_25_1 (th : Nat) (i : Nat) (s : Mem) : Mem := (M_X5_set th 50 (nI i) (F_X9_at 4 6 (nI i) s) s)
def g_X5_open_25 (th : Nat) (i : Nat) (s : Mem) : Mem := (muX5_open_25_1 th i s)
def Pb_X5_open_25 (th : Nat) (i : Nat) (s : Mem) : Prop := (((s 3 8) ≤ (nI i) → False) ∧ ((nI i) < (s 3 8) → True))
set_option maxRecDepth 20000 in
set_option maxHeartbeats 2000000 in
theorem lp_X5_open_25 {G : SG} (hG : GK 57 G) {th : Nat} (hth : IsSt th)  (s0 : Mem) (N : Nat) (sN : Mem) (eN : sN = fo N (g_X5_open_25 th) s0) (hN : ∀ i, i < N → Pb_X5_open_25 th i (fo i (g_X5_open_25 th) s0)) {t : Nat} {Q : PQ} {X : PX} (h : R G mX5_open 25 [(0, .ref (ga G th)), (1, .ref (ga G 3)), (2, .int (nI N))] [] sN t Q X) : R G mX5_open 25 [(0, .ref (ga G th)), (1, .ref (ga G 3)), (2, .int 0)] [] s0 t Q X := by
  subst eN
  refine down_i N (fun i => R G mX5_open 25 [(0, .ref (ga G th)), (1, .ref (ga G 3)), (2, .int (nI i))] [] (fo i (g_X5_open_25 th) s0) t Q X) h (fun i hi hS => ?_)
  have hP := hN i hi
  rw [fo_succ] at hS
  rw [nI_succ] at hS
  generalize fo i (g_X5_open_25 th) s0 = s at hS hP ⊢
  unfold Pb_X5_open_25 at hP
  refine r_iload_n dX5_open_25 2 rfl ?_
  refine r_aload_n dX5_open_26 1 rfl ?_
  refine r_getI fX5_28 (hG.lt (by decide)) sh3 fs3_8 dX5_open_27 ?_
  refine r_icmp_ge 54 dX5_open_30 (by decide) (fun c1 => ?_) (fun c1 => ?_)
  · replace hP := hP.1 c1
    exact hP.elim
  · replace hP := hP.2 c1
    refine r_aload_n dX5_open_33 0 rfl ?_
    refine r_bipush 50 dX5_open_34 rfl ?_
    refine r_iload_n dX5_open_36 2 rfl ?_
    refine r_aload_n dX5_open_37 1 rfl ?_
    refine r_getR 4 fX5_34 (hG.lt (by decide)) sh3 fs3_0 dX5_open_38 ?_
    refine r_iload_n dX5_open_41 2 rfl ?_
    refine r_csI (ok_X9_at hG (hG.lt (by decide)) sh4 (nI i) s) lX5_37 dX5_open_42 (by decide) (Nat.le_of_ble_eq_true rfl) rfl (Nat.le_of_ble_eq_true rfl) ?_
    refine r_cvV (ok_X5_set hG hth 50 (nI i) (F_X9_at 4 6 (nI i) s) s) lX5_41 (hth.lt hG) hth.sh ⟨_, _, rfl⟩ dX5_open_45 (by decide) (Nat.le_of_ble_eq_true rfl) rfl (Nat.le_of_ble_eq_true rfl) ?_
    refine r_mu (muX5_open_25_1 th i s) rfl ?_
    refine r_iinc ((nI i) + 1) [(2, _), (0, _), (1, _)] dX5_open_48 2 rfl rfl (Nat.le_of_ble_eq_true rfl) rfl ?_
    refine r_goto 25 dX5_open_51 (by decide) ?_
    have e : g_X5_open_25 th i s = (muX5_open_25_1 th i s) := by unfold g_X5_open_25; rfl
    rw [e] at hS
    exact r_sub [1, 2, 0] rfl hS
def NX5_open_25 (th : Nat) (μ : Mem) : Nat := ix ((SX5_open_2 th μ) 3 8)
def SX5_open_25 (th : Nat) (μ : Mem) : Mem := fo (NX5_open_25 th μ) (g_X5_open_25 th) (SX5_open_2 th μ)
def muX5_open_56_1 (th : Nat) (i : Nat) (s : Mem) : Mem := (M_X5_set th 0 (nI i) (F_X9_at 5 10 (nI i) s) s)
def muX5_open_56_2 (th : Nat) (i : Nat) (s : Mem) : Mem := (M_X5_set th 40 (nI i) (F_X9_at 8 10 (nI i) (muX5_open_56_1 th i s)) (muX5_open_56_1 th i s))
def g_X5_open_56 (th : Nat) (i : Nat) (s : Mem) : Mem := (muX5_open_56_2 th i s)
def Pb_X5_open_56 (th : Nat) (i : Nat) (s : Mem) : Prop := (((s 3 9) ≤ (nI i) → False) ∧ ((nI i) < (s 3 9) → True))
set_option maxRecDepth 20000 in
set_option maxHeartbeats 2000000 in
theorem lp_X5_open_56 {G : SG} (hG : GK 57 G) {th : Nat} (hth : IsSt th)  (s0 : Mem) (N : Nat) (sN : Mem) (eN : sN = fo N (g_X5_open_56 th) s0) (hN : ∀ i, i < N → Pb_X5_open_56 th i (fo i (g_X5_open_56 th) s0)) {t : Nat} {Q : PQ} {X : PX} (h : R G mX5_open 56 [(0, .ref (ga G th)), (1, .ref (ga G 3)), (2, .int (nI N))] [] sN t Q X) : R G mX5_open 56 [(0, .ref (ga G th)), (1, .ref (ga G 3)), (2, .int 0)] [] s0 t Q X := by
  subst eN
  refine down_i N (fun i => R G mX5_open 56 [(0, .ref (ga G th)), (1, .ref (ga G 3)), (2, .int (nI i))] [] (fo i (g_X5_open_56 th) s0) t Q X) h (fun i hi hS => ?_)
  have hP := hN i hi
  rw [fo_succ] at hS
  rw [nI_succ] at hS
  generalize fo i (g_X5_open_56 th) s0 = s at hS hP ⊢
  unfold Pb_X5_open_56 at hP
  refine r_iload_n dX5_open_56 2 rfl ?_
  refine r_aload_n dX5_open_57 1 rfl ?_
  refine r_getI fX5_45 (hG.lt (by decide)) sh3 fs3_9 dX5_open_58 ?_
  refine r_icmp_ge 99 dX5_open_61 (by decide) (fun c1 => ?_) (fun c1 => ?_)
  · replace hP := hP.1 c1
    exact hP.elim
  · replace hP := hP.2 c1
    refine r_aload_n dX5_open_64 0 rfl ?_
    refine r_iconst 0 dX5_open_65 rfl ?_
    refine r_iload_n dX5_open_66 2 rfl ?_
    refine r_aload_n dX5_open_67 1 rfl ?_
    refine r_getR 5 fX5_48 (hG.lt (by decide)) sh3 fs3_1 dX5_open_68 ?_
    refine r_iload_n dX5_open_71 2 rfl ?_
    refine r_csI (ok_X9_at hG (hG.lt (by decide)) sh5 (nI i) s) lX5_37 dX5_open_72 (by decide) (Nat.le_of_ble_eq_true rfl) rfl (Nat.le_of_ble_eq_true rfl) ?_
    refine r_cvV (ok_X5_set hG hth 0 (nI i) (F_X9_at 5 10 (nI i) s) s) lX5_41 (hth.lt hG) hth.sh ⟨_, _, rfl⟩ dX5_open_75 (by decide) (Nat.le_of_ble_eq_true rfl) rfl (Nat.le_of_ble_eq_true rfl) ?_
    refine r_mu (muX5_open_56_1 th i s) rfl ?_
    refine r_aload_n dX5_open_78 0 rfl ?_
    refine r_bipush 40 dX5_open_79 rfl ?_
    refine r_iload_n dX5_open_81 2 rfl ?_
    refine r_aload_n dX5_open_82 1 rfl ?_
    refine r_getR 8 fX5_51 (hG.lt (by decide)) sh3 fs3_4 dX5_open_83 ?_
    refine r_iload_n dX5_open_86 2 rfl ?_
    refine r_csI (ok_X9_at hG (hG.lt (by decide)) sh8 (nI i) (muX5_open_56_1 th i s)) lX5_37 dX5_open_87 (by decide) (Nat.le_of_ble_eq_true rfl) rfl (Nat.le_of_ble_eq_true rfl) ?_
    refine r_cvV (ok_X5_set hG hth 40 (nI i) (F_X9_at 8 10 (nI i) (muX5_open_56_1 th i s)) (muX5_open_56_1 th i s)) lX5_41 (hth.lt hG) hth.sh ⟨_, _, rfl⟩ dX5_open_90 (by decide) (Nat.le_of_ble_eq_true rfl) rfl (Nat.le_of_ble_eq_true rfl) ?_
    refine r_mu (muX5_open_56_2 th i s) rfl ?_
    refine r_iinc ((nI i) + 1) [(2, _), (0, _), (1, _)] dX5_open_93 2 rfl rfl (Nat.le_of_ble_eq_true rfl) rfl ?_
    refine r_goto 56 dX5_open_96 (by decide) ?_
    have e : g_X5_open_56 th i s = (muX5_open_56_2 th i s) := by unfold g_X5_open_56; rfl
    rw [e] at hS
    exact r_sub [1, 2, 0] rfl hS
def NX5_open_56 (th : Nat) (μ : Mem) : Nat := ix ((SX5_open_25 th μ) 3 9)
def SX5_open_56 (th : Nat) (μ : Mem) : Mem := fo (NX5_open_56 th μ) (g_X5_open_56 th) (SX5_open_25 th μ)
def muX5_open_1 (th : Nat) (μ : Mem) : Mem := (M_X5_set th 0 (nI (NX5_open_56 th μ)) (F_X9_at 5 10 (nI (NX5_open_56 th μ)) (SX5_open_56 th μ)) (SX5_open_56 th μ))
def muX5_open_2 (th : Nat) (μ : Mem) : Mem := (M_X5_set th 40 (nI (NX5_open_56 th μ)) (F_X9_at 8 10 (nI (NX5_open_56 th μ)) (muX5_open_1 th μ)) (muX5_open_1 th μ))
def muX5_open_3 (th : Nat) (μ : Mem) : Mem := (M_X5_set th 50 (nI (NX5_open_25 th μ)) (F_X9_at 4 6 (nI (NX5_open_25 th μ)) (SX5_open_25 th μ)) (SX5_open_25 th μ))
def muX5_open_4 (th : Nat) (μ : Mem) : Mem := (M_X9_put (th + 1) 69 (nI (NX5_open_2 th μ)) 0 (SX5_open_2 th μ))
def M_X5_open (th : Nat) (μ : Mem) : Mem := (SX5_open_56 th μ)
def P_X5_open (th : Nat) (μ : Mem) : Prop := ((∀ j9, j9 < (NX5_open_2 th μ) → Pb_X5_open_2 th j9 (fo j9 (g_X5_open_2 th) μ)) ∧ ((69 ≤ (nI (NX5_open_2 th μ)) → ((∀ j9, j9 < (NX5_open_25 th μ) → Pb_X5_open_25 th j9 (fo j9 (g_X5_open_25 th) (SX5_open_2 th μ))) ∧ ((((SX5_open_25 th μ) 3 8) ≤ (nI (NX5_open_25 th μ)) → ((∀ j9, j9 < (NX5_open_56 th μ) → Pb_X5_open_56 th j9 (fo j9 (g_X5_open_56 th) (SX5_open_25 th μ))) ∧ ((((SX5_open_56 th μ) 3 9) ≤ (nI (NX5_open_56 th μ)) → True) ∧ ((nI (NX5_open_56 th μ)) < ((SX5_open_56 th μ) 3 9) → False)))) ∧ ((nI (NX5_open_25 th μ)) < ((SX5_open_25 th μ) 3 8) → False)))) ∧ ((nI (NX5_open_2 th μ)) < 69 → False)))
set_option maxRecDepth 20000 in
set_option maxHeartbeats 2000000 in
theorem ok_X5_open {G : SG} (hG : GK 57 G) {th : Nat} (hth : IsSt th) (μ : Mem) (hP : P_X5_open th μ) : OkF G mX5_open [.ref (ga G th), .ref (ga G 3)] μ none (M_X5_open th μ) := by
  refine okF_of hG rfl rfl (Nat.le_of_ble_eq_true rfl) ?_
  unfold P_X5_open at hP
  refine r_iconst 0 dX5_open_0 rfl ?_
  refine r_istore_n [(2, _), (0, _), (1, _)] dX5_open_1 (Nat.le_of_ble_eq_true rfl) rfl ?_
  have hs1 := hP.1
  replace hP := hP.2
  refine r_sub [1, 2, 0] rfl ?_
  refine lp_X5_open_2 hG hth μ ((NX5_open_2 th μ)) (SX5_open_2 th μ) rfl hs1 ?_
  refine r_iload_n dX5_open_2 2 rfl ?_
  refine r_bipush 69 dX5_open_3 rfl ?_
  refine r_icmp_ge 23 dX5_open_5 (by decide) (fun c1 => ?_) (fun c1 => ?_)
  · replace hP := hP.1 c1
    refine r_iconst 0 dX5_open_23 rfl ?_
    refine r_istore_n [(2, _), (0, _), (1, _)] dX5_open_24 (Nat.le_of_ble_eq_true rfl) rfl ?_
    have hs2 := hP.1
    replace hP := hP.2
    refine r_sub [1, 2, 0] rfl ?_
    refine lp_X5_open_25 hG hth (SX5_open_2 th μ) ((NX5_open_25 th μ)) (SX5_open_25 th μ) rfl hs2 ?_
    refine r_iload_n dX5_open_25 2 rfl ?_
    refine r_aload_n dX5_open_26 1 rfl ?_
    refine r_getI fX5_28 (hG.lt (by decide)) sh3 fs3_8 dX5_open_27 ?_
    refine r_icmp_ge 54 dX5_open_30 (by decide) (fun c2 => ?_) (fun c2 => ?_)
    · replace hP := hP.1 c2
      refine r_iconst 0 dX5_open_54 rfl ?_
      refine r_istore_n [(2, _), (0, _), (1, _)] dX5_open_55 (Nat.le_of_ble_eq_true rfl) rfl ?_
      have hs3 := hP.1
      replace hP := hP.2
      refine r_sub [1, 2, 0] rfl ?_
      refine lp_X5_open_56 hG hth (SX5_open_25 th μ) ((NX5_open_56 th μ)) (SX5_open_56 th μ) rfl hs3 ?_
      refine r_iload_n dX5_open_56 2 rfl ?_
      refine r_aload_n dX5_open_57 1 rfl ?_
      refine r_getI fX5_45 (hG.lt (by decide)) sh3 fs3_9 dX5_open_58 ?_
      refine r_icmp_ge 99 dX5_open_61 (by decide) (fun c3 => ?_) (fun c3 => ?_)
      · replace hP := hP.1 c3
        exact r_return dX5_open_99 rfl ⟨rfl, rfl⟩
      · replace hP := hP.2 c3
        refine r_aload_n dX5_open_64 0 rfl ?_
        refine r_iconst 0 dX5_open_65 rfl ?_
        refine r_iload_n dX5_open_66 2 rfl ?_
        refine r_aload_n dX5_open_67 1 rfl ?_
        refine r_getR 5 fX5_48 (hG.lt (by decide)) sh3 fs3_1 dX5_open_68 ?_
        refine r_iload_n dX5_open_71 2 rfl ?_
        refine r_csI (ok_X9_at hG (hG.lt (by decide)) sh5 (nI (NX5_open_56 th μ)) (SX5_open_56 th μ)) lX5_37 dX5_open_72 (by decide) (Nat.le_of_ble_eq_true rfl) rfl (Nat.le_of_ble_eq_true rfl) ?_
        refine r_cvV (ok_X5_set hG hth 0 (nI (NX5_open_56 th μ)) (F_X9_at 5 10 (nI (NX5_open_56 th μ)) (SX5_open_56 th μ)) (SX5_open_56 th μ)) lX5_41 (hth.lt hG) hth.sh ⟨_, _, rfl⟩ dX5_open_75 (by decide) (Nat.le_of_ble_eq_true rfl) rfl (Nat.le_of_ble_eq_true rfl) ?_
        refine r_mu (muX5_open_1 th μ) rfl ?_
        refine r_aload_n dX5_open_78 0 rfl ?_
        refine r_bipush 40 dX5_open_79 rfl ?_
        refine r_iload_n dX5_open_81 2 rfl ?_
        refine r_aload_n dX5_open_82 1 rfl ?_
        refine r_getR 8 fX5_51 (hG.lt (by decide)) sh3 fs3_4 dX5_open_83 ?_
        refine r_iload_n dX5_open_86 2 rfl ?_
        refine r_csI (ok_X9_at hG (hG.lt (by decide)) sh8 (nI (NX5_open_56 th μ)) (muX5_open_1 th μ)) lX5_37 dX5_open_87 (by decide) (Nat.le_of_ble_eq_true rfl) rfl (Nat.le_of_ble_eq_true rfl) ?_
        refine r_cvV (ok_X5_set hG hth 40 (nI (NX5_open_56 th μ)) (F_X9_at 8 10 (nI (NX5_open_56 th μ)) (muX5_open_1 th μ)) (muX5_open_1 th μ)) lX5_41 (hth.lt hG) hth.sh ⟨_, _, rfl⟩ dX5_open_90 (by decide) (Nat.le_of_ble_eq_true rfl) rfl (Nat.le_of_ble_eq_true rfl) ?_
        refine r_mu (muX5_open_2 th μ) rfl ?_
        refine r_iinc ((nI (NX5_open_56 th μ)) + 1) [(2, _), (0, _), (1, _)] dX5_open_93 2 rfl rfl (Nat.le_of_ble_eq_true rfl) rfl ?_
        refine r_goto 56 dX5_open_96 (by decide) ?_
        exact hP.elim
    · replace hP := hP.2 c2
      refine r_aload_n dX5_open_33 0 rfl ?_
      refine r_bipush 50 dX5_open_34 rfl ?_
      refine r_iload_n dX5_open_36 2 rfl ?_
      refine r_aload_n dX5_open_37 1 rfl ?_
      refine r_getR 4 fX5_34 (hG.lt (by decide)) sh3 fs3_0 dX5_open_38 ?_
      refine r_iload_n dX5_open_41 2 rfl ?_
      refine r_csI (ok_X9_at hG (hG.lt (by decide)) sh4 (nI (NX5_open_25 th μ)) (SX5_open_25 th μ)) lX5_37 dX5_open_42 (by decide) (Nat.le_of_ble_eq_true rfl) rfl (Nat.le_of_ble_eq_true rfl) ?_
      refine r_cvV (ok_X5_set hG hth 50 (nI (NX5_open_25 th μ)) (F_X9_at 4 6 (nI (NX5_open_25 th μ)) (SX5_open_25 th μ)) (SX5_open_25 th μ)) lX5_41 (hth.lt hG) hth.sh ⟨_, _, rfl⟩ dX5_open_45 (by decide) (Nat.le_of_ble_eq_true rfl) rfl (Nat.le_of_ble_eq_true rfl) ?_
      refine r_mu (muX5_open_3 th μ) rfl ?_
      refine r_iinc ((nI (NX5_open_25 th μ)) + 1) [(2, _), (0, _), (1, _)] dX5_open_48 2 rfl rfl (Nat.le_of_ble_eq_true rfl) rfl ?_
      refine r_goto 25 dX5_open_51 (by decide) ?_
      exact hP.elim
  · replace hP := hP.2 c1
    refine r_aload_n dX5_open_8 0 rfl ?_
    refine r_getR (th + 1) fX5_11 (hth.lt hG) hth.sh (hth.f0) dX5_open_9 ?_
    refine r_iload_n dX5_open_12 2 rfl ?_
    refine r_iconst 0 dX5_open_13 rfl ?_
    refine r_csV (ok_X9_put hG (hth.lt0 hG) hth.s0 (nI (NX5_open_2 th μ)) 0 (SX5_open_2 th μ)) lX5_24 dX5_open_14 (by decide) (Nat.le_of_ble_eq_true rfl) rfl (Nat.le_of_ble_eq_true rfl) ?_
    refine r_mu (muX5_open_4 th μ) rfl ?_
    refine r_iinc ((nI (NX5_open_2 th μ)) + 1) [(2, _), (0, _), (1, _)] dX5_open_17 2 rfl rfl (Nat.le_of_ble_eq_true rfl) rfl ?_
    refine r_goto 2 dX5_open_20 (by decide) ?_
    exact hP.elim
def g_X5_greatestBound_3 (th : Nat) (v2 : Int32) (v3 : Int32) (μ : Mem) (i : Nat) (s : Int32) : Int32 := (s + (-1))
def Pb_X5_greatestBound_3 (th : Nat) (v2 : Int32) (v3 : Int32) (μ : Mem) (i : Nat) (s : Int32) : Prop := ((s ≤ 0 → False) ∧ (0 < s → (P_X5_givenUnder th v2 s μ) ∧ ((v3 < (F_X5_givenUnder th v2 s μ) → True) ∧ ((F_X5_givenUnder th v2 s μ) ≤ v3 → False))))
def Cb_X5_greatestBound_3 (th : Nat) (v2 : Int32) (v3 : Int32) (μ : Mem) (i : Nat) (s : Int32) : Bool := (if s ≤ 0 then false else (if v3 < (F_X5_givenUnder th v2 s μ) then true else false))
set_option maxRecDepth 20000 in
set_option maxHeartbeats 2000000 in
theorem lp_X5_greatestBound_3 {G : SG} (hG : GK 57 G) {th : Nat} (hth : IsSt th) (v2 : Int32) (v3 : Int32) (μ : Mem) (s0 : Int32) (N : Nat) (sN : Int32) (eN : sN = fo N (g_X5_greatestBound_3 th v2 v3 μ) s0) (hN : ∀ i, i < N → Pb_X5_greatestBound_3 th v2 v3 μ i (fo i (g_X5_greatestBound_3 th v2 v3 μ) s0)) {t : Nat} {Q : PQ} {X : PX} (h : R G mX5_greatestBound 3 [(0, .ref (ga G th)), (1, .ref (ga G 3)), (2, .int v2), (3, .int v3), (4, .int sN)] [] μ t Q X) : R G mX5_greatestBound 3 [(0, .ref (ga G th)), (1, .ref (ga G 3)), (2, .int v2), (3, .int v3), (4, .int s0)] [] μ t Q X := by
  subst eN
  refine down_i N (fun i => R G mX5_greatestBound 3 [(0, .ref (ga G th)), (1, .ref (ga G 3)), (2, .int v2), (3, .int v3), (4, .int (fo i (g_X5_greatestBound_3 th v2 v3 μ) s0))] [] μ t Q X) h (fun i hi hS => ?_)
  have hP := hN i hi
  rw [fo_succ] at hS
  generalize fo i (g_X5_greatestBound_3 th v2 v3 μ) s0 = s at hS hP ⊢
  unfold Pb_X5_greatestBound_3 at hP
  refine r_iload dX5_greatestBound_3 4 rfl ?_
  refine r_if_le 29 dX5_greatestBound_5 (by decide) (fun c1 => ?_) (fun c1 => ?_)
  · replace hP := hP.1 c1
    exact hP.elim
  · replace hP := hP.2 c1
    refine r_aload_n dX5_greatestBound_8 0 rfl ?_
    refine r_aload_n dX5_greatestBound_9 1 rfl ?_
    refine r_iload_n dX5_greatestBound_10 2 rfl ?_
    refine r_iload dX5_greatestBound_11 4 rfl ?_
    have hs1 := hP.1
    replace hP := hP.2
    refine r_cvI (ok_X5_givenUnder hG hth v2 s μ hs1) lX5_70 (hth.lt hG) hth.sh ⟨_, _, rfl⟩ dX5_greatestBound_13 (by decide) (Nat.le_of_ble_eq_true rfl) rfl (Nat.le_of_ble_eq_true rfl) ?_
    refine r_iload_n dX5_greatestBound_16 3 rfl ?_
    refine r_icmp_gt 23 dX5_greatestBound_17 (by decide) (fun c2 => ?_) (fun c2 => ?_)
    · replace hP := hP.1 c2
      refine r_iinc (s + (-1)) [(4, _), (0, _), (1, _), (2, _), (3, _)] dX5_greatestBound_23 4 rfl rfl (Nat.le_of_ble_eq_true rfl) rfl ?_
      refine r_goto 3 dX5_greatestBound_26 (by decide) ?_
      have e : g_X5_greatestBound_3 th v2 v3 μ i s = (s + (-1)) := by unfold g_X5_greatestBound_3; rfl
      rw [e] at hS
      exact r_sub [1, 2, 3, 4, 0] rfl hS
    · replace hP := hP.2 c2
      refine r_iload dX5_greatestBound_20 4 rfl ?_
      exact hP.elim
def NX5_greatestBound_3 (th : Nat) (p2 : Int32) (p3 : Int32) (μ : Mem) : Nat := (fst 1000 (fun j9 => !Cb_X5_greatestBound_3 th p2 p3 μ j9 (fo j9 (g_X5_greatestBound_3 th p2 p3 μ) p3)))
def SX5_greatestBound_3 (th : Nat) (p2 : Int32) (p3 : Int32) (μ : Mem) : Int32 := fo (NX5_greatestBound_3 th p2 p3 μ) (g_X5_greatestBound_3 th p2 p3 μ) p3
def F_X5_greatestBound (th : Nat) (p2 : Int32) (p3 : Int32) (μ : Mem) : Int32 := (if (SX5_greatestBound_3 th p2 p3 μ) ≤ 0 then 0 else (SX5_greatestBound_3 th p2 p3 μ))
def P_X5_greatestBound (th : Nat) (p2 : Int32) (p3 : Int32) (μ : Mem) : Prop := ((∀ j9, j9 < (NX5_greatestBound_3 th p2 p3 μ) → Pb_X5_greatestBound_3 th p2 p3 μ j9 (fo j9 (g_X5_greatestBound_3 th p2 p3 μ) p3)) ∧ (((SX5_greatestBound_3 th p2 p3 μ) ≤ 0 → True) ∧ (0 < (SX5_greatestBound_3 th p2 p3 μ) → ((P_X5_givenUnder th p2 (SX5_greatestBound_3 th p2 p3 μ) μ) ∧ ((p3 < (F_X5_givenUnder th p2 (SX5_greatestBound_3 th p2 p3 μ) μ) → False) ∧ ((F_X5_givenUnder th p2 (SX5_greatestBound_3 th p2 p3 μ) μ) ≤ p3 → True))))))
set_option maxRecDepth 20000 in
set_option maxHeartbeats 2000000 in
theorem ok_X5_greatestBound {G : SG} (hG : GK 57 G) {th : Nat} (hth : IsSt th) (p2 : Int32) (p3 : Int32) (μ : Mem) (hP : P_X5_greatestBound th p2 p3 μ) : OkF G mX5_greatestBound [.ref (ga G th), .ref (ga G 3), .int p2, .int p3] μ (some (.int (F_X5_greatestBound th p2 p3 μ))) μ := by
  refine okF_of hG rfl rfl (Nat.le_of_ble_eq_true rfl) ?_
  unfold P_X5_greatestBound at hP
  refine r_iload_n dX5_greatestBound_0 3 rfl ?_
  refine r_istore [(4, _), (0, _), (1, _), (2, _), (3, _)] dX5_greatestBound_1 (Nat.le_of_ble_eq_true rfl) rfl ?_
  have hs1 := hP.1
  replace hP := hP.2
  refine r_sub [1, 2, 3, 4, 0] rfl ?_
  refine lp_X5_greatestBound_3 hG hth p2 p3 μ p3 ((NX5_greatestBound_3 th p2 p3 μ)) (SX5_greatestBound_3 th p2 p3 μ) rfl hs1 ?_
  refine r_iload dX5_greatestBound_3 4 rfl ?_
  refine r_if_le 29 dX5_greatestBound_5 (by decide) (fun c1 => ?_) (fun c1 => ?_)
  · replace hP := hP.1 c1
    refine r_iconst 0 dX5_greatestBound_29 rfl ?_
    exact r_ireturn _ dX5_greatestBound_30 rfl rfl ⟨congrArg (fun z => some (Value.int z)) (by unfold F_X5_greatestBound; rw [if_pos c1]), rfl⟩
  · replace hP := hP.2 c1
    refine r_aload_n dX5_greatestBound_8 0 rfl ?_
    refine r_aload_n dX5_greatestBound_9 1 rfl ?_
    refine r_iload_n dX5_greatestBound_10 2 rfl ?_
    refine r_iload dX5_greatestBound_11 4 rfl ?_
    have hs2 := hP.1
    replace hP := hP.2
    refine r_cvI (ok_X5_givenUnder hG hth p2 (SX5_greatestBound_3 th p2 p3 μ) μ hs2) lX5_70 (hth.lt hG) hth.sh ⟨_, _, rfl⟩ dX5_greatestBound_13 (by decide) (Nat.le_of_ble_eq_true rfl) rfl (Nat.le_of_ble_eq_true rfl) ?_
    refine r_iload_n dX5_greatestBound_16 3 rfl ?_
    refine r_icmp_gt 23 dX5_greatestBound_17 (by decide) (fun c2 => ?_) (fun c2 => ?_)
    · replace hP := hP.1 c2
      refine r_iinc ((SX5_greatestBound_3 th p2 p3 μ) + (-1)) [(4, _), (0, _), (1, _), (2, _), (3, _)] dX5_greatestBound_23 4 rfl rfl (Nat.le_of_ble_eq_true rfl) rfl ?_
      refine r_goto 3 dX5_greatestBound_26 (by decide) ?_
      exact hP.elim
    · replace hP := hP.2 c2
      refine r_iload dX5_greatestBound_20 4 rfl ?_
      exact r_ireturn _ dX5_greatestBound_22 rfl rfl ⟨congrArg (fun z => some (Value.int z)) (by unfold F_X5_greatestBound; rw [if_neg (i32_ng c1)]), rfl⟩
def muX5_lift_1 (th : Nat) (p1 : Int32) (μ : Mem) : Mem := (M_X5_set th 10 p1 1 μ)
def F_X5_lift (th : Nat) (p1 : Int32) (μ : Mem) : Int32 := (if (F_X5_isDown th p1 μ) = 0 then 0 else (if (F_X5_of th 20 p1 μ) ≠ 1 then 1 else 0))
def M_X5_lift (th : Nat) (p1 : Int32) (μ : Mem) : Mem := (if (F_X5_isDown th p1 μ) = 0 then μ else (if (F_X5_of th 20 p1 μ) ≠ 1 then (muX5_lift_1 th p1 μ) else μ))
theorem bo_X5_lift (th : Nat) (p1 : Int32) (μ : Mem) : F_X5_lift th p1 μ = 0 ∨ F_X5_lift th p1 μ = 1 := by
  unfold F_X5_lift
  split
  · exact Or.inl rfl
  · split
    · exact Or.inr rfl
    · exact Or.inl rfl
set_option maxRecDepth 20000 in
set_option maxHeartbeats 2000000 in
theorem ok_X5_lift {G : SG} (hG : GK 57 G) {th : Nat} (hth : IsSt th) (p1 : Int32) (μ : Mem) : OkF G mX5_lift [.ref (ga G th), .int p1] μ (some (.int (F_X5_lift th p1 μ))) (M_X5_lift th p1 μ) := by
  refine okF_of hG rfl rfl (Nat.le_of_ble_eq_true rfl) ?_
  refine r_aload_n dX5_lift_0 0 rfl ?_
  refine r_iload_n dX5_lift_1 1 rfl ?_
  refine r_cvI (ok_X5_isDown hG hth p1 μ) lX5_74 (hth.lt hG) hth.sh ⟨_, _, rfl⟩ dX5_lift_2 (by decide) (Nat.le_of_ble_eq_true rfl) rfl (Nat.le_of_ble_eq_true rfl) ?_
  refine r_if_eq 19 dX5_lift_5 (by decide) (fun c1 => ?_) (fun c1 => ?_)
  · refine r_iconst 0 dX5_lift_19 rfl ?_
    exact r_ireturn _ dX5_lift_20 rfl rfl ⟨congrArg (fun z => some (Value.int z)) (by unfold F_X5_lift; rw [if_pos c1]), by unfold M_X5_lift; rw [if_pos c1]⟩
  · refine r_aload_n dX5_lift_8 0 rfl ?_
    refine r_bipush 20 dX5_lift_9 rfl ?_
    refine r_iload_n dX5_lift_11 1 rfl ?_
    refine r_cvI (ok_X5_of hG hth 20 p1 μ) lX5_54 (hth.lt hG) hth.sh ⟨_, _, rfl⟩ dX5_lift_12 (by decide) (Nat.le_of_ble_eq_true rfl) rfl (Nat.le_of_ble_eq_true rfl) ?_
    refine r_iconst 1 dX5_lift_15 rfl ?_
    refine r_icmp_ne 21 dX5_lift_16 (by decide) (fun c2 => ?_) (fun c2 => ?_)
    · refine r_aload_n dX5_lift_21 0 rfl ?_
      refine r_bipush 10 dX5_lift_22 rfl ?_
      refine r_iload_n dX5_lift_24 1 rfl ?_
      refine r_iconst 1 dX5_lift_25 rfl ?_
      refine r_cvV (ok_X5_set hG hth 10 p1 1 μ) lX5_41 (hth.lt hG) hth.sh ⟨_, _, rfl⟩ dX5_lift_26 (by decide) (Nat.le_of_ble_eq_true rfl) rfl (Nat.le_of_ble_eq_true rfl) ?_
      refine r_mu (muX5_lift_1 th p1 μ) rfl ?_
      refine r_iconst 1 dX5_lift_29 rfl ?_
      exact r_ireturn _ dX5_lift_30 rfl rfl ⟨congrArg (fun z => some (Value.int z)) (by unfold F_X5_lift; rw [if_neg c1, if_pos c2]), by unfold M_X5_lift; rw [if_neg c1, if_pos c2]⟩
    · refine r_iconst 0 dX5_lift_19 rfl ?_
      exact r_ireturn _ dX5_lift_20 rfl rfl ⟨congrArg (fun z => some (Value.int z)) (by unfold F_X5_lift; rw [if_neg c1, if_neg (not_not_intro c2)]), by unfold M_X5_lift; rw [if_neg c1, if_neg (not_not_intro c2)]⟩
def muX5_lower_1 (th : Nat) (p1 : Int32) (μ : Mem) : Mem := (M_X5_set th 10 p1 0 μ)
def F_X5_lower (th : Nat) (p1 : Int32) (μ : Mem) : Int32 := (if (F_X5_of th 10 p1 μ) ≠ 0 then 1 else 0)
def M_X5_lower (th : Nat) (p1 : Int32) (μ : Mem) : Mem := (if (F_X5_of th 10 p1 μ) ≠ 0 then (muX5_lower_1 th p1 μ) else μ)
theorem bo_X5_lower (th : Nat) (p1 : Int32) (μ : Mem) : F_X5_lower th p1 μ = 0 ∨ F_X5_lower th p1 μ = 1 := by
  unfold F_X5_lower
  split
  · exact Or.inr rfl
  · exact Or.inl rfl
set_option maxRecDepth 20000 in
set_option maxHeartbeats 2000000 in
theorem ok_X5_lower {G : SG} (hG : GK 57 G) {th : Nat} (hth : IsSt th) (p1 : Int32) (μ : Mem) : OkF G mX5_lower [.ref (ga G th), .int p1] μ (some (.int (F_X5_lower th p1 μ))) (M_X5_lower th p1 μ) := by
  refine okF_of hG rfl rfl (Nat.le_of_ble_eq_true rfl) ?_
  refine r_aload_n dX5_lower_0 0 rfl ?_
  refine r_bipush 10 dX5_lower_1 rfl ?_
  refine r_iload_n dX5_lower_3 1 rfl ?_
  refine r_cvI (ok_X5_of hG hth 10 p1 μ) lX5_54 (hth.lt hG) hth.sh ⟨_, _, rfl⟩ dX5_lower_4 (by decide) (Nat.le_of_ble_eq_true rfl) rfl (Nat.le_of_ble_eq_true rfl) ?_
  refine r_if_ne 12 dX5_lower_7 (by decide) (fun c1 => ?_) (fun c1 => ?_)
  · refine r_aload_n dX5_lower_12 0 rfl ?_
    refine r_bipush 10 dX5_lower_13 rfl ?_
    refine r_iload_n dX5_lower_15 1 rfl ?_
    refine r_iconst 0 dX5_lower_16 rfl ?_
    refine r_cvV (ok_X5_set hG hth 10 p1 0 μ) lX5_41 (hth.lt hG) hth.sh ⟨_, _, rfl⟩ dX5_lower_17 (by decide) (Nat.le_of_ble_eq_true rfl) rfl (Nat.le_of_ble_eq_true rfl) ?_
    refine r_mu (muX5_lower_1 th p1 μ) rfl ?_
    refine r_iconst 1 dX5_lower_20 rfl ?_
    exact r_ireturn _ dX5_lower_21 rfl rfl ⟨congrArg (fun z => some (Value.int z)) (by unfold F_X5_lower; rw [if_pos c1]), by unfold M_X5_lower; rw [if_pos c1]⟩
  · refine r_iconst 0 dX5_lower_10 rfl ?_
    exact r_ireturn _ dX5_lower_11 rfl rfl ⟨congrArg (fun z => some (Value.int z)) (by unfold F_X5_lower; rw [if_neg (not_not_intro c1)]), by unfold M_X5_lower; rw [if_neg (not_not_intro c1)]⟩
def muX5_tie_1 (th : Nat) (p1 : Int32) (μ : Mem) : Mem := (M_X5_set th 20 p1 1 μ)
def muX5_tie_2 (th : Nat) (p1 : Int32) (μ : Mem) : Mem := (M_X5_set th 30 p1 0 (muX5_tie_1 th p1 μ))
def F_X5_tie (th : Nat) (p1 : Int32) (μ : Mem) : Int32 := (if (F_X5_isDown th p1 μ) = 0 then 0 else (if (F_X5_of th 20 p1 μ) ≠ 1 then 1 else 0))
def M_X5_tie (th : Nat) (p1 : Int32) (μ : Mem) : Mem := (if (F_X5_isDown th p1 μ) = 0 then μ else (if (F_X5_of th 20 p1 μ) ≠ 1 then (muX5_tie_2 th p1 μ) else μ))
theorem bo_X5_tie (th : Nat) (p1 : Int32) (μ : Mem) : F_X5_tie th p1 μ = 0 ∨ F_X5_tie th p1 μ = 1 := by
  unfold F_X5_tie
  split
  · exact Or.inl rfl
  · split
    · exact Or.inr rfl
    · exact Or.inl rfl
set_option maxRecDepth 20000 in
set_option maxHeartbeats 2000000 in
theorem ok_X5_tie {G : SG} (hG : GK 57 G) {th : Nat} (hth : IsSt th) (p1 : Int32) (μ : Mem) : OkF G mX5_tie [.ref (ga G th), .int p1] μ (some (.int (F_X5_tie th p1 μ))) (M_X5_tie th p1 μ) := by
  refine okF_of hG rfl rfl (Nat.le_of_ble_eq_true rfl) ?_
  refine r_aload_n dX5_tie_0 0 rfl ?_
  refine r_iload_n dX5_tie_1 1 rfl ?_
  refine r_cvI (ok_X5_isDown hG hth p1 μ) lX5_74 (hth.lt hG) hth.sh ⟨_, _, rfl⟩ dX5_tie_2 (by decide) (Nat.le_of_ble_eq_true rfl) rfl (Nat.le_of_ble_eq_true rfl) ?_
  refine r_if_eq 19 dX5_tie_5 (by decide) (fun c1 => ?_) (fun c1 => ?_)
  · refine r_iconst 0 dX5_tie_19 rfl ?_
    exact r_ireturn _ dX5_tie_20 rfl rfl ⟨congrArg (fun z => some (Value.int z)) (by unfold F_X5_tie; rw [if_pos c1]), by unfold M_X5_tie; rw [if_pos c1]⟩
  · refine r_aload_n dX5_tie_8 0 rfl ?_
    refine r_bipush 20 dX5_tie_9 rfl ?_
    refine r_iload_n dX5_tie_11 1 rfl ?_
    refine r_cvI (ok_X5_of hG hth 20 p1 μ) lX5_54 (hth.lt hG) hth.sh ⟨_, _, rfl⟩ dX5_tie_12 (by decide) (Nat.le_of_ble_eq_true rfl) rfl (Nat.le_of_ble_eq_true rfl) ?_
    refine r_iconst 1 dX5_tie_15 rfl ?_
    refine r_icmp_ne 21 dX5_tie_16 (by decide) (fun c2 => ?_) (fun c2 => ?_)
    · refine r_aload_n dX5_tie_21 0 rfl ?_
      refine r_bipush 20 dX5_tie_22 rfl ?_
      refine r_iload_n dX5_tie_24 1 rfl ?_
      refine r_iconst 1 dX5_tie_25 rfl ?_
      refine r_cvV (ok_X5_set hG hth 20 p1 1 μ) lX5_41 (hth.lt hG) hth.sh ⟨_, _, rfl⟩ dX5_tie_26 (by decide) (Nat.le_of_ble_eq_true rfl) rfl (Nat.le_of_ble_eq_true rfl) ?_
      refine r_mu (muX5_tie_1 th p1 μ) rfl ?_
      refine r_aload_n dX5_tie_29 0 rfl ?_
      refine r_bipush 30 dX5_tie_30 rfl ?_
      refine r_iload_n dX5_tie_32 1 rfl ?_
      refine r_iconst 0 dX5_tie_33 rfl ?_
      refine r_cvV (ok_X5_set hG hth 30 p1 0 (muX5_tie_1 th p1 μ)) lX5_41 (hth.lt hG) hth.sh ⟨_, _, rfl⟩ dX5_tie_34 (by decide) (Nat.le_of_ble_eq_true rfl) rfl (Nat.le_of_ble_eq_true rfl) ?_
      refine r_mu (muX5_tie_2 th p1 μ) rfl ?_
      refine r_iconst 1 dX5_tie_37 rfl ?_
      exact r_ireturn _ dX5_tie_38 rfl rfl ⟨congrArg (fun z => some (Value.int z)) (by unfold F_X5_tie; rw [if_neg c1, if_pos c2]), by unfold M_X5_tie; rw [if_neg c1, if_pos c2]⟩
    · refine r_iconst 0 dX5_tie_19 rfl ?_
      exact r_ireturn _ dX5_tie_20 rfl rfl ⟨congrArg (fun z => some (Value.int z)) (by unfold F_X5_tie; rw [if_neg c1, if_neg (not_not_intro c2)]), by unfold M_X5_tie; rw [if_neg c1, if_neg (not_not_intro c2)]⟩
def muX5_untie_1 (th : Nat) (p1 : Int32) (μ : Mem) : Mem := (M_X5_set th 20 p1 0 μ)
def muX5_untie_2 (th : Nat) (p1 : Int32) (μ : Mem) : Mem := (M_X5_set th 30 p1 0 (muX5_untie_1 th p1 μ))
def F_X5_untie (th : Nat) (p1 : Int32) (μ : Mem) : Int32 := (if (F_X5_of th 20 p1 μ) ≠ 0 then 1 else 0)
def M_X5_untie (th : Nat) (p1 : Int32) (μ : Mem) : Mem := (if (F_X5_of th 20 p1 μ) ≠ 0 then (muX5_untie_2 th p1 μ) else μ)
theorem bo_X5_untie (th : Nat) (p1 : Int32) (μ : Mem) : F_X5_untie th p1 μ = 0 ∨ F_X5_untie th p1 μ = 1 := by
  unfold F_X5_untie
  split
  · exact Or.inr rfl
  · exact Or.inl rfl
set_option maxRecDepth 20000 in
set_option maxHeartbeats 2000000 in
theorem ok_X5_untie {G : SG} (hG : GK 57 G) {th : Nat} (hth : IsSt th) (p1 : Int32) (μ : Mem) : OkF G mX5_untie [.ref (ga G th), .int p1] μ (some (.int (F_X5_untie th p1 μ))) (M_X5_untie th p1 μ) := by
  refine okF_of hG rfl rfl (Nat.le_of_ble_eq_true rfl) ?_
  refine r_aload_n dX5_untie_0 0 rfl ?_
  refine r_bipush 20 dX5_untie_1 rfl ?_
  refine r_iload_n dX5_untie_3 1 rfl ?_
  refine r_cvI (ok_X5_of hG hth 20 p1 μ) lX5_54 (hth.lt hG) hth.sh ⟨_, _, rfl⟩ dX5_untie_4 (by decide) (Nat.le_of_ble_eq_true rfl) rfl (Nat.le_of_ble_eq_true rfl) ?_
  refine r_if_ne 12 dX5_untie_7 (by decide) (fun c1 => ?_) (fun c1 => ?_)
  · refine r_aload_n dX5_untie_12 0 rfl ?_
    refine r_bipush 20 dX5_untie_13 rfl ?_
    refine r_iload_n dX5_untie_15 1 rfl ?_
    refine r_iconst 0 dX5_untie_16 rfl ?_
    refine r_cvV (ok_X5_set hG hth 20 p1 0 μ) lX5_41 (hth.lt hG) hth.sh ⟨_, _, rfl⟩ dX5_untie_17 (by decide) (Nat.le_of_ble_eq_true rfl) rfl (Nat.le_of_ble_eq_true rfl) ?_
    refine r_mu (muX5_untie_1 th p1 μ) rfl ?_
    refine r_aload_n dX5_untie_20 0 rfl ?_
    refine r_bipush 30 dX5_untie_21 rfl ?_
    refine r_iload_n dX5_untie_23 1 rfl ?_
    refine r_iconst 0 dX5_untie_24 rfl ?_
    refine r_cvV (ok_X5_set hG hth 30 p1 0 (muX5_untie_1 th p1 μ)) lX5_41 (hth.lt hG) hth.sh ⟨_, _, rfl⟩ dX5_untie_25 (by decide) (Nat.le_of_ble_eq_true rfl) rfl (Nat.le_of_ble_eq_true rfl) ?_
    refine r_mu (muX5_untie_2 th p1 μ) rfl ?_
    refine r_iconst 1 dX5_untie_28 rfl ?_
    exact r_ireturn _ dX5_untie_29 rfl rfl ⟨congrArg (fun z => some (Value.int z)) (by unfold F_X5_untie; rw [if_pos c1]), by unfold M_X5_untie; rw [if_pos c1]⟩
  · refine r_iconst 0 dX5_untie_10 rfl ?_
    exact r_ireturn _ dX5_untie_11 rfl rfl ⟨congrArg (fun z => some (Value.int z)) (by unfold F_X5_untie; rw [if_neg (not_not_intro c1)]), by unfold M_X5_untie; rw [if_neg (not_not_intro c1)]⟩
def muX5_addBag_1 (th : Nat) (p1 : Int32) (μ : Mem) : Mem := (M_X5_set th 56 p1 ((F_X5_of th 56 p1 μ) + 1) μ)
def muX5_addBag_2 (th : Nat) (p1 : Int32) (μ : Mem) : Mem := (M_X5_set th 50 p1 ((F_X5_of th 50 p1 (muX5_addBag_1 th p1 μ)) + 2) (muX5_addBag_1 th p1 μ))
def F_X5_addBag (th : Nat) (p1 : Int32) (μ : Mem) : Int32 := (if (F_X5_of th 56 p1 μ) < 9 then 1 else 0)
def M_X5_addBag (th : Nat) (p1 : Int32) (μ : Mem) : Mem := (if (F_X5_of th 56 p1 μ) < 9 then (muX5_addBag_2 th p1 μ) else μ)
theorem bo_X5_addBag (th : Nat) (p1 : Int32) (μ : Mem) : F_X5_addBag th p1 μ = 0 ∨ F_X5_addBag th p1 μ = 1 := by
  unfold F_X5_addBag
  split
  · exact Or.inr rfl
  · exact Or.inl rfl
set_option maxRecDepth 20000 in
set_option maxHeartbeats 2000000 in
theorem ok_X5_addBag {G : SG} (hG : GK 57 G) {th : Nat} (hth : IsSt th) (p1 : Int32) (μ : Mem) : OkF G mX5_addBag [.ref (ga G th), .int p1] μ (some (.int (F_X5_addBag th p1 μ))) (M_X5_addBag th p1 μ) := by
  refine okF_of hG rfl rfl (Nat.le_of_ble_eq_true rfl) ?_
  refine r_aload_n dX5_addBag_0 0 rfl ?_
  refine r_bipush 56 dX5_addBag_1 rfl ?_
  refine r_iload_n dX5_addBag_3 1 rfl ?_
  refine r_cvI (ok_X5_of hG hth 56 p1 μ) lX5_54 (hth.lt hG) hth.sh ⟨_, _, rfl⟩ dX5_addBag_4 (by decide) (Nat.le_of_ble_eq_true rfl) rfl (Nat.le_of_ble_eq_true rfl) ?_
  refine r_bipush 9 dX5_addBag_7 rfl ?_
  refine r_icmp_lt 14 dX5_addBag_9 (by decide) (fun c1 => ?_) (fun c1 => ?_)
  · refine r_aload_n dX5_addBag_14 0 rfl ?_
    refine r_bipush 56 dX5_addBag_15 rfl ?_
    refine r_iload_n dX5_addBag_17 1 rfl ?_
    refine r_aload_n dX5_addBag_18 0 rfl ?_
    refine r_bipush 56 dX5_addBag_19 rfl ?_
    refine r_iload_n dX5_addBag_21 1 rfl ?_
    refine r_cvI (ok_X5_of hG hth 56 p1 μ) lX5_54 (hth.lt hG) hth.sh ⟨_, _, rfl⟩ dX5_addBag_22 (by decide) (Nat.le_of_ble_eq_true rfl) rfl (Nat.le_of_ble_eq_true rfl) ?_
    refine r_iconst 1 dX5_addBag_25 rfl ?_
    refine r_iadd dX5_addBag_26 ?_
    refine r_cvV (ok_X5_set hG hth 56 p1 ((F_X5_of th 56 p1 μ) + 1) μ) lX5_41 (hth.lt hG) hth.sh ⟨_, _, rfl⟩ dX5_addBag_27 (by decide) (Nat.le_of_ble_eq_true rfl) rfl (Nat.le_of_ble_eq_true rfl) ?_
    refine r_mu (muX5_addBag_1 th p1 μ) rfl ?_
    refine r_aload_n dX5_addBag_30 0 rfl ?_
    refine r_bipush 50 dX5_addBag_31 rfl ?_
    refine r_iload_n dX5_addBag_33 1 rfl ?_
    refine r_aload_n dX5_addBag_34 0 rfl ?_
    refine r_bipush 50 dX5_addBag_35 rfl ?_
    refine r_iload_n dX5_addBag_37 1 rfl ?_
    refine r_cvI (ok_X5_of hG hth 50 p1 (muX5_addBag_1 th p1 μ)) lX5_54 (hth.lt hG) hth.sh ⟨_, _, rfl⟩ dX5_addBag_38 (by decide) (Nat.le_of_ble_eq_true rfl) rfl (Nat.le_of_ble_eq_true rfl) ?_
    refine r_iconst 2 dX5_addBag_41 rfl ?_
    refine r_iadd dX5_addBag_42 ?_
    refine r_cvV (ok_X5_set hG hth 50 p1 ((F_X5_of th 50 p1 (muX5_addBag_1 th p1 μ)) + 2) (muX5_addBag_1 th p1 μ)) lX5_41 (hth.lt hG) hth.sh ⟨_, _, rfl⟩ dX5_addBag_43 (by decide) (Nat.le_of_ble_eq_true rfl) rfl (Nat.le_of_ble_eq_true rfl) ?_
    refine r_mu (muX5_addBag_2 th p1 μ) rfl ?_
    refine r_iconst 1 dX5_addBag_46 rfl ?_
    exact r_ireturn _ dX5_addBag_47 rfl rfl ⟨congrArg (fun z => some (Value.int z)) (by unfold F_X5_addBag; rw [if_pos c1]), by unfold M_X5_addBag; rw [if_pos c1]⟩
  · refine r_iconst 0 dX5_addBag_12 rfl ?_
    exact r_ireturn _ dX5_addBag_13 rfl rfl ⟨congrArg (fun z => some (Value.int z)) (by unfold F_X5_addBag; rw [if_neg (i32_nl c1)]), by unfold M_X5_addBag; rw [if_neg (i32_nl c1)]⟩
def muX5_comeIn_1 (th : Nat) (μ : Mem) : Mem := (M_X5_pass th (F_X7_heightOf (F_X5_tideToCome th μ) μ) μ)
def muX5_comeIn_2 (th : Nat) (μ : Mem) : Mem := (M_X5_payDues th ((muX5_comeIn_1 th μ) 3 12) (muX5_comeIn_1 th μ))
def F_X5_comeIn (th : Nat) (μ : Mem) : Int32 := (if (F_X5_tideToCome th μ) < 500 then 1 else 0)
def M_X5_comeIn (th : Nat) (μ : Mem) : Mem := (if (F_X5_tideToCome th μ) < 500 then (muX5_comeIn_2 th μ) else μ)
def P_X5_comeIn (th : Nat) (μ : Mem) : Prop := (((F_X5_tideToCome th μ) < 500 → ((P_X7_heightOf (F_X5_tideToCome th μ) μ) ∧ ((P_X5_pass th (F_X7_heightOf (F_X5_tideToCome th μ) μ) μ) ∧ (P_X5_payDues th ((muX5_comeIn_1 th μ) 3 12) (muX5_comeIn_1 th μ))))) ∧ (500 ≤ (F_X5_tideToCome th μ) → True))
theorem bo_X5_comeIn (th : Nat) (μ : Mem) : F_X5_comeIn th μ = 0 ∨ F_X5_comeIn th μ = 1 := by
  unfold F_X5_comeIn
  split
  · exact Or.inr rfl
  · exact Or.inl rfl
set_option maxRecDepth 20000 in
set_option maxHeartbeats 2000000 in
theorem ok_X5_comeIn {G : SG} (hG : GK 57 G) {th : Nat} (hth : IsSt th) (μ : Mem) (hP : P_X5_comeIn th μ) : OkF G mX5_comeIn [.ref (ga G th), .ref (ga G 3), .ref (ga G 21)] μ (some (.int (F_X5_comeIn th μ))) (M_X5_comeIn th μ) := by
  refine okF_of hG rfl rfl (Nat.le_of_ble_eq_true rfl) ?_
  unfold P_X5_comeIn at hP
  refine r_aload_n dX5_comeIn_0 0 rfl ?_
  refine r_cvI (ok_X5_tideToCome hG hth μ) lX5_77 (hth.lt hG) hth.sh ⟨_, _, rfl⟩ dX5_comeIn_1 (by decide) (Nat.le_of_ble_eq_true rfl) rfl (Nat.le_of_ble_eq_true rfl) ?_
  refine r_sipush 500 dX5_comeIn_4 rfl ?_
  refine r_icmp_lt 12 dX5_comeIn_7 (by decide) (fun c1 => ?_) (fun c1 => ?_)
  · replace hP := hP.1 c1
    refine r_aload_n dX5_comeIn_12 0 rfl ?_
    refine r_aload_n dX5_comeIn_13 1 rfl ?_
    refine r_aload_n dX5_comeIn_14 1 rfl ?_
    refine r_aload_n dX5_comeIn_15 0 rfl ?_
    refine r_cvI (ok_X5_tideToCome hG hth μ) lX5_77 (hth.lt hG) hth.sh ⟨_, _, rfl⟩ dX5_comeIn_16 (by decide) (Nat.le_of_ble_eq_true rfl) rfl (Nat.le_of_ble_eq_true rfl) ?_
    have hs1 := hP.1
    replace hP := hP.2
    refine r_cvI (ok_X7_heightOf hG (F_X5_tideToCome th μ) μ hs1) lX5_81 (hG.lt (by decide)) sh3 ⟨_, _, rfl⟩ dX5_comeIn_19 (by decide) (Nat.le_of_ble_eq_true rfl) rfl (Nat.le_of_ble_eq_true rfl) ?_
    have hs2 := hP.1
    replace hP := hP.2
    refine r_cvV (ok_X5_pass hG hth (F_X7_heightOf (F_X5_tideToCome th μ) μ) μ hs2) lX5_85 (hth.lt hG) hth.sh ⟨_, _, rfl⟩ dX5_comeIn_22 (by decide) (Nat.le_of_ble_eq_true rfl) rfl (Nat.le_of_ble_eq_true rfl) ?_
    refine r_mu (muX5_comeIn_1 th μ) rfl ?_
    refine r_aload_n dX5_comeIn_25 0 rfl ?_
    refine r_aload_n dX5_comeIn_26 1 rfl ?_
    refine r_aload_n dX5_comeIn_27 2 rfl ?_
    refine r_aload_n dX5_comeIn_28 1 rfl ?_
    refine r_getI fX5_89 (hG.lt (by decide)) sh3 fs3_12 dX5_comeIn_29 ?_
    have hs3 := hP
    refine r_cvV (ok_X5_payDues hG hth ((muX5_comeIn_1 th μ) 3 12) (muX5_comeIn_1 th μ) hs3) lX5_92 (hth.lt hG) hth.sh ⟨_, _, rfl⟩ dX5_comeIn_32 (by decide) (Nat.le_of_ble_eq_true rfl) rfl (Nat.le_of_ble_eq_true rfl) ?_
    refine r_mu (muX5_comeIn_2 th μ) rfl ?_
    refine r_iconst 1 dX5_comeIn_35 rfl ?_
    exact r_ireturn _ dX5_comeIn_36 rfl rfl ⟨congrArg (fun z => some (Value.int z)) (by unfold F_X5_comeIn; rw [if_pos c1]), by unfold M_X5_comeIn; rw [if_pos c1]⟩
  · replace hP := hP.2 c1
    refine r_iconst 0 dX5_comeIn_10 rfl ?_
    exact r_ireturn _ dX5_comeIn_11 rfl rfl ⟨congrArg (fun z => some (Value.int z)) (by unfold F_X5_comeIn; rw [if_neg (i32_nl c1)]), by unfold M_X5_comeIn; rw [if_neg (i32_nl c1)]⟩
def muX6_add_1 (p1 : Int32) (p2 : Int32) (μ : Mem) : Mem := (M_X9_put 32 150 (μ 31 5) p1 μ)
def muX6_add_2 (p1 : Int32) (p2 : Int32) (μ : Mem) : Mem := (M_X9_put 33 150 ((muX6_add_1 p1 p2 μ) 31 5) p2 (muX6_add_1 p1 p2 μ))
def muX6_add_3 (p1 : Int32) (p2 : Int32) (μ : Mem) : Mem := (upm (muX6_add_2 p1 p2 μ) 31 5 (((muX6_add_2 p1 p2 μ) 31 5) + 1))
def M_X6_add (p1 : Int32) (p2 : Int32) (μ : Mem) : Mem := (muX6_add_3 p1 p2 μ)
set_option maxRecDepth 20000 in
set_option maxHeartbeats 2000000 in
theorem ok_X6_add {G : SG} (hG : GK 57 G) (p1 : Int32) (p2 : Int32) (μ : Mem) : OkF G mX6_add [.ref (ga G 31), .int p1, .int p2] μ none (M_X6_add p1 p2 μ) := by
  refine okF_of hG rfl rfl (Nat.le_of_ble_eq_true rfl) ?_
  refine r_aload_n dX6_add_0 0 rfl ?_
  refine r_getR 32 fX6_9 (hG.lt (by decide)) sh31 fs31_0 dX6_add_1 ?_
  refine r_aload_n dX6_add_4 0 rfl ?_
  refine r_getI fX6_27 (hG.lt (by decide)) sh31 fs31_5 dX6_add_5 ?_
  refine r_iload_n dX6_add_8 1 rfl ?_
  refine r_csV (ok_X9_put hG (hG.lt (by decide)) sh32 (μ 31 5) p1 μ) lX6_31 dX6_add_9 (by decide) (Nat.le_of_ble_eq_true rfl) rfl (Nat.le_of_ble_eq_true rfl) ?_
  refine r_mu (muX6_add_1 p1 p2 μ) rfl ?_
  refine r_aload_n dX6_add_12 0 rfl ?_
  refine r_getR 33 fX6_15 (hG.lt (by decide)) sh31 fs31_1 dX6_add_13 ?_
  refine r_aload_n dX6_add_16 0 rfl ?_
  refine r_getI fX6_27 (hG.lt (by decide)) sh31 fs31_5 dX6_add_17 ?_
  refine r_iload_n dX6_add_20 2 rfl ?_
  refine r_csV (ok_X9_put hG (hG.lt (by decide)) sh33 ((muX6_add_1 p1 p2 μ) 31 5) p2 (muX6_add_1 p1 p2 μ)) lX6_31 dX6_add_21 (by decide) (Nat.le_of_ble_eq_true rfl) rfl (Nat.le_of_ble_eq_true rfl) ?_
  refine r_mu (muX6_add_2 p1 p2 μ) rfl ?_
  refine r_aload_n dX6_add_24 0 rfl ?_
  refine r_dup dX6_add_25 rfl ?_
  refine r_getI fX6_27 (hG.lt (by decide)) sh31 fs31_5 dX6_add_26 ?_
  refine r_iconst 1 dX6_add_29 rfl ?_
  refine r_iadd dX6_add_30 ?_
  refine r_put fiX6_27 (hG.lt (by decide)) sh31 fs31_5 dX6_add_31 ?_
  refine r_mu (muX6_add_3 p1 p2 μ) rfl ?_
  exact r_return dX6_add_34 rfl ⟨rfl, rfl⟩
def muX8_skipSign_1 (μ : Mem) : Mem := (upm μ 1 3 ((μ 1 3) + 1))
def M_X8_skipSign  (μ : Mem) : Mem := (muX8_skipSign_1 μ)
set_option maxRecDepth 20000 in
set_option maxHeartbeats 2000000 in
theorem ok_X8_skipSign {G : SG} (hG : GK 57 G)  (μ : Mem) : OkF G mX8_skipSign [.ref (ga G 1)] μ none (M_X8_skipSign  μ) := by
  refine okF_of hG rfl rfl (Nat.le_of_ble_eq_true rfl) ?_
  refine r_aload_n dX8_skipSign_0 0 rfl ?_
  refine r_dup dX8_skipSign_1 rfl ?_
  refine r_getI fX8_29 (hG.lt (by decide)) sh1 fs1_3 dX8_skipSign_2 ?_
  refine r_iconst 1 dX8_skipSign_5 rfl ?_
  refine r_iadd dX8_skipSign_6 ?_
  refine r_put fiX8_29 (hG.lt (by decide)) sh1 fs1_3 dX8_skipSign_7 ?_
  refine r_mu (muX8_skipSign_1 μ) rfl ?_
  exact r_return dX8_skipSign_10 rfl ⟨rfl, rfl⟩
def muX6_readEnd_1 (μ : Mem) : Mem := (M_X8_skipSign  μ)
def muX6_readEnd_2 (μ : Mem) : Mem := (upm (muX6_readEnd_1 μ) 31 6 (((muX6_readEnd_1 μ) 31 6) - 1))
def muX6_readEnd_3 (μ : Mem) : Mem := (M_X9_put 34 150 (F_X9_at 35 6 ((muX6_readEnd_2 μ) 31 6) (muX6_readEnd_2 μ)) ((muX6_readEnd_2 μ) 31 5) (muX6_readEnd_2 μ))
def muX6_readEnd_4 (μ : Mem) : Mem := (M_X9_put 34 150 ((muX6_readEnd_3 μ) 31 5) (F_X9_at 35 6 ((muX6_readEnd_2 μ) 31 6) (muX6_readEnd_2 μ)) (muX6_readEnd_3 μ))
def muX6_readEnd_5 (μ : Mem) : Mem := (M_X6_add 7 0 (muX6_readEnd_4 μ))
def muX6_readEnd_6 (μ : Mem) : Mem := (M_X8_takeSign 59 (muX6_readEnd_5 μ))
def F_X6_readEnd  (μ : Mem) : Int32 := (F_X8_takeSign 59 (muX6_readEnd_5 μ))
def M_X6_readEnd  (μ : Mem) : Mem := (muX6_readEnd_6 μ)
def P_X6_readEnd  (μ : Mem) : Prop := (P_X8_takeSign 59 (muX6_readEnd_5 μ))
theorem bo_X6_readEnd  (μ : Mem) : F_X6_readEnd  μ = 0 ∨ F_X6_readEnd  μ = 1 := by
  unfold F_X6_readEnd
  exact (bo_X8_takeSign 59 (muX6_readEnd_5 μ))
set_option maxRecDepth 20000 in
set_option maxHeartbeats 2000000 in
theorem ok_X6_readEnd {G : SG} (hG : GK 57 G)  (μ : Mem) (hP : P_X6_readEnd  μ) : OkF G mX6_readEnd [.ref (ga G 31), .ref (ga G 1)] μ (some (.int (F_X6_readEnd  μ))) (M_X6_readEnd  μ) := by
  refine okF_of hG rfl rfl (Nat.le_of_ble_eq_true rfl) ?_
  unfold P_X6_readEnd at hP
  refine r_aload_n dX6_readEnd_0 1 rfl ?_
  refine r_cvV (ok_X8_skipSign hG  μ) lX6_60 (hG.lt (by decide)) sh1 ⟨_, _, rfl⟩ dX6_readEnd_1 (by decide) (Nat.le_of_ble_eq_true rfl) rfl (Nat.le_of_ble_eq_true rfl) ?_
  refine r_mu (muX6_readEnd_1 μ) rfl ?_
  refine r_aload_n dX6_readEnd_4 0 rfl ?_
  refine r_dup dX6_readEnd_5 rfl ?_
  refine r_getI fX6_35 (hG.lt (by decide)) sh31 fs31_6 dX6_readEnd_6 ?_
  refine r_iconst 1 dX6_readEnd_9 rfl ?_
  refine r_isub dX6_readEnd_10 ?_
  refine r_put fiX6_35 (hG.lt (by decide)) sh31 fs31_6 dX6_readEnd_11 ?_
  refine r_mu (muX6_readEnd_2 μ) rfl ?_
  refine r_aload_n dX6_readEnd_14 0 rfl ?_
  refine r_getR 35 fX6_21 (hG.lt (by decide)) sh31 fs31_3 dX6_readEnd_15 ?_
  refine r_aload_n dX6_readEnd_18 0 rfl ?_
  refine r_getI fX6_35 (hG.lt (by decide)) sh31 fs31_6 dX6_readEnd_19 ?_
  refine r_csI (ok_X9_at hG (hG.lt (by decide)) sh35 ((muX6_readEnd_2 μ) 31 6) (muX6_readEnd_2 μ)) lX6_63 dX6_readEnd_22 (by decide) (Nat.le_of_ble_eq_true rfl) rfl (Nat.le_of_ble_eq_true rfl) ?_
  refine r_istore_n [(2, _), (0, _), (1, _)] dX6_readEnd_25 (Nat.le_of_ble_eq_true rfl) rfl ?_
  refine r_aload_n dX6_readEnd_26 1 rfl ?_
  refine r_getR 34 fX6_18 (hG.lt (by decide)) sh31 fs31_2 dX6_readEnd_27 ?_
  refine r_iload_n dX6_readEnd_30 0 rfl ?_
  refine r_aload_n dX6_readEnd_31 1 rfl ?_
  refine r_getI fX6_27 (hG.lt (by decide)) sh31 fs31_5 dX6_readEnd_32 ?_
  refine r_csV (ok_X9_put hG (hG.lt (by decide)) sh34 (F_X9_at 35 6 ((muX6_readEnd_2 μ) 31 6) (muX6_readEnd_2 μ)) ((muX6_readEnd_2 μ) 31 5) (muX6_readEnd_2 μ)) lX6_31 dX6_readEnd_35 (by decide) (Nat.le_of_ble_eq_true rfl) rfl (Nat.le_of_ble_eq_true rfl) ?_
  refine r_mu (muX6_readEnd_3 μ) rfl ?_
  refine r_aload_n dX6_readEnd_38 1 rfl ?_
  refine r_getR 34 fX6_18 (hG.lt (by decide)) sh31 fs31_2 dX6_readEnd_39 ?_
  refine r_aload_n dX6_readEnd_42 1 rfl ?_
  refine r_getI fX6_27 (hG.lt (by decide)) sh31 fs31_5 dX6_readEnd_43 ?_
  refine r_iload_n dX6_readEnd_46 0 rfl ?_
  refine r_csV (ok_X9_put hG (hG.lt (by decide)) sh34 ((muX6_readEnd_3 μ) 31 5) (F_X9_at 35 6 ((muX6_readEnd_2 μ) 31 6) (muX6_readEnd_2 μ)) (muX6_readEnd_3 μ)) lX6_31 dX6_readEnd_47 (by decide) (Nat.le_of_ble_eq_true rfl) rfl (Nat.le_of_ble_eq_true rfl) ?_
  refine r_mu (muX6_readEnd_4 μ) rfl ?_
  refine r_aload_n dX6_readEnd_50 1 rfl ?_
  refine r_bipush 7 dX6_readEnd_51 rfl ?_
  refine r_iconst 0 dX6_readEnd_53 rfl ?_
  refine r_cvV (ok_X6_add hG 7 0 (muX6_readEnd_4 μ)) lX6_67 (hG.lt (by decide)) sh31 ⟨_, _, rfl⟩ dX6_readEnd_54 (by decide) (Nat.le_of_ble_eq_true rfl) rfl (Nat.le_of_ble_eq_true rfl) ?_
  refine r_mu (muX6_readEnd_5 μ) rfl ?_
  refine r_aload_n dX6_readEnd_57 2 rfl ?_
  refine r_bipush 59 dX6_readEnd_58 rfl ?_
  have hs1 := hP
  refine r_cvI (ok_X8_takeSign hG 59 (muX6_readEnd_5 μ) hs1) lX6_71 (hG.lt (by decide)) sh1 ⟨_, _, rfl⟩ dX6_readEnd_60 (by decide) (Nat.le_of_ble_eq_true rfl) rfl (Nat.le_of_ble_eq_true rfl) ?_
  refine r_mu (muX6_readEnd_6 μ) rfl ?_
  exact r_ireturn _ dX6_readEnd_63 rfl (nb01 ((bo_X8_takeSign 59 (muX6_readEnd_5 μ)))) ⟨congrArg (fun z => some (Value.int z)) (rfl), rfl⟩
def F_X6_kindOf  (μ : Mem) : Int32 := (if (F_X8_isWord 13 μ) = 0 then (if (F_X8_isWord 14 μ) = 0 then (if (F_X8_isWord 15 μ) = 0 then (if (F_X8_isWord 16 μ) = 0 then (if (F_X8_isWord 17 μ) = 0 then (if (F_X8_isWord 3 μ) = 0 then (if (F_X8_isWord 18 μ) = 0 then (-1) else 6) else 5) else 4) else 3) else 2) else 1) else 0)
def P_X6_kindOf  (μ : Mem) : Prop := ((P_X8_isWord 13 μ) ∧ (((F_X8_isWord 13 μ) = 0 → ((P_X8_isWord 14 μ) ∧ (((F_X8_isWord 14 μ) = 0 → ((P_X8_isWord 15 μ) ∧ (((F_X8_isWord 15 μ) = 0 → ((P_X8_isWord 16 μ) ∧ (((F_X8_isWord 16 μ) = 0 → ((P_X8_isWord 17 μ) ∧ (((F_X8_isWord 17 μ) = 0 → ((P_X8_isWord 3 μ) ∧ (((F_X8_isWord 3 μ) = 0 → (P_X8_isWord 18 μ)) ∧ (¬ (F_X8_isWord 3 μ) = 0 → True)))) ∧ (¬ (F_X8_isWord 17 μ) = 0 → True)))) ∧ (¬ (F_X8_isWord 16 μ) = 0 → True)))) ∧ (¬ (F_X8_isWord 15 μ) = 0 → True)))) ∧ (¬ (F_X8_isWord 14 μ) = 0 → True)))) ∧ (¬ (F_X8_isWord 13 μ) = 0 → True)))
set_option maxRecDepth 20000 in
set_option maxHeartbeats 2000000 in
theorem ok_X6_kindOf {G : SG} (hG : GK 57 G)  (μ : Mem) (hP : P_X6_kindOf  μ) : OkF G mX6_kindOf [.ref (ga G 1)] μ (some (.int (F_X6_kindOf  μ))) μ := by
  refine okF_of hG rfl rfl (Nat.le_of_ble_eq_true rfl) ?_
  unfold P_X6_kindOf at hP
  refine r_aload_n dX6_kindOf_0 0 rfl ?_
  refine r_ldcS (k := 13) (tx := "lift") (by decide) dX6_kindOf_1 ?_
  have hs1 := hP.1
  replace hP := hP.2
  refine r_cvI (ok_X8_isWord hG (show 13 < nStr by decide) μ hs1) lX6_101 (hG.lt (by decide)) sh1 ⟨_, _, rfl⟩ dX6_kindOf_3 (by decide) (Nat.le_of_ble_eq_true rfl) rfl (Nat.le_of_ble_eq_true rfl) ?_
  refine r_if_eq 13 dX6_kindOf_6 (by decide) (fun c1 => ?_) (fun c1 => ?_)
  · replace hP := hP.1 c1
    refine r_aload_n dX6_kindOf_13 0 rfl ?_
    refine r_ldcS (k := 14) (tx := "lower") (by decide) dX6_kindOf_14 ?_
    have hs2 := hP.1
    replace hP := hP.2
    refine r_cvI (ok_X8_isWord hG (show 14 < nStr by decide) μ hs2) lX6_101 (hG.lt (by decide)) sh1 ⟨_, _, rfl⟩ dX6_kindOf_16 (by decide) (Nat.le_of_ble_eq_true rfl) rfl (Nat.le_of_ble_eq_true rfl) ?_
    refine r_if_eq 26 dX6_kindOf_19 (by decide) (fun c2 => ?_) (fun c2 => ?_)
    · replace hP := hP.1 c2
      refine r_aload_n dX6_kindOf_26 0 rfl ?_
      refine r_ldcS (k := 15) (tx := "tie") (by decide) dX6_kindOf_27 ?_
      have hs3 := hP.1
      replace hP := hP.2
      refine r_cvI (ok_X8_isWord hG (show 15 < nStr by decide) μ hs3) lX6_101 (hG.lt (by decide)) sh1 ⟨_, _, rfl⟩ dX6_kindOf_29 (by decide) (Nat.le_of_ble_eq_true rfl) rfl (Nat.le_of_ble_eq_true rfl) ?_
      refine r_if_eq 39 dX6_kindOf_32 (by decide) (fun c3 => ?_) (fun c3 => ?_)
      · replace hP := hP.1 c3
        refine r_aload_n dX6_kindOf_39 0 rfl ?_
        refine r_ldcS (k := 16) (tx := "untie") (by decide) dX6_kindOf_40 ?_
        have hs4 := hP.1
        replace hP := hP.2
        refine r_cvI (ok_X8_isWord hG (show 16 < nStr by decide) μ hs4) lX6_101 (hG.lt (by decide)) sh1 ⟨_, _, rfl⟩ dX6_kindOf_42 (by decide) (Nat.le_of_ble_eq_true rfl) rfl (Nat.le_of_ble_eq_true rfl) ?_
        refine r_if_eq 52 dX6_kindOf_45 (by decide) (fun c4 => ?_) (fun c4 => ?_)
        · replace hP := hP.1 c4
          refine r_aload_n dX6_kindOf_52 0 rfl ?_
          refine r_ldcS (k := 17) (tx := "bag") (by decide) dX6_kindOf_53 ?_
          have hs5 := hP.1
          replace hP := hP.2
          refine r_cvI (ok_X8_isWord hG (show 17 < nStr by decide) μ hs5) lX6_101 (hG.lt (by decide)) sh1 ⟨_, _, rfl⟩ dX6_kindOf_55 (by decide) (Nat.le_of_ble_eq_true rfl) rfl (Nat.le_of_ble_eq_true rfl) ?_
          refine r_if_eq 65 dX6_kindOf_58 (by decide) (fun c5 => ?_) (fun c5 => ?_)
          · replace hP := hP.1 c5
            refine r_aload_n dX6_kindOf_65 0 rfl ?_
            refine r_ldcS (k := 3) (tx := "tide") (by decide) dX6_kindOf_66 ?_
            have hs6 := hP.1
            replace hP := hP.2
            refine r_cvI (ok_X8_isWord hG (show 3 < nStr by decide) μ hs6) lX6_101 (hG.lt (by decide)) sh1 ⟨_, _, rfl⟩ dX6_kindOf_68 (by decide) (Nat.le_of_ble_eq_true rfl) rfl (Nat.le_of_ble_eq_true rfl) ?_
            refine r_if_eq 78 dX6_kindOf_71 (by decide) (fun c6 => ?_) (fun c6 => ?_)
            · replace hP := hP.1 c6
              refine r_aload_n dX6_kindOf_78 0 rfl ?_
              refine r_ldcS (k := 18) (tx := "again") (by decide) dX6_kindOf_79 ?_
              have hs7 := hP
              refine r_cvI (ok_X8_isWord hG (show 18 < nStr by decide) μ hs7) lX6_101 (hG.lt (by decide)) sh1 ⟨_, _, rfl⟩ dX6_kindOf_81 (by decide) (Nat.le_of_ble_eq_true rfl) rfl (Nat.le_of_ble_eq_true rfl) ?_
              refine r_if_eq 92 dX6_kindOf_84 (by decide) (fun c7 => ?_) (fun c7 => ?_)
              · refine r_iconst (-1) dX6_kindOf_92 rfl ?_
                exact r_ireturn _ dX6_kindOf_93 rfl rfl ⟨congrArg (fun z => some (Value.int z)) (by unfold F_X6_kindOf; rw [if_pos c1, if_pos c2, if_pos c3, if_pos c4, if_pos c5, if_pos c6, if_pos c7]), rfl⟩
              · refine r_bipush 6 dX6_kindOf_87 rfl ?_
                refine r_goto 93 dX6_kindOf_89 (by decide) ?_
                exact r_ireturn _ dX6_kindOf_93 rfl rfl ⟨congrArg (fun z => some (Value.int z)) (by unfold F_X6_kindOf; rw [if_pos c1, if_pos c2, if_pos c3, if_pos c4, if_pos c5, if_pos c6, if_neg c7]), rfl⟩
            · replace hP := hP.2 c6
              refine r_iconst 5 dX6_kindOf_74 rfl ?_
              refine r_goto 93 dX6_kindOf_75 (by decide) ?_
              exact r_ireturn _ dX6_kindOf_93 rfl rfl ⟨congrArg (fun z => some (Value.int z)) (by unfold F_X6_kindOf; rw [if_pos c1, if_pos c2, if_pos c3, if_pos c4, if_pos c5, if_neg c6]), rfl⟩
          · replace hP := hP.2 c5
            refine r_iconst 4 dX6_kindOf_61 rfl ?_
            refine r_goto 93 dX6_kindOf_62 (by decide) ?_
            exact r_ireturn _ dX6_kindOf_93 rfl rfl ⟨congrArg (fun z => some (Value.int z)) (by unfold F_X6_kindOf; rw [if_pos c1, if_pos c2, if_pos c3, if_pos c4, if_neg c5]), rfl⟩
        · replace hP := hP.2 c4
          refine r_iconst 3 dX6_kindOf_48 rfl ?_
          refine r_goto 93 dX6_kindOf_49 (by decide) ?_
          exact r_ireturn _ dX6_kindOf_93 rfl rfl ⟨congrArg (fun z => some (Value.int z)) (by unfold F_X6_kindOf; rw [if_pos c1, if_pos c2, if_pos c3, if_neg c4]), rfl⟩
      · replace hP := hP.2 c3
        refine r_iconst 2 dX6_kindOf_35 rfl ?_
        refine r_goto 93 dX6_kindOf_36 (by decide) ?_
        exact r_ireturn _ dX6_kindOf_93 rfl rfl ⟨congrArg (fun z => some (Value.int z)) (by unfold F_X6_kindOf; rw [if_pos c1, if_pos c2, if_neg c3]), rfl⟩
    · replace hP := hP.2 c2
      refine r_iconst 1 dX6_kindOf_22 rfl ?_
      refine r_goto 93 dX6_kindOf_23 (by decide) ?_
      exact r_ireturn _ dX6_kindOf_93 rfl rfl ⟨congrArg (fun z => some (Value.int z)) (by unfold F_X6_kindOf; rw [if_pos c1, if_neg c2]), rfl⟩
  · replace hP := hP.2 c1
    refine r_iconst 0 dX6_kindOf_9 rfl ?_
    refine r_goto 93 dX6_kindOf_10 (by decide) ?_
    exact r_ireturn _ dX6_kindOf_93 rfl rfl ⟨congrArg (fun z => some (Value.int z)) (by unfold F_X6_kindOf; rw [if_neg c1]), rfl⟩
def muX6_readAgain_1 (μ : Mem) : Mem := (M_X8_takeNumber 0 20 μ)
def muX6_readAgain_2 (μ : Mem) : Mem := (M_X9_put 35 6 ((muX6_readAgain_1 μ) 31 6) ((muX6_readAgain_1 μ) 31 5) (muX6_readAgain_1 μ))
def muX6_readAgain_3 (μ : Mem) : Mem := (upm (muX6_readAgain_2 μ) 31 6 (((muX6_readAgain_2 μ) 31 6) + 1))
def muX6_readAgain_4 (μ : Mem) : Mem := (M_X6_add 6 (F_X8_takeNumber 0 20 μ) (muX6_readAgain_3 μ))
def muX6_readAgain_5 (μ : Mem) : Mem := (M_X8_takeSign 91 (muX6_readAgain_4 μ))
def muX6_readAgain_6 (μ : Mem) : Mem := (M_X8_failToken 3 μ)
def F_X6_readAgain  (μ : Mem) : Int32 := (if (μ 31 6) < 6 then (if (F_X8_takeNumber 0 20 μ) ≠ (-1) then (F_X8_takeSign 91 (muX6_readAgain_4 μ)) else 0) else (F_X8_failToken 3 μ))
def M_X6_readAgain  (μ : Mem) : Mem := (if (μ 31 6) < 6 then (if (F_X8_takeNumber 0 20 μ) ≠ (-1) then (muX6_readAgain_5 μ) else (muX6_readAgain_1 μ)) else (muX6_readAgain_6 μ))
def P_X6_readAgain  (μ : Mem) : Prop := (((μ 31 6) < 6 → ((P_X8_takeNumber 0 20 μ) ∧ (((F_X8_takeNumber 0 20 μ) ≠ (-1) → (P_X8_takeSign 91 (muX6_readAgain_4 μ))) ∧ ((F_X8_takeNumber 0 20 μ) = (-1) → True)))) ∧ (6 ≤ (μ 31 6) → True))
theorem bo_X6_readAgain  (μ : Mem) : F_X6_readAgain  μ = 0 ∨ F_X6_readAgain  μ = 1 := by
  unfold F_X6_readAgain
  split
  · split
    · exact (bo_X8_takeSign 91 (muX6_readAgain_4 μ))
    · exact Or.inl rfl
  · exact (bo_X8_failToken 3 μ)
set_option maxRecDepth 20000 in
set_option maxHeartbeats 2000000 in
theorem ok_X6_readAgain {G : SG} (hG : GK 57 G)  (μ : Mem) (hP : P_X6_readAgain  μ) : OkF G mX6_readAgain [.ref (ga G 31), .ref (ga G 1)] μ (some (.int (F_X6_readAgain  μ))) (M_X6_readAgain  μ) := by
  refine okF_of hG rfl rfl (Nat.le_of_ble_eq_true rfl) ?_
  unfold P_X6_readAgain at hP
  refine r_aload_n dX6_readAgain_0 0 rfl ?_
  refine r_getI fX6_35 (hG.lt (by decide)) sh31 fs31_6 dX6_readAgain_1 ?_
  refine r_bipush 6 dX6_readAgain_4 rfl ?_
  refine r_icmp_lt 15 dX6_readAgain_6 (by decide) (fun c1 => ?_) (fun c1 => ?_)
  · replace hP := hP.1 c1
    refine r_aload_n dX6_readAgain_15 1 rfl ?_
    refine r_iconst 0 dX6_readAgain_16 rfl ?_
    refine r_bipush 20 dX6_readAgain_17 rfl ?_
    have hs1 := hP.1
    replace hP := hP.2
    refine r_cvI (ok_X8_takeNumber hG 0 20 μ hs1) lX6_95 (hG.lt (by decide)) sh1 ⟨_, _, rfl⟩ dX6_readAgain_19 (by decide) (Nat.le_of_ble_eq_true rfl) rfl (Nat.le_of_ble_eq_true rfl) ?_
    refine r_mu (muX6_readAgain_1 μ) rfl ?_
    refine r_istore_n [(2, _), (0, _), (1, _)] dX6_readAgain_22 (Nat.le_of_ble_eq_true rfl) rfl ?_
    refine r_iload_n dX6_readAgain_23 0 rfl ?_
    refine r_iconst (-1) dX6_readAgain_24 rfl ?_
    refine r_icmp_ne 30 dX6_readAgain_25 (by decide) (fun c2 => ?_) (fun c2 => ?_)
    · replace hP := hP.1 c2
      refine r_aload_n dX6_readAgain_30 1 rfl ?_
      refine r_getR 35 fX6_21 (hG.lt (by decide)) sh31 fs31_3 dX6_readAgain_31 ?_
      refine r_aload_n dX6_readAgain_34 1 rfl ?_
      refine r_getI fX6_35 (hG.lt (by decide)) sh31 fs31_6 dX6_readAgain_35 ?_
      refine r_aload_n dX6_readAgain_38 1 rfl ?_
      refine r_getI fX6_27 (hG.lt (by decide)) sh31 fs31_5 dX6_readAgain_39 ?_
      refine r_csV (ok_X9_put hG (hG.lt (by decide)) sh35 ((muX6_readAgain_1 μ) 31 6) ((muX6_readAgain_1 μ) 31 5) (muX6_readAgain_1 μ)) lX6_31 dX6_readAgain_42 (by decide) (Nat.le_of_ble_eq_true rfl) rfl (Nat.le_of_ble_eq_true rfl) ?_
      refine r_mu (muX6_readAgain_2 μ) rfl ?_
      refine r_aload_n dX6_readAgain_45 1 rfl ?_
      refine r_dup dX6_readAgain_46 rfl ?_
      refine r_getI fX6_35 (hG.lt (by decide)) sh31 fs31_6 dX6_readAgain_47 ?_
      refine r_iconst 1 dX6_readAgain_50 rfl ?_
      refine r_iadd dX6_readAgain_51 ?_
      refine r_put fiX6_35 (hG.lt (by decide)) sh31 fs31_6 dX6_readAgain_52 ?_
      refine r_mu (muX6_readAgain_3 μ) rfl ?_
      refine r_aload_n dX6_readAgain_55 1 rfl ?_
      refine r_bipush 6 dX6_readAgain_56 rfl ?_
      refine r_iload_n dX6_readAgain_58 0 rfl ?_
      refine r_cvV (ok_X6_add hG 6 (F_X8_takeNumber 0 20 μ) (muX6_readAgain_3 μ)) lX6_67 (hG.lt (by decide)) sh31 ⟨_, _, rfl⟩ dX6_readAgain_59 (by decide) (Nat.le_of_ble_eq_true rfl) rfl (Nat.le_of_ble_eq_true rfl) ?_
      refine r_mu (muX6_readAgain_4 μ) rfl ?_
      refine r_aload_n dX6_readAgain_62 2 rfl ?_
      refine r_bipush 91 dX6_readAgain_63 rfl ?_
      have hs2 := hP
      refine r_cvI (ok_X8_takeSign hG 91 (muX6_readAgain_4 μ) hs2) lX6_71 (hG.lt (by decide)) sh1 ⟨_, _, rfl⟩ dX6_readAgain_65 (by decide) (Nat.le_of_ble_eq_true rfl) rfl (Nat.le_of_ble_eq_true rfl) ?_
      refine r_mu (muX6_readAgain_5 μ) rfl ?_
      exact r_ireturn _ dX6_readAgain_68 rfl (nb01 ((bo_X8_takeSign 91 (muX6_readAgain_4 μ)))) ⟨congrArg (fun z => some (Value.int z)) (by unfold F_X6_readAgain; rw [if_pos c1, if_pos c2]), by unfold M_X6_readAgain; rw [if_pos c1, if_pos c2]⟩
    · replace hP := hP.2 c2
      refine r_iconst 0 dX6_readAgain_28 rfl ?_
      exact r_ireturn _ dX6_readAgain_29 rfl rfl ⟨congrArg (fun z => some (Value.int z)) (by unfold F_X6_readAgain; rw [if_pos c1, if_neg (not_not_intro c2)]), by unfold M_X6_readAgain; rw [if_pos c1, if_neg (not_not_intro c2)]⟩
  · replace hP := hP.2 c1
    refine r_aload_n dX6_readAgain_9 1 rfl ?_
    refine r_iconst 3 dX6_readAgain_10 rfl ?_
    refine r_cvI (ok_X8_failToken hG 3 μ) lX6_81 (hG.lt (by decide)) sh1 ⟨_, _, rfl⟩ dX6_readAgain_11 (by decide) (Nat.le_of_ble_eq_true rfl) rfl (Nat.le_of_ble_eq_true rfl) ?_
    refine r_mu (muX6_readAgain_6 μ) rfl ?_
    exact r_ireturn _ dX6_readAgain_14 rfl (nb01 ((bo_X8_failToken 3 μ))) ⟨congrArg (fun z => some (Value.int z)) (by unfold F_X6_readAgain; rw [if_neg (i32_nl c1)]), by unfold M_X6_readAgain; rw [if_neg (i32_nl c1)]⟩
def F_X8_isLetter (p0 : Int32) (μ : Mem) : Int32 := (if p0 < 97 then 0 else (if 122 < p0 then 0 else 1))
theorem bo_X8_isLetter (p0 : Int32) (μ : Mem) : F_X8_isLetter p0 μ = 0 ∨ F_X8_isLetter p0 μ = 1 := by
  unfold F_X8_isLetter
  split
  · exact Or.inl rfl
  · split
    · exact Or.inl rfl
    · exact Or.inr rfl
set_option maxRecDepth 20000 in
set_option maxHeartbeats 2000000 in
theorem ok_X8_isLetter {G : SG} (hG : GK 57 G) (p0 : Int32) (μ : Mem) : OkF G mX8_isLetter [.int p0] μ (some (.int (F_X8_isLetter p0 μ))) μ := by
  refine okF_of hG rfl rfl (Nat.le_of_ble_eq_true rfl) ?_
  refine r_iload_n dX8_isLetter_0 0 rfl ?_
  refine r_bipush 97 dX8_isLetter_1 rfl ?_
  refine r_icmp_lt 16 dX8_isLetter_3 (by decide) (fun c1 => ?_) (fun c1 => ?_)
  · refine r_iconst 0 dX8_isLetter_16 rfl ?_
    exact r_ireturn _ dX8_isLetter_17 rfl rfl ⟨congrArg (fun z => some (Value.int z)) (by unfold F_X8_isLetter; rw [if_pos c1]), rfl⟩
  · refine r_iload_n dX8_isLetter_6 0 rfl ?_
    refine r_bipush 122 dX8_isLetter_7 rfl ?_
    refine r_icmp_gt 16 dX8_isLetter_9 (by decide) (fun c2 => ?_) (fun c2 => ?_)
    · refine r_iconst 0 dX8_isLetter_16 rfl ?_
      exact r_ireturn _ dX8_isLetter_17 rfl rfl ⟨congrArg (fun z => some (Value.int z)) (by unfold F_X8_isLetter; rw [if_neg (i32_nl c1), if_pos c2]), rfl⟩
    · refine r_iconst 1 dX8_isLetter_12 rfl ?_
      refine r_goto 17 dX8_isLetter_13 (by decide) ?_
      exact r_ireturn _ dX8_isLetter_17 rfl rfl ⟨congrArg (fun z => some (Value.int z)) (by unfold F_X8_isLetter; rw [if_neg (i32_nl c1), if_neg (i32_nl c2)]), rfl⟩
def muX8_takeWord_1 (μ : Mem) : Mem := (M_X8_peek  μ)
def muX8_takeWord_2 (μ : Mem) : Mem := (upm (muX8_takeWord_1 μ) 1 4 ((muX8_takeWord_1 μ) 1 3))
def muX8_takeWord_24_1 (i : Nat) (s : Mem) : Mem := (upm s 1 3 ((s 1 3) + 1))
def g_X8_takeWord_24  (i : Nat) (s : Mem) : Mem := (muX8_takeWord_24_1 i s)
def Pb_X8_takeWord_24  (i : Nat) (s : Mem) : Prop := (((s 1 2) ≤ (s 1 3) → False) ∧ ((s 1 3) < (s 1 2) → (((F_X8_isLetter (F_X9_at 2 600 (s 1 3) s) s) = 0 → False) ∧ (¬ (F_X8_isLetter (F_X9_at 2 600 (s 1 3) s) s) = 0 → True))))
def Cb_X8_takeWord_24  (i : Nat) (s : Mem) : Bool := (if (s 1 2) ≤ (s 1 3) then false else (if (F_X8_isLetter (F_X9_at 2 600 (s 1 3) s) s) = 0 then false else true))
set_option maxRecDepth 20000 in
set_option maxHeartbeats 2000000 in
theorem lp_X8_takeWord_24 {G : SG} (hG : GK 57 G)   (s0 : Mem) (N : Nat) (sN : Mem) (eN : sN = fo N g_X8_takeWord_24 s0) (hN : ∀ i, i < N → Pb_X8_takeWord_24  i (fo i g_X8_takeWord_24 s0)) {t : Nat} {Q : PQ} {X : PX} (h : R G mX8_takeWord 24 [(0, .ref (ga G 1))] [] sN t Q X) : R G mX8_takeWord 24 [(0, .ref (ga G 1))] [] s0 t Q X := by
  subst eN
  refine down_i N (fun i => R G mX8_takeWord 24 [(0, .ref (ga G 1))] [] (fo i g_X8_takeWord_24 s0) t Q X) h (fun i hi hS => ?_)
  have hP := hN i hi
  rw [fo_succ] at hS
  generalize fo i g_X8_takeWord_24 s0 = s at hS hP ⊢
  unfold Pb_X8_takeWord_24 at hP
  refine r_aload_n dX8_takeWord_24 0 rfl ?_
  refine r_getI fX8_29 (hG.lt (by decide)) sh1 fs1_3 dX8_takeWord_25 ?_
  refine r_aload_n dX8_takeWord_28 0 rfl ?_
  refine r_getI fX8_26 (hG.lt (by decide)) sh1 fs1_2 dX8_takeWord_29 ?_
  refine r_icmp_ge 65 dX8_takeWord_32 (by decide) (fun c1 => ?_) (fun c1 => ?_)
  · replace hP := hP.1 c1
    exact hP.elim
  · replace hP := hP.2 c1
    refine r_aload_n dX8_takeWord_35 0 rfl ?_
    refine r_getR 2 fX8_9 (hG.lt (by decide)) sh1 fs1_0 dX8_takeWord_36 ?_
    refine r_aload_n dX8_takeWord_39 0 rfl ?_
    refine r_getI fX8_29 (hG.lt (by decide)) sh1 fs1_3 dX8_takeWord_40 ?_
    refine r_csI (ok_X9_at hG (hG.lt (by decide)) sh2 (s 1 3) s) lX8_58 dX8_takeWord_43 (by decide) (Nat.le_of_ble_eq_true rfl) rfl (Nat.le_of_ble_eq_true rfl) ?_
    refine r_csI (ok_X8_isLetter hG (F_X9_at 2 600 (s 1 3) s) s) lX8_66 dX8_takeWord_46 (by decide) (Nat.le_of_ble_eq_true rfl) rfl (Nat.le_of_ble_eq_true rfl) ?_
    refine r_if_eq 65 dX8_takeWord_49 (by decide) (fun c2 => ?_) (fun c2 => ?_)
    · replace hP := hP.1 c2
      exact hP.elim
    · replace hP := hP.2 c2
      refine r_aload_n dX8_takeWord_52 0 rfl ?_
      refine r_dup dX8_takeWord_53 rfl ?_
      refine r_getI fX8_29 (hG.lt (by decide)) sh1 fs1_3 dX8_takeWord_54 ?_
      refine r_iconst 1 dX8_takeWord_57 rfl ?_
      refine r_iadd dX8_takeWord_58 ?_
      refine r_put fiX8_29 (hG.lt (by decide)) sh1 fs1_3 dX8_takeWord_59 ?_
      refine r_mu (muX8_takeWord_24_1 i s) rfl ?_
      refine r_goto 24 dX8_takeWord_62 (by decide) ?_
      have e : g_X8_takeWord_24  i s = (muX8_takeWord_24_1 i s) := by unfold g_X8_takeWord_24; rfl
      rw [e] at hS
      exact r_sub [0] rfl hS
def NX8_takeWord_24 (μ : Mem) : Nat := (fst 601 (fun j9 => !Cb_X8_takeWord_24  j9 (fo j9 g_X8_takeWord_24 (muX8_takeWord_2 μ))))
def SX8_takeWord_24 (μ : Mem) : Mem := fo (NX8_takeWord_24 μ) g_X8_takeWord_24 (muX8_takeWord_2 μ)
def muX8_takeWord_3 (μ : Mem) : Mem := (upm (SX8_takeWord_24 μ) 1 5 ((SX8_takeWord_24 μ) 1 3))
def muX8_takeWord_4 (μ : Mem) : Mem := (upm (SX8_takeWord_24 μ) 1 5 ((SX8_takeWord_24 μ) 1 3))
def muX8_takeWord_5 (μ : Mem) : Mem := (upm (SX8_takeWord_24 μ) 1 3 (((SX8_takeWord_24 μ) 1 3) + 1))
def muX8_takeWord_6 (μ : Mem) : Mem := (M_X8_failHere 1 (muX8_takeWord_1 μ))
def F_X8_takeWord  (μ : Mem) : Int32 := (if (F_X8_isLetter (F_X8_peek  μ) (muX8_takeWord_1 μ)) ≠ 0 then 1 else (F_X8_failHere 1 (muX8_takeWord_1 μ)))
def M_X8_takeWord  (μ : Mem) : Mem := (if (F_X8_isLetter (F_X8_peek  μ) (muX8_takeWord_1 μ)) ≠ 0 then (if ((SX8_takeWord_24 μ) 1 2) ≤ ((SX8_takeWord_24 μ) 1 3) then (muX8_takeWord_3 μ) else (muX8_takeWord_4 μ)) else (muX8_takeWord_6 μ))
def P_X8_takeWord  (μ : Mem) : Prop := ((P_X8_peek  μ) ∧ (((F_X8_isLetter (F_X8_peek  μ) (muX8_takeWord_1 μ)) ≠ 0 → ((∀ j9, j9 < (NX8_takeWord_24 μ) → Pb_X8_takeWord_24  j9 (fo j9 g_X8_takeWord_24 (muX8_takeWord_2 μ))) ∧ ((((SX8_takeWord_24 μ) 1 2) ≤ ((SX8_takeWord_24 μ) 1 3) → True) ∧ (((SX8_takeWord_24 μ) 1 3) < ((SX8_takeWord_24 μ) 1 2) → (((F_X8_isLetter (F_X9_at 2 600 ((SX8_takeWord_24 μ) 1 3) (SX8_takeWord_24 μ)) (SX8_takeWord_24 μ)) = 0 → True) ∧ (¬ (F_X8_isLetter (F_X9_at 2 600 ((SX8_takeWord_24 μ) 1 3) (SX8_takeWord_24 μ)) (SX8_takeWord_24 μ)) = 0 → False)))))) ∧ ((F_X8_isLetter (F_X8_peek  μ) (muX8_takeWord_1 μ)) = 0 → True)))
theorem bo_X8_takeWord  (μ : Mem) : F_X8_takeWord  μ = 0 ∨ F_X8_takeWord  μ = 1 := by
  unfold F_X8_takeWord
  split
  · exact Or.inr rfl
  · exact (bo_X8_failHere 1 (muX8_takeWord_1 μ))
set_option maxRecDepth 20000 in
set_option maxHeartbeats 2000000 in
theorem ok_X8_takeWord {G : SG} (hG : GK 57 G)  (μ : Mem) (hP : P_X8_takeWord  μ) : OkF G mX8_takeWord [.ref (ga G 1)] μ (some (.int (F_X8_takeWord  μ))) (M_X8_takeWord  μ) := by
  refine okF_of hG rfl rfl (Nat.le_of_ble_eq_true rfl) ?_
  unfold P_X8_takeWord at hP
  refine r_aload_n dX8_takeWord_0 0 rfl ?_
  have hs1 := hP.1
  replace hP := hP.2
  refine r_cvI (ok_X8_peek hG  μ hs1) lX8_47 (hG.lt (by decide)) sh1 ⟨_, _, rfl⟩ dX8_takeWord_1 (by decide) (Nat.le_of_ble_eq_true rfl) rfl (Nat.le_of_ble_eq_true rfl) ?_
  refine r_mu (muX8_takeWord_1 μ) rfl ?_
  refine r_csI (ok_X8_isLetter hG (F_X8_peek  μ) (muX8_takeWord_1 μ)) lX8_66 dX8_takeWord_4 (by decide) (Nat.le_of_ble_eq_true rfl) rfl (Nat.le_of_ble_eq_true rfl) ?_
  refine r_if_ne 16 dX8_takeWord_7 (by decide) (fun c1 => ?_) (fun c1 => ?_)
  · replace hP := hP.1 c1
    refine r_aload_n dX8_takeWord_16 0 rfl ?_
    refine r_aload_n dX8_takeWord_17 0 rfl ?_
    refine r_getI fX8_29 (hG.lt (by decide)) sh1 fs1_3 dX8_takeWord_18 ?_
    refine r_put fiX8_32 (hG.lt (by decide)) sh1 fs1_4 dX8_takeWord_21 ?_
    refine r_mu (muX8_takeWord_2 μ) rfl ?_
    have hs2 := hP.1
    replace hP := hP.2
    refine r_sub [0] rfl ?_
    refine lp_X8_takeWord_24 hG (muX8_takeWord_2 μ) ((NX8_takeWord_24 μ)) (SX8_takeWord_24 μ) rfl hs2 ?_
    refine r_aload_n dX8_takeWord_24 0 rfl ?_
    refine r_getI fX8_29 (hG.lt (by decide)) sh1 fs1_3 dX8_takeWord_25 ?_
    refine r_aload_n dX8_takeWord_28 0 rfl ?_
    refine r_getI fX8_26 (hG.lt (by decide)) sh1 fs1_2 dX8_takeWord_29 ?_
    refine r_icmp_ge 65 dX8_takeWord_32 (by decide) (fun c2 => ?_) (fun c2 => ?_)
    · replace hP := hP.1 c2
      refine r_aload_n dX8_takeWord_65 0 rfl ?_
      refine r_aload_n dX8_takeWord_66 0 rfl ?_
      refine r_getI fX8_29 (hG.lt (by decide)) sh1 fs1_3 dX8_takeWord_67 ?_
      refine r_put fiX8_35 (hG.lt (by decide)) sh1 fs1_5 dX8_takeWord_70 ?_
      refine r_mu (muX8_takeWord_3 μ) rfl ?_
      refine r_iconst 1 dX8_takeWord_73 rfl ?_
      exact r_ireturn _ dX8_takeWord_74 rfl rfl ⟨congrArg (fun z => some (Value.int z)) (by unfold F_X8_takeWord; rw [if_pos c1]), by unfold M_X8_takeWord; rw [if_pos c1, if_pos c2]⟩
    · replace hP := hP.2 c2
      refine r_aload_n dX8_takeWord_35 0 rfl ?_
      refine r_getR 2 fX8_9 (hG.lt (by decide)) sh1 fs1_0 dX8_takeWord_36 ?_
      refine r_aload_n dX8_takeWord_39 0 rfl ?_
      refine r_getI fX8_29 (hG.lt (by decide)) sh1 fs1_3 dX8_takeWord_40 ?_
      refine r_csI (ok_X9_at hG (hG.lt (by decide)) sh2 ((SX8_takeWord_24 μ) 1 3) (SX8_takeWord_24 μ)) lX8_58 dX8_takeWord_43 (by decide) (Nat.le_of_ble_eq_true rfl) rfl (Nat.le_of_ble_eq_true rfl) ?_
      refine r_csI (ok_X8_isLetter hG (F_X9_at 2 600 ((SX8_takeWord_24 μ) 1 3) (SX8_takeWord_24 μ)) (SX8_takeWord_24 μ)) lX8_66 dX8_takeWord_46 (by decide) (Nat.le_of_ble_eq_true rfl) rfl (Nat.le_of_ble_eq_true rfl) ?_
      refine r_if_eq 65 dX8_takeWord_49 (by decide) (fun c3 => ?_) (fun c3 => ?_)
      · replace hP := hP.1 c3
        refine r_aload_n dX8_takeWord_65 0 rfl ?_
        refine r_aload_n dX8_takeWord_66 0 rfl ?_
        refine r_getI fX8_29 (hG.lt (by decide)) sh1 fs1_3 dX8_takeWord_67 ?_
        refine r_put fiX8_35 (hG.lt (by decide)) sh1 fs1_5 dX8_takeWord_70 ?_
        refine r_mu (muX8_takeWord_4 μ) rfl ?_
        refine r_iconst 1 dX8_takeWord_73 rfl ?_
        exact r_ireturn _ dX8_takeWord_74 rfl rfl ⟨congrArg (fun z => some (Value.int z)) (by unfold F_X8_takeWord; rw [if_pos c1]), by unfold M_X8_takeWord; rw [if_pos c1, if_neg (i32_ng c2)]⟩
      · replace hP := hP.2 c3
        refine r_aload_n dX8_takeWord_52 0 rfl ?_
        refine r_dup dX8_takeWord_53 rfl ?_
        refine r_getI fX8_29 (hG.lt (by decide)) sh1 fs1_3 dX8_takeWord_54 ?_
        refine r_iconst 1 dX8_takeWord_57 rfl ?_
        refine r_iadd dX8_takeWord_58 ?_
        refine r_put fiX8_29 (hG.lt (by decide)) sh1 fs1_3 dX8_takeWord_59 ?_
        refine r_mu (muX8_takeWord_5 μ) rfl ?_
        refine r_goto 24 dX8_takeWord_62 (by decide) ?_
        exact hP.elim
  · replace hP := hP.2 c1
    refine r_aload_n dX8_takeWord_10 0 rfl ?_
    refine r_iconst 1 dX8_takeWord_11 rfl ?_
    refine r_cvI (ok_X8_failHere hG 1 (muX8_takeWord_1 μ)) lX8_51 (hG.lt (by decide)) sh1 ⟨_, _, rfl⟩ dX8_takeWord_12 (by decide) (Nat.le_of_ble_eq_true rfl) rfl (Nat.le_of_ble_eq_true rfl) ?_
    refine r_mu (muX8_takeWord_6 μ) rfl ?_
    exact r_ireturn _ dX8_takeWord_15 rfl (nb01 ((bo_X8_failHere 1 (muX8_takeWord_1 μ)))) ⟨congrArg (fun z => some (Value.int z)) (by unfold F_X8_takeWord; rw [if_neg (not_not_intro c1)]), by unfold M_X8_takeWord; rw [if_neg (not_not_intro c1)]⟩
def muX6_readStep_1 (μ : Mem) : Mem := (M_X8_takeWord  μ)
def VX6_readStep_2 (μ : Mem) : Int32 := (if (F_X6_kindOf  (muX6_readStep_1 μ)) ≠ 4 then ((muX6_readStep_1 μ) 3 9) else ((muX6_readStep_1 μ) 3 8))
def muX6_readStep_3 (μ : Mem) : Mem := (M_X8_takeNumber 0 ((VX6_readStep_2 μ) - 1) (muX6_readStep_1 μ))
def VX6_readStep_4 (μ : Mem) : Int32 := (if (F_X6_kindOf  (muX6_readStep_1 μ)) = 5 then 0 else (F_X8_takeNumber 0 ((VX6_readStep_2 μ) - 1) (muX6_readStep_1 μ)))
def VX6_readStep_5 (μ : Mem) : Mem := (if (F_X6_kindOf  (muX6_readStep_1 μ)) = 5 then (muX6_readStep_1 μ) else (muX6_readStep_3 μ))
def muX6_readStep_6 (μ : Mem) : Mem := (M_X6_add (F_X6_kindOf  (muX6_readStep_1 μ)) (VX6_readStep_4 μ) (VX6_readStep_5 μ))
def muX6_readStep_7 (μ : Mem) : Mem := (M_X8_takeSign 59 (muX6_readStep_6 μ))
def muX6_readStep_8 (μ : Mem) : Mem := (M_X6_readAgain  (muX6_readStep_1 μ))
def muX6_readStep_9 (μ : Mem) : Mem := (M_X8_failToken 1 (muX6_readStep_1 μ))
def F_X6_readStep  (μ : Mem) : Int32 := (if (F_X8_takeWord  μ) ≠ 0 then (if (F_X6_kindOf  (muX6_readStep_1 μ)) ≠ (-1) then (if (F_X6_kindOf  (muX6_readStep_1 μ)) ≠ 6 then (if (VX6_readStep_4 μ) = (-1) then 0 else (if (F_X8_takeSign 59 (muX6_readStep_6 μ)) = 0 then 0 else 1)) else (F_X6_readAgain  (muX6_readStep_1 μ))) else (F_X8_failToken 1 (muX6_readStep_1 μ))) else 0)
def M_X6_readStep  (μ : Mem) : Mem := (if (F_X8_takeWord  μ) ≠ 0 then (if (F_X6_kindOf  (muX6_readStep_1 μ)) ≠ (-1) then (if (F_X6_kindOf  (muX6_readStep_1 μ)) ≠ 6 then (if (VX6_readStep_4 μ) = (-1) then (muX6_readStep_6 μ) else (muX6_readStep_7 μ)) else (muX6_readStep_8 μ)) else (muX6_readStep_9 μ)) else (muX6_readStep_1 μ))
def P_X6_readStep  (μ : Mem) : Prop := ((P_X8_takeWord  μ) ∧ (((F_X8_takeWord  μ) ≠ 0 → ((P_X6_kindOf  (muX6_readStep_1 μ)) ∧ (((F_X6_kindOf  (muX6_readStep_1 μ)) ≠ (-1) → (((F_X6_kindOf  (muX6_readStep_1 μ)) ≠ 6 → ((((F_X6_kindOf  (muX6_readStep_1 μ)) = 5 → True) ∧ (¬ (F_X6_kindOf  (muX6_readStep_1 μ)) = 5 → (P_X8_takeNumber 0 ((VX6_readStep_2 μ) - 1) (muX6_readStep_1 μ)))) ∧ (((VX6_readStep_4 μ) = (-1) → True) ∧ (¬ (VX6_readStep_4 μ) = (-1) → (P_X8_takeSign 59 (muX6_readStep_6 μ)))))) ∧ ((F_X6_kindOf  (muX6_readStep_1 μ)) = 6 → (P_X6_readAgain  (muX6_readStep_1 μ))))) ∧ ((F_X6_kindOf  (muX6_readStep_1 μ)) = (-1) → True)))) ∧ ((F_X8_takeWord  μ) = 0 → True)))
theorem bo_X6_readStep  (μ : Mem) : F_X6_readStep  μ = 0 ∨ F_X6_readStep  μ = 1 := by
  unfold F_X6_readStep
  split
  · split
    · split
      · split
        · exact Or.inl rfl
        · split
          · exact Or.inl rfl
          · exact Or.inr rfl
      · exact (bo_X6_readAgain  (muX6_readStep_1 μ))
    · exact (bo_X8_failToken 1 (muX6_readStep_1 μ))
  · exact Or.inl rfl
set_option maxRecDepth 20000 in
set_option maxHeartbeats 2000000 in
theorem ok_X6_readStep {G : SG} (hG : GK 57 G)  (μ : Mem) (hP : P_X6_readStep  μ) : OkF G mX6_readStep [.ref (ga G 31), .ref (ga G 1), .ref (ga G 3)] μ (some (.int (F_X6_readStep  μ))) (M_X6_readStep  μ) := by
  refine okF_of hG rfl rfl (Nat.le_of_ble_eq_true rfl) ?_
  unfold P_X6_readStep at hP
  refine r_aload_n dX6_readStep_0 1 rfl ?_
  have hs1 := hP.1
  replace hP := hP.2
  refine r_cvI (ok_X8_takeWord hG  μ hs1) lX6_74 (hG.lt (by decide)) sh1 ⟨_, _, rfl⟩ dX6_readStep_1 (by decide) (Nat.le_of_ble_eq_true rfl) rfl (Nat.le_of_ble_eq_true rfl) ?_
  refine r_mu (muX6_readStep_1 μ) rfl ?_
  refine r_if_ne 9 dX6_readStep_4 (by decide) (fun c1 => ?_) (fun c1 => ?_)
  · replace hP := hP.1 c1
    refine r_aload_n dX6_readStep_9 1 rfl ?_
    have hs2 := hP.1
    replace hP := hP.2
    refine r_csI (ok_X6_kindOf hG  (muX6_readStep_1 μ) hs2) lX6_77 dX6_readStep_10 (by decide) (Nat.le_of_ble_eq_true rfl) rfl (Nat.le_of_ble_eq_true rfl) ?_
    refine r_istore_n [(3, _), (0, _), (1, _), (2, _)] dX6_readStep_13 (Nat.le_of_ble_eq_true rfl) rfl ?_
    refine r_iload_n dX6_readStep_14 0 rfl ?_
    refine r_iconst (-1) dX6_readStep_15 rfl ?_
    refine r_icmp_ne 25 dX6_readStep_16 (by decide) (fun c2 => ?_) (fun c2 => ?_)
    · replace hP := hP.1 c2
      refine r_iload_n dX6_readStep_25 0 rfl ?_
      refine r_bipush 6 dX6_readStep_26 rfl ?_
      refine r_icmp_ne 37 dX6_readStep_28 (by decide) (fun c3 => ?_) (fun c3 => ?_)
      · replace hP := hP.1 c3
        refine r_iconst 0 dX6_readStep_37 rfl ?_
        refine r_istore [(4, _), (3, _), (0, _), (1, _), (2, _)] dX6_readStep_38 (Nat.le_of_ble_eq_true rfl) rfl ?_
        refine r_iload_n dX6_readStep_40 1 rfl ?_
        refine r_iconst 5 dX6_readStep_41 rfl ?_
        refine r_join 70 [(4, .int (VX6_readStep_4 μ)), (3, .int (F_X6_kindOf  (muX6_readStep_1 μ))), (0, .ref (ga G 31)), (1, .ref (ga G 1)), (2, .ref (ga G 3))] [] (VX6_readStep_5 μ) ?_ (fun hJ => ?_)
        · replace hP := hP.2
          refine r_aload_n dX6_readStep_70 2 rfl ?_
          refine r_iload_n dX6_readStep_71 1 rfl ?_
          refine r_iload dX6_readStep_72 0 rfl ?_
          refine r_cvV (ok_X6_add hG (F_X6_kindOf  (muX6_readStep_1 μ)) (VX6_readStep_4 μ) (VX6_readStep_5 μ)) lX6_67 (hG.lt (by decide)) sh31 ⟨_, _, rfl⟩ dX6_readStep_74 (by decide) (Nat.le_of_ble_eq_true rfl) rfl (Nat.le_of_ble_eq_true rfl) ?_
          refine r_mu (muX6_readStep_6 μ) rfl ?_
          refine r_iload dX6_readStep_77 0 rfl ?_
          refine r_iconst (-1) dX6_readStep_79 rfl ?_
          refine r_icmp_eq 96 dX6_readStep_80 (by decide) (fun c4 => ?_) (fun c4 => ?_)
          · replace hP := hP.1 c4
            refine r_iconst 0 dX6_readStep_96 rfl ?_
            exact r_ireturn _ dX6_readStep_97 rfl rfl ⟨congrArg (fun z => some (Value.int z)) (by unfold F_X6_readStep; rw [if_pos c1, if_pos c2, if_pos c3, if_pos c4]), by unfold M_X6_readStep; rw [if_pos c1, if_pos c2, if_pos c3, if_pos c4]⟩
          · replace hP := hP.2 c4
            refine r_aload_n dX6_readStep_83 3 rfl ?_
            refine r_bipush 59 dX6_readStep_84 rfl ?_
            have hs4 := hP
            refine r_cvI (ok_X8_takeSign hG 59 (muX6_readStep_6 μ) hs4) lX6_71 (hG.lt (by decide)) sh1 ⟨_, _, rfl⟩ dX6_readStep_86 (by decide) (Nat.le_of_ble_eq_true rfl) rfl (Nat.le_of_ble_eq_true rfl) ?_
            refine r_mu (muX6_readStep_7 μ) rfl ?_
            refine r_if_eq 96 dX6_readStep_89 (by decide) (fun c5 => ?_) (fun c5 => ?_)
            · refine r_iconst 0 dX6_readStep_96 rfl ?_
              exact r_ireturn _ dX6_readStep_97 rfl rfl ⟨congrArg (fun z => some (Value.int z)) (by unfold F_X6_readStep; rw [if_pos c1, if_pos c2, if_pos c3, if_neg c4, if_pos c5]), by unfold M_X6_readStep; rw [if_pos c1, if_pos c2, if_pos c3, if_neg c4]⟩
            · refine r_iconst 1 dX6_readStep_92 rfl ?_
              refine r_goto 97 dX6_readStep_93 (by decide) ?_
              exact r_ireturn _ dX6_readStep_97 rfl rfl ⟨congrArg (fun z => some (Value.int z)) (by unfold F_X6_readStep; rw [if_pos c1, if_pos c2, if_pos c3, if_neg c4, if_neg c5]), by unfold M_X6_readStep; rw [if_pos c1, if_pos c2, if_pos c3, if_neg c4]⟩
        · replace hP := hP.1
          refine r_icmp_eq 70 dX6_readStep_42 (by decide) (fun c4 => ?_) (fun c4 => ?_)
          · replace hP := hP.1 c4
            have e : (VX6_readStep_4 μ) = 0 := by unfold VX6_readStep_4; rw [if_pos c4]
            rw [e] at hJ
            clear e
            have e : (VX6_readStep_5 μ) = (muX6_readStep_1 μ) := by unfold VX6_readStep_5; rw [if_pos c4]
            rw [e] at hJ
            exact r_sub [0, 1, 2, 3, 4] rfl hJ
          · replace hP := hP.2 c4
            refine r_aload_n dX6_readStep_45 3 rfl ?_
            refine r_iconst 0 dX6_readStep_46 rfl ?_
            refine r_iload_n dX6_readStep_47 1 rfl ?_
            refine r_iconst 4 dX6_readStep_48 rfl ?_
            refine r_join 63 [(4, .int 0), (3, .int (F_X6_kindOf  (muX6_readStep_1 μ))), (0, .ref (ga G 31)), (1, .ref (ga G 1)), (2, .ref (ga G 3))] [.int (VX6_readStep_2 μ), .int 0, .ref (ga G 1)] (muX6_readStep_1 μ) ?_ (fun hJ => ?_)
            · refine r_iconst 1 dX6_readStep_63 rfl ?_
              refine r_isub dX6_readStep_64 ?_
              have hs3 := hP
              refine r_cvI (ok_X8_takeNumber hG 0 ((VX6_readStep_2 μ) - 1) (muX6_readStep_1 μ) hs3) lX6_95 (hG.lt (by decide)) sh1 ⟨_, _, rfl⟩ dX6_readStep_65 (by decide) (Nat.le_of_ble_eq_true rfl) rfl (Nat.le_of_ble_eq_true rfl) ?_
              refine r_mu (muX6_readStep_3 μ) rfl ?_
              refine r_istore [(4, _), (3, _), (0, _), (1, _), (2, _)] dX6_readStep_68 (Nat.le_of_ble_eq_true rfl) rfl ?_
              have e : (VX6_readStep_4 μ) = (F_X8_takeNumber 0 ((VX6_readStep_2 μ) - 1) (muX6_readStep_1 μ)) := by unfold VX6_readStep_4; rw [if_neg c4]
              rw [e] at hJ
              clear e
              have e : (VX6_readStep_5 μ) = (muX6_readStep_3 μ) := by unfold VX6_readStep_5; rw [if_neg c4]
              rw [e] at hJ
              exact r_sub [0, 1, 2, 3, 4] rfl hJ
            · refine r_icmp_ne 59 dX6_readStep_49 (by decide) (fun c5 => ?_) (fun c5 => ?_)
              · refine r_aload_n dX6_readStep_59 4 rfl ?_
                refine r_getI fX6_92 (hG.lt (by decide)) sh3 fs3_9 dX6_readStep_60 ?_
                have e : (VX6_readStep_2 μ) = ((muX6_readStep_1 μ) 3 9) := by unfold VX6_readStep_2; rw [if_pos c5]
                rw [e] at hJ
                exact r_sub [0, 1, 2, 3, 4] rfl hJ
              · refine r_aload_n dX6_readStep_52 4 rfl ?_
                refine r_getI fX6_87 (hG.lt (by decide)) sh3 fs3_8 dX6_readStep_53 ?_
                refine r_goto 63 dX6_readStep_56 (by decide) ?_
                have e : (VX6_readStep_2 μ) = ((muX6_readStep_1 μ) 3 8) := by unfold VX6_readStep_2; rw [if_neg (not_not_intro c5)]
                rw [e] at hJ
                exact r_sub [0, 1, 2, 3, 4] rfl hJ
      · replace hP := hP.2 c3
        refine r_aload_n dX6_readStep_31 1 rfl ?_
        refine r_aload_n dX6_readStep_32 2 rfl ?_
        have hs5 := hP
        refine r_cvI (ok_X6_readAgain hG  (muX6_readStep_1 μ) hs5) lX6_84 (hG.lt (by decide)) sh31 ⟨_, _, rfl⟩ dX6_readStep_33 (by decide) (Nat.le_of_ble_eq_true rfl) rfl (Nat.le_of_ble_eq_true rfl) ?_
        refine r_mu (muX6_readStep_8 μ) rfl ?_
        exact r_ireturn _ dX6_readStep_36 rfl (nb01 ((bo_X6_readAgain  (muX6_readStep_1 μ)))) ⟨congrArg (fun z => some (Value.int z)) (by unfold F_X6_readStep; rw [if_pos c1, if_pos c2, if_neg (not_not_intro c3)]), by unfold M_X6_readStep; rw [if_pos c1, if_pos c2, if_neg (not_not_intro c3)]⟩
    · replace hP := hP.2 c2
      refine r_aload_n dX6_readStep_19 2 rfl ?_
      refine r_iconst 1 dX6_readStep_20 rfl ?_
      refine r_cvI (ok_X8_failToken hG 1 (muX6_readStep_1 μ)) lX6_81 (hG.lt (by decide)) sh1 ⟨_, _, rfl⟩ dX6_readStep_21 (by decide) (Nat.le_of_ble_eq_true rfl) rfl (Nat.le_of_ble_eq_true rfl) ?_
      refine r_mu (muX6_readStep_9 μ) rfl ?_
      exact r_ireturn _ dX6_readStep_24 rfl (nb01 ((bo_X8_failToken 1 (muX6_readStep_1 μ)))) ⟨congrArg (fun z => some (Value.int z)) (by unfold F_X6_readStep; rw [if_pos c1, if_neg (not_not_intro c2)]), by unfold M_X6_readStep; rw [if_pos c1, if_neg (not_not_intro c2)]⟩
  · replace hP := hP.2 c1
    refine r_iconst 0 dX6_readStep_7 rfl ?_
    exact r_ireturn _ dX6_readStep_8 rfl rfl ⟨congrArg (fun z => some (Value.int z)) (by unfold F_X6_readStep; rw [if_neg (not_not_intro c1)]), by unfold M_X6_readStep; rw [if_neg (not_not_intro c1)]⟩
