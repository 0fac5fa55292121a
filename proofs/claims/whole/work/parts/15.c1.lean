def F_X9_at (row nrow : Nat) (p1 : Int32) (μ : Mem) : Int32 := (if p1 < 0 then 0 else (if (nI nrow) ≤ p1 then 0 else (μ row (ix p1))))
set_option maxRecDepth 20000 in
set_option maxHeartbeats 2000000 in
theorem ok_X9_at {G : SG} (hG : GK 57 G) {row nrow : Nat} (hlrow : row < gh G) (hsrow : shp row = (1, nrow, 0)) (p1 : Int32) (μ : Mem) : OkF G mX9_at [.ref (ga G row), .int p1] μ (some (.int (F_X9_at row nrow p1 μ))) μ := by
  refine okF_of hG rfl (by decide) (Nat.le_of_ble_eq_true rfl) ?_
  refine r_iload_n dX9_at_0 1 rfl ?_
  refine r_if_lt 16 dX9_at_1 (by decide) (fun c1 => ?_) (fun c1 => ?_)
  · refine r_iconst 0 dX9_at_16 rfl ?_
    exact r_ireturn _ dX9_at_17 rfl rfl ⟨congrArg (fun z => some (Value.int z)) (by unfold F_X9_at; rw [if_pos c1]), rfl⟩
  · refine r_iload_n dX9_at_4 1 rfl ?_
    refine r_aload_n dX9_at_5 0 rfl ?_
    refine r_alen (nI nrow) hlrow hsrow rfl dX9_at_6 ?_
    refine r_icmp_ge 16 dX9_at_7 (by decide) (fun c2 => ?_) (fun c2 => ?_)
    · refine r_iconst 0 dX9_at_16 rfl ?_
      exact r_ireturn _ dX9_at_17 rfl rfl ⟨congrArg (fun z => some (Value.int z)) (by unfold F_X9_at; rw [if_neg (i32_nl c1), if_pos c2]), rfl⟩
    · refine r_aload_n dX9_at_10 0 rfl ?_
      refine r_iload_n dX9_at_11 1 rfl ?_
      refine r_iald hlrow hsrow (vpI nrow c1 c2 (shp_lt hsrow)) dX9_at_12 ?_
      refine r_goto 17 dX9_at_13 (by decide) ?_
      exact r_ireturn _ dX9_at_17 rfl rfl ⟨congrArg (fun z => some (Value.int z)) (by unfold F_X9_at; rw [if_neg (i32_nl c1), if_neg (i32_ng c2)]), rfl⟩
def M_X9_put (row nrow : Nat) (p1 : Int32) (p2 : Int32) (μ : Mem) : Mem := (if p1 < 0 then μ else (if (nI nrow) ≤ p1 then μ else (upm μ row (ix p1) p2)))
set_option maxRecDepth 20000 in
set_option maxHeartbeats 2000000 in
theorem ok_X9_put {G : SG} (hG : GK 57 G) {row nrow : Nat} (hlrow : row < gh G) (hsrow : shp row = (1, nrow, 0)) (p1 : Int32) (p2 : Int32) (μ : Mem) : OkF G mX9_put [.ref (ga G row), .int p1, .int p2] μ none (M_X9_put row nrow p1 p2 μ) := by
  refine okF_of hG rfl (by decide) (Nat.le_of_ble_eq_true rfl) ?_
  refine r_iload_n dX9_put_0 1 rfl ?_
  refine r_if_lt 14 dX9_put_1 (by decide) (fun c1 => ?_) (fun c1 => ?_)
  · exact r_return dX9_put_14 rfl ⟨rfl, by unfold M_X9_put; rw [if_pos c1]⟩
  · refine r_iload_n dX9_put_4 1 rfl ?_
    refine r_aload_n dX9_put_5 0 rfl ?_
    refine r_alen (nI nrow) hlrow hsrow rfl dX9_put_6 ?_
    refine r_icmp_ge 14 dX9_put_7 (by decide) (fun c2 => ?_) (fun c2 => ?_)
    · exact r_return dX9_put_14 rfl ⟨rfl, by unfold M_X9_put; rw [if_neg (i32_nl c1), if_pos c2]⟩
    · refine r_aload_n dX9_put_10 0 rfl ?_
      refine r_iload_n dX9_put_11 1 rfl ?_
      refine r_iload_n dX9_put_12 2 rfl ?_
      refine r_iast hlrow hsrow (vpI nrow c1 c2 (shp_lt hsrow)) dX9_put_13 ?_
      exact r_return dX9_put_14 rfl ⟨rfl, by unfold M_X9_put; rw [if_neg (i32_nl c1), if_neg (i32_ng c2)]⟩
def F_X5_of (th : Nat) (p1 : Int32) (p2 : Int32) (μ : Mem) : Int32 := (if (p1 + p2) < 0 then 0 else (if 69 ≤ (p1 + p2) then 0 else (μ (th + 1) (ix (p1 + p2)))))
set_option maxRecDepth 20000 in
set_option maxHeartbeats 2000000 in
theorem ok_X5_of {G : SG} (hG : GK 57 G) {th : Nat} (hth : IsSt th) (p1 : Int32) (p2 : Int32) (μ : Mem) : OkF G mX5_of [.ref (ga G th), .int p1, .int p2] μ (some (.int (F_X5_of th p1 p2 μ))) μ := by
  refine okF_of hG rfl (by decide) (Nat.le_of_ble_eq_true rfl) ?_
  refine r_iload_n dX5_of_0 1 rfl ?_
  refine r_iload_n dX5_of_1 2 rfl ?_
  refine r_iadd dX5_of_2 ?_
  refine r_istore_n [(3, _), (0, _), (1, _), (2, _)] dX5_of_3 (by decide) rfl ?_
  refine r_iload_n dX5_of_4 0 rfl ?_
  refine r_if_lt 26 dX5_of_5 (by decide) (fun c1 => ?_) (fun c1 => ?_)
  · refine r_iconst 0 dX5_of_26 rfl ?_
    exact r_ireturn _ dX5_of_27 rfl rfl ⟨congrArg (fun z => some (Value.int z)) (by unfold F_X5_of; rw [if_pos c1]), rfl⟩
  · refine r_iload_n dX5_of_8 0 rfl ?_
    refine r_aload_n dX5_of_9 1 rfl ?_
    refine r_getR (th + 1) fX5_11 (hth.lt hG) hth.sh (hth.f0) dX5_of_10 ?_
    refine r_alen 69 (hth.lt0 hG) hth.s0 rfl dX5_of_13 ?_
    refine r_icmp_ge 26 dX5_of_14 (by decide) (fun c2 => ?_) (fun c2 => ?_)
    · refine r_iconst 0 dX5_of_26 rfl ?_
      exact r_ireturn _ dX5_of_27 rfl rfl ⟨congrArg (fun z => some (Value.int z)) (by unfold F_X5_of; rw [if_neg (i32_nl c1), if_pos c2]), rfl⟩
    · refine r_aload_n dX5_of_17 1 rfl ?_
      refine r_getR (th + 1) fX5_11 (hth.lt hG) hth.sh (hth.f0) dX5_of_18 ?_
      refine r_iload_n dX5_of_21 0 rfl ?_
      refine r_iald (hth.lt0 hG) hth.s0 (vpI 69 c1 c2 (by decide)) dX5_of_22 ?_
      refine r_goto 27 dX5_of_23 (by decide) ?_
      exact r_ireturn _ dX5_of_27 rfl rfl ⟨congrArg (fun z => some (Value.int z)) (by unfold F_X5_of; rw [if_neg (i32_nl c1), if_neg (i32_ng c2)]), rfl⟩
def M_X5_set (th : Nat) (p1 : Int32) (p2 : Int32) (p3 : Int32) (μ : Mem) : Mem := (if (p1 + p2) < 0 then μ else (if 69 ≤ (p1 + p2) then μ else (upm μ (th + 1) (ix (p1 + p2)) p3)))
set_option maxRecDepth 20000 in
set_option maxHeartbeats 2000000 in
theorem ok_X5_set {G : SG} (hG : GK 57 G) {th : Nat} (hth : IsSt th) (p1 : Int32) (p2 : Int32) (p3 : Int32) (μ : Mem) : OkF G mX5_set [.ref (ga G th), .int p1, .int p2, .int p3] μ none (M_X5_set th p1 p2 p3 μ) := by
  refine okF_of hG rfl (by decide) (Nat.le_of_ble_eq_true rfl) ?_
  refine r_iload_n dX5_set_0 1 rfl ?_
  refine r_iload_n dX5_set_1 2 rfl ?_
  refine r_iadd dX5_set_2 ?_
  refine r_istore [(4, _), (0, _), (1, _), (2, _), (3, _)] dX5_set_3 (by decide) rfl ?_
  refine r_iload dX5_set_5 0 rfl ?_
  refine r_if_lt 28 dX5_set_7 (by decide) (fun c1 => ?_) (fun c1 => ?_)
  · exact r_return dX5_set_28 rfl ⟨rfl, by unfold M_X5_set; rw [if_pos c1]⟩
  · refine r_iload dX5_set_10 0 rfl ?_
    refine r_aload_n dX5_set_12 1 rfl ?_
    refine r_getR (th + 1) fX5_11 (hth.lt hG) hth.sh (hth.f0) dX5_set_13 ?_
    refine r_alen 69 (hth.lt0 hG) hth.s0 rfl dX5_set_16 ?_
    refine r_icmp_ge 28 dX5_set_17 (by decide) (fun c2 => ?_) (fun c2 => ?_)
    · exact r_return dX5_set_28 rfl ⟨rfl, by unfold M_X5_set; rw [if_neg (i32_nl c1), if_pos c2]⟩
    · refine r_aload_n dX5_set_20 1 rfl ?_
      refine r_getR (th + 1) fX5_11 (hth.lt hG) hth.sh (hth.f0) dX5_set_21 ?_
      refine r_iload dX5_set_24 0 rfl ?_
      refine r_iload_n dX5_set_26 4 rfl ?_
      refine r_iast (hth.lt0 hG) hth.s0 (vpI 69 c1 c2 (by decide)) dX5_set_27 ?_
      exact r_return dX5_set_28 rfl ⟨rfl, by unfold M_X5_set; rw [if_neg (i32_nl c1), if_neg (i32_ng c2)]⟩
def F_X5_tideToCome (th : Nat) (μ : Mem) : Int32 := (F_X5_of th 68 0 μ)
set_option maxRecDepth 20000 in
set_option maxHeartbeats 2000000 in
theorem ok_X5_tideToCome {G : SG} (hG : GK 57 G) {th : Nat} (hth : IsSt th) (μ : Mem) : OkF G mX5_tideToCome [.ref (ga G th)] μ (some (.int (F_X5_tideToCome th μ))) μ := by
  refine okF_of hG rfl (by decide) (Nat.le_of_ble_eq_true rfl) ?_
  refine r_aload_n dX5_tideToCome_0 0 rfl ?_
  refine r_bipush 68 dX5_tideToCome_1 rfl ?_
  refine r_iconst 0 dX5_tideToCome_3 rfl ?_
  refine r_cvF (ok_X5_of hG hth 68 0 μ) lX5_54 (hth.lt hG) hth.sh ⟨_, _, rfl⟩ dX5_tideToCome_4 (by decide) (by decide) rfl (Nat.le_of_ble_eq_true rfl) ?_
  exact r_ireturn _ dX5_tideToCome_7 rfl rfl ⟨congrArg (fun z => some (Value.int z)) (rfl), rfl⟩
def F_X5_isGone (th : Nat) (p1 : Int32) (μ : Mem) : Int32 := (if (F_X5_of th 0 p1 μ) ≠ (-1) then 0 else 1)
theorem bo_X5_isGone (th : Nat) (p1 : Int32) (μ : Mem) : F_X5_isGone th p1 μ = 0 ∨ F_X5_isGone th p1 μ = 1 := by
  unfold F_X5_isGone
  split
  · exact Or.inl rfl
  · exact Or.inr rfl
set_option maxRecDepth 20000 in
set_option maxHeartbeats 2000000 in
theorem ok_X5_isGone {G : SG} (hG : GK 57 G) {th : Nat} (hth : IsSt th) (p1 : Int32) (μ : Mem) : OkF G mX5_isGone [.ref (ga G th), .int p1] μ (some (.int (F_X5_isGone th p1 μ))) μ := by
  refine okF_of hG rfl (by decide) (Nat.le_of_ble_eq_true rfl) ?_
  refine r_aload_n dX5_isGone_0 0 rfl ?_
  refine r_iconst 0 dX5_isGone_1 rfl ?_
  refine r_iload_n dX5_isGone_2 1 rfl ?_
  refine r_cvF (ok_X5_of hG hth 0 p1 μ) lX5_54 (hth.lt hG) hth.sh ⟨_, _, rfl⟩ dX5_isGone_3 (by decide) (by decide) rfl (Nat.le_of_ble_eq_true rfl) ?_
  refine r_iconst (-1) dX5_isGone_6 rfl ?_
  refine r_icmp_ne 14 dX5_isGone_7 (by decide) (fun c1 => ?_) (fun c1 => ?_)
  · refine r_iconst 0 dX5_isGone_14 rfl ?_
    exact r_ireturn _ dX5_isGone_15 rfl rfl ⟨congrArg (fun z => some (Value.int z)) (by unfold F_X5_isGone; rw [if_pos c1]), rfl⟩
  · refine r_iconst 1 dX5_isGone_10 rfl ?_
    refine r_goto 15 dX5_isGone_11 (by decide) ?_
    exact r_ireturn _ dX5_isGone_15 rfl rfl ⟨congrArg (fun z => some (Value.int z)) (by unfold F_X5_isGone; rw [if_neg (not_not_intro c1)]), rfl⟩
def F_X5_isDown (th : Nat) (p1 : Int32) (μ : Mem) : Int32 := (if (F_X5_of th 0 p1 μ) = (-1) then 0 else (if (F_X5_of th 10 p1 μ) ≠ 0 then 0 else 1))
theorem bo_X5_isDown (th : Nat) (p1 : Int32) (μ : Mem) : F_X5_isDown th p1 μ = 0 ∨ F_X5_isDown th p1 μ = 1 := by
  unfold F_X5_isDown
  split
  · exact Or.inl rfl
  · split
    · exact Or.inl rfl
    · exact Or.inr rfl
set_option maxRecDepth 20000 in
set_option maxHeartbeats 2000000 in
theorem ok_X5_isDown {G : SG} (hG : GK 57 G) {th : Nat} (hth : IsSt th) (p1 : Int32) (μ : Mem) : OkF G mX5_isDown [.ref (ga G th), .int p1] μ (some (.int (F_X5_isDown th p1 μ))) μ := by
  refine okF_of hG rfl (by decide) (Nat.le_of_ble_eq_true rfl) ?_
  refine r_aload_n dX5_isDown_0 0 rfl ?_
  refine r_iconst 0 dX5_isDown_1 rfl ?_
  refine r_iload_n dX5_isDown_2 1 rfl ?_
  refine r_cvF (ok_X5_of hG hth 0 p1 μ) lX5_54 (hth.lt hG) hth.sh ⟨_, _, rfl⟩ dX5_isDown_3 (by decide) (by decide) rfl (Nat.le_of_ble_eq_true rfl) ?_
  refine r_iconst (-1) dX5_isDown_6 rfl ?_
  refine r_icmp_eq 24 dX5_isDown_7 (by decide) (fun c1 => ?_) (fun c1 => ?_)
  · refine r_iconst 0 dX5_isDown_24 rfl ?_
    exact r_ireturn _ dX5_isDown_25 rfl rfl ⟨congrArg (fun z => some (Value.int z)) (by unfold F_X5_isDown; rw [if_pos c1]), rfl⟩
  · refine r_aload_n dX5_isDown_10 0 rfl ?_
    refine r_bipush 10 dX5_isDown_11 rfl ?_
    refine r_iload_n dX5_isDown_13 1 rfl ?_
    refine r_cvF (ok_X5_of hG hth 10 p1 μ) lX5_54 (hth.lt hG) hth.sh ⟨_, _, rfl⟩ dX5_isDown_14 (by decide) (by decide) rfl (Nat.le_of_ble_eq_true rfl) ?_
    refine r_if_ne 24 dX5_isDown_17 (by decide) (fun c2 => ?_) (fun c2 => ?_)
    · refine r_iconst 0 dX5_isDown_24 rfl ?_
      exact r_ireturn _ dX5_isDown_25 rfl rfl ⟨congrArg (fun z => some (Value.int z)) (by unfold F_X5_isDown; rw [if_neg c1, if_pos c2]), rfl⟩
    · refine r_iconst 1 dX5_isDown_20 rfl ?_
      refine r_goto 25 dX5_isDown_21 (by decide) ?_
      exact r_ireturn _ dX5_isDown_25 rfl rfl ⟨congrArg (fun z => some (Value.int z)) (by unfold F_X5_isDown; rw [if_neg c1, if_neg (not_not_intro c2)]), rfl⟩
