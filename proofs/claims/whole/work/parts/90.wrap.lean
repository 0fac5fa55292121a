/-! the law's helpers: 0 and the answer in out, or how it was refused -/
theorem kI_z {a b : Nat} (ha : a = 0 ∨ a = 2) (hb : b = 0 ∨ b = 2) : (if a = 0 then b else a) = 0 ∨ (if a = 0 then b else a) = 2 := by split <;> assumption
theorem kI_R (a b c : Int32) (μ : Mem) : K_X9_needRange a b c μ = 0 ∨ K_X9_needRange a b c μ = 2 := by unfold K_X9_needRange; split <;> (try split) <;> simp
theorem kN_E (a b : Int32) (μ : Mem) : K_X9_needElement a b μ = 0 ∨ K_X9_needElement a b μ = 1 := by unfold K_X9_needElement; split <;> (try split) <;> simp
set_option maxRecDepth 20000 in
set_option maxHeartbeats 2000000 in
theorem ok_L_street {G : SG} (hG : GK 549 G) (p1 : Int32) (μ : Mem) (hP : P_X9_street p1 μ) (hK : (K_X9_street p1 μ) ≠ 1) : OkW G mL_street 1 [.ref (ga G 0), .int p1, .ref (ga G 548)] μ (W_L_street p1 μ) (M_L_street p1 μ) := by
  refine okh_of hG.2 (bc2 179 (by decide +kernel) (by decide +kernel)) rfl (Nat.le_of_ble_eq_true rfl) ?_
  refine r_aload_n dL_street_0 2 rfl ?_
  refine r_iconst 0 dL_street_1 rfl ?_
  refine r_aload_n dL_street_2 0 rfl ?_
  refine r_iload_n dL_street_3 1 rfl ?_
  refine r_callV (t' := 1) (ok_X9_street (hG.le (by decide)) p1 μ hP) lL_7 (hG.lt (by decide)) sh0 ⟨_, _, rfl⟩ dL_street_4 (Nat.le_of_ble_eq_true rfl) (Nat.le_of_ble_eq_true rfl) rfl (Nat.le_of_ble_eq_true rfl) (Nat.le_refl _) (fun E ν h => Or.inr ?_) (fun w ν h => ?_)
  · obtain ⟨h, rfl⟩ := h
    rcases h with ⟨hk, rfl⟩ | ⟨hk, rfl⟩
    · exact absurd hk hK
    · refine ⟨[], ⟨0, 9, 12, 13⟩, [], "java/lang/IllegalArgumentException", rfl, fun z hz => absurd hz List.not_mem_nil, by decide, by decide, bc2 180 (by decide +kernel) (by decide +kernel), nc2 198 (by decide +kernel) (by decide +kernel), fun q => ?_⟩
      refine r_astore_n [(3, _), (0, _), (1, _), (2, _)] dL_street_12 (Nat.le_of_ble_eq_true rfl) rfl ?_
      refine r_iconst 1 dL_street_13 rfl ?_
      exact r_ireturn _ dL_street_14 rfl rfl ⟨by unfold W_L_street; rw [if_neg (by omega)], by unfold M_L_street M_out; rw [if_neg (by omega)]⟩
  · obtain ⟨hk, rfl, rfl⟩ := h
    refine r_i2l dL_street_7 ?_
    refine r_lastK 0 rfl (hG.lt (by decide)) sh548 (vp_of (by decide) (by decide)) dL_street_8 ?_
    refine r_goto 15 dL_street_9 (by decide) ?_
    refine r_iconst 0 dL_street_15 rfl ?_
    exact r_ireturn _ dL_street_16 rfl rfl ⟨by unfold W_L_street; rw [if_pos hk], by unfold M_L_street M_out; rw [if_pos hk]⟩

set_option maxRecDepth 20000 in
set_option maxHeartbeats 2000000 in
theorem ok_L_law {G : SG} (hG : GK 549 G) (p1 : Int32) (μ : Mem) (hP : P_X9_law p1 μ) (hK : (K_X9_law p1 μ) ≠ 1) : OkW G mL_law 1 [.ref (ga G 0), .int p1, .ref (ga G 548)] μ (W_L_law p1 μ) (M_L_law p1 μ) := by
  refine okh_of hG.2 (bc3 174 (by decide +kernel) (by decide +kernel)) rfl (Nat.le_of_ble_eq_true rfl) ?_
  refine r_aload_n dL_law_0 2 rfl ?_
  refine r_iconst 0 dL_law_1 rfl ?_
  refine r_aload_n dL_law_2 0 rfl ?_
  refine r_iload_n dL_law_3 1 rfl ?_
  refine r_callV (t' := 1) (ok_X9_law (hG.le (by decide)) p1 μ hP) lL_15 (hG.lt (by decide)) sh0 ⟨_, _, rfl⟩ dL_law_4 (Nat.le_of_ble_eq_true rfl) (Nat.le_of_ble_eq_true rfl) rfl (Nat.le_of_ble_eq_true rfl) (Nat.le_refl _) (fun E ν h => Or.inr ?_) (fun w ν h => ?_)
  · obtain ⟨h, rfl⟩ := h
    rcases h with ⟨hk, rfl⟩ | ⟨hk, rfl⟩
    · exact absurd hk hK
    · refine ⟨[], ⟨0, 9, 12, 13⟩, [], "java/lang/IllegalArgumentException", rfl, fun z hz => absurd hz List.not_mem_nil, by decide, by decide, bc2 180 (by decide +kernel) (by decide +kernel), nc2 198 (by decide +kernel) (by decide +kernel), fun q => ?_⟩
      refine r_astore_n [(3, _), (0, _), (1, _), (2, _)] dL_law_12 (Nat.le_of_ble_eq_true rfl) rfl ?_
      refine r_iconst 1 dL_law_13 rfl ?_
      exact r_ireturn _ dL_law_14 rfl rfl ⟨by unfold W_L_law; rw [if_neg (by omega)], by unfold M_L_law M_out; rw [if_neg (by omega)]⟩
  · obtain ⟨hk, rfl, rfl⟩ := h
    refine r_i2l dL_law_7 ?_
    refine r_lastK 0 rfl (hG.lt (by decide)) sh548 (vp_of (by decide) (by decide)) dL_law_8 ?_
    refine r_goto 15 dL_law_9 (by decide) ?_
    refine r_iconst 0 dL_law_15 rfl ?_
    exact r_ireturn _ dL_law_16 rfl rfl ⟨by unfold W_L_law; rw [if_pos hk], by unfold M_L_law M_out; rw [if_pos hk]⟩

set_option maxRecDepth 20000 in
set_option maxHeartbeats 2000000 in
theorem ok_L_work {G : SG} (hG : GK 549 G) (p1 : Int32) (μ : Mem) (hP : P_X9_work p1 μ) (hK : (K_X9_work p1 μ) ≠ 1) : OkW G mL_work 1 [.ref (ga G 0), .int p1, .ref (ga G 548)] μ (W_L_work p1 μ) (M_L_work p1 μ) := by
  refine okh_of hG.2 (bc3 231 (by decide +kernel) (by decide +kernel)) rfl (Nat.le_of_ble_eq_true rfl) ?_
  refine r_aload_n dL_work_0 2 rfl ?_
  refine r_iconst 0 dL_work_1 rfl ?_
  refine r_aload_n dL_work_2 0 rfl ?_
  refine r_iload_n dL_work_3 1 rfl ?_
  refine r_callV (t' := 1) (ok_X9_work (hG.le (by decide)) p1 μ hP) lL_18 (hG.lt (by decide)) sh0 ⟨_, _, rfl⟩ dL_work_4 (Nat.le_of_ble_eq_true rfl) (Nat.le_of_ble_eq_true rfl) rfl (Nat.le_of_ble_eq_true rfl) (Nat.le_refl _) (fun E ν h => Or.inr ?_) (fun w ν h => ?_)
  · obtain ⟨h, rfl⟩ := h
    rcases h with ⟨hk, rfl⟩ | ⟨hk, rfl⟩
    · exact absurd hk hK
    · refine ⟨[], ⟨0, 9, 12, 13⟩, [], "java/lang/IllegalArgumentException", rfl, fun z hz => absurd hz List.not_mem_nil, by decide, by decide, bc2 180 (by decide +kernel) (by decide +kernel), nc2 198 (by decide +kernel) (by decide +kernel), fun q => ?_⟩
      refine r_astore_n [(3, _), (0, _), (1, _), (2, _)] dL_work_12 (Nat.le_of_ble_eq_true rfl) rfl ?_
      refine r_iconst 1 dL_work_13 rfl ?_
      exact r_ireturn _ dL_work_14 rfl rfl ⟨by unfold W_L_work; rw [if_neg (by omega)], by unfold M_L_work M_out; rw [if_neg (by omega)]⟩
  · obtain ⟨hk, rfl, rfl⟩ := h
    refine r_i2l dL_work_7 ?_
    refine r_lastK 0 rfl (hG.lt (by decide)) sh548 (vp_of (by decide) (by decide)) dL_work_8 ?_
    refine r_goto 15 dL_work_9 (by decide) ?_
    refine r_iconst 0 dL_work_15 rfl ?_
    exact r_ireturn _ dL_work_16 rfl rfl ⟨by unfold W_L_work; rw [if_pos hk], by unfold M_L_work M_out; rw [if_pos hk]⟩

set_option maxRecDepth 20000 in
set_option maxHeartbeats 2000000 in
theorem ok_L_stains {G : SG} (hG : GK 549 G) (p1 : Int32) (μ : Mem) (hP : P_X9_stains p1 μ) (hK : (K_X9_stains p1 μ) ≠ 1) : OkW G mL_stains 1 [.ref (ga G 0), .int p1, .ref (ga G 548)] μ (W_L_stains p1 μ) (M_L_stains p1 μ) := by
  refine okh_of hG.2 (bc4 124 (by decide +kernel) (by decide +kernel)) rfl (Nat.le_of_ble_eq_true rfl) ?_
  refine r_aload_n dL_stains_0 2 rfl ?_
  refine r_iconst 0 dL_stains_1 rfl ?_
  refine r_aload_n dL_stains_2 0 rfl ?_
  refine r_iload_n dL_stains_3 1 rfl ?_
  refine r_callV (t' := 1) (ok_X9_stains (hG.le (by decide)) p1 μ hP) lL_21 (hG.lt (by decide)) sh0 ⟨_, _, rfl⟩ dL_stains_4 (Nat.le_of_ble_eq_true rfl) (Nat.le_of_ble_eq_true rfl) rfl (Nat.le_of_ble_eq_true rfl) (Nat.le_refl _) (fun E ν h => Or.inr ?_) (fun w ν h => ?_)
  · obtain ⟨h, rfl⟩ := h
    rcases h with ⟨hk, rfl⟩ | ⟨hk, rfl⟩
    · exact absurd hk hK
    · refine ⟨[], ⟨0, 9, 12, 13⟩, [], "java/lang/IllegalArgumentException", rfl, fun z hz => absurd hz List.not_mem_nil, by decide, by decide, bc2 180 (by decide +kernel) (by decide +kernel), nc2 198 (by decide +kernel) (by decide +kernel), fun q => ?_⟩
      refine r_astore_n [(3, _), (0, _), (1, _), (2, _)] dL_stains_12 (Nat.le_of_ble_eq_true rfl) rfl ?_
      refine r_iconst 1 dL_stains_13 rfl ?_
      exact r_ireturn _ dL_stains_14 rfl rfl ⟨by unfold W_L_stains; rw [if_neg (by omega)], by unfold M_L_stains M_out; rw [if_neg (by omega)]⟩
  · obtain ⟨hk, rfl, rfl⟩ := h
    refine r_i2l dL_stains_7 ?_
    refine r_lastK 0 rfl (hG.lt (by decide)) sh548 (vp_of (by decide) (by decide)) dL_stains_8 ?_
    refine r_goto 15 dL_stains_9 (by decide) ?_
    refine r_iconst 0 dL_stains_15 rfl ?_
    exact r_ireturn _ dL_stains_16 rfl rfl ⟨by unfold W_L_stains; rw [if_pos hk], by unfold M_L_stains M_out; rw [if_pos hk]⟩

set_option maxRecDepth 20000 in
set_option maxHeartbeats 2000000 in
theorem ok_L_told {G : SG} (hG : GK 549 G) (p1 : Int32) (μ : Mem) (hP : P_X9_told p1 μ) (hK : (K_X9_told p1 μ) ≠ 1) : OkW G mL_told 1 [.ref (ga G 0), .int p1, .ref (ga G 548)] μ (W_L_told p1 μ) (M_L_told p1 μ) := by
  refine okh_of hG.2 (bc4 150 (by decide +kernel) (by decide +kernel)) rfl (Nat.le_of_ble_eq_true rfl) ?_
  refine r_aload_n dL_told_0 2 rfl ?_
  refine r_iconst 0 dL_told_1 rfl ?_
  refine r_aload_n dL_told_2 0 rfl ?_
  refine r_iload_n dL_told_3 1 rfl ?_
  refine r_callV (t' := 1) (ok_X9_told (hG.le (by decide)) p1 μ hP) lL_24 (hG.lt (by decide)) sh0 ⟨_, _, rfl⟩ dL_told_4 (Nat.le_of_ble_eq_true rfl) (Nat.le_of_ble_eq_true rfl) rfl (Nat.le_of_ble_eq_true rfl) (Nat.le_refl _) (fun E ν h => Or.inr ?_) (fun w ν h => ?_)
  · obtain ⟨h, rfl⟩ := h
    rcases h with ⟨hk, rfl⟩ | ⟨hk, rfl⟩
    · exact absurd hk hK
    · refine ⟨[], ⟨0, 9, 12, 13⟩, [], "java/lang/IllegalArgumentException", rfl, fun z hz => absurd hz List.not_mem_nil, by decide, by decide, bc2 180 (by decide +kernel) (by decide +kernel), nc2 198 (by decide +kernel) (by decide +kernel), fun q => ?_⟩
      refine r_astore_n [(3, _), (0, _), (1, _), (2, _)] dL_told_12 (Nat.le_of_ble_eq_true rfl) rfl ?_
      refine r_iconst 1 dL_told_13 rfl ?_
      exact r_ireturn _ dL_told_14 rfl rfl ⟨by unfold W_L_told; rw [if_neg (by omega)], by unfold M_L_told M_out; rw [if_neg (by omega)]⟩
  · obtain ⟨hk, rfl, rfl⟩ := h
    refine r_i2l dL_told_7 ?_
    refine r_lastK 0 rfl (hG.lt (by decide)) sh548 (vp_of (by decide) (by decide)) dL_told_8 ?_
    refine r_goto 15 dL_told_9 (by decide) ?_
    refine r_iconst 0 dL_told_15 rfl ?_
    exact r_ireturn _ dL_told_16 rfl rfl ⟨by unfold W_L_told; rw [if_pos hk], by unfold M_L_told M_out; rw [if_pos hk]⟩

set_option maxRecDepth 20000 in
set_option maxHeartbeats 2000000 in
theorem ok_L_house {G : SG} (hG : GK 549 G) (p1 : Int32) (p2 : Int32) (μ : Mem) (hP : P_X9_house p1 p2 μ) : OkW G mL_house 2 [.ref (ga G 0), .int p1, .int p2, .ref (ga G 548)] μ (W_L_house p1 p2 μ) (M_L_house p1 p2 μ) := by
  refine okh_of hG.2 (bc4 175 (by decide +kernel) (by decide +kernel)) rfl (Nat.le_of_ble_eq_true rfl) ?_
  refine r_aload_n dL_house_0 3 rfl ?_
  refine r_iconst 0 dL_house_1 rfl ?_
  refine r_aload_n dL_house_2 0 rfl ?_
  refine r_iload_n dL_house_3 1 rfl ?_
  refine r_iload_n dL_house_4 2 rfl ?_
  refine r_callV (t' := 2) (ok_X9_house (hG.le (by decide)) p1 p2 μ hP) lL_27 (hG.lt (by decide)) sh0 ⟨_, _, rfl⟩ dL_house_5 (Nat.le_of_ble_eq_true rfl) (Nat.le_of_ble_eq_true rfl) rfl (Nat.le_of_ble_eq_true rfl) (Nat.le_refl _) (fun E ν h => Or.inr ?_) (fun w ν h => ?_)
  · obtain ⟨h, rfl⟩ := h
    rcases h with ⟨hk, rfl⟩ | ⟨hk, rfl⟩
    · refine ⟨[], ⟨0, 10, 13, 31⟩, [⟨0, 10, 17, 13⟩], "java/util/NoSuchElementException", rfl, fun z hz => absurd hz List.not_mem_nil, by decide, by decide, bc4 176 (by decide +kernel) (by decide +kernel), nc4 191 (by decide +kernel) (by decide +kernel), fun q => ?_⟩
      refine r_astore [(4, _), (0, _), (1, _), (2, _), (3, _)] dL_house_13 (Nat.le_of_ble_eq_true rfl) rfl ?_
      refine r_iconst 1 dL_house_15 rfl ?_
      exact r_ireturn _ dL_house_16 rfl rfl ⟨by unfold W_L_house; rw [if_neg (by omega), if_pos hk], by unfold M_L_house M_out; rw [if_neg (by omega)]⟩
    · refine ⟨[⟨0, 10, 13, 31⟩], ⟨0, 10, 17, 13⟩, [], "java/lang/IllegalArgumentException", rfl, fun z hz => by
          rw [List.mem_singleton.mp hz]
          exact Or.inr ⟨by decide, "java/util/NoSuchElementException", bc4 176 (by decide +kernel) (by decide +kernel), rfl, rfl⟩, by decide, by decide, bc2 180 (by decide +kernel) (by decide +kernel), nc2 198 (by decide +kernel) (by decide +kernel), fun q => ?_⟩
      refine r_astore [(4, _), (0, _), (1, _), (2, _), (3, _)] dL_house_17 (Nat.le_of_ble_eq_true rfl) rfl ?_
      refine r_iconst 2 dL_house_19 rfl ?_
      exact r_ireturn _ dL_house_20 rfl rfl ⟨by unfold W_L_house; rw [if_neg (by omega), if_neg (by omega)], by unfold M_L_house M_out; rw [if_neg (by omega)]⟩
  · obtain ⟨hk, rfl, rfl⟩ := h
    refine r_i2l dL_house_8 ?_
    refine r_lastK 0 rfl (hG.lt (by decide)) sh548 (vp_of (by decide) (by decide)) dL_house_9 ?_
    refine r_goto 21 dL_house_10 (by decide) ?_
    refine r_iconst 0 dL_house_21 rfl ?_
    exact r_ireturn _ dL_house_22 rfl rfl ⟨by unfold W_L_house; rw [if_pos hk], by unfold M_L_house M_out; rw [if_pos hk]⟩

set_option maxRecDepth 20000 in
set_option maxHeartbeats 2000000 in
theorem ok_L_thing {G : SG} (hG : GK 549 G) (p1 : Int32) (p2 : Int32) (μ : Mem) : OkW G mL_thing 2 [.ref (ga G 0), .int p1, .int p2, .ref (ga G 548)] μ (W_L_thing p1 p2 μ) (M_L_thing p1 p2 μ) := by
  refine okh_of hG.2 (bc4 213 (by decide +kernel) (by decide +kernel)) rfl (Nat.le_of_ble_eq_true rfl) ?_
  refine r_aload_n dL_thing_0 3 rfl ?_
  refine r_iconst 0 dL_thing_1 rfl ?_
  refine r_aload_n dL_thing_2 0 rfl ?_
  refine r_iload_n dL_thing_3 1 rfl ?_
  refine r_iload_n dL_thing_4 2 rfl ?_
  refine r_callV (t' := 2) (ok_X9_thing (hG.le (by decide)) p1 p2 μ) lL_33 (hG.lt (by decide)) sh0 ⟨_, _, rfl⟩ dL_thing_5 (Nat.le_of_ble_eq_true rfl) (Nat.le_of_ble_eq_true rfl) rfl (Nat.le_of_ble_eq_true rfl) (Nat.le_refl _) (fun E ν h => Or.inr ?_) (fun w ν h => ?_)
  · obtain ⟨h, rfl⟩ := h
    rcases h with ⟨hk, rfl⟩ | ⟨hk, rfl⟩
    · refine ⟨[], ⟨0, 10, 13, 31⟩, [⟨0, 10, 17, 13⟩], "java/util/NoSuchElementException", rfl, fun z hz => absurd hz List.not_mem_nil, by decide, by decide, bc4 176 (by decide +kernel) (by decide +kernel), nc4 191 (by decide +kernel) (by decide +kernel), fun q => ?_⟩
      refine r_astore [(4, _), (0, _), (1, _), (2, _), (3, _)] dL_thing_13 (Nat.le_of_ble_eq_true rfl) rfl ?_
      refine r_iconst 1 dL_thing_15 rfl ?_
      exact r_ireturn _ dL_thing_16 rfl rfl ⟨by unfold W_L_thing; rw [if_neg (by omega), if_pos hk], by unfold M_L_thing M_out; rw [if_neg (by omega)]⟩
    · refine ⟨[⟨0, 10, 13, 31⟩], ⟨0, 10, 17, 13⟩, [], "java/lang/IllegalArgumentException", rfl, fun z hz => by
          rw [List.mem_singleton.mp hz]
          exact Or.inr ⟨by decide, "java/util/NoSuchElementException", bc4 176 (by decide +kernel) (by decide +kernel), rfl, rfl⟩, by decide, by decide, bc2 180 (by decide +kernel) (by decide +kernel), nc2 198 (by decide +kernel) (by decide +kernel), fun q => ?_⟩
      refine r_astore [(4, _), (0, _), (1, _), (2, _), (3, _)] dL_thing_17 (Nat.le_of_ble_eq_true rfl) rfl ?_
      refine r_iconst 2 dL_thing_19 rfl ?_
      exact r_ireturn _ dL_thing_20 rfl rfl ⟨by unfold W_L_thing; rw [if_neg (by omega), if_neg (by omega)], by unfold M_L_thing M_out; rw [if_neg (by omega)]⟩
  · obtain ⟨hk, rfl, rfl⟩ := h
    refine r_i2l dL_thing_8 ?_
    refine r_lastK 0 rfl (hG.lt (by decide)) sh548 (vp_of (by decide) (by decide)) dL_thing_9 ?_
    refine r_goto 21 dL_thing_10 (by decide) ?_
    refine r_iconst 0 dL_thing_21 rfl ?_
    exact r_ireturn _ dL_thing_22 rfl rfl ⟨by unfold W_L_thing; rw [if_pos hk], by unfold M_L_thing M_out; rw [if_pos hk]⟩

set_option maxRecDepth 20000 in
set_option maxHeartbeats 2000000 in
theorem ok_L_height {G : SG} (hG : GK 549 G) (p1 : Int32) (μ : Mem) (hP : P_X9_height p1 μ) (hK : (K_X9_height p1 μ) ≠ 1) : OkW G mL_height 1 [.ref (ga G 0), .int p1, .ref (ga G 548)] μ (W_L_height p1 μ) (M_L_height p1 μ) := by
  refine okh_of hG.2 (bc4 221 (by decide +kernel) (by decide +kernel)) rfl (Nat.le_of_ble_eq_true rfl) ?_
  refine r_aload_n dL_height_0 2 rfl ?_
  refine r_iconst 0 dL_height_1 rfl ?_
  refine r_aload_n dL_height_2 0 rfl ?_
  refine r_iload_n dL_height_3 1 rfl ?_
  refine r_callV (t' := 1) (ok_X9_height (hG.le (by decide)) p1 μ hP) lL_36 (hG.lt (by decide)) sh0 ⟨_, _, rfl⟩ dL_height_4 (Nat.le_of_ble_eq_true rfl) (Nat.le_of_ble_eq_true rfl) rfl (Nat.le_of_ble_eq_true rfl) (Nat.le_refl _) (fun E ν h => Or.inr ?_) (fun w ν h => ?_)
  · obtain ⟨h, rfl⟩ := h
    rcases h with ⟨hk, rfl⟩ | ⟨hk, rfl⟩
    · exact absurd hk hK
    · refine ⟨[], ⟨0, 9, 12, 13⟩, [], "java/lang/IllegalArgumentException", rfl, fun z hz => absurd hz List.not_mem_nil, by decide, by decide, bc2 180 (by decide +kernel) (by decide +kernel), nc2 198 (by decide +kernel) (by decide +kernel), fun q => ?_⟩
      refine r_astore_n [(3, _), (0, _), (1, _), (2, _)] dL_height_12 (Nat.le_of_ble_eq_true rfl) rfl ?_
      refine r_iconst 1 dL_height_13 rfl ?_
      exact r_ireturn _ dL_height_14 rfl rfl ⟨by unfold W_L_height; rw [if_neg (by omega)], by unfold M_L_height M_out; rw [if_neg (by omega)]⟩
  · obtain ⟨hk, rfl, rfl⟩ := h
    refine r_i2l dL_height_7 ?_
    refine r_lastK 0 rfl (hG.lt (by decide)) sh548 (vp_of (by decide) (by decide)) dL_height_8 ?_
    refine r_goto 15 dL_height_9 (by decide) ?_
    refine r_iconst 0 dL_height_15 rfl ?_
    exact r_ireturn _ dL_height_16 rfl rfl ⟨by unfold W_L_height; rw [if_pos hk], by unfold M_L_height M_out; rw [if_pos hk]⟩

set_option maxRecDepth 20000 in
set_option maxHeartbeats 2000000 in
theorem ok_L_find {G : SG} (hG : GK 549 G) (p1 : Int32) (p2 : Int32) (μ : Mem) : OkW G mL_find 2 [.ref (ga G 0), .int p1, .int p2, .ref (ga G 548)] μ (W_L_find p1 p2 μ) (M_L_find p1 p2 μ) := by
  refine okh_of hG.2 (bc4 228 (by decide +kernel) (by decide +kernel)) rfl (Nat.le_of_ble_eq_true rfl) ?_
  refine r_aload_n dL_find_0 3 rfl ?_
  refine r_iconst 0 dL_find_1 rfl ?_
  refine r_aload_n dL_find_2 0 rfl ?_
  refine r_iload_n dL_find_3 1 rfl ?_
  refine r_iload_n dL_find_4 2 rfl ?_
  refine r_callV (t' := 2) (ok_X9_find (hG.le (by decide)) p1 p2 μ) lL_39 (hG.lt (by decide)) sh0 ⟨_, _, rfl⟩ dL_find_5 (Nat.le_of_ble_eq_true rfl) (Nat.le_of_ble_eq_true rfl) rfl (Nat.le_of_ble_eq_true rfl) (Nat.le_refl _) (fun E ν h => Or.inr ?_) (fun w ν h => ?_)
  · obtain ⟨h, rfl⟩ := h
    rcases h with ⟨hk, rfl⟩ | ⟨hk, rfl⟩
    · refine ⟨[], ⟨0, 10, 13, 31⟩, [⟨0, 10, 17, 13⟩], "java/util/NoSuchElementException", rfl, fun z hz => absurd hz List.not_mem_nil, by decide, by decide, bc4 176 (by decide +kernel) (by decide +kernel), nc4 191 (by decide +kernel) (by decide +kernel), fun q => ?_⟩
      refine r_astore [(4, _), (0, _), (1, _), (2, _), (3, _)] dL_find_13 (Nat.le_of_ble_eq_true rfl) rfl ?_
      refine r_iconst 1 dL_find_15 rfl ?_
      exact r_ireturn _ dL_find_16 rfl rfl ⟨by unfold W_L_find; rw [if_neg (by omega), if_pos hk], by unfold M_L_find M_out; rw [if_neg (by omega)]⟩
    · refine ⟨[⟨0, 10, 13, 31⟩], ⟨0, 10, 17, 13⟩, [], "java/lang/IllegalArgumentException", rfl, fun z hz => by
          rw [List.mem_singleton.mp hz]
          exact Or.inr ⟨by decide, "java/util/NoSuchElementException", bc4 176 (by decide +kernel) (by decide +kernel), rfl, rfl⟩, by decide, by decide, bc2 180 (by decide +kernel) (by decide +kernel), nc2 198 (by decide +kernel) (by decide +kernel), fun q => ?_⟩
      refine r_astore [(4, _), (0, _), (1, _), (2, _), (3, _)] dL_find_17 (Nat.le_of_ble_eq_true rfl) rfl ?_
      refine r_iconst 2 dL_find_19 rfl ?_
      exact r_ireturn _ dL_find_20 rfl rfl ⟨by unfold W_L_find; rw [if_neg (by omega), if_neg (by omega)], by unfold M_L_find M_out; rw [if_neg (by omega)]⟩
  · obtain ⟨hk, rfl, rfl⟩ := h
    refine r_i2l dL_find_8 ?_
    refine r_lastK 0 rfl (hG.lt (by decide)) sh548 (vp_of (by decide) (by decide)) dL_find_9 ?_
    refine r_goto 21 dL_find_10 (by decide) ?_
    refine r_iconst 0 dL_find_21 rfl ?_
    exact r_ireturn _ dL_find_22 rfl rfl ⟨by unfold W_L_find; rw [if_pos hk], by unfold M_L_find M_out; rw [if_pos hk]⟩

set_option maxRecDepth 20000 in
set_option maxHeartbeats 2000000 in
theorem ok_L_due {G : SG} (hG : GK 549 G) (p1 : Int32) (μ : Mem) (hP : P_X9_due p1 μ) (hK : (K_X9_due p1 μ) ≠ 2) : OkW G mL_due 1 [.ref (ga G 0), .int p1, .ref (ga G 548)] μ (W_L_due p1 μ) (M_L_due p1 μ) := by
  refine okh_of hG.2 (bc4 235 (by decide +kernel) (by decide +kernel)) rfl (Nat.le_of_ble_eq_true rfl) ?_
  refine r_aload_n dL_due_0 2 rfl ?_
  refine r_iconst 0 dL_due_1 rfl ?_
  refine r_aload_n dL_due_2 0 rfl ?_
  refine r_iload_n dL_due_3 1 rfl ?_
  refine r_callV (t' := 1) (ok_X9_due (hG.le (by decide)) p1 μ hP) lL_42 (hG.lt (by decide)) sh0 ⟨_, _, rfl⟩ dL_due_4 (Nat.le_of_ble_eq_true rfl) (Nat.le_of_ble_eq_true rfl) rfl (Nat.le_of_ble_eq_true rfl) (Nat.le_refl _) (fun E ν h => Or.inr ?_) (fun w ν h => ?_)
  · obtain ⟨h, rfl⟩ := h
    rcases h with ⟨hk, rfl⟩ | ⟨hk, rfl⟩
    rotate_left
    · exact absurd hk hK
    · refine ⟨[], ⟨0, 9, 12, 31⟩, [], "java/util/NoSuchElementException", rfl, fun z hz => absurd hz List.not_mem_nil, by decide, by decide, bc4 176 (by decide +kernel) (by decide +kernel), nc4 191 (by decide +kernel) (by decide +kernel), fun q => ?_⟩
      refine r_astore_n [(3, _), (0, _), (1, _), (2, _)] dL_due_12 (Nat.le_of_ble_eq_true rfl) rfl ?_
      refine r_iconst 1 dL_due_13 rfl ?_
      exact r_ireturn _ dL_due_14 rfl rfl ⟨by unfold W_L_due; rw [if_neg (by omega)], by unfold M_L_due M_out; rw [if_neg (by omega)]⟩
  · obtain ⟨hk, rfl, rfl⟩ := h
    refine r_i2l dL_due_7 ?_
    refine r_lastK 0 rfl (hG.lt (by decide)) sh548 (vp_of (by decide) (by decide)) dL_due_8 ?_
    refine r_goto 15 dL_due_9 (by decide) ?_
    refine r_iconst 0 dL_due_15 rfl ?_
    exact r_ireturn _ dL_due_16 rfl rfl ⟨by unfold W_L_due; rw [if_pos hk], by unfold M_L_due M_out; rw [if_pos hk]⟩

set_option maxRecDepth 20000 in
set_option maxHeartbeats 2000000 in
theorem ok_L_would {G : SG} (hG : GK 549 G) (p1 : Int32) (p2 : Int32) (p3 : Int32) (p4 : Int32) (p5 : Int32) (p6 : Int32) (μ : Mem) (hP : P_X9_would p1 p2 p3 p4 p5 p6 μ) (hK : (K_X9_would p1 p2 p3 p4 p5 p6 μ) ≠ 1) : OkW G mL_would 6 [.ref (ga G 0), .int p1, .int p2, .int p3, .int p4, .int p5, .int p6, .ref (ga G 548)] μ (W_L_would p1 p2 p3 p4 p5 p6 μ) (M_L_would p1 p2 p3 p4 p5 p6 μ) := by
  refine okh_of hG.2 (bc5 24 (by decide +kernel) (by decide +kernel)) rfl (Nat.le_of_ble_eq_true rfl) ?_
  refine r_aload dL_would_0 7 rfl ?_
  refine r_iconst 0 dL_would_2 rfl ?_
  refine r_aload_n dL_would_3 0 rfl ?_
  refine r_iload_n dL_would_4 1 rfl ?_
  refine r_iload_n dL_would_5 2 rfl ?_
  refine r_iload_n dL_would_6 3 rfl ?_
  refine r_iload dL_would_7 4 rfl ?_
  refine r_iload dL_would_9 5 rfl ?_
  refine r_iload dL_would_11 6 rfl ?_
  refine r_callV (t' := 6) (ok_X9_would (hG.le (by decide)) p1 p2 p3 p4 p5 p6 μ hP) lL_45 (hG.lt (by decide)) sh0 ⟨_, _, rfl⟩ dL_would_13 (Nat.le_of_ble_eq_true rfl) (Nat.le_of_ble_eq_true rfl) rfl (Nat.le_of_ble_eq_true rfl) (Nat.le_refl _) (fun E ν h => Or.inr ?_) (fun w ν h => ?_)
  · obtain ⟨h, rfl⟩ := h
    rcases h with ⟨hk, rfl⟩ | ⟨hk, rfl⟩
    · exact absurd hk hK
    · refine ⟨[], ⟨0, 18, 21, 13⟩, [], "java/lang/IllegalArgumentException", rfl, fun z hz => absurd hz List.not_mem_nil, by decide, by decide, bc2 180 (by decide +kernel) (by decide +kernel), nc2 198 (by decide +kernel) (by decide +kernel), fun q => ?_⟩
      refine r_astore [(8, _), (0, _), (1, _), (2, _), (3, _), (4, _), (5, _), (6, _), (7, _)] dL_would_21 (Nat.le_of_ble_eq_true rfl) rfl ?_
      refine r_iconst 1 dL_would_23 rfl ?_
      exact r_ireturn _ dL_would_24 rfl rfl ⟨by unfold W_L_would; rw [if_neg (by omega)], by unfold M_L_would M_out; rw [if_neg (by omega)]⟩
  · obtain ⟨hk, rfl, rfl⟩ := h
    refine r_i2l dL_would_16 ?_
    refine r_lastK 0 rfl (hG.lt (by decide)) sh548 (vp_of (by decide) (by decide)) dL_would_17 ?_
    refine r_goto 25 dL_would_18 (by decide) ?_
    refine r_iconst 0 dL_would_25 rfl ?_
    exact r_ireturn _ dL_would_26 rfl rfl ⟨by unfold W_L_would; rw [if_pos hk], by unfold M_L_would M_out; rw [if_pos hk]⟩

set_option maxRecDepth 20000 in
set_option maxHeartbeats 2000000 in
theorem ok_L_ahead {G : SG} (hG : GK 549 G) (p1 : Int32) (p2 : Int32) (μ : Mem) (hP : P_X9_ahead p1 p2 μ) (hK : (K_X9_ahead p1 p2 μ) ≠ 1) : OkW G mL_ahead 2 [.ref (ga G 0), .int p1, .int p2, .ref (ga G 548)] μ (W_L_ahead p1 p2 μ) (M_L_ahead p1 p2 μ) := by
  refine okh_of hG.2 (bc5 32 (by decide +kernel) (by decide +kernel)) rfl (Nat.le_of_ble_eq_true rfl) ?_
  refine r_aload_n dL_ahead_0 3 rfl ?_
  refine r_iconst 0 dL_ahead_1 rfl ?_
  refine r_aload_n dL_ahead_2 0 rfl ?_
  refine r_iload_n dL_ahead_3 1 rfl ?_
  refine r_iload_n dL_ahead_4 2 rfl ?_
  refine r_callV (t' := 2) (ok_X9_ahead (hG.le (by decide)) p1 p2 μ hP) lL_49 (hG.lt (by decide)) sh0 ⟨_, _, rfl⟩ dL_ahead_5 (Nat.le_of_ble_eq_true rfl) (Nat.le_of_ble_eq_true rfl) rfl (Nat.le_of_ble_eq_true rfl) (Nat.le_refl _) (fun E ν h => Or.inr ?_) (fun w ν h => ?_)
  · obtain ⟨h, rfl⟩ := h
    rcases h with ⟨hk, rfl⟩ | ⟨hk, rfl⟩
    · exact absurd hk hK
    · refine ⟨[], ⟨0, 10, 13, 13⟩, [], "java/lang/IllegalArgumentException", rfl, fun z hz => absurd hz List.not_mem_nil, by decide, by decide, bc2 180 (by decide +kernel) (by decide +kernel), nc2 198 (by decide +kernel) (by decide +kernel), fun q => ?_⟩
      refine r_astore [(4, _), (0, _), (1, _), (2, _), (3, _)] dL_ahead_13 (Nat.le_of_ble_eq_true rfl) rfl ?_
      refine r_iconst 1 dL_ahead_15 rfl ?_
      exact r_ireturn _ dL_ahead_16 rfl rfl ⟨by unfold W_L_ahead; rw [if_neg (by omega)], by unfold M_L_ahead M_out; rw [if_neg (by omega)]⟩
  · obtain ⟨hk, rfl, rfl⟩ := h
    refine r_i2l dL_ahead_8 ?_
    refine r_lastK 0 rfl (hG.lt (by decide)) sh548 (vp_of (by decide) (by decide)) dL_ahead_9 ?_
    refine r_goto 17 dL_ahead_10 (by decide) ?_
    refine r_iconst 0 dL_ahead_17 rfl ?_
    exact r_ireturn _ dL_ahead_18 rfl rfl ⟨by unfold W_L_ahead; rw [if_pos hk], by unfold M_L_ahead M_out; rw [if_pos hk]⟩

set_option maxRecDepth 20000 in
set_option maxHeartbeats 2000000 in
theorem ok_L_comes {G : SG} (hG : GK 549 G) (p1 : Int32) (μ : Mem) (hP : P_X9_comes p1 μ) (hK : (K_X9_comes p1 μ) ≠ 2) : OkW G mL_comes 1 [.ref (ga G 0), .int p1, .ref (ga G 548)] μ (W_L_comes p1 μ) (M_L_comes p1 μ) := by
  refine okh_of hG.2 (bc5 67 (by decide +kernel) (by decide +kernel)) rfl (Nat.le_of_ble_eq_true rfl) ?_
  refine r_aload_n dL_comes_0 2 rfl ?_
  refine r_iconst 0 dL_comes_1 rfl ?_
  refine r_aload_n dL_comes_2 0 rfl ?_
  refine r_iload_n dL_comes_3 1 rfl ?_
  refine r_callV (t' := 1) (ok_X9_comes (hG.le (by decide)) p1 μ hP) lL_52 (hG.lt (by decide)) sh0 ⟨_, _, rfl⟩ dL_comes_4 (Nat.le_of_ble_eq_true rfl) (Nat.le_of_ble_eq_true rfl) rfl (Nat.le_of_ble_eq_true rfl) (Nat.le_refl _) (fun E ν h => Or.inr ?_) (fun w ν h => ?_)
  · obtain ⟨h, rfl⟩ := h
    rcases h with ⟨hk, rfl⟩ | ⟨hk, rfl⟩
    rotate_left
    · exact absurd hk hK
    · refine ⟨[], ⟨0, 9, 12, 31⟩, [], "java/util/NoSuchElementException", rfl, fun z hz => absurd hz List.not_mem_nil, by decide, by decide, bc4 176 (by decide +kernel) (by decide +kernel), nc4 191 (by decide +kernel) (by decide +kernel), fun q => ?_⟩
      refine r_astore_n [(3, _), (0, _), (1, _), (2, _)] dL_comes_12 (Nat.le_of_ble_eq_true rfl) rfl ?_
      refine r_iconst 1 dL_comes_13 rfl ?_
      exact r_ireturn _ dL_comes_14 rfl rfl ⟨by unfold W_L_comes; rw [if_neg (by omega)], by unfold M_L_comes M_out; rw [if_neg (by omega)]⟩
  · obtain ⟨hk, rfl, rfl⟩ := h
    refine r_i2l dL_comes_7 ?_
    refine r_lastK 0 rfl (hG.lt (by decide)) sh548 (vp_of (by decide) (by decide)) dL_comes_8 ?_
    refine r_goto 15 dL_comes_9 (by decide) ?_
    refine r_iconst 0 dL_comes_15 rfl ?_
    exact r_ireturn _ dL_comes_16 rfl rfl ⟨by unfold W_L_comes; rw [if_pos hk], by unfold M_L_comes M_out; rw [if_pos hk]⟩

set_option maxRecDepth 20000 in
set_option maxHeartbeats 2000000 in
theorem ok_L_spring {G : SG} (hG : GK 549 G) (p1 : Int32) (μ : Mem) (hP : P_X9_spring p1 μ) (hK : (K_X9_spring p1 μ) ≠ 1) : OkW G mL_spring 1 [.ref (ga G 0), .int p1, .ref (ga G 548)] μ (W_L_spring p1 μ) (M_L_spring p1 μ) := by
  refine okh_of hG.2 (bc5 78 (by decide +kernel) (by decide +kernel)) rfl (Nat.le_of_ble_eq_true rfl) ?_
  refine r_aload_n dL_spring_0 2 rfl ?_
  refine r_iconst 0 dL_spring_1 rfl ?_
  refine r_aload_n dL_spring_2 0 rfl ?_
  refine r_iload_n dL_spring_3 1 rfl ?_
  refine r_callV (t' := 1) (ok_X9_spring (hG.le (by decide)) p1 μ hP) lL_55 (hG.lt (by decide)) sh0 ⟨_, _, rfl⟩ dL_spring_4 (Nat.le_of_ble_eq_true rfl) (Nat.le_of_ble_eq_true rfl) rfl (Nat.le_of_ble_eq_true rfl) (Nat.le_refl _) (fun E ν h => Or.inr ?_) (fun w ν h => ?_)
  · obtain ⟨h, rfl⟩ := h
    rcases h with ⟨hk, rfl⟩ | ⟨hk, rfl⟩
    · exact absurd hk hK
    · refine ⟨[], ⟨0, 9, 12, 13⟩, [], "java/lang/IllegalArgumentException", rfl, fun z hz => absurd hz List.not_mem_nil, by decide, by decide, bc2 180 (by decide +kernel) (by decide +kernel), nc2 198 (by decide +kernel) (by decide +kernel), fun q => ?_⟩
      refine r_astore_n [(3, _), (0, _), (1, _), (2, _)] dL_spring_12 (Nat.le_of_ble_eq_true rfl) rfl ?_
      refine r_iconst 1 dL_spring_13 rfl ?_
      exact r_ireturn _ dL_spring_14 rfl rfl ⟨by unfold W_L_spring; rw [if_neg (by omega)], by unfold M_L_spring M_out; rw [if_neg (by omega)]⟩
  · obtain ⟨hk, rfl, rfl⟩ := h
    refine r_i2l dL_spring_7 ?_
    refine r_lastK 0 rfl (hG.lt (by decide)) sh548 (vp_of (by decide) (by decide)) dL_spring_8 ?_
    refine r_goto 15 dL_spring_9 (by decide) ?_
    refine r_iconst 0 dL_spring_15 rfl ?_
    exact r_ireturn _ dL_spring_16 rfl rfl ⟨by unfold W_L_spring; rw [if_pos hk], by unfold M_L_spring M_out; rw [if_pos hk]⟩

set_option maxRecDepth 20000 in
set_option maxHeartbeats 2000000 in
theorem ok_L_carry {G : SG} (hG : GK 549 G) (p1 : Int32) (p2 : Int32) (p3 : Int32) (μ : Mem) (hP : P_X9_carry p1 p2 p3 μ) (hK : (K_X9_carry p1 p2 p3 μ) ≠ 1) : OkW G mL_carry 3 [.ref (ga G 0), .int p1, .int p2, .int p3, .ref (ga G 548)] μ (W_L_carry p1 p2 p3 μ) (M_L_carry p1 p2 p3 μ) := by
  refine okh_of hG.2 (bc5 90 (by decide +kernel) (by decide +kernel)) rfl (Nat.le_of_ble_eq_true rfl) ?_
  refine r_aload dL_carry_0 4 rfl ?_
  refine r_iconst 0 dL_carry_2 rfl ?_
  refine r_aload_n dL_carry_3 0 rfl ?_
  refine r_iload_n dL_carry_4 1 rfl ?_
  refine r_iload_n dL_carry_5 2 rfl ?_
  refine r_iload_n dL_carry_6 3 rfl ?_
  refine r_callV (t' := 3) (ok_X9_carry (hG.le (by decide)) p1 p2 p3 μ hP) lL_58 (hG.lt (by decide)) sh0 ⟨_, _, rfl⟩ dL_carry_7 (Nat.le_of_ble_eq_true rfl) (Nat.le_of_ble_eq_true rfl) rfl (Nat.le_of_ble_eq_true rfl) (Nat.le_refl _) (fun E ν h => Or.inr ?_) (fun w ν h => ?_)
  · obtain ⟨h, rfl⟩ := h
    rcases h with ⟨hk, rfl⟩ | ⟨hk, rfl⟩
    · exact absurd hk hK
    · refine ⟨[], ⟨0, 12, 15, 13⟩, [], "java/lang/IllegalArgumentException", rfl, fun z hz => absurd hz List.not_mem_nil, by decide, by decide, bc2 180 (by decide +kernel) (by decide +kernel), nc2 198 (by decide +kernel) (by decide +kernel), fun q => ?_⟩
      refine r_astore [(5, _), (0, _), (1, _), (2, _), (3, _), (4, _)] dL_carry_15 (Nat.le_of_ble_eq_true rfl) rfl ?_
      refine r_iconst 1 dL_carry_17 rfl ?_
      exact r_ireturn _ dL_carry_18 rfl rfl ⟨by unfold W_L_carry; rw [if_neg (by omega)], by unfold M_L_carry M_out; rw [if_neg (by omega)]⟩
  · obtain ⟨hk, rfl, rfl⟩ := h
    refine r_i2l dL_carry_10 ?_
    refine r_lastK 0 rfl (hG.lt (by decide)) sh548 (vp_of (by decide) (by decide)) dL_carry_11 ?_
    refine r_goto 19 dL_carry_12 (by decide) ?_
    refine r_iconst 0 dL_carry_19 rfl ?_
    exact r_ireturn _ dL_carry_20 rfl rfl ⟨by unfold W_L_carry; rw [if_pos hk], by unfold M_L_carry M_out; rw [if_pos hk]⟩

set_option maxRecDepth 20000 in
set_option maxHeartbeats 2000000 in
theorem ok_L_rent {G : SG} (hG : GK 549 G) (p1 : Int32) (p2 : Int32) (μ : Mem) (hP : P_X9_rent p1 p2 μ) (hK : (K_X9_rent p1 p2 μ) ≠ 1) : OkW G mL_rent 2 [.ref (ga G 0), .int p1, .int p2, .ref (ga G 548)] μ (W_L_rent p1 p2 μ) (M_L_rent p1 p2 μ) := by
  refine okh_of hG.2 (bc5 108 (by decide +kernel) (by decide +kernel)) rfl (Nat.le_of_ble_eq_true rfl) ?_
  refine r_aload_n dL_rent_0 3 rfl ?_
  refine r_iconst 0 dL_rent_1 rfl ?_
  refine r_aload_n dL_rent_2 0 rfl ?_
  refine r_iload_n dL_rent_3 1 rfl ?_
  refine r_iload_n dL_rent_4 2 rfl ?_
  refine r_callV (t' := 2) (ok_X9_rent (hG.le (by decide)) p1 p2 μ hP) lL_62 (hG.lt (by decide)) sh0 ⟨_, _, rfl⟩ dL_rent_5 (Nat.le_of_ble_eq_true rfl) (Nat.le_of_ble_eq_true rfl) rfl (Nat.le_of_ble_eq_true rfl) (Nat.le_refl _) (fun E ν h => Or.inr ?_) (fun w ν h => ?_)
  · obtain ⟨h, rfl⟩ := h
    rcases h with ⟨hk, rfl⟩ | ⟨hk, rfl⟩
    · exact absurd hk hK
    · refine ⟨[], ⟨0, 10, 13, 13⟩, [], "java/lang/IllegalArgumentException", rfl, fun z hz => absurd hz List.not_mem_nil, by decide, by decide, bc2 180 (by decide +kernel) (by decide +kernel), nc2 198 (by decide +kernel) (by decide +kernel), fun q => ?_⟩
      refine r_astore [(4, _), (0, _), (1, _), (2, _), (3, _)] dL_rent_13 (Nat.le_of_ble_eq_true rfl) rfl ?_
      refine r_iconst 1 dL_rent_15 rfl ?_
      exact r_ireturn _ dL_rent_16 rfl rfl ⟨by unfold W_L_rent; rw [if_neg (by omega)], by unfold M_L_rent M_out; rw [if_neg (by omega)]⟩
  · obtain ⟨hk, rfl, rfl⟩ := h
    refine r_i2l dL_rent_8 ?_
    refine r_lastK 0 rfl (hG.lt (by decide)) sh548 (vp_of (by decide) (by decide)) dL_rent_9 ?_
    refine r_goto 17 dL_rent_10 (by decide) ?_
    refine r_iconst 0 dL_rent_17 rfl ?_
    exact r_ireturn _ dL_rent_18 rfl rfl ⟨by unfold W_L_rent; rw [if_pos hk], by unfold M_L_rent M_out; rw [if_pos hk]⟩

set_option maxRecDepth 20000 in
set_option maxHeartbeats 2000000 in
theorem ok_L_bags {G : SG} (hG : GK 549 G) (p1 : Int32) (p2 : Int32) (μ : Mem) (hP : P_X9_bags p1 p2 μ) (hK : (K_X9_bags p1 p2 μ) ≠ 1) : OkW G mL_bags 2 [.ref (ga G 0), .int p1, .int p2, .ref (ga G 548)] μ (W_L_bags p1 p2 μ) (M_L_bags p1 p2 μ) := by
  refine okh_of hG.2 (bc5 119 (by decide +kernel) (by decide +kernel)) rfl (Nat.le_of_ble_eq_true rfl) ?_
  refine r_aload_n dL_bags_0 3 rfl ?_
  refine r_iconst 0 dL_bags_1 rfl ?_
  refine r_aload_n dL_bags_2 0 rfl ?_
  refine r_iload_n dL_bags_3 1 rfl ?_
  refine r_iload_n dL_bags_4 2 rfl ?_
  refine r_callV (t' := 2) (ok_X9_bags (hG.le (by decide)) p1 p2 μ hP) lL_65 (hG.lt (by decide)) sh0 ⟨_, _, rfl⟩ dL_bags_5 (Nat.le_of_ble_eq_true rfl) (Nat.le_of_ble_eq_true rfl) rfl (Nat.le_of_ble_eq_true rfl) (Nat.le_refl _) (fun E ν h => Or.inr ?_) (fun w ν h => ?_)
  · obtain ⟨h, rfl⟩ := h
    rcases h with ⟨hk, rfl⟩ | ⟨hk, rfl⟩
    · exact absurd hk hK
    · refine ⟨[], ⟨0, 10, 13, 13⟩, [], "java/lang/IllegalArgumentException", rfl, fun z hz => absurd hz List.not_mem_nil, by decide, by decide, bc2 180 (by decide +kernel) (by decide +kernel), nc2 198 (by decide +kernel) (by decide +kernel), fun q => ?_⟩
      refine r_astore [(4, _), (0, _), (1, _), (2, _), (3, _)] dL_bags_13 (Nat.le_of_ble_eq_true rfl) rfl ?_
      refine r_iconst 1 dL_bags_15 rfl ?_
      exact r_ireturn _ dL_bags_16 rfl rfl ⟨by unfold W_L_bags; rw [if_neg (by omega)], by unfold M_L_bags M_out; rw [if_neg (by omega)]⟩
  · obtain ⟨hk, rfl, rfl⟩ := h
    refine r_i2l dL_bags_8 ?_
    refine r_lastK 0 rfl (hG.lt (by decide)) sh548 (vp_of (by decide) (by decide)) dL_bags_9 ?_
    refine r_goto 17 dL_bags_10 (by decide) ?_
    refine r_iconst 0 dL_bags_17 rfl ?_
    exact r_ireturn _ dL_bags_18 rfl rfl ⟨by unfold W_L_bags; rw [if_pos hk], by unfold M_L_bags M_out; rw [if_pos hk]⟩

set_option maxRecDepth 20000 in
set_option maxHeartbeats 2000000 in
theorem ok_L_parlour {G : SG} (hG : GK 549 G) (p1 : Int32) (p2 : Int32) (p3 : Int32) (μ : Mem) (hP : P_X9_parlour p1 p2 p3 μ) (hK : (K_X9_parlour p1 p2 p3 μ) ≠ 1) : OkW G mL_parlour 3 [.ref (ga G 0), .int p1, .int p2, .int p3, .ref (ga G 548)] μ (W_L_parlour p1 p2 p3 μ) (M_L_parlour p1 p2 p3 μ) := by
  refine okh_of hG.2 (bc5 135 (by decide +kernel) (by decide +kernel)) rfl (Nat.le_of_ble_eq_true rfl) ?_
  refine r_aload dL_parlour_0 4 rfl ?_
  refine r_iconst 0 dL_parlour_2 rfl ?_
  refine r_aload_n dL_parlour_3 0 rfl ?_
  refine r_iload_n dL_parlour_4 1 rfl ?_
  refine r_iload_n dL_parlour_5 2 rfl ?_
  refine r_iload_n dL_parlour_6 3 rfl ?_
  refine r_callV (t' := 3) (ok_X9_parlour (hG.le (by decide)) p1 p2 p3 μ hP) lL_68 (hG.lt (by decide)) sh0 ⟨_, _, rfl⟩ dL_parlour_7 (Nat.le_of_ble_eq_true rfl) (Nat.le_of_ble_eq_true rfl) rfl (Nat.le_of_ble_eq_true rfl) (Nat.le_refl _) (fun E ν h => Or.inr ?_) (fun w ν h => ?_)
  · obtain ⟨h, rfl⟩ := h
    rcases h with ⟨hk, rfl⟩ | ⟨hk, rfl⟩
    · exact absurd hk hK
    · refine ⟨[], ⟨0, 12, 15, 13⟩, [], "java/lang/IllegalArgumentException", rfl, fun z hz => absurd hz List.not_mem_nil, by decide, by decide, bc2 180 (by decide +kernel) (by decide +kernel), nc2 198 (by decide +kernel) (by decide +kernel), fun q => ?_⟩
      refine r_astore [(5, _), (0, _), (1, _), (2, _), (3, _), (4, _)] dL_parlour_15 (Nat.le_of_ble_eq_true rfl) rfl ?_
      refine r_iconst 1 dL_parlour_17 rfl ?_
      exact r_ireturn _ dL_parlour_18 rfl rfl ⟨by unfold W_L_parlour; rw [if_neg (by omega)], by unfold M_L_parlour M_out; rw [if_neg (by omega)]⟩
  · obtain ⟨hk, rfl, rfl⟩ := h
    refine r_i2l dL_parlour_10 ?_
    refine r_lastK 0 rfl (hG.lt (by decide)) sh548 (vp_of (by decide) (by decide)) dL_parlour_11 ?_
    refine r_goto 19 dL_parlour_12 (by decide) ?_
    refine r_iconst 0 dL_parlour_19 rfl ?_
    exact r_ireturn _ dL_parlour_20 rfl rfl ⟨by unfold W_L_parlour; rw [if_pos hk], by unfold M_L_parlour M_out; rw [if_pos hk]⟩

set_option maxRecDepth 20000 in
set_option maxHeartbeats 2000000 in
theorem ok_L_in {G : SG} (hG : GK 549 G) (p1 : Int32) (μ : Mem) (hP : P_X9_in p1 μ) (hK : (K_X9_in p1 μ) ≠ 1) : OkW G mL_in 1 [.ref (ga G 0), .int p1, .ref (ga G 548)] μ (W_L_in p1 μ) (M_L_in p1 μ) := by
  refine okh_of hG.2 (bc5 154 (by decide +kernel) (by decide +kernel)) rfl (Nat.le_of_ble_eq_true rfl) ?_
  refine r_aload_n dL_in_0 2 rfl ?_
  refine r_iconst 0 dL_in_1 rfl ?_
  refine r_aload_n dL_in_2 0 rfl ?_
  refine r_iload_n dL_in_3 1 rfl ?_
  refine r_callV (t' := 1) (ok_X9_in (hG.le (by decide)) p1 μ hP) lL_71 (hG.lt (by decide)) sh0 ⟨_, _, rfl⟩ dL_in_4 (Nat.le_of_ble_eq_true rfl) (Nat.le_of_ble_eq_true rfl) rfl (Nat.le_of_ble_eq_true rfl) (Nat.le_refl _) (fun E ν h => Or.inr ?_) (fun w ν h => ?_)
  · obtain ⟨h, rfl⟩ := h
    rcases h with ⟨hk, rfl⟩ | ⟨hk, rfl⟩
    · exact absurd hk hK
    · refine ⟨[], ⟨0, 9, 12, 13⟩, [], "java/lang/IllegalArgumentException", rfl, fun z hz => absurd hz List.not_mem_nil, by decide, by decide, bc2 180 (by decide +kernel) (by decide +kernel), nc2 198 (by decide +kernel) (by decide +kernel), fun q => ?_⟩
      refine r_astore_n [(3, _), (0, _), (1, _), (2, _)] dL_in_12 (Nat.le_of_ble_eq_true rfl) rfl ?_
      refine r_iconst 1 dL_in_13 rfl ?_
      exact r_ireturn _ dL_in_14 rfl rfl ⟨by unfold W_L_in; rw [if_neg (by omega)], by unfold M_L_in M_out; rw [if_neg (by omega)]⟩
  · obtain ⟨hk, rfl, rfl⟩ := h
    refine r_i2l dL_in_7 ?_
    refine r_lastK 0 rfl (hG.lt (by decide)) sh548 (vp_of (by decide) (by decide)) dL_in_8 ?_
    refine r_goto 15 dL_in_9 (by decide) ?_
    refine r_iconst 0 dL_in_15 rfl ?_
    exact r_ireturn _ dL_in_16 rfl rfl ⟨by unfold W_L_in; rw [if_pos hk], by unfold M_L_in M_out; rw [if_pos hk]⟩

set_option maxRecDepth 20000 in
set_option maxHeartbeats 2000000 in
theorem ok_L_board {G : SG} (hG : GK 549 G) (p1 : Int32) (μ : Mem) (hP : P_X9_board p1 μ) (hK : (K_X9_board p1 μ) ≠ 1) : OkW G mL_board 1 [.ref (ga G 0), .int p1, .ref (ga G 548)] μ (W_L_board p1 μ) (M_L_board p1 μ) := by
  refine okh_of hG.2 (bc5 178 (by decide +kernel) (by decide +kernel)) rfl (Nat.le_of_ble_eq_true rfl) ?_
  refine r_aload_n dL_board_0 2 rfl ?_
  refine r_iconst 0 dL_board_1 rfl ?_
  refine r_aload_n dL_board_2 0 rfl ?_
  refine r_iload_n dL_board_3 1 rfl ?_
  refine r_callV (t' := 1) (ok_X9_board (hG.le (by decide)) p1 μ hP) lL_74 (hG.lt (by decide)) sh0 ⟨_, _, rfl⟩ dL_board_4 (Nat.le_of_ble_eq_true rfl) (Nat.le_of_ble_eq_true rfl) rfl (Nat.le_of_ble_eq_true rfl) (Nat.le_refl _) (fun E ν h => Or.inr ?_) (fun w ν h => ?_)
  · obtain ⟨h, rfl⟩ := h
    rcases h with ⟨hk, rfl⟩ | ⟨hk, rfl⟩
    · exact absurd hk hK
    · refine ⟨[], ⟨0, 9, 12, 13⟩, [], "java/lang/IllegalArgumentException", rfl, fun z hz => absurd hz List.not_mem_nil, by decide, by decide, bc2 180 (by decide +kernel) (by decide +kernel), nc2 198 (by decide +kernel) (by decide +kernel), fun q => ?_⟩
      refine r_astore_n [(3, _), (0, _), (1, _), (2, _)] dL_board_12 (Nat.le_of_ble_eq_true rfl) rfl ?_
      refine r_iconst 1 dL_board_13 rfl ?_
      exact r_ireturn _ dL_board_14 rfl rfl ⟨by unfold W_L_board; rw [if_neg (by omega)], by unfold M_L_board M_out; rw [if_neg (by omega)]⟩
  · obtain ⟨hk, rfl, rfl⟩ := h
    refine r_i2l dL_board_7 ?_
    refine r_lastK 0 rfl (hG.lt (by decide)) sh548 (vp_of (by decide) (by decide)) dL_board_8 ?_
    refine r_goto 15 dL_board_9 (by decide) ?_
    refine r_iconst 0 dL_board_15 rfl ?_
    exact r_ireturn _ dL_board_16 rfl rfl ⟨by unfold W_L_board; rw [if_pos hk], by unfold M_L_board M_out; rw [if_pos hk]⟩

set_option maxRecDepth 20000 in
set_option maxHeartbeats 2000000 in
theorem ok_L_drift {G : SG} (hG : GK 549 G) (p1 : Int32) (p2 : Int32) (p3 : Int32) (μ : Mem) (hP : P_X9_drift p1 p2 p3 μ) : OkW G mL_drift 3 [.ref (ga G 0), .int p1, .int p2, .int p3, .ref (ga G 548)] μ (W_L_drift p1 p2 p3 μ) (M_L_drift p1 p2 p3 μ) := by
  refine okh_of hG.2 (bc5 195 (by decide +kernel) (by decide +kernel)) rfl (Nat.le_of_ble_eq_true rfl) ?_
  refine r_aload dL_drift_0 4 rfl ?_
  refine r_iconst 0 dL_drift_2 rfl ?_
  refine r_aload_n dL_drift_3 0 rfl ?_
  refine r_iload_n dL_drift_4 1 rfl ?_
  refine r_iload_n dL_drift_5 2 rfl ?_
  refine r_iload_n dL_drift_6 3 rfl ?_
  refine r_callV (t' := 3) (ok_X9_drift (hG.le (by decide)) p1 p2 p3 μ hP) lL_77 (hG.lt (by decide)) sh0 ⟨_, _, rfl⟩ dL_drift_7 (Nat.le_of_ble_eq_true rfl) (Nat.le_of_ble_eq_true rfl) rfl (Nat.le_of_ble_eq_true rfl) (Nat.le_refl _) (fun E ν h => Or.inr ?_) (fun w ν h => ?_)
  · obtain ⟨h, rfl⟩ := h
    rcases h with ⟨hk, rfl⟩ | ⟨hk, rfl⟩
    · refine ⟨[], ⟨0, 12, 15, 31⟩, [⟨0, 12, 19, 13⟩], "java/util/NoSuchElementException", rfl, fun z hz => absurd hz List.not_mem_nil, by decide, by decide, bc4 176 (by decide +kernel) (by decide +kernel), nc4 191 (by decide +kernel) (by decide +kernel), fun q => ?_⟩
      refine r_astore [(5, _), (0, _), (1, _), (2, _), (3, _), (4, _)] dL_drift_15 (Nat.le_of_ble_eq_true rfl) rfl ?_
      refine r_iconst 1 dL_drift_17 rfl ?_
      exact r_ireturn _ dL_drift_18 rfl rfl ⟨by unfold W_L_drift; rw [if_neg (by omega), if_pos hk], by unfold M_L_drift M_out; rw [if_neg (by omega)]⟩
    · refine ⟨[⟨0, 12, 15, 31⟩], ⟨0, 12, 19, 13⟩, [], "java/lang/IllegalArgumentException", rfl, fun z hz => by
          rw [List.mem_singleton.mp hz]
          exact Or.inr ⟨by decide, "java/util/NoSuchElementException", bc4 176 (by decide +kernel) (by decide +kernel), rfl, rfl⟩, by decide, by decide, bc2 180 (by decide +kernel) (by decide +kernel), nc2 198 (by decide +kernel) (by decide +kernel), fun q => ?_⟩
      refine r_astore [(5, _), (0, _), (1, _), (2, _), (3, _), (4, _)] dL_drift_19 (Nat.le_of_ble_eq_true rfl) rfl ?_
      refine r_iconst 2 dL_drift_21 rfl ?_
      exact r_ireturn _ dL_drift_22 rfl rfl ⟨by unfold W_L_drift; rw [if_neg (by omega), if_neg (by omega)], by unfold M_L_drift M_out; rw [if_neg (by omega)]⟩
  · obtain ⟨hk, rfl, rfl⟩ := h
    refine r_i2l dL_drift_10 ?_
    refine r_lastK 0 rfl (hG.lt (by decide)) sh548 (vp_of (by decide) (by decide)) dL_drift_11 ?_
    refine r_goto 23 dL_drift_12 (by decide) ?_
    refine r_iconst 0 dL_drift_23 rfl ?_
    exact r_ireturn _ dL_drift_24 rfl rfl ⟨by unfold W_L_drift; rw [if_pos hk], by unfold M_L_drift M_out; rw [if_pos hk]⟩

set_option maxRecDepth 20000 in
set_option maxHeartbeats 2000000 in
theorem ok_L_whence {G : SG} (hG : GK 549 G) (p1 : Int32) (p2 : Int32) (p3 : Int32) (μ : Mem) (hP : P_X9_whence p1 p2 p3 μ) : OkW G mL_whence 3 [.ref (ga G 0), .int p1, .int p2, .int p3, .ref (ga G 548)] μ (W_L_whence p1 p2 p3 μ) (M_L_whence p1 p2 p3 μ) := by
  refine okh_of hG.2 (bc5 206 (by decide +kernel) (by decide +kernel)) rfl (Nat.le_of_ble_eq_true rfl) ?_
  refine r_aload dL_whence_0 4 rfl ?_
  refine r_iconst 0 dL_whence_2 rfl ?_
  refine r_aload_n dL_whence_3 0 rfl ?_
  refine r_iload_n dL_whence_4 1 rfl ?_
  refine r_iload_n dL_whence_5 2 rfl ?_
  refine r_iload_n dL_whence_6 3 rfl ?_
  refine r_callV (t' := 3) (ok_X9_whence (hG.le (by decide)) p1 p2 p3 μ hP) lL_80 (hG.lt (by decide)) sh0 ⟨_, _, rfl⟩ dL_whence_7 (Nat.le_of_ble_eq_true rfl) (Nat.le_of_ble_eq_true rfl) rfl (Nat.le_of_ble_eq_true rfl) (Nat.le_refl _) (fun E ν h => Or.inr ?_) (fun w ν h => ?_)
  · obtain ⟨h, rfl⟩ := h
    rcases h with ⟨hk, rfl⟩ | ⟨hk, rfl⟩
    · refine ⟨[], ⟨0, 12, 15, 31⟩, [⟨0, 12, 19, 13⟩], "java/util/NoSuchElementException", rfl, fun z hz => absurd hz List.not_mem_nil, by decide, by decide, bc4 176 (by decide +kernel) (by decide +kernel), nc4 191 (by decide +kernel) (by decide +kernel), fun q => ?_⟩
      refine r_astore [(5, _), (0, _), (1, _), (2, _), (3, _), (4, _)] dL_whence_15 (Nat.le_of_ble_eq_true rfl) rfl ?_
      refine r_iconst 1 dL_whence_17 rfl ?_
      exact r_ireturn _ dL_whence_18 rfl rfl ⟨by unfold W_L_whence; rw [if_neg (by omega), if_pos hk], by unfold M_L_whence M_out; rw [if_neg (by omega)]⟩
    · refine ⟨[⟨0, 12, 15, 31⟩], ⟨0, 12, 19, 13⟩, [], "java/lang/IllegalArgumentException", rfl, fun z hz => by
          rw [List.mem_singleton.mp hz]
          exact Or.inr ⟨by decide, "java/util/NoSuchElementException", bc4 176 (by decide +kernel) (by decide +kernel), rfl, rfl⟩, by decide, by decide, bc2 180 (by decide +kernel) (by decide +kernel), nc2 198 (by decide +kernel) (by decide +kernel), fun q => ?_⟩
      refine r_astore [(5, _), (0, _), (1, _), (2, _), (3, _), (4, _)] dL_whence_19 (Nat.le_of_ble_eq_true rfl) rfl ?_
      refine r_iconst 2 dL_whence_21 rfl ?_
      exact r_ireturn _ dL_whence_22 rfl rfl ⟨by unfold W_L_whence; rw [if_neg (by omega), if_neg (by omega)], by unfold M_L_whence M_out; rw [if_neg (by omega)]⟩
  · obtain ⟨hk, rfl, rfl⟩ := h
    refine r_i2l dL_whence_10 ?_
    refine r_lastK 0 rfl (hG.lt (by decide)) sh548 (vp_of (by decide) (by decide)) dL_whence_11 ?_
    refine r_goto 23 dL_whence_12 (by decide) ?_
    refine r_iconst 0 dL_whence_23 rfl ?_
    exact r_ireturn _ dL_whence_24 rfl rfl ⟨by unfold W_L_whence; rw [if_pos hk], by unfold M_L_whence M_out; rw [if_pos hk]⟩

set_option maxRecDepth 20000 in
set_option maxHeartbeats 2000000 in
theorem ok_L_gain {G : SG} (hG : GK 549 G) (p1 : Int32) (p2 : Int32) (p3 : Int32) (μ : Mem) (hP : P_X9_gain p1 p2 p3 μ) : OkW G mL_gain 3 [.ref (ga G 0), .int p1, .int p2, .int p3, .ref (ga G 548)] μ (W_L_gain p1 p2 p3 μ) (M_L_gain p1 p2 p3 μ) := by
  refine okh_of hG.2 (bc5 218 (by decide +kernel) (by decide +kernel)) rfl (Nat.le_of_ble_eq_true rfl) ?_
  refine r_aload dL_gain_0 4 rfl ?_
  refine r_iconst 0 dL_gain_2 rfl ?_
  refine r_aload_n dL_gain_3 0 rfl ?_
  refine r_iload_n dL_gain_4 1 rfl ?_
  refine r_iload_n dL_gain_5 2 rfl ?_
  refine r_iload_n dL_gain_6 3 rfl ?_
  refine r_callV (t' := 3) (ok_X9_gain (hG.le (by decide)) p1 p2 p3 μ hP) lL_83 (hG.lt (by decide)) sh0 ⟨_, _, rfl⟩ dL_gain_7 (Nat.le_of_ble_eq_true rfl) (Nat.le_of_ble_eq_true rfl) rfl (Nat.le_of_ble_eq_true rfl) (Nat.le_refl _) (fun E ν h => Or.inr ?_) (fun w ν h => ?_)
  · obtain ⟨h, rfl⟩ := h
    rcases h with ⟨hk, rfl⟩ | ⟨hk, rfl⟩
    · refine ⟨[], ⟨0, 12, 15, 31⟩, [⟨0, 12, 19, 13⟩], "java/util/NoSuchElementException", rfl, fun z hz => absurd hz List.not_mem_nil, by decide, by decide, bc4 176 (by decide +kernel) (by decide +kernel), nc4 191 (by decide +kernel) (by decide +kernel), fun q => ?_⟩
      refine r_astore [(5, _), (0, _), (1, _), (2, _), (3, _), (4, _)] dL_gain_15 (Nat.le_of_ble_eq_true rfl) rfl ?_
      refine r_iconst 1 dL_gain_17 rfl ?_
      exact r_ireturn _ dL_gain_18 rfl rfl ⟨by unfold W_L_gain; rw [if_neg (by omega), if_pos hk], by unfold M_L_gain M_out; rw [if_neg (by omega)]⟩
    · refine ⟨[⟨0, 12, 15, 31⟩], ⟨0, 12, 19, 13⟩, [], "java/lang/IllegalArgumentException", rfl, fun z hz => by
          rw [List.mem_singleton.mp hz]
          exact Or.inr ⟨by decide, "java/util/NoSuchElementException", bc4 176 (by decide +kernel) (by decide +kernel), rfl, rfl⟩, by decide, by decide, bc2 180 (by decide +kernel) (by decide +kernel), nc2 198 (by decide +kernel) (by decide +kernel), fun q => ?_⟩
      refine r_astore [(5, _), (0, _), (1, _), (2, _), (3, _), (4, _)] dL_gain_19 (Nat.le_of_ble_eq_true rfl) rfl ?_
      refine r_iconst 2 dL_gain_21 rfl ?_
      exact r_ireturn _ dL_gain_22 rfl rfl ⟨by unfold W_L_gain; rw [if_neg (by omega), if_neg (by omega)], by unfold M_L_gain M_out; rw [if_neg (by omega)]⟩
  · obtain ⟨hk, rfl, rfl⟩ := h
    refine r_i2l dL_gain_10 ?_
    refine r_lastK 0 rfl (hG.lt (by decide)) sh548 (vp_of (by decide) (by decide)) dL_gain_11 ?_
    refine r_goto 23 dL_gain_12 (by decide) ?_
    refine r_iconst 0 dL_gain_23 rfl ?_
    exact r_ireturn _ dL_gain_24 rfl rfl ⟨by unfold W_L_gain; rw [if_pos hk], by unfold M_L_gain M_out; rw [if_pos hk]⟩

set_option maxRecDepth 20000 in
set_option maxHeartbeats 2000000 in
theorem ok_L_share {G : SG} (hG : GK 549 G) (p1 : Int32) (p2 : Int32) (p3 : Int32) (μ : Mem) (hP : P_X9_share p1 p2 p3 μ) : OkW G mL_share 3 [.ref (ga G 0), .int p1, .int p2, .int p3, .ref (ga G 548)] μ (W_L_share p1 p2 p3 μ) (M_L_share p1 p2 p3 μ) := by
  refine okh_of hG.2 (bc5 229 (by decide +kernel) (by decide +kernel)) rfl (Nat.le_of_ble_eq_true rfl) ?_
  refine r_aload dL_share_0 4 rfl ?_
  refine r_iconst 0 dL_share_2 rfl ?_
  refine r_aload_n dL_share_3 0 rfl ?_
  refine r_iload_n dL_share_4 1 rfl ?_
  refine r_iload_n dL_share_5 2 rfl ?_
  refine r_iload_n dL_share_6 3 rfl ?_
  refine r_callV (t' := 3) (ok_X9_share (hG.le (by decide)) p1 p2 p3 μ hP) lL_86 (hG.lt (by decide)) sh0 ⟨_, _, rfl⟩ dL_share_7 (Nat.le_of_ble_eq_true rfl) (Nat.le_of_ble_eq_true rfl) rfl (Nat.le_of_ble_eq_true rfl) (Nat.le_refl _) (fun E ν h => Or.inr ?_) (fun w ν h => ?_)
  · obtain ⟨h, rfl⟩ := h
    rcases h with ⟨hk, rfl⟩ | ⟨hk, rfl⟩
    · refine ⟨[], ⟨0, 12, 15, 31⟩, [⟨0, 12, 19, 13⟩], "java/util/NoSuchElementException", rfl, fun z hz => absurd hz List.not_mem_nil, by decide, by decide, bc4 176 (by decide +kernel) (by decide +kernel), nc4 191 (by decide +kernel) (by decide +kernel), fun q => ?_⟩
      refine r_astore [(5, _), (0, _), (1, _), (2, _), (3, _), (4, _)] dL_share_15 (Nat.le_of_ble_eq_true rfl) rfl ?_
      refine r_iconst 1 dL_share_17 rfl ?_
      exact r_ireturn _ dL_share_18 rfl rfl ⟨by unfold W_L_share; rw [if_neg (by omega), if_pos hk], by unfold M_L_share M_out; rw [if_neg (by omega)]⟩
    · refine ⟨[⟨0, 12, 15, 31⟩], ⟨0, 12, 19, 13⟩, [], "java/lang/IllegalArgumentException", rfl, fun z hz => by
          rw [List.mem_singleton.mp hz]
          exact Or.inr ⟨by decide, "java/util/NoSuchElementException", bc4 176 (by decide +kernel) (by decide +kernel), rfl, rfl⟩, by decide, by decide, bc2 180 (by decide +kernel) (by decide +kernel), nc2 198 (by decide +kernel) (by decide +kernel), fun q => ?_⟩
      refine r_astore [(5, _), (0, _), (1, _), (2, _), (3, _), (4, _)] dL_share_19 (Nat.le_of_ble_eq_true rfl) rfl ?_
      refine r_iconst 2 dL_share_21 rfl ?_
      exact r_ireturn _ dL_share_22 rfl rfl ⟨by unfold W_L_share; rw [if_neg (by omega), if_neg (by omega)], by unfold M_L_share M_out; rw [if_neg (by omega)]⟩
  · obtain ⟨hk, rfl, rfl⟩ := h
    refine r_i2l dL_share_10 ?_
    refine r_lastK 0 rfl (hG.lt (by decide)) sh548 (vp_of (by decide) (by decide)) dL_share_11 ?_
    refine r_goto 23 dL_share_12 (by decide) ?_
    refine r_iconst 0 dL_share_23 rfl ?_
    exact r_ireturn _ dL_share_24 rfl rfl ⟨by unfold W_L_share; rw [if_pos hk], by unfold M_L_share M_out; rw [if_pos hk]⟩

set_option maxRecDepth 20000 in
set_option maxHeartbeats 2000000 in
theorem ok_L_soaked {G : SG} (hG : GK 549 G) (p1 : Int32) (p2 : Int32) (μ : Mem) (hP : P_X9_soaked p1 p2 μ) : OkW G mL_soaked 2 [.ref (ga G 0), .int p1, .int p2, .ref (ga G 548)] μ (W_L_soaked p1 p2 μ) (M_L_soaked p1 p2 μ) := by
  refine okh_of hG.2 (bc6 5 (by decide +kernel) (by decide +kernel)) rfl (Nat.le_of_ble_eq_true rfl) ?_
  refine r_aload_n dL_soaked_0 3 rfl ?_
  refine r_iconst 0 dL_soaked_1 rfl ?_
  refine r_aload_n dL_soaked_2 0 rfl ?_
  refine r_iload_n dL_soaked_3 1 rfl ?_
  refine r_iload_n dL_soaked_4 2 rfl ?_
  refine r_callV (t' := 2) (ok_X9_soaked (hG.le (by decide)) p1 p2 μ hP) lL_89 (hG.lt (by decide)) sh0 ⟨_, _, rfl⟩ dL_soaked_5 (Nat.le_of_ble_eq_true rfl) (Nat.le_of_ble_eq_true rfl) rfl (Nat.le_of_ble_eq_true rfl) (Nat.le_refl _) (fun E ν h => Or.inr ?_) (fun w ν h => ?_)
  · obtain ⟨h, rfl⟩ := h
    rcases h with ⟨hk, rfl⟩ | ⟨hk, rfl⟩
    · refine ⟨[], ⟨0, 10, 13, 31⟩, [⟨0, 10, 17, 13⟩], "java/util/NoSuchElementException", rfl, fun z hz => absurd hz List.not_mem_nil, by decide, by decide, bc4 176 (by decide +kernel) (by decide +kernel), nc4 191 (by decide +kernel) (by decide +kernel), fun q => ?_⟩
      refine r_astore [(4, _), (0, _), (1, _), (2, _), (3, _)] dL_soaked_13 (Nat.le_of_ble_eq_true rfl) rfl ?_
      refine r_iconst 1 dL_soaked_15 rfl ?_
      exact r_ireturn _ dL_soaked_16 rfl rfl ⟨by unfold W_L_soaked; rw [if_neg (by omega), if_pos hk], by unfold M_L_soaked M_out; rw [if_neg (by omega)]⟩
    · refine ⟨[⟨0, 10, 13, 31⟩], ⟨0, 10, 17, 13⟩, [], "java/lang/IllegalArgumentException", rfl, fun z hz => by
          rw [List.mem_singleton.mp hz]
          exact Or.inr ⟨by decide, "java/util/NoSuchElementException", bc4 176 (by decide +kernel) (by decide +kernel), rfl, rfl⟩, by decide, by decide, bc2 180 (by decide +kernel) (by decide +kernel), nc2 198 (by decide +kernel) (by decide +kernel), fun q => ?_⟩
      refine r_astore [(4, _), (0, _), (1, _), (2, _), (3, _)] dL_soaked_17 (Nat.le_of_ble_eq_true rfl) rfl ?_
      refine r_iconst 2 dL_soaked_19 rfl ?_
      exact r_ireturn _ dL_soaked_20 rfl rfl ⟨by unfold W_L_soaked; rw [if_neg (by omega), if_neg (by omega)], by unfold M_L_soaked M_out; rw [if_neg (by omega)]⟩
  · obtain ⟨hk, rfl, rfl⟩ := h
    refine r_i2l dL_soaked_8 ?_
    refine r_lastK 0 rfl (hG.lt (by decide)) sh548 (vp_of (by decide) (by decide)) dL_soaked_9 ?_
    refine r_goto 21 dL_soaked_10 (by decide) ?_
    refine r_iconst 0 dL_soaked_21 rfl ?_
    exact r_ireturn _ dL_soaked_22 rfl rfl ⟨by unfold W_L_soaked; rw [if_pos hk], by unfold M_L_soaked M_out; rw [if_pos hk]⟩

set_option maxRecDepth 20000 in
set_option maxHeartbeats 2000000 in
theorem ok_L_snaps {G : SG} (hG : GK 549 G) (p1 : Int32) (μ : Mem) (hP : P_X9_snaps p1 μ) (hK : (K_X9_snaps p1 μ) ≠ 2) : OkW G mL_snaps 1 [.ref (ga G 0), .int p1, .ref (ga G 548)] μ (W_L_snaps p1 μ) (M_L_snaps p1 μ) := by
  refine okh_of hG.2 (bc6 16 (by decide +kernel) (by decide +kernel)) rfl (Nat.le_of_ble_eq_true rfl) ?_
  refine r_aload_n dL_snaps_0 2 rfl ?_
  refine r_iconst 0 dL_snaps_1 rfl ?_
  refine r_aload_n dL_snaps_2 0 rfl ?_
  refine r_iload_n dL_snaps_3 1 rfl ?_
  refine r_callV (t' := 1) (ok_X9_snaps (hG.le (by decide)) p1 μ hP) lL_92 (hG.lt (by decide)) sh0 ⟨_, _, rfl⟩ dL_snaps_4 (Nat.le_of_ble_eq_true rfl) (Nat.le_of_ble_eq_true rfl) rfl (Nat.le_of_ble_eq_true rfl) (Nat.le_refl _) (fun E ν h => Or.inr ?_) (fun w ν h => ?_)
  · obtain ⟨h, rfl⟩ := h
    rcases h with ⟨hk, rfl⟩ | ⟨hk, rfl⟩
    rotate_left
    · exact absurd hk hK
    · refine ⟨[], ⟨0, 9, 12, 31⟩, [], "java/util/NoSuchElementException", rfl, fun z hz => absurd hz List.not_mem_nil, by decide, by decide, bc4 176 (by decide +kernel) (by decide +kernel), nc4 191 (by decide +kernel) (by decide +kernel), fun q => ?_⟩
      refine r_astore_n [(3, _), (0, _), (1, _), (2, _)] dL_snaps_12 (Nat.le_of_ble_eq_true rfl) rfl ?_
      refine r_iconst 1 dL_snaps_13 rfl ?_
      exact r_ireturn _ dL_snaps_14 rfl rfl ⟨by unfold W_L_snaps; rw [if_neg (by omega)], by unfold M_L_snaps M_out; rw [if_neg (by omega)]⟩
  · obtain ⟨hk, rfl, rfl⟩ := h
    refine r_i2l dL_snaps_7 ?_
    refine r_lastK 0 rfl (hG.lt (by decide)) sh548 (vp_of (by decide) (by decide)) dL_snaps_8 ?_
    refine r_goto 15 dL_snaps_9 (by decide) ?_
    refine r_iconst 0 dL_snaps_15 rfl ?_
    exact r_ireturn _ dL_snaps_16 rfl rfl ⟨by unfold W_L_snaps; rw [if_pos hk], by unfold M_L_snaps M_out; rw [if_pos hk]⟩

set_option maxRecDepth 20000 in
set_option maxHeartbeats 2000000 in
theorem ok_L_fullest {G : SG} (hG : GK 549 G) (p1 : Int32) (μ : Mem) (hP : P_X9_fullest p1 μ) (hK : (K_X9_fullest p1 μ) ≠ 1) : OkW G mL_fullest 1 [.ref (ga G 0), .int p1, .ref (ga G 548)] μ (W_L_fullest p1 μ) (M_L_fullest p1 μ) := by
  refine okh_of hG.2 (bc6 27 (by decide +kernel) (by decide +kernel)) rfl (Nat.le_of_ble_eq_true rfl) ?_
  refine r_aload_n dL_fullest_0 2 rfl ?_
  refine r_iconst 0 dL_fullest_1 rfl ?_
  refine r_aload_n dL_fullest_2 0 rfl ?_
  refine r_iload_n dL_fullest_3 1 rfl ?_
  refine r_callV (t' := 1) (ok_X9_fullest (hG.le (by decide)) p1 μ hP) lL_95 (hG.lt (by decide)) sh0 ⟨_, _, rfl⟩ dL_fullest_4 (Nat.le_of_ble_eq_true rfl) (Nat.le_of_ble_eq_true rfl) rfl (Nat.le_of_ble_eq_true rfl) (Nat.le_refl _) (fun E ν h => Or.inr ?_) (fun w ν h => ?_)
  · obtain ⟨h, rfl⟩ := h
    rcases h with ⟨hk, rfl⟩ | ⟨hk, rfl⟩
    · exact absurd hk hK
    · refine ⟨[], ⟨0, 9, 12, 13⟩, [], "java/lang/IllegalArgumentException", rfl, fun z hz => absurd hz List.not_mem_nil, by decide, by decide, bc2 180 (by decide +kernel) (by decide +kernel), nc2 198 (by decide +kernel) (by decide +kernel), fun q => ?_⟩
      refine r_astore_n [(3, _), (0, _), (1, _), (2, _)] dL_fullest_12 (Nat.le_of_ble_eq_true rfl) rfl ?_
      refine r_iconst 1 dL_fullest_13 rfl ?_
      exact r_ireturn _ dL_fullest_14 rfl rfl ⟨by unfold W_L_fullest; rw [if_neg (by omega)], by unfold M_L_fullest M_out; rw [if_neg (by omega)]⟩
  · obtain ⟨hk, rfl, rfl⟩ := h
    refine r_i2l dL_fullest_7 ?_
    refine r_lastK 0 rfl (hG.lt (by decide)) sh548 (vp_of (by decide) (by decide)) dL_fullest_8 ?_
    refine r_goto 15 dL_fullest_9 (by decide) ?_
    refine r_iconst 0 dL_fullest_15 rfl ?_
    exact r_ireturn _ dL_fullest_16 rfl rfl ⟨by unfold W_L_fullest; rw [if_pos hk], by unfold M_L_fullest M_out; rw [if_pos hk]⟩

set_option maxRecDepth 20000 in
set_option maxHeartbeats 2000000 in
theorem ok_L_pays {G : SG} (hG : GK 549 G) (p1 : Int32) (p2 : Int32) (μ : Mem) (hP : P_X9_pays p1 p2 μ) : OkW G mL_pays 2 [.ref (ga G 0), .int p1, .int p2, .ref (ga G 548)] μ (W_L_pays p1 p2 μ) (M_L_pays p1 p2 μ) := by
  refine okh_of hG.2 (bc6 40 (by decide +kernel) (by decide +kernel)) rfl (Nat.le_of_ble_eq_true rfl) ?_
  refine r_aload_n dL_pays_0 3 rfl ?_
  refine r_iconst 0 dL_pays_1 rfl ?_
  refine r_aload_n dL_pays_2 0 rfl ?_
  refine r_iload_n dL_pays_3 1 rfl ?_
  refine r_iload_n dL_pays_4 2 rfl ?_
  refine r_callV (t' := 2) (ok_X9_pays (hG.le (by decide)) p1 p2 μ hP) lL_98 (hG.lt (by decide)) sh0 ⟨_, _, rfl⟩ dL_pays_5 (Nat.le_of_ble_eq_true rfl) (Nat.le_of_ble_eq_true rfl) rfl (Nat.le_of_ble_eq_true rfl) (Nat.le_refl _) (fun E ν h => Or.inr ?_) (fun w ν h => ?_)
  · obtain ⟨h, rfl⟩ := h
    rcases h with ⟨hk, rfl⟩ | ⟨hk, rfl⟩
    · refine ⟨[], ⟨0, 10, 13, 31⟩, [⟨0, 10, 17, 13⟩], "java/util/NoSuchElementException", rfl, fun z hz => absurd hz List.not_mem_nil, by decide, by decide, bc4 176 (by decide +kernel) (by decide +kernel), nc4 191 (by decide +kernel) (by decide +kernel), fun q => ?_⟩
      refine r_astore [(4, _), (0, _), (1, _), (2, _), (3, _)] dL_pays_13 (Nat.le_of_ble_eq_true rfl) rfl ?_
      refine r_iconst 1 dL_pays_15 rfl ?_
      exact r_ireturn _ dL_pays_16 rfl rfl ⟨by unfold W_L_pays; rw [if_neg (by omega), if_pos hk], by unfold M_L_pays M_out; rw [if_neg (by omega)]⟩
    · refine ⟨[⟨0, 10, 13, 31⟩], ⟨0, 10, 17, 13⟩, [], "java/lang/IllegalArgumentException", rfl, fun z hz => by
          rw [List.mem_singleton.mp hz]
          exact Or.inr ⟨by decide, "java/util/NoSuchElementException", bc4 176 (by decide +kernel) (by decide +kernel), rfl, rfl⟩, by decide, by decide, bc2 180 (by decide +kernel) (by decide +kernel), nc2 198 (by decide +kernel) (by decide +kernel), fun q => ?_⟩
      refine r_astore [(4, _), (0, _), (1, _), (2, _), (3, _)] dL_pays_17 (Nat.le_of_ble_eq_true rfl) rfl ?_
      refine r_iconst 2 dL_pays_19 rfl ?_
      exact r_ireturn _ dL_pays_20 rfl rfl ⟨by unfold W_L_pays; rw [if_neg (by omega), if_neg (by omega)], by unfold M_L_pays M_out; rw [if_neg (by omega)]⟩
  · obtain ⟨hk, rfl, rfl⟩ := h
    refine r_i2l dL_pays_8 ?_
    refine r_lastK 0 rfl (hG.lt (by decide)) sh548 (vp_of (by decide) (by decide)) dL_pays_9 ?_
    refine r_goto 21 dL_pays_10 (by decide) ?_
    refine r_iconst 0 dL_pays_21 rfl ?_
    exact r_ireturn _ dL_pays_22 rfl rfl ⟨by unfold W_L_pays; rw [if_pos hk], by unfold M_L_pays M_out; rw [if_pos hk]⟩

set_option maxRecDepth 20000 in
set_option maxHeartbeats 2000000 in
theorem ok_L_neap {G : SG} (hG : GK 549 G) (p1 : Int32) (μ : Mem) (hP : P_X9_neap p1 μ) (hK : (K_X9_neap p1 μ) ≠ 1) : OkW G mL_neap 1 [.ref (ga G 0), .int p1, .ref (ga G 548)] μ (W_L_neap p1 μ) (M_L_neap p1 μ) := by
  refine okh_of hG.2 (bc6 47 (by decide +kernel) (by decide +kernel)) rfl (Nat.le_of_ble_eq_true rfl) ?_
  refine r_aload_n dL_neap_0 2 rfl ?_
  refine r_iconst 0 dL_neap_1 rfl ?_
  refine r_aload_n dL_neap_2 0 rfl ?_
  refine r_iload_n dL_neap_3 1 rfl ?_
  refine r_callV (t' := 1) (ok_X9_neap (hG.le (by decide)) p1 μ hP) lL_101 (hG.lt (by decide)) sh0 ⟨_, _, rfl⟩ dL_neap_4 (Nat.le_of_ble_eq_true rfl) (Nat.le_of_ble_eq_true rfl) rfl (Nat.le_of_ble_eq_true rfl) (Nat.le_refl _) (fun E ν h => Or.inr ?_) (fun w ν h => ?_)
  · obtain ⟨h, rfl⟩ := h
    rcases h with ⟨hk, rfl⟩ | ⟨hk, rfl⟩
    · exact absurd hk hK
    · refine ⟨[], ⟨0, 9, 12, 13⟩, [], "java/lang/IllegalArgumentException", rfl, fun z hz => absurd hz List.not_mem_nil, by decide, by decide, bc2 180 (by decide +kernel) (by decide +kernel), nc2 198 (by decide +kernel) (by decide +kernel), fun q => ?_⟩
      refine r_astore_n [(3, _), (0, _), (1, _), (2, _)] dL_neap_12 (Nat.le_of_ble_eq_true rfl) rfl ?_
      refine r_iconst 1 dL_neap_13 rfl ?_
      exact r_ireturn _ dL_neap_14 rfl rfl ⟨by unfold W_L_neap; rw [if_neg (by omega)], by unfold M_L_neap M_out; rw [if_neg (by omega)]⟩
  · obtain ⟨hk, rfl, rfl⟩ := h
    refine r_i2l dL_neap_7 ?_
    refine r_lastK 0 rfl (hG.lt (by decide)) sh548 (vp_of (by decide) (by decide)) dL_neap_8 ?_
    refine r_goto 15 dL_neap_9 (by decide) ?_
    refine r_iconst 0 dL_neap_15 rfl ?_
    exact r_ireturn _ dL_neap_16 rfl rfl ⟨by unfold W_L_neap; rw [if_pos hk], by unfold M_L_neap M_out; rw [if_pos hk]⟩

set_option maxRecDepth 20000 in
set_option maxHeartbeats 2000000 in
theorem ok_L_loads {G : SG} (hG : GK 549 G) (p1 : Int32) (p2 : Int32) (μ : Mem) (hP : P_X9_loads p1 p2 μ) : OkW G mL_loads 2 [.ref (ga G 0), .int p1, .int p2, .ref (ga G 548)] μ (W_L_loads p1 p2 μ) (M_L_loads p1 p2 μ) := by
  refine okh_of hG.2 (bc6 62 (by decide +kernel) (by decide +kernel)) rfl (Nat.le_of_ble_eq_true rfl) ?_
  refine r_aload_n dL_loads_0 3 rfl ?_
  refine r_iconst 0 dL_loads_1 rfl ?_
  refine r_aload_n dL_loads_2 0 rfl ?_
  refine r_iload_n dL_loads_3 1 rfl ?_
  refine r_iload_n dL_loads_4 2 rfl ?_
  refine r_callV (t' := 2) (ok_X9_loads (hG.le (by decide)) p1 p2 μ hP) lL_104 (hG.lt (by decide)) sh0 ⟨_, _, rfl⟩ dL_loads_5 (Nat.le_of_ble_eq_true rfl) (Nat.le_of_ble_eq_true rfl) rfl (Nat.le_of_ble_eq_true rfl) (Nat.le_refl _) (fun E ν h => Or.inr ?_) (fun w ν h => ?_)
  · obtain ⟨h, rfl⟩ := h
    rcases h with ⟨hk, rfl⟩ | ⟨hk, rfl⟩
    · refine ⟨[], ⟨0, 10, 13, 31⟩, [⟨0, 10, 17, 13⟩], "java/util/NoSuchElementException", rfl, fun z hz => absurd hz List.not_mem_nil, by decide, by decide, bc4 176 (by decide +kernel) (by decide +kernel), nc4 191 (by decide +kernel) (by decide +kernel), fun q => ?_⟩
      refine r_astore [(4, _), (0, _), (1, _), (2, _), (3, _)] dL_loads_13 (Nat.le_of_ble_eq_true rfl) rfl ?_
      refine r_iconst 1 dL_loads_15 rfl ?_
      exact r_ireturn _ dL_loads_16 rfl rfl ⟨by unfold W_L_loads; rw [if_neg (by omega), if_pos hk], by unfold M_L_loads M_out; rw [if_neg (by omega)]⟩
    · refine ⟨[⟨0, 10, 13, 31⟩], ⟨0, 10, 17, 13⟩, [], "java/lang/IllegalArgumentException", rfl, fun z hz => by
          rw [List.mem_singleton.mp hz]
          exact Or.inr ⟨by decide, "java/util/NoSuchElementException", bc4 176 (by decide +kernel) (by decide +kernel), rfl, rfl⟩, by decide, by decide, bc2 180 (by decide +kernel) (by decide +kernel), nc2 198 (by decide +kernel) (by decide +kernel), fun q => ?_⟩
      refine r_astore [(4, _), (0, _), (1, _), (2, _), (3, _)] dL_loads_17 (Nat.le_of_ble_eq_true rfl) rfl ?_
      refine r_iconst 2 dL_loads_19 rfl ?_
      exact r_ireturn _ dL_loads_20 rfl rfl ⟨by unfold W_L_loads; rw [if_neg (by omega), if_neg (by omega)], by unfold M_L_loads M_out; rw [if_neg (by omega)]⟩
  · obtain ⟨hk, rfl, rfl⟩ := h
    refine r_i2l dL_loads_8 ?_
    refine r_lastK 0 rfl (hG.lt (by decide)) sh548 (vp_of (by decide) (by decide)) dL_loads_9 ?_
    refine r_goto 21 dL_loads_10 (by decide) ?_
    refine r_iconst 0 dL_loads_21 rfl ?_
    exact r_ireturn _ dL_loads_22 rfl rfl ⟨by unfold W_L_loads; rw [if_pos hk], by unfold M_L_loads M_out; rw [if_pos hk]⟩

set_option maxRecDepth 20000 in
set_option maxHeartbeats 2000000 in
theorem ok_L_dearest {G : SG} (hG : GK 549 G) (p1 : Int32) (μ : Mem) (hP : P_X9_dearest p1 μ) (hK : (K_X9_dearest p1 μ) ≠ 1) : OkW G mL_dearest 1 [.ref (ga G 0), .int p1, .ref (ga G 548)] μ (W_L_dearest p1 μ) (M_L_dearest p1 μ) := by
  refine okh_of hG.2 (bc6 69 (by decide +kernel) (by decide +kernel)) rfl (Nat.le_of_ble_eq_true rfl) ?_
  refine r_aload_n dL_dearest_0 2 rfl ?_
  refine r_iconst 0 dL_dearest_1 rfl ?_
  refine r_aload_n dL_dearest_2 0 rfl ?_
  refine r_iload_n dL_dearest_3 1 rfl ?_
  refine r_callV (t' := 1) (ok_X9_dearest (hG.le (by decide)) p1 μ hP) lL_107 (hG.lt (by decide)) sh0 ⟨_, _, rfl⟩ dL_dearest_4 (Nat.le_of_ble_eq_true rfl) (Nat.le_of_ble_eq_true rfl) rfl (Nat.le_of_ble_eq_true rfl) (Nat.le_refl _) (fun E ν h => Or.inr ?_) (fun w ν h => ?_)
  · obtain ⟨h, rfl⟩ := h
    rcases h with ⟨hk, rfl⟩ | ⟨hk, rfl⟩
    · exact absurd hk hK
    · refine ⟨[], ⟨0, 9, 12, 13⟩, [], "java/lang/IllegalArgumentException", rfl, fun z hz => absurd hz List.not_mem_nil, by decide, by decide, bc2 180 (by decide +kernel) (by decide +kernel), nc2 198 (by decide +kernel) (by decide +kernel), fun q => ?_⟩
      refine r_astore_n [(3, _), (0, _), (1, _), (2, _)] dL_dearest_12 (Nat.le_of_ble_eq_true rfl) rfl ?_
      refine r_iconst 1 dL_dearest_13 rfl ?_
      exact r_ireturn _ dL_dearest_14 rfl rfl ⟨by unfold W_L_dearest; rw [if_neg (by omega)], by unfold M_L_dearest M_out; rw [if_neg (by omega)]⟩
  · obtain ⟨hk, rfl, rfl⟩ := h
    refine r_i2l dL_dearest_7 ?_
    refine r_lastK 0 rfl (hG.lt (by decide)) sh548 (vp_of (by decide) (by decide)) dL_dearest_8 ?_
    refine r_goto 15 dL_dearest_9 (by decide) ?_
    refine r_iconst 0 dL_dearest_15 rfl ?_
    exact r_ireturn _ dL_dearest_16 rfl rfl ⟨by unfold W_L_dearest; rw [if_pos hk], by unfold M_L_dearest M_out; rw [if_pos hk]⟩

set_option maxRecDepth 20000 in
set_option maxHeartbeats 2000000 in
theorem ok_L_dry {G : SG} (hG : GK 549 G) (p1 : Int32) (p2 : Int32) (μ : Mem) (hP : P_X9_dry p1 p2 μ) (hK : (K_X9_dry p1 p2 μ) ≠ 1) : OkW G mL_dry 2 [.ref (ga G 0), .int p1, .int p2, .ref (ga G 548)] μ (W_L_dry p1 p2 μ) (M_L_dry p1 p2 μ) := by
  refine okh_of hG.2 (bc6 76 (by decide +kernel) (by decide +kernel)) rfl (Nat.le_of_ble_eq_true rfl) ?_
  refine r_aload_n dL_dry_0 3 rfl ?_
  refine r_iconst 0 dL_dry_1 rfl ?_
  refine r_aload_n dL_dry_2 0 rfl ?_
  refine r_iload_n dL_dry_3 1 rfl ?_
  refine r_iload_n dL_dry_4 2 rfl ?_
  refine r_callV (t' := 2) (ok_X9_dry (hG.le (by decide)) p1 p2 μ hP) lL_110 (hG.lt (by decide)) sh0 ⟨_, _, rfl⟩ dL_dry_5 (Nat.le_of_ble_eq_true rfl) (Nat.le_of_ble_eq_true rfl) rfl (Nat.le_of_ble_eq_true rfl) (Nat.le_refl _) (fun E ν h => Or.inr ?_) (fun w ν h => ?_)
  · obtain ⟨h, rfl⟩ := h
    rcases h with ⟨hk, rfl⟩ | ⟨hk, rfl⟩
    · exact absurd hk hK
    · refine ⟨[], ⟨0, 10, 13, 13⟩, [], "java/lang/IllegalArgumentException", rfl, fun z hz => absurd hz List.not_mem_nil, by decide, by decide, bc2 180 (by decide +kernel) (by decide +kernel), nc2 198 (by decide +kernel) (by decide +kernel), fun q => ?_⟩
      refine r_astore [(4, _), (0, _), (1, _), (2, _), (3, _)] dL_dry_13 (Nat.le_of_ble_eq_true rfl) rfl ?_
      refine r_iconst 1 dL_dry_15 rfl ?_
      exact r_ireturn _ dL_dry_16 rfl rfl ⟨by unfold W_L_dry; rw [if_neg (by omega)], by unfold M_L_dry M_out; rw [if_neg (by omega)]⟩
  · obtain ⟨hk, rfl, rfl⟩ := h
    refine r_i2l dL_dry_8 ?_
    refine r_lastK 0 rfl (hG.lt (by decide)) sh548 (vp_of (by decide) (by decide)) dL_dry_9 ?_
    refine r_goto 17 dL_dry_10 (by decide) ?_
    refine r_iconst 0 dL_dry_17 rfl ?_
    exact r_ireturn _ dL_dry_18 rfl rfl ⟨by unfold W_L_dry; rw [if_pos hk], by unfold M_L_dry M_out; rw [if_pos hk]⟩

set_option maxRecDepth 20000 in
set_option maxHeartbeats 2000000 in
theorem ok_L_year {G : SG} (hG : GK 549 G) (p1 : Int32) (p2 : Int32) (p3 : Int32) (p4 : Int32) (p5 : Int32) (μ : Mem) (hP : P_X9_year p1 p2 p3 p4 p5 μ) (hK : (K_X9_year p1 p2 p3 p4 p5 μ) ≠ 1) : OkW G mL_year 4 [.ref (ga G 0), .int p1, .int p2, .int p3, .int p4, .int p5, .ref (ga G 548)] μ (W_L_year p1 p2 p3 p4 p5 μ) (M_L_year p1 p2 p3 p4 p5 μ) := by
  refine okh_of hG.2 (bc6 84 (by decide +kernel) (by decide +kernel)) rfl (Nat.le_of_ble_eq_true rfl) ?_
  refine r_aload dL_year_0 6 rfl ?_
  refine r_iconst 0 dL_year_2 rfl ?_
  refine r_aload_n dL_year_3 0 rfl ?_
  refine r_iload_n dL_year_4 1 rfl ?_
  refine r_iload_n dL_year_5 2 rfl ?_
  refine r_iload_n dL_year_6 3 rfl ?_
  refine r_iload dL_year_7 4 rfl ?_
  refine r_iload dL_year_9 5 rfl ?_
  refine r_callV (t' := 4) (ok_X9_year (hG.le (by decide)) p1 p2 p3 p4 p5 μ hP) lL_113 (hG.lt (by decide)) sh0 ⟨_, _, rfl⟩ dL_year_11 (Nat.le_of_ble_eq_true rfl) (Nat.le_of_ble_eq_true rfl) rfl (Nat.le_of_ble_eq_true rfl) (Nat.le_refl _) (fun E ν h => Or.inr ?_) (fun w ν h => ?_)
  · obtain ⟨h, rfl⟩ := h
    rcases h with ⟨hk, rfl⟩ | ⟨hk, rfl⟩
    · exact absurd hk hK
    · refine ⟨[], ⟨0, 16, 19, 13⟩, [], "java/lang/IllegalArgumentException", rfl, fun z hz => absurd hz List.not_mem_nil, by decide, by decide, bc2 180 (by decide +kernel) (by decide +kernel), nc2 198 (by decide +kernel) (by decide +kernel), fun q => ?_⟩
      refine r_astore [(7, _), (0, _), (1, _), (2, _), (3, _), (4, _), (5, _), (6, _)] dL_year_19 (Nat.le_of_ble_eq_true rfl) rfl ?_
      refine r_iconst 1 dL_year_21 rfl ?_
      exact r_ireturn _ dL_year_22 rfl rfl ⟨by unfold W_L_year; rw [if_neg (by omega)], by unfold M_L_year M_out; rw [if_neg (by omega)]⟩
  · obtain ⟨hk, rfl, rfl⟩ := h
    refine r_i2l dL_year_14 ?_
    refine r_lastK 0 rfl (hG.lt (by decide)) sh548 (vp_of (by decide) (by decide)) dL_year_15 ?_
    refine r_goto 23 dL_year_16 (by decide) ?_
    refine r_iconst 0 dL_year_23 rfl ?_
    exact r_ireturn _ dL_year_24 rfl rfl ⟨by unfold W_L_year; rw [if_pos hk], by unfold M_L_year M_out; rw [if_pos hk]⟩

set_option maxRecDepth 20000 in
set_option maxHeartbeats 2000000 in
theorem ok_L_span {G : SG} (hG : GK 549 G) (p1 : Int32) (p2 : Int32) (p3 : Int32) (p4 : Int32) (p5 : Int32) (p6 : Int32) (p7 : Int32) (μ : Mem) (hP : P_X9_span p1 p2 p3 p4 p5 p6 p7 μ) (hK : (K_X9_span p1 p2 p3 p4 p5 p6 p7 μ) ≠ 1) : OkW G mL_span 6 [.ref (ga G 0), .int p1, .int p2, .int p3, .int p4, .int p5, .int p6, .int p7, .ref (ga G 548)] μ (W_L_span p1 p2 p3 p4 p5 p6 p7 μ) (M_L_span p1 p2 p3 p4 p5 p6 p7 μ) := by
  refine okh_of hG.2 (bc6 104 (by decide +kernel) (by decide +kernel)) rfl (Nat.le_of_ble_eq_true rfl) ?_
  refine r_aload dL_span_0 8 rfl ?_
  refine r_iconst 0 dL_span_2 rfl ?_
  refine r_aload_n dL_span_3 0 rfl ?_
  refine r_iload_n dL_span_4 1 rfl ?_
  refine r_iload_n dL_span_5 2 rfl ?_
  refine r_iload_n dL_span_6 3 rfl ?_
  refine r_iload dL_span_7 4 rfl ?_
  refine r_iload dL_span_9 5 rfl ?_
  refine r_iload dL_span_11 6 rfl ?_
  refine r_iload dL_span_13 7 rfl ?_
  refine r_callV (t' := 6) (ok_X9_span (hG.le (by decide)) p1 p2 p3 p4 p5 p6 p7 μ hP) lL_117 (hG.lt (by decide)) sh0 ⟨_, _, rfl⟩ dL_span_15 (Nat.le_of_ble_eq_true rfl) (Nat.le_of_ble_eq_true rfl) rfl (Nat.le_of_ble_eq_true rfl) (Nat.le_refl _) (fun E ν h => Or.inr ?_) (fun w ν h => ?_)
  · obtain ⟨h, rfl⟩ := h
    rcases h with ⟨hk, rfl⟩ | ⟨hk, rfl⟩
    · exact absurd hk hK
    · refine ⟨[], ⟨0, 20, 23, 13⟩, [], "java/lang/IllegalArgumentException", rfl, fun z hz => absurd hz List.not_mem_nil, by decide, by decide, bc2 180 (by decide +kernel) (by decide +kernel), nc2 198 (by decide +kernel) (by decide +kernel), fun q => ?_⟩
      refine r_astore [(9, _), (0, _), (1, _), (2, _), (3, _), (4, _), (5, _), (6, _), (7, _), (8, _)] dL_span_23 (Nat.le_of_ble_eq_true rfl) rfl ?_
      refine r_iconst 1 dL_span_25 rfl ?_
      exact r_ireturn _ dL_span_26 rfl rfl ⟨by unfold W_L_span; rw [if_neg (by omega)], by unfold M_L_span M_out; rw [if_neg (by omega)]⟩
  · obtain ⟨hk, rfl, rfl⟩ := h
    refine r_i2l dL_span_18 ?_
    refine r_lastK 0 rfl (hG.lt (by decide)) sh548 (vp_of (by decide) (by decide)) dL_span_19 ?_
    refine r_goto 27 dL_span_20 (by decide) ?_
    refine r_iconst 0 dL_span_27 rfl ?_
    exact r_ireturn _ dL_span_28 rfl rfl ⟨by unfold W_L_span; rw [if_pos hk], by unfold M_L_span M_out; rw [if_pos hk]⟩
