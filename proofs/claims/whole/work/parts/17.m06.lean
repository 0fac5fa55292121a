def muX10_spring_1 (p1 : Int32) (μ : Mem) : Mem := (upm μ 57 0 0)
def VX10_spring_2 (p1 : Int32) (μ : Mem) : Int32 := (if (F_X10_isIn p1 0 1 (muX10_spring_1 p1 μ)) ≠ 0 then 0 else 1)
theorem bo_VX10_spring_2 (p1 : Int32) (μ : Mem) : (VX10_spring_2 p1 μ) = 0 ∨ (VX10_spring_2 p1 μ) = 1 := by
  unfold VX10_spring_2
  split
  · exact Or.inl rfl
  · exact Or.inr rfl
def muX10_spring_3 (p1 : Int32) (μ : Mem) : Mem := (M_X10_bad (VX10_spring_2 p1 μ) 1 1 (muX10_spring_1 p1 μ))
def VX10_spring_34_1 (v1 : Int32) (μ : Mem) (i : Nat) (s : Int32) : Int32 := (if (F_X10_heightIn ((μ 521 62) + (nI (1 + i))) μ) ≤ (F_X10_heightIn ((μ 521 62) + s) μ) then s else (nI (1 + i)))
def g_X10_spring_34 (v1 : Int32) (μ : Mem) (i : Nat) (s : Int32) : Int32 := (VX10_spring_34_1 v1 μ i s)
def Pb_X10_spring_34 (v1 : Int32) (μ : Mem) (i : Nat) (s : Int32) : Prop := ((24 ≤ (nI (1 + i)) → False) ∧ ((nI (1 + i)) < 24 → (P_X10_heightIn ((μ 521 62) + (nI (1 + i))) μ) ∧ P_X10_heightIn ((μ 521 62) + s) μ))
set_option maxRecDepth 20000 in
set_option maxHeartbeats 2000000 in
theorem lp_X10_spring_34 {G : SG} (hG : GK 548 G)  (v1 : Int32) (μ : Mem) (s0 : Int32) (N : Nat) (sN : Int32) (eN : sN = fo N (g_X10_spring_34 v1 μ) s0) (hN : ∀ i, i < N → Pb_X10_spring_34 v1 μ i (fo i (g_X10_spring_34 v1 μ) s0)) {t : Nat} {Q : PQ} {X : PX} (h : R G mX10_spring 34 [(0, .ref (ga G 57)), (1, .int v1), (2, .int sN), (3, .int (nI (1 + N)))] [] μ t Q X) : R G mX10_spring 34 [(0, .ref (ga G 57)), (1, .int v1), (2, .int s0), (3, .int 1)] [] μ t Q X := by
  subst eN
  refine down_i N (fun i => R G mX10_spring 34 [(0, .ref (ga G 57)), (1, .int v1), (2, .int (fo i (g_X10_spring_34 v1 μ) s0)), (3, .int (nI (1 + i)))] [] μ t Q X) h (fun i hi hS => ?_)
  have hP := hN i hi
  rw [fo_succ] at hS
  rw [(nI_sc 1 i)] at hS
  generalize fo i (g_X10_spring_34 v1 μ) s0 = s at hS hP ⊢
  unfold Pb_X10_spring_34 at hP
  refine r_iload_n dX10_spring_34 3 rfl ?_
  refine r_bipush 24 dX10_spring_35 rfl ?_
  refine r_icmp_ge 81 dX10_spring_37 (by decide) (fun c1 => ?_) (fun c1 => ?_)
  · replace hP := hP.1 c1
    exact hP.elim
  · replace hP := hP.2 c1
    refine r_aload_n dX10_spring_40 0 rfl ?_
    refine r_aload_n dX10_spring_41 0 rfl ?_
    refine r_getR 521 fX10_73 (hG.lt (by decide)) sh57 fs57_31 dX10_spring_42 ?_
    refine r_bipush 62 dX10_spring_45 rfl ?_
    refine r_ialdK 62 rfl (hG.lt (by decide)) sh521 (vp_of (by decide) (by decide)) dX10_spring_47 ?_
    refine r_iload_n dX10_spring_48 3 rfl ?_
    refine r_iadd dX10_spring_49 ?_
    have hs1 := hP.1
    replace hP := hP.2
    refine r_cvI (ok_X10_heightIn hG ((μ 521 62) + (nI (1 + i))) μ hs1) lX10_276 (hG.lt (by decide)) sh57 ⟨_, _, rfl⟩ dX10_spring_50 (by decide) (Nat.le_of_ble_eq_true rfl) rfl (Nat.le_of_ble_eq_true rfl) ?_
    refine r_aload_n dX10_spring_53 0 rfl ?_
    refine r_aload_n dX10_spring_54 0 rfl ?_
    refine r_getR 521 fX10_73 (hG.lt (by decide)) sh57 fs57_31 dX10_spring_55 ?_
    refine r_bipush 62 dX10_spring_58 rfl ?_
    refine r_ialdK 62 rfl (hG.lt (by decide)) sh521 (vp_of (by decide) (by decide)) dX10_spring_60 ?_
    refine r_iload_n dX10_spring_61 2 rfl ?_
    refine r_iadd dX10_spring_62 ?_
    have hs2 := hP
    refine r_cvI (ok_X10_heightIn hG ((μ 521 62) + s) μ hs2) lX10_276 (hG.lt (by decide)) sh57 ⟨_, _, rfl⟩ dX10_spring_63 (by decide) (Nat.le_of_ble_eq_true rfl) rfl (Nat.le_of_ble_eq_true rfl) ?_
    refine r_join 74 [(0, .ref (ga G 57)), (1, .int v1), (2, .int s), (3, .int (nI (1 + i)))] [.int (VX10_spring_34_1 v1 μ i s)] μ ?_ (fun hJ => ?_)
    · refine r_istore_n [(2, _), (0, _), (1, _), (3, _)] dX10_spring_74 (Nat.le_of_ble_eq_true rfl) rfl ?_
      refine r_iinc ((nI (1 + i)) + 1) [(3, _), (2, _), (0, _), (1, _)] dX10_spring_75 3 rfl rfl (Nat.le_of_ble_eq_true rfl) rfl ?_
      refine r_goto 34 dX10_spring_78 (by decide) ?_
      have e : g_X10_spring_34 v1 μ i s = (VX10_spring_34_1 v1 μ i s) := by unfold g_X10_spring_34; rfl
      rw [e] at hS
      exact r_sub [2, 3, 1, 0] rfl hS
    · refine r_icmp_le 73 dX10_spring_66 (by decide) (fun c2 => ?_) (fun c2 => ?_)
      · refine r_iload_n dX10_spring_73 2 rfl ?_
        have e : (VX10_spring_34_1 v1 μ i s) = s := by unfold VX10_spring_34_1; rw [if_pos c2]
        rw [e] at hJ
        exact r_sub [0, 1, 2, 3] rfl hJ
      · refine r_iload_n dX10_spring_69 3 rfl ?_
        refine r_goto 74 dX10_spring_70 (by decide) ?_
        have e : (VX10_spring_34_1 v1 μ i s) = (nI (1 + i)) := by unfold VX10_spring_34_1; rw [if_neg (i32_ng c2)]
        rw [e] at hJ
        exact r_sub [0, 1, 2, 3] rfl hJ
def NX10_spring_34 (p1 : Int32) (μ : Mem) : Nat := 23
def SX10_spring_34 (p1 : Int32) (μ : Mem) : Int32 := fo (NX10_spring_34 p1 μ) (g_X10_spring_34 p1 (muX10_spring_3 p1 μ)) 0
def VX10_spring_4 (p1 : Int32) (μ : Mem) : Int32 := (if (F_X10_heightIn (((muX10_spring_3 p1 μ) 521 62) + (nI (1 + (NX10_spring_34 p1 μ)))) (muX10_spring_3 p1 μ)) ≤ (F_X10_heightIn (((muX10_spring_3 p1 μ) 521 62) + (SX10_spring_34 p1 μ)) (muX10_spring_3 p1 μ)) then (SX10_spring_34 p1 μ) else (nI (1 + (NX10_spring_34 p1 μ))))
def F_X10_spring (p1 : Int32) (μ : Mem) : Int32 := (if (F_X10_bad (VX10_spring_2 p1 μ) 1 1 (muX10_spring_1 p1 μ)) = 0 then (if p1 ≠ 0 then (F_X10_heightIn (((muX10_spring_3 p1 μ) 521 62) + (SX10_spring_34 p1 μ)) (muX10_spring_3 p1 μ)) else (SX10_spring_34 p1 μ)) else 0)
def M_X10_spring (p1 : Int32) (μ : Mem) : Mem := (muX10_spring_3 p1 μ)
def P_X10_spring (p1 : Int32) (μ : Mem) : Prop := ((P_X10_bad (VX10_spring_2 p1 μ) 1 1 (muX10_spring_1 p1 μ)) ∧ (((F_X10_bad (VX10_spring_2 p1 μ) 1 1 (muX10_spring_1 p1 μ)) = 0 → ((∀ j9, j9 < (NX10_spring_34 p1 μ) → Pb_X10_spring_34 p1 (muX10_spring_3 p1 μ) j9 (fo j9 (g_X10_spring_34 p1 (muX10_spring_3 p1 μ)) 0)) ∧ ((24 ≤ (nI (1 + (NX10_spring_34 p1 μ))) → ((p1 ≠ 0 → (P_X10_heightIn (((muX10_spring_3 p1 μ) 521 62) + (SX10_spring_34 p1 μ)) (muX10_spring_3 p1 μ))) ∧ (p1 = 0 → True))) ∧ ((nI (1 + (NX10_spring_34 p1 μ))) < 24 → ((P_X10_heightIn (((muX10_spring_3 p1 μ) 521 62) + (nI (1 + (NX10_spring_34 p1 μ)))) (muX10_spring_3 p1 μ)) ∧ ((P_X10_heightIn (((muX10_spring_3 p1 μ) 521 62) + (SX10_spring_34 p1 μ)) (muX10_spring_3 p1 μ)) ∧ False)))))) ∧ (¬ (F_X10_bad (VX10_spring_2 p1 μ) 1 1 (muX10_spring_1 p1 μ)) = 0 → True)))
set_option maxRecDepth 20000 in
set_option maxHeartbeats 2000000 in
theorem ok_X10_spring {G : SG} (hG : GK 548 G) (p1 : Int32) (μ : Mem) (hP : P_X10_spring p1 μ) : OkF G mX10_spring [.ref (ga G 57), .int p1] μ (some (.int (F_X10_spring p1 μ))) (M_X10_spring p1 μ) := by
  refine okF_of hG rfl rfl (Nat.le_of_ble_eq_true rfl) ?_
  unfold P_X10_spring at hP
  refine r_aload_n dX10_spring_0 0 rfl ?_
  refine r_iconst 0 dX10_spring_1 rfl ?_
  refine r_put fiX10_103 (hG.lt (by decide)) sh57 fs57_0 dX10_spring_2 ?_
  refine r_mu (muX10_spring_1 p1 μ) rfl ?_
  refine r_aload_n dX10_spring_5 0 rfl ?_
  refine r_iload_n dX10_spring_6 1 rfl ?_
  refine r_iconst 0 dX10_spring_7 rfl ?_
  refine r_iconst 1 dX10_spring_8 rfl ?_
  refine r_csI (ok_X10_isIn hG p1 0 1 (muX10_spring_1 p1 μ)) lX10_137 dX10_spring_9 (by decide) (Nat.le_of_ble_eq_true rfl) rfl (Nat.le_of_ble_eq_true rfl) ?_
  refine r_join 20 [(0, .ref (ga G 57)), (1, .int p1)] [.int (VX10_spring_2 p1 μ), .ref (ga G 57)] (muX10_spring_1 p1 μ) ?_ (fun hJ => ?_)
  · refine r_iconst 1 dX10_spring_20 rfl ?_
    refine r_iconst 1 dX10_spring_21 rfl ?_
    have hs1 := hP.1
    replace hP := hP.2
    refine r_cvI (ok_X10_bad hG (VX10_spring_2 p1 μ) 1 1 (muX10_spring_1 p1 μ) hs1) lX10_186 (hG.lt (by decide)) sh57 ⟨_, _, rfl⟩ dX10_spring_22 (by decide) (Nat.le_of_ble_eq_true rfl) rfl (Nat.le_of_ble_eq_true rfl) ?_
    refine r_mu (muX10_spring_3 p1 μ) rfl ?_
    refine r_if_eq 30 dX10_spring_25 (by decide) (fun c1 => ?_) (fun c1 => ?_)
    · replace hP := hP.1 c1
      refine r_iconst 0 dX10_spring_30 rfl ?_
      refine r_istore_n [(2, _), (0, _), (1, _)] dX10_spring_31 (Nat.le_of_ble_eq_true rfl) rfl ?_
      refine r_iconst 1 dX10_spring_32 rfl ?_
      refine r_istore_n [(3, _), (2, _), (0, _), (1, _)] dX10_spring_33 (Nat.le_of_ble_eq_true rfl) rfl ?_
      have hs2 := hP.1
      replace hP := hP.2
      refine r_sub [2, 3, 1, 0] rfl ?_
      refine lp_X10_spring_34 hG p1 (muX10_spring_3 p1 μ) 0 ((NX10_spring_34 p1 μ)) (SX10_spring_34 p1 μ) rfl hs2 ?_
      refine r_iload_n dX10_spring_34 3 rfl ?_
      refine r_bipush 24 dX10_spring_35 rfl ?_
      refine r_icmp_ge 81 dX10_spring_37 (by decide) (fun c2 => ?_) (fun c2 => ?_)
      · replace hP := hP.1 c2
        refine r_iload_n dX10_spring_81 1 rfl ?_
        refine r_if_ne 89 dX10_spring_82 (by decide) (fun c3 => ?_) (fun c3 => ?_)
        · replace hP := hP.1 c3
          refine r_aload_n dX10_spring_89 0 rfl ?_
          refine r_aload_n dX10_spring_90 0 rfl ?_
          refine r_getR 521 fX10_73 (hG.lt (by decide)) sh57 fs57_31 dX10_spring_91 ?_
          refine r_bipush 62 dX10_spring_94 rfl ?_
          refine r_ialdK 62 rfl (hG.lt (by decide)) sh521 (vp_of (by decide) (by decide)) dX10_spring_96 ?_
          refine r_iload_n dX10_spring_97 2 rfl ?_
          refine r_iadd dX10_spring_98 ?_
          have hs5 := hP
          refine r_cvI (ok_X10_heightIn hG (((muX10_spring_3 p1 μ) 521 62) + (SX10_spring_34 p1 μ)) (muX10_spring_3 p1 μ) hs5) lX10_276 (hG.lt (by decide)) sh57 ⟨_, _, rfl⟩ dX10_spring_99 (by decide) (Nat.le_of_ble_eq_true rfl) rfl (Nat.le_of_ble_eq_true rfl) ?_
          exact r_ireturn _ dX10_spring_102 rfl rfl ⟨congrArg (fun z => some (Value.int z)) (by unfold F_X10_spring; rw [if_pos c1, if_pos c3]), rfl⟩
        · replace hP := hP.2 c3
          refine r_iload_n dX10_spring_85 2 rfl ?_
          refine r_goto 102 dX10_spring_86 (by decide) ?_
          exact r_ireturn _ dX10_spring_102 rfl rfl ⟨congrArg (fun z => some (Value.int z)) (by unfold F_X10_spring; rw [if_pos c1, if_neg (not_not_intro c3)]), rfl⟩
      · replace hP := hP.2 c2
        refine r_aload_n dX10_spring_40 0 rfl ?_
        refine r_aload_n dX10_spring_41 0 rfl ?_
        refine r_getR 521 fX10_73 (hG.lt (by decide)) sh57 fs57_31 dX10_spring_42 ?_
        refine r_bipush 62 dX10_spring_45 rfl ?_
        refine r_ialdK 62 rfl (hG.lt (by decide)) sh521 (vp_of (by decide) (by decide)) dX10_spring_47 ?_
        refine r_iload_n dX10_spring_48 3 rfl ?_
        refine r_iadd dX10_spring_49 ?_
        have hs6 := hP.1
        replace hP := hP.2
        refine r_cvI (ok_X10_heightIn hG (((muX10_spring_3 p1 μ) 521 62) + (nI (1 + (NX10_spring_34 p1 μ)))) (muX10_spring_3 p1 μ) hs6) lX10_276 (hG.lt (by decide)) sh57 ⟨_, _, rfl⟩ dX10_spring_50 (by decide) (Nat.le_of_ble_eq_true rfl) rfl (Nat.le_of_ble_eq_true rfl) ?_
        refine r_aload_n dX10_spring_53 0 rfl ?_
        refine r_aload_n dX10_spring_54 0 rfl ?_
        refine r_getR 521 fX10_73 (hG.lt (by decide)) sh57 fs57_31 dX10_spring_55 ?_
        refine r_bipush 62 dX10_spring_58 rfl ?_
        refine r_ialdK 62 rfl (hG.lt (by decide)) sh521 (vp_of (by decide) (by decide)) dX10_spring_60 ?_
        refine r_iload_n dX10_spring_61 2 rfl ?_
        refine r_iadd dX10_spring_62 ?_
        have hs7 := hP.1
        replace hP := hP.2
        refine r_cvI (ok_X10_heightIn hG (((muX10_spring_3 p1 μ) 521 62) + (SX10_spring_34 p1 μ)) (muX10_spring_3 p1 μ) hs7) lX10_276 (hG.lt (by decide)) sh57 ⟨_, _, rfl⟩ dX10_spring_63 (by decide) (Nat.le_of_ble_eq_true rfl) rfl (Nat.le_of_ble_eq_true rfl) ?_
        refine r_join 74 [(0, .ref (ga G 57)), (1, .int p1), (2, .int (SX10_spring_34 p1 μ)), (3, .int (nI (1 + (NX10_spring_34 p1 μ))))] [.int (VX10_spring_4 p1 μ)] (muX10_spring_3 p1 μ) ?_ (fun hJ => ?_)
        · refine r_istore_n [(2, _), (0, _), (1, _), (3, _)] dX10_spring_74 (Nat.le_of_ble_eq_true rfl) rfl ?_
          refine r_iinc ((nI (1 + (NX10_spring_34 p1 μ))) + 1) [(3, _), (2, _), (0, _), (1, _)] dX10_spring_75 3 rfl rfl (Nat.le_of_ble_eq_true rfl) rfl ?_
          refine r_goto 34 dX10_spring_78 (by decide) ?_
          exact hP.elim
        · refine r_icmp_le 73 dX10_spring_66 (by decide) (fun c3 => ?_) (fun c3 => ?_)
          · refine r_iload_n dX10_spring_73 2 rfl ?_
            have e : (VX10_spring_4 p1 μ) = (SX10_spring_34 p1 μ) := by unfold VX10_spring_4; rw [if_pos c3]
            rw [e] at hJ
            exact r_sub [0, 1, 2, 3] rfl hJ
          · refine r_iload_n dX10_spring_69 3 rfl ?_
            refine r_goto 74 dX10_spring_70 (by decide) ?_
            have e : (VX10_spring_4 p1 μ) = (nI (1 + (NX10_spring_34 p1 μ))) := by unfold VX10_spring_4; rw [if_neg (i32_ng c3)]
            rw [e] at hJ
            exact r_sub [0, 1, 2, 3] rfl hJ
    · replace hP := hP.2 c1
      refine r_iconst 0 dX10_spring_28 rfl ?_
      exact r_ireturn _ dX10_spring_29 rfl rfl ⟨congrArg (fun z => some (Value.int z)) (by unfold F_X10_spring; rw [if_neg c1]), rfl⟩
  · refine r_if_ne 19 dX10_spring_12 (by decide) (fun c1 => ?_) (fun c1 => ?_)
    · refine r_iconst 0 dX10_spring_19 rfl ?_
      have e : (VX10_spring_2 p1 μ) = 0 := by unfold VX10_spring_2; rw [if_pos c1]
      rw [e] at hJ
      exact r_sub [0, 1] rfl hJ
    · refine r_iconst 1 dX10_spring_15 rfl ?_
      refine r_goto 20 dX10_spring_16 (by decide) ?_
      have e : (VX10_spring_2 p1 μ) = 1 := by unfold VX10_spring_2; rw [if_neg (not_not_intro c1)]
      rw [e] at hJ
      exact r_sub [0, 1] rfl hJ
def muX10_soaked_1 (p1 : Int32) (p2 : Int32) (μ : Mem) : Mem := (upm μ 57 0 0)
def VX10_soaked_2 (p1 : Int32) (p2 : Int32) (μ : Mem) : Int32 := (if (F_X10_isThing p1 (muX10_soaked_1 p1 p2 μ)) ≠ 0 then 0 else 1)
theorem bo_VX10_soaked_2 (p1 : Int32) (p2 : Int32) (μ : Mem) : (VX10_soaked_2 p1 p2 μ) = 0 ∨ (VX10_soaked_2 p1 p2 μ) = 1 := by
  unfold VX10_soaked_2
  split
  · exact Or.inl rfl
  · exact Or.inr rfl
def muX10_soaked_3 (p1 : Int32) (p2 : Int32) (μ : Mem) : Mem := (M_X10_bad (VX10_soaked_2 p1 p2 μ) 1 0 (muX10_soaked_1 p1 p2 μ))
def VX10_soaked_4 (p1 : Int32) (p2 : Int32) (μ : Mem) : Int32 := (if (F_X10_isIn p2 0 60 (muX10_soaked_3 p1 p2 μ)) ≠ 0 then 0 else 1)
theorem bo_VX10_soaked_4 (p1 : Int32) (p2 : Int32) (μ : Mem) : (VX10_soaked_4 p1 p2 μ) = 0 ∨ (VX10_soaked_4 p1 p2 μ) = 1 := by
  unfold VX10_soaked_4
  split
  · exact Or.inl rfl
  · exact Or.inr rfl
def muX10_soaked_5 (p1 : Int32) (p2 : Int32) (μ : Mem) : Mem := (M_X10_bad (VX10_soaked_4 p1 p2 μ) 2 1 (muX10_soaked_3 p1 p2 μ))
def muX10_soaked_6 (p1 : Int32) (p2 : Int32) (μ : Mem) : Mem := (M_X10_copies 521 522 (muX10_soaked_5 p1 p2 μ))
def muX10_soaked_69_1 (v1 : Int32) (v2 : Int32) (i : Nat) (s : Int32 × Mem) : Mem := (M_X10_counts 522 s.2)
def VX10_soaked_69_2 (v1 : Int32) (v2 : Int32) (i : Nat) (s : Int32 × Mem) : Int32 := (if (F_X10_isWet 522 v1 (muX10_soaked_69_1 v1 v2 i s)) = 0 then 0 else 1)
theorem bo_VX10_soaked_69_2 (v1 : Int32) (v2 : Int32) (i : Nat) (s : Int32 × Mem) : (VX10_soaked_69_2 v1 v2 i s) = 0 ∨ (VX10_soaked_69_2 v1 v2 i s) = 1 := by
  unfold VX10_soaked_69_2
  split
  · exact Or.inl rfl
  · exact Or.inr rfl
def muX10_soaked_69_3 (v1 : Int32) (v2 : Int32) (i : Nat) (s : Int32 × Mem) : Mem := (M_X10_tideComes 522 (muX10_soaked_69_1 v1 v2 i s))
def g_X10_soaked_69 (v1 : Int32) (v2 : Int32) (i : Nat) (s : Int32 × Mem) : Int32 × Mem := ((s.1 + (VX10_soaked_69_2 v1 v2 i s)), (muX10_soaked_69_3 v1 v2 i s))
def Pb_X10_soaked_69 (v1 : Int32) (v2 : Int32) (i : Nat) (s : Int32 × Mem) : Prop := ((v2 ≤ (nI i) → False) ∧ ((nI i) < v2 → (P_X10_counts 522 s.2) ∧ (P_X10_isWet 522 v1 (muX10_soaked_69_1 v1 v2 i s)) ∧ P_X10_tideComes 522 (muX10_soaked_69_1 v1 v2 i s)))
set_option maxRecDepth 20000 in
set_option maxHeartbeats 2000000 in
theorem lp_X10_soaked_69 {G : SG} (hG : GK 548 G)  (v1 : Int32) (v2 : Int32) (s0 : Int32 × Mem) (N : Nat) (sN : Int32 × Mem) (eN : sN = fo N (g_X10_soaked_69 v1 v2) s0) (hN : ∀ i, i < N → Pb_X10_soaked_69 v1 v2 i (fo i (g_X10_soaked_69 v1 v2) s0)) {t : Nat} {Q : PQ} {X : PX} (h : R G mX10_soaked 69 [(0, .ref (ga G 57)), (1, .int v1), (2, .int v2), (3, .int (sN).1), (4, .int (nI N))] [] (sN).2 t Q X) : R G mX10_soaked 69 [(0, .ref (ga G 57)), (1, .int v1), (2, .int v2), (3, .int (s0).1), (4, .int 0)] [] (s0).2 t Q X := by
  subst eN
  refine down_i N (fun i => R G mX10_soaked 69 [(0, .ref (ga G 57)), (1, .int v1), (2, .int v2), (3, .int ((fo i (g_X10_soaked_69 v1 v2) s0)).1), (4, .int (nI i))] [] ((fo i (g_X10_soaked_69 v1 v2) s0)).2 t Q X) h (fun i hi hS => ?_)
  have hP := hN i hi
  rw [fo_succ] at hS
  rw [nI_succ] at hS
  generalize fo i (g_X10_soaked_69 v1 v2) s0 = s at hS hP ⊢
  unfold Pb_X10_soaked_69 at hP
  refine r_iload dX10_soaked_69 4 rfl ?_
  refine r_iload_n dX10_soaked_71 2 rfl ?_
  refine r_icmp_ge 117 dX10_soaked_72 (by decide) (fun c1 => ?_) (fun c1 => ?_)
  · replace hP := hP.1 c1
    exact hP.elim
  · replace hP := hP.2 c1
    refine r_aload_n dX10_soaked_75 0 rfl ?_
    refine r_aload_n dX10_soaked_76 0 rfl ?_
    refine r_getR 522 fX10_76 (hG.lt (by decide)) sh57 fs57_32 dX10_soaked_77 ?_
    have hs1 := hP.1
    replace hP := hP.2
    refine r_cvV (ok_X10_counts hG (hG.lt (by decide)) sh522 s.2 hs1) lX10_303 (hG.lt (by decide)) sh57 ⟨_, _, rfl⟩ dX10_soaked_80 (by decide) (Nat.le_of_ble_eq_true rfl) rfl (Nat.le_of_ble_eq_true rfl) ?_
    refine r_mu (muX10_soaked_69_1 v1 v2 i s) rfl ?_
    refine r_iload_n dX10_soaked_83 3 rfl ?_
    refine r_aload_n dX10_soaked_84 0 rfl ?_
    refine r_aload_n dX10_soaked_85 0 rfl ?_
    refine r_getR 522 fX10_76 (hG.lt (by decide)) sh57 fs57_32 dX10_soaked_86 ?_
    refine r_iload_n dX10_soaked_89 1 rfl ?_
    have hs2 := hP.1
    replace hP := hP.2
    refine r_cvI (ok_X10_isWet hG (hG.lt (by decide)) sh522 v1 (muX10_soaked_69_1 v1 v2 i s) hs2) lX10_289 (hG.lt (by decide)) sh57 ⟨_, _, rfl⟩ dX10_soaked_90 (by decide) (Nat.le_of_ble_eq_true rfl) rfl (Nat.le_of_ble_eq_true rfl) ?_
    refine r_join 101 [(0, .ref (ga G 57)), (1, .int v1), (2, .int v2), (3, .int s.1), (4, .int (nI i))] [.int (VX10_soaked_69_2 v1 v2 i s), .int s.1] (muX10_soaked_69_1 v1 v2 i s) ?_ (fun hJ => ?_)
    · refine r_iadd dX10_soaked_101 ?_
      refine r_istore_n [(3, _), (0, _), (1, _), (2, _), (4, _)] dX10_soaked_102 (Nat.le_of_ble_eq_true rfl) rfl ?_
      refine r_aload_n dX10_soaked_103 1 rfl ?_
      refine r_aload_n dX10_soaked_104 1 rfl ?_
      refine r_getR 522 fX10_76 (hG.lt (by decide)) sh57 fs57_32 dX10_soaked_105 ?_
      have hs3 := hP
      refine r_cvV (ok_X10_tideComes hG (hG.lt (by decide)) sh522 (muX10_soaked_69_1 v1 v2 i s) hs3) lX10_317 (hG.lt (by decide)) sh57 ⟨_, _, rfl⟩ dX10_soaked_108 (by decide) (Nat.le_of_ble_eq_true rfl) rfl (Nat.le_of_ble_eq_true rfl) ?_
      refine r_mu (muX10_soaked_69_3 v1 v2 i s) rfl ?_
      refine r_iinc ((nI i) + 1) [(4, _), (3, _), (0, _), (1, _), (2, _)] dX10_soaked_111 4 rfl rfl (Nat.le_of_ble_eq_true rfl) rfl ?_
      refine r_goto 69 dX10_soaked_114 (by decide) ?_
      have e : g_X10_soaked_69 v1 v2 i s = ((s.1 + (VX10_soaked_69_2 v1 v2 i s)), (muX10_soaked_69_3 v1 v2 i s)) := by unfold g_X10_soaked_69; rfl
      rw [e] at hS
      dsimp only at hS
      exact r_sub [2, 3, 4, 1, 0] rfl hS
    · refine r_if_eq 100 dX10_soaked_93 (by decide) (fun c2 => ?_) (fun c2 => ?_)
      · refine r_iconst 0 dX10_soaked_100 rfl ?_
        have e : (VX10_soaked_69_2 v1 v2 i s) = 0 := by unfold VX10_soaked_69_2; rw [if_pos c2]
        rw [e] at hJ
        exact r_sub [0, 1, 2, 3, 4] rfl hJ
      · refine r_iconst 1 dX10_soaked_96 rfl ?_
        refine r_goto 101 dX10_soaked_97 (by decide) ?_
        have e : (VX10_soaked_69_2 v1 v2 i s) = 1 := by unfold VX10_soaked_69_2; rw [if_neg c2]
        rw [e] at hJ
        exact r_sub [0, 1, 2, 3, 4] rfl hJ
def NX10_soaked_69 (p1 : Int32) (p2 : Int32) (μ : Mem) : Nat := ix p2
def SX10_soaked_69 (p1 : Int32) (p2 : Int32) (μ : Mem) : Int32 × Mem := fo (NX10_soaked_69 p1 p2 μ) (g_X10_soaked_69 p1 p2) (0, (muX10_soaked_6 p1 p2 μ))
def muX10_soaked_7 (p1 : Int32) (p2 : Int32) (μ : Mem) : Mem := (M_X10_counts 522 (SX10_soaked_69 p1 p2 μ).2)
def VX10_soaked_8 (p1 : Int32) (p2 : Int32) (μ : Mem) : Int32 := (if (F_X10_isWet 522 p1 (muX10_soaked_7 p1 p2 μ)) = 0 then 0 else 1)
theorem bo_VX10_soaked_8 (p1 : Int32) (p2 : Int32) (μ : Mem) : (VX10_soaked_8 p1 p2 μ) = 0 ∨ (VX10_soaked_8 p1 p2 μ) = 1 := by
  unfold VX10_soaked_8
  split
  · exact Or.inl rfl
  · exact Or.inr rfl
def muX10_soaked_9 (p1 : Int32) (p2 : Int32) (μ : Mem) : Mem := (M_X10_tideComes 522 (muX10_soaked_7 p1 p2 μ))
def F_X10_soaked (p1 : Int32) (p2 : Int32) (μ : Mem) : Int32 := (if (F_X10_bad (VX10_soaked_2 p1 p2 μ) 1 0 (muX10_soaked_1 p1 p2 μ)) ≠ 0 then 0 else (if (F_X10_bad (VX10_soaked_4 p1 p2 μ) 2 1 (muX10_soaked_3 p1 p2 μ)) = 0 then (SX10_soaked_69 p1 p2 μ).1 else 0))
def M_X10_soaked (p1 : Int32) (p2 : Int32) (μ : Mem) : Mem := (if (F_X10_bad (VX10_soaked_2 p1 p2 μ) 1 0 (muX10_soaked_1 p1 p2 μ)) ≠ 0 then (muX10_soaked_3 p1 p2 μ) else (if (F_X10_bad (VX10_soaked_4 p1 p2 μ) 2 1 (muX10_soaked_3 p1 p2 μ)) = 0 then (SX10_soaked_69 p1 p2 μ).2 else (muX10_soaked_5 p1 p2 μ)))
def P_X10_soaked (p1 : Int32) (p2 : Int32) (μ : Mem) : Prop := ((P_X10_bad (VX10_soaked_2 p1 p2 μ) 1 0 (muX10_soaked_1 p1 p2 μ)) ∧ (((F_X10_bad (VX10_soaked_2 p1 p2 μ) 1 0 (muX10_soaked_1 p1 p2 μ)) ≠ 0 → True) ∧ ((F_X10_bad (VX10_soaked_2 p1 p2 μ) 1 0 (muX10_soaked_1 p1 p2 μ)) = 0 → ((P_X10_bad (VX10_soaked_4 p1 p2 μ) 2 1 (muX10_soaked_3 p1 p2 μ)) ∧ (((F_X10_bad (VX10_soaked_4 p1 p2 μ) 2 1 (muX10_soaked_3 p1 p2 μ)) = 0 → ((P_X10_copies 521 522 (muX10_soaked_5 p1 p2 μ)) ∧ ((∀ j9, j9 < (NX10_soaked_69 p1 p2 μ) → Pb_X10_soaked_69 p1 p2 j9 (fo j9 (g_X10_soaked_69 p1 p2) (0, (muX10_soaked_6 p1 p2 μ)))) ∧ ((p2 ≤ (nI (NX10_soaked_69 p1 p2 μ)) → True) ∧ ((nI (NX10_soaked_69 p1 p2 μ)) < p2 → ((P_X10_counts 522 (SX10_soaked_69 p1 p2 μ).2) ∧ ((P_X10_isWet 522 p1 (muX10_soaked_7 p1 p2 μ)) ∧ ((P_X10_tideComes 522 (muX10_soaked_7 p1 p2 μ)) ∧ False)))))))) ∧ (¬ (F_X10_bad (VX10_soaked_4 p1 p2 μ) 2 1 (muX10_soaked_3 p1 p2 μ)) = 0 → True))))))
set_option maxRecDepth 20000 in
set_option maxHeartbeats 2000000 in
theorem ok_X10_soaked {G : SG} (hG : GK 548 G) (p1 : Int32) (p2 : Int32) (μ : Mem) (hP : P_X10_soaked p1 p2 μ) : OkF G mX10_soaked [.ref (ga G 57), .int p1, .int p2] μ (some (.int (F_X10_soaked p1 p2 μ))) (M_X10_soaked p1 p2 μ) := by
  refine okF_of hG rfl rfl (Nat.le_of_ble_eq_true rfl) ?_
  unfold P_X10_soaked at hP
  refine r_aload_n dX10_soaked_0 0 rfl ?_
  refine r_iconst 0 dX10_soaked_1 rfl ?_
  refine r_put fiX10_103 (hG.lt (by decide)) sh57 fs57_0 dX10_soaked_2 ?_
  refine r_mu (muX10_soaked_1 p1 p2 μ) rfl ?_
  refine r_aload_n dX10_soaked_5 0 rfl ?_
  refine r_aload_n dX10_soaked_6 0 rfl ?_
  refine r_iload_n dX10_soaked_7 1 rfl ?_
  refine r_cvI (ok_X10_isThing hG p1 (muX10_soaked_1 p1 p2 μ)) lX10_350 (hG.lt (by decide)) sh57 ⟨_, _, rfl⟩ dX10_soaked_8 (by decide) (Nat.le_of_ble_eq_true rfl) rfl (Nat.le_of_ble_eq_true rfl) ?_
  refine r_join 19 [(0, .ref (ga G 57)), (1, .int p1), (2, .int p2)] [.int (VX10_soaked_2 p1 p2 μ), .ref (ga G 57)] (muX10_soaked_1 p1 p2 μ) ?_ (fun hJ => ?_)
  · refine r_iconst 1 dX10_soaked_19 rfl ?_
    refine r_iconst 0 dX10_soaked_20 rfl ?_
    have hs1 := hP.1
    replace hP := hP.2
    refine r_cvI (ok_X10_bad hG (VX10_soaked_2 p1 p2 μ) 1 0 (muX10_soaked_1 p1 p2 μ) hs1) lX10_186 (hG.lt (by decide)) sh57 ⟨_, _, rfl⟩ dX10_soaked_21 (by decide) (Nat.le_of_ble_eq_true rfl) rfl (Nat.le_of_ble_eq_true rfl) ?_
    refine r_mu (muX10_soaked_3 p1 p2 μ) rfl ?_
    refine r_if_ne 51 dX10_soaked_24 (by decide) (fun c1 => ?_) (fun c1 => ?_)
    · replace hP := hP.1 c1
      refine r_iconst 0 dX10_soaked_51 rfl ?_
      exact r_ireturn _ dX10_soaked_52 rfl rfl ⟨congrArg (fun z => some (Value.int z)) (by unfold F_X10_soaked; rw [if_pos c1]), by unfold M_X10_soaked; rw [if_pos c1]⟩
    · replace hP := hP.2 c1
      refine r_aload_n dX10_soaked_27 0 rfl ?_
      refine r_iload_n dX10_soaked_28 2 rfl ?_
      refine r_iconst 0 dX10_soaked_29 rfl ?_
      refine r_bipush 60 dX10_soaked_30 rfl ?_
      refine r_csI (ok_X10_isIn hG p2 0 60 (muX10_soaked_3 p1 p2 μ)) lX10_137 dX10_soaked_32 (by decide) (Nat.le_of_ble_eq_true rfl) rfl (Nat.le_of_ble_eq_true rfl) ?_
      refine r_join 43 [(0, .ref (ga G 57)), (1, .int p1), (2, .int p2)] [.int (VX10_soaked_4 p1 p2 μ), .ref (ga G 57)] (muX10_soaked_3 p1 p2 μ) ?_ (fun hJ => ?_)
      · refine r_iconst 2 dX10_soaked_43 rfl ?_
        refine r_iconst 1 dX10_soaked_44 rfl ?_
        have hs2 := hP.1
        replace hP := hP.2
        refine r_cvI (ok_X10_bad hG (VX10_soaked_4 p1 p2 μ) 2 1 (muX10_soaked_3 p1 p2 μ) hs2) lX10_186 (hG.lt (by decide)) sh57 ⟨_, _, rfl⟩ dX10_soaked_45 (by decide) (Nat.le_of_ble_eq_true rfl) rfl (Nat.le_of_ble_eq_true rfl) ?_
        refine r_mu (muX10_soaked_5 p1 p2 μ) rfl ?_
        refine r_if_eq 53 dX10_soaked_48 (by decide) (fun c2 => ?_) (fun c2 => ?_)
        · replace hP := hP.1 c2
          refine r_iconst 0 dX10_soaked_53 rfl ?_
          refine r_istore_n [(3, _), (0, _), (1, _), (2, _)] dX10_soaked_54 (Nat.le_of_ble_eq_true rfl) rfl ?_
          refine r_aload_n dX10_soaked_55 1 rfl ?_
          refine r_getR 521 fX10_73 (hG.lt (by decide)) sh57 fs57_31 dX10_soaked_56 ?_
          refine r_aload_n dX10_soaked_59 1 rfl ?_
          refine r_getR 522 fX10_76 (hG.lt (by decide)) sh57 fs57_32 dX10_soaked_60 ?_
          have hs3 := hP.1
          replace hP := hP.2
          refine r_csV (ok_X10_copies hG (hG.lt (by decide)) sh521 (hG.lt (by decide)) sh522 (muX10_soaked_5 p1 p2 μ) hs3) lX10_333 dX10_soaked_63 (by decide) (Nat.le_of_ble_eq_true rfl) rfl (Nat.le_of_ble_eq_true rfl) ?_
          refine r_mu (muX10_soaked_6 p1 p2 μ) rfl ?_
          refine r_iconst 0 dX10_soaked_66 rfl ?_
          refine r_istore [(4, _), (3, _), (0, _), (1, _), (2, _)] dX10_soaked_67 (Nat.le_of_ble_eq_true rfl) rfl ?_
          have hs4 := hP.1
          replace hP := hP.2
          refine r_sub [2, 3, 4, 1, 0] rfl ?_
          refine lp_X10_soaked_69 hG p1 p2 (0, (muX10_soaked_6 p1 p2 μ)) ((NX10_soaked_69 p1 p2 μ)) (SX10_soaked_69 p1 p2 μ) rfl hs4 ?_
          refine r_iload dX10_soaked_69 4 rfl ?_
          refine r_iload_n dX10_soaked_71 2 rfl ?_
          refine r_icmp_ge 117 dX10_soaked_72 (by decide) (fun c3 => ?_) (fun c3 => ?_)
          · replace hP := hP.1 c3
            refine r_iload_n dX10_soaked_117 3 rfl ?_
            exact r_ireturn _ dX10_soaked_118 rfl rfl ⟨congrArg (fun z => some (Value.int z)) (by unfold F_X10_soaked; rw [if_neg (not_not_intro c1), if_pos c2]), by unfold M_X10_soaked; rw [if_neg (not_not_intro c1), if_pos c2]⟩
          · replace hP := hP.2 c3
            refine r_aload_n dX10_soaked_75 0 rfl ?_
            refine r_aload_n dX10_soaked_76 0 rfl ?_
            refine r_getR 522 fX10_76 (hG.lt (by decide)) sh57 fs57_32 dX10_soaked_77 ?_
            have hs8 := hP.1
            replace hP := hP.2
            refine r_cvV (ok_X10_counts hG (hG.lt (by decide)) sh522 (SX10_soaked_69 p1 p2 μ).2 hs8) lX10_303 (hG.lt (by decide)) sh57 ⟨_, _, rfl⟩ dX10_soaked_80 (by decide) (Nat.le_of_ble_eq_true rfl) rfl (Nat.le_of_ble_eq_true rfl) ?_
            refine r_mu (muX10_soaked_7 p1 p2 μ) rfl ?_
            refine r_iload_n dX10_soaked_83 3 rfl ?_
            refine r_aload_n dX10_soaked_84 0 rfl ?_
            refine r_aload_n dX10_soaked_85 0 rfl ?_
            refine r_getR 522 fX10_76 (hG.lt (by decide)) sh57 fs57_32 dX10_soaked_86 ?_
            refine r_iload_n dX10_soaked_89 1 rfl ?_
            have hs9 := hP.1
            replace hP := hP.2
            refine r_cvI (ok_X10_isWet hG (hG.lt (by decide)) sh522 p1 (muX10_soaked_7 p1 p2 μ) hs9) lX10_289 (hG.lt (by decide)) sh57 ⟨_, _, rfl⟩ dX10_soaked_90 (by decide) (Nat.le_of_ble_eq_true rfl) rfl (Nat.le_of_ble_eq_true rfl) ?_
            refine r_join 101 [(0, .ref (ga G 57)), (1, .int p1), (2, .int p2), (3, .int (SX10_soaked_69 p1 p2 μ).1), (4, .int (nI (NX10_soaked_69 p1 p2 μ)))] [.int (VX10_soaked_8 p1 p2 μ), .int (SX10_soaked_69 p1 p2 μ).1] (muX10_soaked_7 p1 p2 μ) ?_ (fun hJ => ?_)
            · refine r_iadd dX10_soaked_101 ?_
              refine r_istore_n [(3, _), (0, _), (1, _), (2, _), (4, _)] dX10_soaked_102 (Nat.le_of_ble_eq_true rfl) rfl ?_
              refine r_aload_n dX10_soaked_103 1 rfl ?_
              refine r_aload_n dX10_soaked_104 1 rfl ?_
              refine r_getR 522 fX10_76 (hG.lt (by decide)) sh57 fs57_32 dX10_soaked_105 ?_
              have hs10 := hP.1
              replace hP := hP.2
              refine r_cvV (ok_X10_tideComes hG (hG.lt (by decide)) sh522 (muX10_soaked_7 p1 p2 μ) hs10) lX10_317 (hG.lt (by decide)) sh57 ⟨_, _, rfl⟩ dX10_soaked_108 (by decide) (Nat.le_of_ble_eq_true rfl) rfl (Nat.le_of_ble_eq_true rfl) ?_
              refine r_mu (muX10_soaked_9 p1 p2 μ) rfl ?_
              refine r_iinc ((nI (NX10_soaked_69 p1 p2 μ)) + 1) [(4, _), (3, _), (0, _), (1, _), (2, _)] dX10_soaked_111 4 rfl rfl (Nat.le_of_ble_eq_true rfl) rfl ?_
              refine r_goto 69 dX10_soaked_114 (by decide) ?_
              exact hP.elim
            · refine r_if_eq 100 dX10_soaked_93 (by decide) (fun c4 => ?_) (fun c4 => ?_)
              · refine r_iconst 0 dX10_soaked_100 rfl ?_
                have e : (VX10_soaked_8 p1 p2 μ) = 0 := by unfold VX10_soaked_8; rw [if_pos c4]
                rw [e] at hJ
                exact r_sub [0, 1, 2, 3, 4] rfl hJ
              · refine r_iconst 1 dX10_soaked_96 rfl ?_
                refine r_goto 101 dX10_soaked_97 (by decide) ?_
                have e : (VX10_soaked_8 p1 p2 μ) = 1 := by unfold VX10_soaked_8; rw [if_neg c4]
                rw [e] at hJ
                exact r_sub [0, 1, 2, 3, 4] rfl hJ
        · replace hP := hP.2 c2
          refine r_iconst 0 dX10_soaked_51 rfl ?_
          exact r_ireturn _ dX10_soaked_52 rfl rfl ⟨congrArg (fun z => some (Value.int z)) (by unfold F_X10_soaked; rw [if_neg (not_not_intro c1), if_neg c2]), by unfold M_X10_soaked; rw [if_neg (not_not_intro c1), if_neg c2]⟩
      · refine r_if_ne 42 dX10_soaked_35 (by decide) (fun c2 => ?_) (fun c2 => ?_)
        · refine r_iconst 0 dX10_soaked_42 rfl ?_
          have e : (VX10_soaked_4 p1 p2 μ) = 0 := by unfold VX10_soaked_4; rw [if_pos c2]
          rw [e] at hJ
          exact r_sub [0, 1, 2] rfl hJ
        · refine r_iconst 1 dX10_soaked_38 rfl ?_
          refine r_goto 43 dX10_soaked_39 (by decide) ?_
          have e : (VX10_soaked_4 p1 p2 μ) = 1 := by unfold VX10_soaked_4; rw [if_neg (not_not_intro c2)]
          rw [e] at hJ
          exact r_sub [0, 1, 2] rfl hJ
  · refine r_if_ne 18 dX10_soaked_11 (by decide) (fun c1 => ?_) (fun c1 => ?_)
    · refine r_iconst 0 dX10_soaked_18 rfl ?_
      have e : (VX10_soaked_2 p1 p2 μ) = 0 := by unfold VX10_soaked_2; rw [if_pos c1]
      rw [e] at hJ
      exact r_sub [0, 1, 2] rfl hJ
    · refine r_iconst 1 dX10_soaked_14 rfl ?_
      refine r_goto 19 dX10_soaked_15 (by decide) ?_
      have e : (VX10_soaked_2 p1 p2 μ) = 1 := by unfold VX10_soaked_2; rw [if_neg (not_not_intro c1)]
      rw [e] at hJ
      exact r_sub [0, 1, 2] rfl hJ
def muX10_snaps_1 (p1 : Int32) (μ : Mem) : Mem := (upm μ 57 0 0)
def VX10_snaps_2 (p1 : Int32) (μ : Mem) : Int32 := (if (F_X10_isThing p1 (muX10_snaps_1 p1 μ)) ≠ 0 then 0 else 1)
theorem bo_VX10_snaps_2 (p1 : Int32) (μ : Mem) : (VX10_snaps_2 p1 μ) = 0 ∨ (VX10_snaps_2 p1 μ) = 1 := by
  unfold VX10_snaps_2
  split
  · exact Or.inl rfl
  · exact Or.inr rfl
def muX10_snaps_3 (p1 : Int32) (μ : Mem) : Mem := (M_X10_bad (VX10_snaps_2 p1 μ) 1 0 (muX10_snaps_1 p1 μ))
def muX10_snaps_4 (p1 : Int32) (μ : Mem) : Mem := (M_X10_copies 521 522 (muX10_snaps_3 p1 μ))
def muX10_snaps_42_1 (v1 : Int32) (i : Nat) (s : Mem) : Mem := (M_X10_tideComes 522 s)
def g_X10_snaps_42 (v1 : Int32) (i : Nat) (s : Mem) : Mem := (muX10_snaps_42_1 v1 i s)
def Pb_X10_snaps_42 (v1 : Int32) (i : Nat) (s : Mem) : Prop := ((60 ≤ (nI i) → False) ∧ ((nI i) < 60 → (vp_in (20 + v1) 63) ∧ (((s 522 (ix (20 + v1))) ≠ 1 → False) ∧ ((s 522 (ix (20 + v1))) = 1 → (P_X10_tideComes 522 s) ∧ (vp_in (20 + v1) 63) ∧ ((((muX10_snaps_42_1 v1 i s) 522 (ix (20 + v1))) ≠ 0 → True) ∧ (((muX10_snaps_42_1 v1 i s) 522 (ix (20 + v1))) = 0 → False))))))
def Cb_X10_snaps_42 (v1 : Int32) (i : Nat) (s : Mem) : Bool := (if 60 ≤ (nI i) then false else (if (s 522 (ix (20 + v1))) ≠ 1 then false else (if ((muX10_snaps_42_1 v1 i s) 522 (ix (20 + v1))) ≠ 0 then true else false)))
set_option maxRecDepth 20000 in
set_option maxHeartbeats 2000000 in
theorem lp_X10_snaps_42 {G : SG} (hG : GK 548 G)  (v1 : Int32) (s0 : Mem) (N : Nat) (sN : Mem) (eN : sN = fo N (g_X10_snaps_42 v1) s0) (hN : ∀ i, i < N → Pb_X10_snaps_42 v1 i (fo i (g_X10_snaps_42 v1) s0)) {t : Nat} {Q : PQ} {X : PX} (h : R G mX10_snaps 42 [(0, .ref (ga G 57)), (1, .int v1), (2, .int (nI N))] [] sN t Q X) : R G mX10_snaps 42 [(0, .ref (ga G 57)), (1, .int v1), (2, .int 0)] [] s0 t Q X := by
  subst eN
  refine down_i N (fun i => R G mX10_snaps 42 [(0, .ref (ga G 57)), (1, .int v1), (2, .int (nI i))] [] (fo i (g_X10_snaps_42 v1) s0) t Q X) h (fun i hi hS => ?_)
  have hP := hN i hi
  rw [fo_succ] at hS
  rw [nI_succ] at hS
  generalize fo i (g_X10_snaps_42 v1) s0 = s at hS hP ⊢
  unfold Pb_X10_snaps_42 at hP
  refine r_iload_n dX10_snaps_42 2 rfl ?_
  refine r_bipush 60 dX10_snaps_43 rfl ?_
  refine r_icmp_ge 89 dX10_snaps_45 (by decide) (fun c1 => ?_) (fun c1 => ?_)
  · replace hP := hP.1 c1
    exact hP.elim
  · replace hP := hP.2 c1
    refine r_aload_n dX10_snaps_48 0 rfl ?_
    refine r_getR 522 fX10_76 (hG.lt (by decide)) sh57 fs57_32 dX10_snaps_49 ?_
    refine r_bipush 20 dX10_snaps_52 rfl ?_
    refine r_iload_n dX10_snaps_54 1 rfl ?_
    refine r_iadd dX10_snaps_55 ?_
    have hs1 := hP.1
    replace hP := hP.2
    refine r_iald (hG.lt (by decide)) sh522 hs1 dX10_snaps_56 ?_
    refine r_iconst 1 dX10_snaps_57 rfl ?_
    refine r_icmp_ne 89 dX10_snaps_58 (by decide) (fun c2 => ?_) (fun c2 => ?_)
    · replace hP := hP.1 c2
      exact hP.elim
    · replace hP := hP.2 c2
      refine r_aload_n dX10_snaps_61 0 rfl ?_
      refine r_aload_n dX10_snaps_62 0 rfl ?_
      refine r_getR 522 fX10_76 (hG.lt (by decide)) sh57 fs57_32 dX10_snaps_63 ?_
      have hs2 := hP.1
      replace hP := hP.2
      refine r_cvV (ok_X10_tideComes hG (hG.lt (by decide)) sh522 s hs2) lX10_317 (hG.lt (by decide)) sh57 ⟨_, _, rfl⟩ dX10_snaps_66 (by decide) (Nat.le_of_ble_eq_true rfl) rfl (Nat.le_of_ble_eq_true rfl) ?_
      refine r_mu (muX10_snaps_42_1 v1 i s) rfl ?_
      refine r_aload_n dX10_snaps_69 0 rfl ?_
      refine r_getR 522 fX10_76 (hG.lt (by decide)) sh57 fs57_32 dX10_snaps_70 ?_
      refine r_bipush 20 dX10_snaps_73 rfl ?_
      refine r_iload_n dX10_snaps_75 1 rfl ?_
      refine r_iadd dX10_snaps_76 ?_
      have hs3 := hP.1
      replace hP := hP.2
      refine r_iald (hG.lt (by decide)) sh522 hs3 dX10_snaps_77 ?_
      refine r_if_ne 83 dX10_snaps_78 (by decide) (fun c3 => ?_) (fun c3 => ?_)
      · replace hP := hP.1 c3
        refine r_iinc ((nI i) + 1) [(2, _), (0, _), (1, _)] dX10_snaps_83 2 rfl rfl (Nat.le_of_ble_eq_true rfl) rfl ?_
        refine r_goto 42 dX10_snaps_86 (by decide) ?_
        have e : g_X10_snaps_42 v1 i s = (muX10_snaps_42_1 v1 i s) := by unfold g_X10_snaps_42; rfl
        rw [e] at hS
        exact r_sub [1, 2, 0] rfl hS
      · replace hP := hP.2 c3
        refine r_iload_n dX10_snaps_81 2 rfl ?_
        exact hP.elim
def NX10_snaps_42 (p1 : Int32) (μ : Mem) : Nat := (fst 61 (fun j9 => !Cb_X10_snaps_42 p1 j9 (fo j9 (g_X10_snaps_42 p1) (muX10_snaps_4 p1 μ))))
def SX10_snaps_42 (p1 : Int32) (μ : Mem) : Mem := fo (NX10_snaps_42 p1 μ) (g_X10_snaps_42 p1) (muX10_snaps_4 p1 μ)
def muX10_snaps_5 (p1 : Int32) (μ : Mem) : Mem := (M_X10_tideComes 522 (SX10_snaps_42 p1 μ))
def F_X10_snaps (p1 : Int32) (μ : Mem) : Int32 := (if (F_X10_bad (VX10_snaps_2 p1 μ) 1 0 (muX10_snaps_1 p1 μ)) = 0 then (if 60 ≤ (nI (NX10_snaps_42 p1 μ)) then (-1) else (if ((SX10_snaps_42 p1 μ) 522 (ix (20 + p1))) ≠ 1 then (-1) else (nI (NX10_snaps_42 p1 μ)))) else 0)
def M_X10_snaps (p1 : Int32) (μ : Mem) : Mem := (if (F_X10_bad (VX10_snaps_2 p1 μ) 1 0 (muX10_snaps_1 p1 μ)) = 0 then (if 60 ≤ (nI (NX10_snaps_42 p1 μ)) then (SX10_snaps_42 p1 μ) else (if ((SX10_snaps_42 p1 μ) 522 (ix (20 + p1))) ≠ 1 then (SX10_snaps_42 p1 μ) else (muX10_snaps_5 p1 μ))) else (muX10_snaps_3 p1 μ))
def P_X10_snaps (p1 : Int32) (μ : Mem) : Prop := ((P_X10_bad (VX10_snaps_2 p1 μ) 1 0 (muX10_snaps_1 p1 μ)) ∧ (((F_X10_bad (VX10_snaps_2 p1 μ) 1 0 (muX10_snaps_1 p1 μ)) = 0 → ((P_X10_copies 521 522 (muX10_snaps_3 p1 μ)) ∧ ((∀ j9, j9 < (NX10_snaps_42 p1 μ) → Pb_X10_snaps_42 p1 j9 (fo j9 (g_X10_snaps_42 p1) (muX10_snaps_4 p1 μ))) ∧ ((60 ≤ (nI (NX10_snaps_42 p1 μ)) → True) ∧ ((nI (NX10_snaps_42 p1 μ)) < 60 → ((vp_in (20 + p1) 63) ∧ ((((SX10_snaps_42 p1 μ) 522 (ix (20 + p1))) ≠ 1 → True) ∧ (((SX10_snaps_42 p1 μ) 522 (ix (20 + p1))) = 1 → ((P_X10_tideComes 522 (SX10_snaps_42 p1 μ)) ∧ ((vp_in (20 + p1) 63) ∧ ((((muX10_snaps_5 p1 μ) 522 (ix (20 + p1))) ≠ 0 → False) ∧ (((muX10_snaps_5 p1 μ) 522 (ix (20 + p1))) = 0 → True)))))))))))) ∧ (¬ (F_X10_bad (VX10_snaps_2 p1 μ) 1 0 (muX10_snaps_1 p1 μ)) = 0 → True)))
set_option maxRecDepth 20000 in
set_option maxHeartbeats 2000000 in
theorem ok_X10_snaps {G : SG} (hG : GK 548 G) (p1 : Int32) (μ : Mem) (hP : P_X10_snaps p1 μ) : OkF G mX10_snaps [.ref (ga G 57), .int p1] μ (some (.int (F_X10_snaps p1 μ))) (M_X10_snaps p1 μ) := by
  refine okF_of hG rfl rfl (Nat.le_of_ble_eq_true rfl) ?_
  unfold P_X10_snaps at hP
  refine r_aload_n dX10_snaps_0 0 rfl ?_
  refine r_iconst 0 dX10_snaps_1 rfl ?_
  refine r_put fiX10_103 (hG.lt (by decide)) sh57 fs57_0 dX10_snaps_2 ?_
  refine r_mu (muX10_snaps_1 p1 μ) rfl ?_
  refine r_aload_n dX10_snaps_5 0 rfl ?_
  refine r_aload_n dX10_snaps_6 0 rfl ?_
  refine r_iload_n dX10_snaps_7 1 rfl ?_
  refine r_cvI (ok_X10_isThing hG p1 (muX10_snaps_1 p1 μ)) lX10_350 (hG.lt (by decide)) sh57 ⟨_, _, rfl⟩ dX10_snaps_8 (by decide) (Nat.le_of_ble_eq_true rfl) rfl (Nat.le_of_ble_eq_true rfl) ?_
  refine r_join 19 [(0, .ref (ga G 57)), (1, .int p1)] [.int (VX10_snaps_2 p1 μ), .ref (ga G 57)] (muX10_snaps_1 p1 μ) ?_ (fun hJ => ?_)
  · refine r_iconst 1 dX10_snaps_19 rfl ?_
    refine r_iconst 0 dX10_snaps_20 rfl ?_
    have hs1 := hP.1
    replace hP := hP.2
    refine r_cvI (ok_X10_bad hG (VX10_snaps_2 p1 μ) 1 0 (muX10_snaps_1 p1 μ) hs1) lX10_186 (hG.lt (by decide)) sh57 ⟨_, _, rfl⟩ dX10_snaps_21 (by decide) (Nat.le_of_ble_eq_true rfl) rfl (Nat.le_of_ble_eq_true rfl) ?_
    refine r_mu (muX10_snaps_3 p1 μ) rfl ?_
    refine r_if_eq 29 dX10_snaps_24 (by decide) (fun c1 => ?_) (fun c1 => ?_)
    · replace hP := hP.1 c1
      refine r_aload_n dX10_snaps_29 0 rfl ?_
      refine r_getR 521 fX10_73 (hG.lt (by decide)) sh57 fs57_31 dX10_snaps_30 ?_
      refine r_aload_n dX10_snaps_33 0 rfl ?_
      refine r_getR 522 fX10_76 (hG.lt (by decide)) sh57 fs57_32 dX10_snaps_34 ?_
      have hs2 := hP.1
      replace hP := hP.2
      refine r_csV (ok_X10_copies hG (hG.lt (by decide)) sh521 (hG.lt (by decide)) sh522 (muX10_snaps_3 p1 μ) hs2) lX10_333 dX10_snaps_37 (by decide) (Nat.le_of_ble_eq_true rfl) rfl (Nat.le_of_ble_eq_true rfl) ?_
      refine r_mu (muX10_snaps_4 p1 μ) rfl ?_
      refine r_iconst 0 dX10_snaps_40 rfl ?_
      refine r_istore_n [(2, _), (0, _), (1, _)] dX10_snaps_41 (Nat.le_of_ble_eq_true rfl) rfl ?_
      have hs3 := hP.1
      replace hP := hP.2
      refine r_sub [1, 2, 0] rfl ?_
      refine lp_X10_snaps_42 hG p1 (muX10_snaps_4 p1 μ) ((NX10_snaps_42 p1 μ)) (SX10_snaps_42 p1 μ) rfl hs3 ?_
      refine r_iload_n dX10_snaps_42 2 rfl ?_
      refine r_bipush 60 dX10_snaps_43 rfl ?_
      refine r_icmp_ge 89 dX10_snaps_45 (by decide) (fun c2 => ?_) (fun c2 => ?_)
      · replace hP := hP.1 c2
        refine r_iconst (-1) dX10_snaps_89 rfl ?_
        exact r_ireturn _ dX10_snaps_90 rfl rfl ⟨congrArg (fun z => some (Value.int z)) (by unfold F_X10_snaps; rw [if_pos c1, if_pos c2]), by unfold M_X10_snaps; rw [if_pos c1, if_pos c2]⟩
      · replace hP := hP.2 c2
        refine r_aload_n dX10_snaps_48 0 rfl ?_
        refine r_getR 522 fX10_76 (hG.lt (by decide)) sh57 fs57_32 dX10_snaps_49 ?_
        refine r_bipush 20 dX10_snaps_52 rfl ?_
        refine r_iload_n dX10_snaps_54 1 rfl ?_
        refine r_iadd dX10_snaps_55 ?_
        have hs4 := hP.1
        replace hP := hP.2
        refine r_iald (hG.lt (by decide)) sh522 hs4 dX10_snaps_56 ?_
        refine r_iconst 1 dX10_snaps_57 rfl ?_
        refine r_icmp_ne 89 dX10_snaps_58 (by decide) (fun c3 => ?_) (fun c3 => ?_)
        · replace hP := hP.1 c3
          refine r_iconst (-1) dX10_snaps_89 rfl ?_
          exact r_ireturn _ dX10_snaps_90 rfl rfl ⟨congrArg (fun z => some (Value.int z)) (by unfold F_X10_snaps; rw [if_pos c1, if_neg (i32_ng c2), if_pos c3]), by unfold M_X10_snaps; rw [if_pos c1, if_neg (i32_ng c2), if_pos c3]⟩
        · replace hP := hP.2 c3
          refine r_aload_n dX10_snaps_61 0 rfl ?_
          refine r_aload_n dX10_snaps_62 0 rfl ?_
          refine r_getR 522 fX10_76 (hG.lt (by decide)) sh57 fs57_32 dX10_snaps_63 ?_
          have hs5 := hP.1
          replace hP := hP.2
          refine r_cvV (ok_X10_tideComes hG (hG.lt (by decide)) sh522 (SX10_snaps_42 p1 μ) hs5) lX10_317 (hG.lt (by decide)) sh57 ⟨_, _, rfl⟩ dX10_snaps_66 (by decide) (Nat.le_of_ble_eq_true rfl) rfl (Nat.le_of_ble_eq_true rfl) ?_
          refine r_mu (muX10_snaps_5 p1 μ) rfl ?_
          refine r_aload_n dX10_snaps_69 0 rfl ?_
          refine r_getR 522 fX10_76 (hG.lt (by decide)) sh57 fs57_32 dX10_snaps_70 ?_
          refine r_bipush 20 dX10_snaps_73 rfl ?_
          refine r_iload_n dX10_snaps_75 1 rfl ?_
          refine r_iadd dX10_snaps_76 ?_
          have hs6 := hP.1
          replace hP := hP.2
          refine r_iald (hG.lt (by decide)) sh522 hs6 dX10_snaps_77 ?_
          refine r_if_ne 83 dX10_snaps_78 (by decide) (fun c4 => ?_) (fun c4 => ?_)
          · replace hP := hP.1 c4
            refine r_iinc ((nI (NX10_snaps_42 p1 μ)) + 1) [(2, _), (0, _), (1, _)] dX10_snaps_83 2 rfl rfl (Nat.le_of_ble_eq_true rfl) rfl ?_
            refine r_goto 42 dX10_snaps_86 (by decide) ?_
            exact hP.elim
          · replace hP := hP.2 c4
            refine r_iload_n dX10_snaps_81 2 rfl ?_
            exact r_ireturn _ dX10_snaps_82 rfl rfl ⟨congrArg (fun z => some (Value.int z)) (by unfold F_X10_snaps; rw [if_pos c1, if_neg (i32_ng c2), if_neg (not_not_intro c3)]), by unfold M_X10_snaps; rw [if_pos c1, if_neg (i32_ng c2), if_neg (not_not_intro c3)]⟩
    · replace hP := hP.2 c1
      refine r_iconst 0 dX10_snaps_27 rfl ?_
      exact r_ireturn _ dX10_snaps_28 rfl rfl ⟨congrArg (fun z => some (Value.int z)) (by unfold F_X10_snaps; rw [if_neg c1]), by unfold M_X10_snaps; rw [if_neg c1]⟩
  · refine r_if_ne 18 dX10_snaps_11 (by decide) (fun c1 => ?_) (fun c1 => ?_)
    · refine r_iconst 0 dX10_snaps_18 rfl ?_
      have e : (VX10_snaps_2 p1 μ) = 0 := by unfold VX10_snaps_2; rw [if_pos c1]
      rw [e] at hJ
      exact r_sub [0, 1] rfl hJ
    · refine r_iconst 1 dX10_snaps_14 rfl ?_
      refine r_goto 19 dX10_snaps_15 (by decide) ?_
      have e : (VX10_snaps_2 p1 μ) = 1 := by unfold VX10_snaps_2; rw [if_neg (not_not_intro c1)]
      rw [e] at hJ
      exact r_sub [0, 1] rfl hJ
def muX10_pays_1 (p1 : Int32) (p2 : Int32) (μ : Mem) : Mem := (upm μ 57 0 0)
def VX10_pays_2 (p1 : Int32) (p2 : Int32) (μ : Mem) : Int32 := (if (F_X10_isHouse p1 (muX10_pays_1 p1 p2 μ)) ≠ 0 then 0 else 1)
theorem bo_VX10_pays_2 (p1 : Int32) (p2 : Int32) (μ : Mem) : (VX10_pays_2 p1 p2 μ) = 0 ∨ (VX10_pays_2 p1 p2 μ) = 1 := by
  unfold VX10_pays_2
  split
  · exact Or.inl rfl
  · exact Or.inr rfl
def muX10_pays_3 (p1 : Int32) (p2 : Int32) (μ : Mem) : Mem := (M_X10_bad (VX10_pays_2 p1 p2 μ) 1 0 (muX10_pays_1 p1 p2 μ))
def VX10_pays_4 (p1 : Int32) (p2 : Int32) (μ : Mem) : Int32 := (if (F_X10_isIn p2 0 60 (muX10_pays_3 p1 p2 μ)) ≠ 0 then 0 else 1)
theorem bo_VX10_pays_4 (p1 : Int32) (p2 : Int32) (μ : Mem) : (VX10_pays_4 p1 p2 μ) = 0 ∨ (VX10_pays_4 p1 p2 μ) = 1 := by
  unfold VX10_pays_4
  split
  · exact Or.inl rfl
  · exact Or.inr rfl
def muX10_pays_5 (p1 : Int32) (p2 : Int32) (μ : Mem) : Mem := (M_X10_bad (VX10_pays_4 p1 p2 μ) 2 1 (muX10_pays_3 p1 p2 μ))
def muX10_pays_6 (p1 : Int32) (p2 : Int32) (μ : Mem) : Mem := (M_X10_copies 521 522 (muX10_pays_5 p1 p2 μ))
def muX10_pays_7 (p1 : Int32) (p2 : Int32) (μ : Mem) : Mem := (M_X10_goesOn p2 (muX10_pays_6 p1 p2 μ))
def F_X10_pays (p1 : Int32) (p2 : Int32) (μ : Mem) : Int32 := (if (F_X10_bad (VX10_pays_2 p1 p2 μ) 1 0 (muX10_pays_1 p1 p2 μ)) ≠ 0 then 0 else (if (F_X10_bad (VX10_pays_4 p1 p2 μ) 2 1 (muX10_pays_3 p1 p2 μ)) = 0 then (((muX10_pays_7 p1 p2 μ) 522 (ix (56 + p1))) - ((muX10_pays_7 p1 p2 μ) 521 (ix (56 + p1)))) else 0))
def M_X10_pays (p1 : Int32) (p2 : Int32) (μ : Mem) : Mem := (if (F_X10_bad (VX10_pays_2 p1 p2 μ) 1 0 (muX10_pays_1 p1 p2 μ)) ≠ 0 then (muX10_pays_3 p1 p2 μ) else (if (F_X10_bad (VX10_pays_4 p1 p2 μ) 2 1 (muX10_pays_3 p1 p2 μ)) = 0 then (muX10_pays_7 p1 p2 μ) else (muX10_pays_5 p1 p2 μ)))
def P_X10_pays (p1 : Int32) (p2 : Int32) (μ : Mem) : Prop := ((P_X10_bad (VX10_pays_2 p1 p2 μ) 1 0 (muX10_pays_1 p1 p2 μ)) ∧ (((F_X10_bad (VX10_pays_2 p1 p2 μ) 1 0 (muX10_pays_1 p1 p2 μ)) ≠ 0 → True) ∧ ((F_X10_bad (VX10_pays_2 p1 p2 μ) 1 0 (muX10_pays_1 p1 p2 μ)) = 0 → ((P_X10_bad (VX10_pays_4 p1 p2 μ) 2 1 (muX10_pays_3 p1 p2 μ)) ∧ (((F_X10_bad (VX10_pays_4 p1 p2 μ) 2 1 (muX10_pays_3 p1 p2 μ)) = 0 → ((P_X10_copies 521 522 (muX10_pays_5 p1 p2 μ)) ∧ ((P_X10_goesOn p2 (muX10_pays_6 p1 p2 μ)) ∧ ((vp_in (56 + p1) 63) ∧ (vp_in (56 + p1) 63))))) ∧ (¬ (F_X10_bad (VX10_pays_4 p1 p2 μ) 2 1 (muX10_pays_3 p1 p2 μ)) = 0 → True))))))
set_option maxRecDepth 20000 in
set_option maxHeartbeats 2000000 in
theorem ok_X10_pays {G : SG} (hG : GK 548 G) (p1 : Int32) (p2 : Int32) (μ : Mem) (hP : P_X10_pays p1 p2 μ) : OkF G mX10_pays [.ref (ga G 57), .int p1, .int p2] μ (some (.int (F_X10_pays p1 p2 μ))) (M_X10_pays p1 p2 μ) := by
  refine okF_of hG rfl rfl (Nat.le_of_ble_eq_true rfl) ?_
  unfold P_X10_pays at hP
  refine r_aload_n dX10_pays_0 0 rfl ?_
  refine r_iconst 0 dX10_pays_1 rfl ?_
  refine r_put fiX10_103 (hG.lt (by decide)) sh57 fs57_0 dX10_pays_2 ?_
  refine r_mu (muX10_pays_1 p1 p2 μ) rfl ?_
  refine r_aload_n dX10_pays_5 0 rfl ?_
  refine r_aload_n dX10_pays_6 0 rfl ?_
  refine r_iload_n dX10_pays_7 1 rfl ?_
  refine r_cvI (ok_X10_isHouse hG p1 (muX10_pays_1 p1 p2 μ)) lX10_347 (hG.lt (by decide)) sh57 ⟨_, _, rfl⟩ dX10_pays_8 (by decide) (Nat.le_of_ble_eq_true rfl) rfl (Nat.le_of_ble_eq_true rfl) ?_
  refine r_join 19 [(0, .ref (ga G 57)), (1, .int p1), (2, .int p2)] [.int (VX10_pays_2 p1 p2 μ), .ref (ga G 57)] (muX10_pays_1 p1 p2 μ) ?_ (fun hJ => ?_)
  · refine r_iconst 1 dX10_pays_19 rfl ?_
    refine r_iconst 0 dX10_pays_20 rfl ?_
    have hs1 := hP.1
    replace hP := hP.2
    refine r_cvI (ok_X10_bad hG (VX10_pays_2 p1 p2 μ) 1 0 (muX10_pays_1 p1 p2 μ) hs1) lX10_186 (hG.lt (by decide)) sh57 ⟨_, _, rfl⟩ dX10_pays_21 (by decide) (Nat.le_of_ble_eq_true rfl) rfl (Nat.le_of_ble_eq_true rfl) ?_
    refine r_mu (muX10_pays_3 p1 p2 μ) rfl ?_
    refine r_if_ne 51 dX10_pays_24 (by decide) (fun c1 => ?_) (fun c1 => ?_)
    · replace hP := hP.1 c1
      refine r_iconst 0 dX10_pays_51 rfl ?_
      exact r_ireturn _ dX10_pays_52 rfl rfl ⟨congrArg (fun z => some (Value.int z)) (by unfold F_X10_pays; rw [if_pos c1]), by unfold M_X10_pays; rw [if_pos c1]⟩
    · replace hP := hP.2 c1
      refine r_aload_n dX10_pays_27 0 rfl ?_
      refine r_iload_n dX10_pays_28 2 rfl ?_
      refine r_iconst 0 dX10_pays_29 rfl ?_
      refine r_bipush 60 dX10_pays_30 rfl ?_
      refine r_csI (ok_X10_isIn hG p2 0 60 (muX10_pays_3 p1 p2 μ)) lX10_137 dX10_pays_32 (by decide) (Nat.le_of_ble_eq_true rfl) rfl (Nat.le_of_ble_eq_true rfl) ?_
      refine r_join 43 [(0, .ref (ga G 57)), (1, .int p1), (2, .int p2)] [.int (VX10_pays_4 p1 p2 μ), .ref (ga G 57)] (muX10_pays_3 p1 p2 μ) ?_ (fun hJ => ?_)
      · refine r_iconst 2 dX10_pays_43 rfl ?_
        refine r_iconst 1 dX10_pays_44 rfl ?_
        have hs2 := hP.1
        replace hP := hP.2
        refine r_cvI (ok_X10_bad hG (VX10_pays_4 p1 p2 μ) 2 1 (muX10_pays_3 p1 p2 μ) hs2) lX10_186 (hG.lt (by decide)) sh57 ⟨_, _, rfl⟩ dX10_pays_45 (by decide) (Nat.le_of_ble_eq_true rfl) rfl (Nat.le_of_ble_eq_true rfl) ?_
        refine r_mu (muX10_pays_5 p1 p2 μ) rfl ?_
        refine r_if_eq 53 dX10_pays_48 (by decide) (fun c2 => ?_) (fun c2 => ?_)
        · replace hP := hP.1 c2
          refine r_aload_n dX10_pays_53 0 rfl ?_
          refine r_getR 521 fX10_73 (hG.lt (by decide)) sh57 fs57_31 dX10_pays_54 ?_
          refine r_aload_n dX10_pays_57 0 rfl ?_
          refine r_getR 522 fX10_76 (hG.lt (by decide)) sh57 fs57_32 dX10_pays_58 ?_
          have hs3 := hP.1
          replace hP := hP.2
          refine r_csV (ok_X10_copies hG (hG.lt (by decide)) sh521 (hG.lt (by decide)) sh522 (muX10_pays_5 p1 p2 μ) hs3) lX10_333 dX10_pays_61 (by decide) (Nat.le_of_ble_eq_true rfl) rfl (Nat.le_of_ble_eq_true rfl) ?_
          refine r_mu (muX10_pays_6 p1 p2 μ) rfl ?_
          refine r_aload_n dX10_pays_64 0 rfl ?_
          refine r_iload_n dX10_pays_65 2 rfl ?_
          have hs4 := hP.1
          replace hP := hP.2
          refine r_cvV (ok_X10_goesOn hG p2 (muX10_pays_6 p1 p2 μ) hs4) lX10_353 (hG.lt (by decide)) sh57 ⟨_, _, rfl⟩ dX10_pays_66 (by decide) (Nat.le_of_ble_eq_true rfl) rfl (Nat.le_of_ble_eq_true rfl) ?_
          refine r_mu (muX10_pays_7 p1 p2 μ) rfl ?_
          refine r_aload_n dX10_pays_69 0 rfl ?_
          refine r_getR 522 fX10_76 (hG.lt (by decide)) sh57 fs57_32 dX10_pays_70 ?_
          refine r_bipush 56 dX10_pays_73 rfl ?_
          refine r_iload_n dX10_pays_75 1 rfl ?_
          refine r_iadd dX10_pays_76 ?_
          have hs5 := hP.1
          replace hP := hP.2
          refine r_iald (hG.lt (by decide)) sh522 hs5 dX10_pays_77 ?_
          refine r_aload_n dX10_pays_78 0 rfl ?_
          refine r_getR 521 fX10_73 (hG.lt (by decide)) sh57 fs57_31 dX10_pays_79 ?_
          refine r_bipush 56 dX10_pays_82 rfl ?_
          refine r_iload_n dX10_pays_84 1 rfl ?_
          refine r_iadd dX10_pays_85 ?_
          have hs6 := hP
          refine r_iald (hG.lt (by decide)) sh521 hs6 dX10_pays_86 ?_
          refine r_isub dX10_pays_87 ?_
          exact r_ireturn _ dX10_pays_88 rfl rfl ⟨congrArg (fun z => some (Value.int z)) (by unfold F_X10_pays; rw [if_neg (not_not_intro c1), if_pos c2]), by unfold M_X10_pays; rw [if_neg (not_not_intro c1), if_pos c2]⟩
        · replace hP := hP.2 c2
          refine r_iconst 0 dX10_pays_51 rfl ?_
          exact r_ireturn _ dX10_pays_52 rfl rfl ⟨congrArg (fun z => some (Value.int z)) (by unfold F_X10_pays; rw [if_neg (not_not_intro c1), if_neg c2]), by unfold M_X10_pays; rw [if_neg (not_not_intro c1), if_neg c2]⟩
      · refine r_if_ne 42 dX10_pays_35 (by decide) (fun c2 => ?_) (fun c2 => ?_)
        · refine r_iconst 0 dX10_pays_42 rfl ?_
          have e : (VX10_pays_4 p1 p2 μ) = 0 := by unfold VX10_pays_4; rw [if_pos c2]
          rw [e] at hJ
          exact r_sub [0, 1, 2] rfl hJ
        · refine r_iconst 1 dX10_pays_38 rfl ?_
          refine r_goto 43 dX10_pays_39 (by decide) ?_
          have e : (VX10_pays_4 p1 p2 μ) = 1 := by unfold VX10_pays_4; rw [if_neg (not_not_intro c2)]
          rw [e] at hJ
          exact r_sub [0, 1, 2] rfl hJ
  · refine r_if_ne 18 dX10_pays_11 (by decide) (fun c1 => ?_) (fun c1 => ?_)
    · refine r_iconst 0 dX10_pays_18 rfl ?_
      have e : (VX10_pays_2 p1 p2 μ) = 0 := by unfold VX10_pays_2; rw [if_pos c1]
      rw [e] at hJ
      exact r_sub [0, 1, 2] rfl hJ
    · refine r_iconst 1 dX10_pays_14 rfl ?_
      refine r_goto 19 dX10_pays_15 (by decide) ?_
      have e : (VX10_pays_2 p1 p2 μ) = 1 := by unfold VX10_pays_2; rw [if_neg (not_not_intro c1)]
      rw [e] at hJ
      exact r_sub [0, 1, 2] rfl hJ
def g_X10_isInAny_2 (v1 : Int32) (μ : Mem) (i : Nat) (s : Unit) : Unit := ()
def Pb_X10_isInAny_2 (v1 : Int32) (μ : Mem) (i : Nat) (s : Unit) : Prop := (((μ 61 0) ≤ (nI i) → False) ∧ ((nI i) < (μ 61 0) → (P_X10_heightIn ((μ 521 62) + v1) μ) ∧ (P_X10_waterBy 521 (nI i) (F_X10_heightIn ((μ 521 62) + v1) μ) μ) ∧ (((F_X10_waterBy 521 (nI i) (F_X10_heightIn ((μ 521 62) + v1) μ) μ) ≤ 0 → True) ∧ (0 < (F_X10_waterBy 521 (nI i) (F_X10_heightIn ((μ 521 62) + v1) μ) μ) → False))))
def Cb_X10_isInAny_2 (v1 : Int32) (μ : Mem) (i : Nat) (s : Unit) : Bool := (if (μ 61 0) ≤ (nI i) then false else (if (F_X10_waterBy 521 (nI i) (F_X10_heightIn ((μ 521 62) + v1) μ) μ) ≤ 0 then true else false))
set_option maxRecDepth 20000 in
set_option maxHeartbeats 2000000 in
theorem lp_X10_isInAny_2 {G : SG} (hG : GK 548 G)  (v1 : Int32) (μ : Mem) (s0 : Unit) (N : Nat) (sN : Unit) (eN : sN = fo N (g_X10_isInAny_2 v1 μ) s0) (hN : ∀ i, i < N → Pb_X10_isInAny_2 v1 μ i (fo i (g_X10_isInAny_2 v1 μ) s0)) {t : Nat} {Q : PQ} {X : PX} (h : R G mX10_isInAny 2 [(0, .ref (ga G 57)), (1, .int v1), (2, .int (nI N))] [] μ t Q X) : R G mX10_isInAny 2 [(0, .ref (ga G 57)), (1, .int v1), (2, .int 0)] [] μ t Q X := by
  subst eN
  refine down_i N (fun i => R G mX10_isInAny 2 [(0, .ref (ga G 57)), (1, .int v1), (2, .int (nI i))] [] μ t Q X) h (fun i hi hS => ?_)
  have hP := hN i hi
  rw [nI_succ] at hS
  generalize fo i (g_X10_isInAny_2 v1 μ) s0 = s at hS hP ⊢
  unfold Pb_X10_isInAny_2 at hP
  refine r_iload_n dX10_isInAny_2 2 rfl ?_
  refine r_aload_n dX10_isInAny_3 0 rfl ?_
  refine r_getR 61 fX10_23 (hG.lt (by decide)) sh57 fs57_12 dX10_isInAny_4 ?_
  refine r_iconst 0 dX10_isInAny_7 rfl ?_
  refine r_ialdK 0 rfl (hG.lt (by decide)) sh61 (vp_of (by decide) (by decide)) dX10_isInAny_8 ?_
  refine r_icmp_ge 45 dX10_isInAny_9 (by decide) (fun c1 => ?_) (fun c1 => ?_)
  · replace hP := hP.1 c1
    exact hP.elim
  · replace hP := hP.2 c1
    refine r_aload_n dX10_isInAny_12 0 rfl ?_
    refine r_aload_n dX10_isInAny_13 0 rfl ?_
    refine r_getR 521 fX10_73 (hG.lt (by decide)) sh57 fs57_31 dX10_isInAny_14 ?_
    refine r_iload_n dX10_isInAny_17 2 rfl ?_
    refine r_aload_n dX10_isInAny_18 0 rfl ?_
    refine r_aload_n dX10_isInAny_19 0 rfl ?_
    refine r_getR 521 fX10_73 (hG.lt (by decide)) sh57 fs57_31 dX10_isInAny_20 ?_
    refine r_bipush 62 dX10_isInAny_23 rfl ?_
    refine r_ialdK 62 rfl (hG.lt (by decide)) sh521 (vp_of (by decide) (by decide)) dX10_isInAny_25 ?_
    refine r_iload_n dX10_isInAny_26 1 rfl ?_
    refine r_iadd dX10_isInAny_27 ?_
    have hs1 := hP.1
    replace hP := hP.2
    refine r_cvI (ok_X10_heightIn hG ((μ 521 62) + v1) μ hs1) lX10_276 (hG.lt (by decide)) sh57 ⟨_, _, rfl⟩ dX10_isInAny_28 (by decide) (Nat.le_of_ble_eq_true rfl) rfl (Nat.le_of_ble_eq_true rfl) ?_
    have hs2 := hP.1
    replace hP := hP.2
    refine r_cvI (ok_X10_waterBy hG (hG.lt (by decide)) sh521 (nI i) (F_X10_heightIn ((μ 521 62) + v1) μ) μ hs2) lX10_282 (hG.lt (by decide)) sh57 ⟨_, _, rfl⟩ dX10_isInAny_31 (by decide) (Nat.le_of_ble_eq_true rfl) rfl (Nat.le_of_ble_eq_true rfl) ?_
    refine r_if_le 39 dX10_isInAny_34 (by decide) (fun c2 => ?_) (fun c2 => ?_)
    · replace hP := hP.1 c2
      refine r_iinc ((nI i) + 1) [(2, _), (0, _), (1, _)] dX10_isInAny_39 2 rfl rfl (Nat.le_of_ble_eq_true rfl) rfl ?_
      refine r_goto 2 dX10_isInAny_42 (by decide) ?_
      exact r_sub [1, 2, 0] rfl hS
    · replace hP := hP.2 c2
      refine r_iconst 1 dX10_isInAny_37 rfl ?_
      exact hP.elim
def NX10_isInAny_2 (p1 : Int32) (μ : Mem) : Nat := (fst 7 (fun j9 => !Cb_X10_isInAny_2 p1 μ j9 (fo j9 (g_X10_isInAny_2 p1 μ) ())))
def SX10_isInAny_2 (p1 : Int32) (μ : Mem) : Unit := fo (NX10_isInAny_2 p1 μ) (g_X10_isInAny_2 p1 μ) ()
def F_X10_isInAny (p1 : Int32) (μ : Mem) : Int32 := (if (μ 61 0) ≤ (nI (NX10_isInAny_2 p1 μ)) then 0 else 1)
def P_X10_isInAny (p1 : Int32) (μ : Mem) : Prop := ((∀ j9, j9 < (NX10_isInAny_2 p1 μ) → Pb_X10_isInAny_2 p1 μ j9 (fo j9 (g_X10_isInAny_2 p1 μ) ())) ∧ (((μ 61 0) ≤ (nI (NX10_isInAny_2 p1 μ)) → True) ∧ ((nI (NX10_isInAny_2 p1 μ)) < (μ 61 0) → ((P_X10_heightIn ((μ 521 62) + p1) μ) ∧ ((P_X10_waterBy 521 (nI (NX10_isInAny_2 p1 μ)) (F_X10_heightIn ((μ 521 62) + p1) μ) μ) ∧ (((F_X10_waterBy 521 (nI (NX10_isInAny_2 p1 μ)) (F_X10_heightIn ((μ 521 62) + p1) μ) μ) ≤ 0 → False) ∧ (0 < (F_X10_waterBy 521 (nI (NX10_isInAny_2 p1 μ)) (F_X10_heightIn ((μ 521 62) + p1) μ) μ) → True)))))))
theorem bo_X10_isInAny (p1 : Int32) (μ : Mem) : F_X10_isInAny p1 μ = 0 ∨ F_X10_isInAny p1 μ = 1 := by
  unfold F_X10_isInAny
  split
  · exact Or.inl rfl
  · exact Or.inr rfl
set_option maxRecDepth 20000 in
set_option maxHeartbeats 2000000 in
theorem ok_X10_isInAny {G : SG} (hG : GK 548 G) (p1 : Int32) (μ : Mem) (hP : P_X10_isInAny p1 μ) : OkF G mX10_isInAny [.ref (ga G 57), .int p1] μ (some (.int (F_X10_isInAny p1 μ))) μ := by
  refine okF_of hG rfl rfl (Nat.le_of_ble_eq_true rfl) ?_
  unfold P_X10_isInAny at hP
  refine r_iconst 0 dX10_isInAny_0 rfl ?_
  refine r_istore_n [(2, _), (0, _), (1, _)] dX10_isInAny_1 (Nat.le_of_ble_eq_true rfl) rfl ?_
  have hs1 := hP.1
  replace hP := hP.2
  refine r_sub [1, 2, 0] rfl ?_
  refine lp_X10_isInAny_2 hG p1 μ () ((NX10_isInAny_2 p1 μ)) (SX10_isInAny_2 p1 μ) rfl hs1 ?_
  refine r_iload_n dX10_isInAny_2 2 rfl ?_
  refine r_aload_n dX10_isInAny_3 0 rfl ?_
  refine r_getR 61 fX10_23 (hG.lt (by decide)) sh57 fs57_12 dX10_isInAny_4 ?_
  refine r_iconst 0 dX10_isInAny_7 rfl ?_
  refine r_ialdK 0 rfl (hG.lt (by decide)) sh61 (vp_of (by decide) (by decide)) dX10_isInAny_8 ?_
  refine r_icmp_ge 45 dX10_isInAny_9 (by decide) (fun c1 => ?_) (fun c1 => ?_)
  · replace hP := hP.1 c1
    refine r_iconst 0 dX10_isInAny_45 rfl ?_
    exact r_ireturn _ dX10_isInAny_46 rfl rfl ⟨congrArg (fun z => some (Value.int z)) (by unfold F_X10_isInAny; rw [if_pos c1]), rfl⟩
  · replace hP := hP.2 c1
    refine r_aload_n dX10_isInAny_12 0 rfl ?_
    refine r_aload_n dX10_isInAny_13 0 rfl ?_
    refine r_getR 521 fX10_73 (hG.lt (by decide)) sh57 fs57_31 dX10_isInAny_14 ?_
    refine r_iload_n dX10_isInAny_17 2 rfl ?_
    refine r_aload_n dX10_isInAny_18 0 rfl ?_
    refine r_aload_n dX10_isInAny_19 0 rfl ?_
    refine r_getR 521 fX10_73 (hG.lt (by decide)) sh57 fs57_31 dX10_isInAny_20 ?_
    refine r_bipush 62 dX10_isInAny_23 rfl ?_
    refine r_ialdK 62 rfl (hG.lt (by decide)) sh521 (vp_of (by decide) (by decide)) dX10_isInAny_25 ?_
    refine r_iload_n dX10_isInAny_26 1 rfl ?_
    refine r_iadd dX10_isInAny_27 ?_
    have hs2 := hP.1
    replace hP := hP.2
    refine r_cvI (ok_X10_heightIn hG ((μ 521 62) + p1) μ hs2) lX10_276 (hG.lt (by decide)) sh57 ⟨_, _, rfl⟩ dX10_isInAny_28 (by decide) (Nat.le_of_ble_eq_true rfl) rfl (Nat.le_of_ble_eq_true rfl) ?_
    have hs3 := hP.1
    replace hP := hP.2
    refine r_cvI (ok_X10_waterBy hG (hG.lt (by decide)) sh521 (nI (NX10_isInAny_2 p1 μ)) (F_X10_heightIn ((μ 521 62) + p1) μ) μ hs3) lX10_282 (hG.lt (by decide)) sh57 ⟨_, _, rfl⟩ dX10_isInAny_31 (by decide) (Nat.le_of_ble_eq_true rfl) rfl (Nat.le_of_ble_eq_true rfl) ?_
    refine r_if_le 39 dX10_isInAny_34 (by decide) (fun c2 => ?_) (fun c2 => ?_)
    · replace hP := hP.1 c2
      refine r_iinc ((nI (NX10_isInAny_2 p1 μ)) + 1) [(2, _), (0, _), (1, _)] dX10_isInAny_39 2 rfl rfl (Nat.le_of_ble_eq_true rfl) rfl ?_
      refine r_goto 2 dX10_isInAny_42 (by decide) ?_
      exact hP.elim
    · replace hP := hP.2 c2
      refine r_iconst 1 dX10_isInAny_37 rfl ?_
      exact r_ireturn _ dX10_isInAny_38 rfl rfl ⟨congrArg (fun z => some (Value.int z)) (by unfold F_X10_isInAny; rw [if_neg (i32_ng c1)]), rfl⟩
def muX10_neap_1 (p1 : Int32) (μ : Mem) : Mem := (upm μ 57 0 0)
def VX10_neap_2 (p1 : Int32) (μ : Mem) : Int32 := (if (F_X10_isIn p1 0 1 (muX10_neap_1 p1 μ)) ≠ 0 then 0 else 1)
theorem bo_VX10_neap_2 (p1 : Int32) (μ : Mem) : (VX10_neap_2 p1 μ) = 0 ∨ (VX10_neap_2 p1 μ) = 1 := by
  unfold VX10_neap_2
  split
  · exact Or.inl rfl
  · exact Or.inr rfl
def muX10_neap_3 (p1 : Int32) (μ : Mem) : Mem := (M_X10_bad (VX10_neap_2 p1 μ) 1 1 (muX10_neap_1 p1 μ))
def VX10_neap_40_1 (v1 : Int32) (μ : Mem) (i : Nat) (s : Int32 × Int32 × Int32) : Int32 := (if (F_X10_isInAny (nI i) μ) = 0 then (s.2.2 + 1) else 0)
def VX10_neap_40_2 (v1 : Int32) (μ : Mem) (i : Nat) (s : Int32 × Int32 × Int32) : Int32 := (if s.1 < (VX10_neap_40_1 v1 μ i s) then (((nI i) - (VX10_neap_40_1 v1 μ i s)) + 1) else s.2.1)
def VX10_neap_40_3 (v1 : Int32) (μ : Mem) (i : Nat) (s : Int32 × Int32 × Int32) : Int32 := (if s.1 < (VX10_neap_40_1 v1 μ i s) then (VX10_neap_40_1 v1 μ i s) else s.1)
def g_X10_neap_40 (v1 : Int32) (μ : Mem) (i : Nat) (s : Int32 × Int32 × Int32) : Int32 × Int32 × Int32 := ((VX10_neap_40_3 v1 μ i s), (VX10_neap_40_2 v1 μ i s), (VX10_neap_40_1 v1 μ i s))
def Pb_X10_neap_40 (v1 : Int32) (μ : Mem) (i : Nat) (s : Int32 × Int32 × Int32) : Prop := ((60 ≤ (nI i) → False) ∧ ((nI i) < 60 → P_X10_isInAny (nI i) μ))
set_option maxRecDepth 20000 in
set_option maxHeartbeats 2000000 in
theorem lp_X10_neap_40 {G : SG} (hG : GK 548 G)  (v1 : Int32) (μ : Mem) (s0 : Int32 × Int32 × Int32) (N : Nat) (sN : Int32 × Int32 × Int32) (eN : sN = fo N (g_X10_neap_40 v1 μ) s0) (hN : ∀ i, i < N → Pb_X10_neap_40 v1 μ i (fo i (g_X10_neap_40 v1 μ) s0)) {t : Nat} {Q : PQ} {X : PX} (h : R G mX10_neap 40 [(0, .ref (ga G 57)), (1, .int v1), (2, .int (sN).1), (3, .int (sN).2.1), (4, .int (sN).2.2), (5, .int (nI N))] [] μ t Q X) : R G mX10_neap 40 [(0, .ref (ga G 57)), (1, .int v1), (2, .int (s0).1), (3, .int (s0).2.1), (4, .int (s0).2.2), (5, .int 0)] [] μ t Q X := by
  subst eN
  refine down_i N (fun i => R G mX10_neap 40 [(0, .ref (ga G 57)), (1, .int v1), (2, .int ((fo i (g_X10_neap_40 v1 μ) s0)).1), (3, .int ((fo i (g_X10_neap_40 v1 μ) s0)).2.1), (4, .int ((fo i (g_X10_neap_40 v1 μ) s0)).2.2), (5, .int (nI i))] [] μ t Q X) h (fun i hi hS => ?_)
  have hP := hN i hi
  rw [fo_succ] at hS
  rw [nI_succ] at hS
  generalize fo i (g_X10_neap_40 v1 μ) s0 = s at hS hP ⊢
  unfold Pb_X10_neap_40 at hP
  refine r_iload dX10_neap_40 5 rfl ?_
  refine r_bipush 60 dX10_neap_42 rfl ?_
  refine r_icmp_ge 92 dX10_neap_44 (by decide) (fun c1 => ?_) (fun c1 => ?_)
  · replace hP := hP.1 c1
    exact hP.elim
  · replace hP := hP.2 c1
    refine r_aload_n dX10_neap_47 0 rfl ?_
    refine r_iload dX10_neap_48 5 rfl ?_
    have hs1 := hP
    refine r_cvI (ok_X10_isInAny hG (nI i) μ hs1) lX10_356 (hG.lt (by decide)) sh57 ⟨_, _, rfl⟩ dX10_neap_50 (by decide) (Nat.le_of_ble_eq_true rfl) rfl (Nat.le_of_ble_eq_true rfl) ?_
    refine r_join 64 [(0, .ref (ga G 57)), (1, .int v1), (2, .int s.1), (3, .int s.2.1), (4, .int s.2.2), (5, .int (nI i))] [.int (VX10_neap_40_1 v1 μ i s)] μ ?_ (fun hJ => ?_)
    · refine r_istore [(4, _), (0, _), (1, _), (2, _), (3, _), (5, _)] dX10_neap_64 (Nat.le_of_ble_eq_true rfl) rfl ?_
      refine r_iload dX10_neap_66 0 rfl ?_
      refine r_iload_n dX10_neap_68 3 rfl ?_
      refine r_join 86 [(3, .int (VX10_neap_40_2 v1 μ i s)), (2, .int (VX10_neap_40_3 v1 μ i s)), (4, .int (VX10_neap_40_1 v1 μ i s)), (0, .ref (ga G 57)), (1, .int v1), (5, .int (nI i))] [] μ ?_ (fun hJ => ?_)
      · refine r_iinc ((nI i) + 1) [(5, _), (3, _), (2, _), (4, _), (0, _), (1, _)] dX10_neap_86 5 rfl rfl (Nat.le_of_ble_eq_true rfl) rfl ?_
        refine r_goto 40 dX10_neap_89 (by decide) ?_
        have e : g_X10_neap_40 v1 μ i s = ((VX10_neap_40_3 v1 μ i s), (VX10_neap_40_2 v1 μ i s), (VX10_neap_40_1 v1 μ i s)) := by unfold g_X10_neap_40; rfl
        rw [e] at hS
        dsimp only at hS
        exact r_sub [4, 5, 2, 1, 3, 0] rfl hS
      · refine r_icmp_gt 75 dX10_neap_69 (by decide) (fun c2 => ?_) (fun c2 => ?_)
        · refine r_iload dX10_neap_75 0 rfl ?_
          refine r_istore_n [(2, _), (4, _), (0, _), (1, _), (3, _), (5, _)] dX10_neap_77 (Nat.le_of_ble_eq_true rfl) rfl ?_
          refine r_iload dX10_neap_78 5 rfl ?_
          refine r_iload dX10_neap_80 1 rfl ?_
          refine r_isub dX10_neap_82 ?_
          refine r_iconst 1 dX10_neap_83 rfl ?_
          refine r_iadd dX10_neap_84 ?_
          refine r_istore_n [(3, _), (2, _), (4, _), (0, _), (1, _), (5, _)] dX10_neap_85 (Nat.le_of_ble_eq_true rfl) rfl ?_
          have e : (VX10_neap_40_2 v1 μ i s) = (((nI i) - (VX10_neap_40_1 v1 μ i s)) + 1) := by unfold VX10_neap_40_2; rw [if_pos c2]
          rw [e] at hJ
          clear e
          have e : (VX10_neap_40_3 v1 μ i s) = (VX10_neap_40_1 v1 μ i s) := by unfold VX10_neap_40_3; rw [if_pos c2]
          rw [e] at hJ
          exact r_sub [0, 1, 2, 3, 4, 5] rfl hJ
        · refine r_goto 86 dX10_neap_72 (by decide) ?_
          have e : (VX10_neap_40_2 v1 μ i s) = s.2.1 := by unfold VX10_neap_40_2; rw [if_neg (i32_nl c2)]
          rw [e] at hJ
          clear e
          have e : (VX10_neap_40_3 v1 μ i s) = s.1 := by unfold VX10_neap_40_3; rw [if_neg (i32_nl c2)]
          rw [e] at hJ
          exact r_sub [4, 3, 0, 1, 2, 5] rfl hJ
    · refine r_if_eq 60 dX10_neap_53 (by decide) (fun c2 => ?_) (fun c2 => ?_)
      · refine r_iload dX10_neap_60 4 rfl ?_
        refine r_iconst 1 dX10_neap_62 rfl ?_
        refine r_iadd dX10_neap_63 ?_
        have e : (VX10_neap_40_1 v1 μ i s) = (s.2.2 + 1) := by unfold VX10_neap_40_1; rw [if_pos c2]
        rw [e] at hJ
        exact r_sub [0, 1, 2, 3, 4, 5] rfl hJ
      · refine r_iconst 0 dX10_neap_56 rfl ?_
        refine r_goto 64 dX10_neap_57 (by decide) ?_
        have e : (VX10_neap_40_1 v1 μ i s) = 0 := by unfold VX10_neap_40_1; rw [if_neg c2]
        rw [e] at hJ
        exact r_sub [0, 1, 2, 3, 4, 5] rfl hJ
def NX10_neap_40 (p1 : Int32) (μ : Mem) : Nat := 60
def SX10_neap_40 (p1 : Int32) (μ : Mem) : Int32 × Int32 × Int32 := fo (NX10_neap_40 p1 μ) (g_X10_neap_40 p1 (muX10_neap_3 p1 μ)) (0, (-1), 0)
def VX10_neap_4 (p1 : Int32) (μ : Mem) : Int32 := (if (F_X10_isInAny (nI (NX10_neap_40 p1 μ)) (muX10_neap_3 p1 μ)) = 0 then ((SX10_neap_40 p1 μ).2.2 + 1) else 0)
def VX10_neap_5 (p1 : Int32) (μ : Mem) : Int32 := (if (SX10_neap_40 p1 μ).1 < (VX10_neap_4 p1 μ) then (((nI (NX10_neap_40 p1 μ)) - (VX10_neap_4 p1 μ)) + 1) else (SX10_neap_40 p1 μ).2.1)
def VX10_neap_6 (p1 : Int32) (μ : Mem) : Int32 := (if (SX10_neap_40 p1 μ).1 < (VX10_neap_4 p1 μ) then (VX10_neap_4 p1 μ) else (SX10_neap_40 p1 μ).1)
def F_X10_neap (p1 : Int32) (μ : Mem) : Int32 := (if (F_X10_bad (VX10_neap_2 p1 μ) 1 1 (muX10_neap_1 p1 μ)) = 0 then (if p1 ≠ 0 then (SX10_neap_40 p1 μ).2.1 else (SX10_neap_40 p1 μ).1) else 0)
def M_X10_neap (p1 : Int32) (μ : Mem) : Mem := (muX10_neap_3 p1 μ)
def P_X10_neap (p1 : Int32) (μ : Mem) : Prop := ((P_X10_bad (VX10_neap_2 p1 μ) 1 1 (muX10_neap_1 p1 μ)) ∧ (((F_X10_bad (VX10_neap_2 p1 μ) 1 1 (muX10_neap_1 p1 μ)) = 0 → ((∀ j9, j9 < (NX10_neap_40 p1 μ) → Pb_X10_neap_40 p1 (muX10_neap_3 p1 μ) j9 (fo j9 (g_X10_neap_40 p1 (muX10_neap_3 p1 μ)) (0, (-1), 0))) ∧ ((60 ≤ (nI (NX10_neap_40 p1 μ)) → True) ∧ ((nI (NX10_neap_40 p1 μ)) < 60 → ((P_X10_isInAny (nI (NX10_neap_40 p1 μ)) (muX10_neap_3 p1 μ)) ∧ False))))) ∧ (¬ (F_X10_bad (VX10_neap_2 p1 μ) 1 1 (muX10_neap_1 p1 μ)) = 0 → True)))
set_option maxRecDepth 20000 in
set_option maxHeartbeats 2000000 in
theorem ok_X10_neap {G : SG} (hG : GK 548 G) (p1 : Int32) (μ : Mem) (hP : P_X10_neap p1 μ) : OkF G mX10_neap [.ref (ga G 57), .int p1] μ (some (.int (F_X10_neap p1 μ))) (M_X10_neap p1 μ) := by
  refine okF_of hG rfl rfl (Nat.le_of_ble_eq_true rfl) ?_
  unfold P_X10_neap at hP
  refine r_aload_n dX10_neap_0 0 rfl ?_
  refine r_iconst 0 dX10_neap_1 rfl ?_
  refine r_put fiX10_103 (hG.lt (by decide)) sh57 fs57_0 dX10_neap_2 ?_
  refine r_mu (muX10_neap_1 p1 μ) rfl ?_
  refine r_aload_n dX10_neap_5 0 rfl ?_
  refine r_iload_n dX10_neap_6 1 rfl ?_
  refine r_iconst 0 dX10_neap_7 rfl ?_
  refine r_iconst 1 dX10_neap_8 rfl ?_
  refine r_csI (ok_X10_isIn hG p1 0 1 (muX10_neap_1 p1 μ)) lX10_137 dX10_neap_9 (by decide) (Nat.le_of_ble_eq_true rfl) rfl (Nat.le_of_ble_eq_true rfl) ?_
  refine r_join 20 [(0, .ref (ga G 57)), (1, .int p1)] [.int (VX10_neap_2 p1 μ), .ref (ga G 57)] (muX10_neap_1 p1 μ) ?_ (fun hJ => ?_)
  · refine r_iconst 1 dX10_neap_20 rfl ?_
    refine r_iconst 1 dX10_neap_21 rfl ?_
    have hs1 := hP.1
    replace hP := hP.2
    refine r_cvI (ok_X10_bad hG (VX10_neap_2 p1 μ) 1 1 (muX10_neap_1 p1 μ) hs1) lX10_186 (hG.lt (by decide)) sh57 ⟨_, _, rfl⟩ dX10_neap_22 (by decide) (Nat.le_of_ble_eq_true rfl) rfl (Nat.le_of_ble_eq_true rfl) ?_
    refine r_mu (muX10_neap_3 p1 μ) rfl ?_
    refine r_if_eq 30 dX10_neap_25 (by decide) (fun c1 => ?_) (fun c1 => ?_)
    · replace hP := hP.1 c1
      refine r_iconst 0 dX10_neap_30 rfl ?_
      refine r_istore_n [(2, _), (0, _), (1, _)] dX10_neap_31 (Nat.le_of_ble_eq_true rfl) rfl ?_
      refine r_iconst (-1) dX10_neap_32 rfl ?_
      refine r_istore_n [(3, _), (2, _), (0, _), (1, _)] dX10_neap_33 (Nat.le_of_ble_eq_true rfl) rfl ?_
      refine r_iconst 0 dX10_neap_34 rfl ?_
      refine r_istore [(4, _), (3, _), (2, _), (0, _), (1, _)] dX10_neap_35 (Nat.le_of_ble_eq_true rfl) rfl ?_
      refine r_iconst 0 dX10_neap_37 rfl ?_
      refine r_istore [(5, _), (4, _), (3, _), (2, _), (0, _), (1, _)] dX10_neap_38 (Nat.le_of_ble_eq_true rfl) rfl ?_
      have hs2 := hP.1
      replace hP := hP.2
      refine r_sub [4, 5, 3, 2, 1, 0] rfl ?_
      refine lp_X10_neap_40 hG p1 (muX10_neap_3 p1 μ) (0, (-1), 0) ((NX10_neap_40 p1 μ)) (SX10_neap_40 p1 μ) rfl hs2 ?_
      refine r_iload dX10_neap_40 5 rfl ?_
      refine r_bipush 60 dX10_neap_42 rfl ?_
      refine r_icmp_ge 92 dX10_neap_44 (by decide) (fun c2 => ?_) (fun c2 => ?_)
      · replace hP := hP.1 c2
        refine r_iload_n dX10_neap_92 1 rfl ?_
        refine r_if_ne 100 dX10_neap_93 (by decide) (fun c3 => ?_) (fun c3 => ?_)
        · refine r_iload_n dX10_neap_100 3 rfl ?_
          exact r_ireturn _ dX10_neap_101 rfl rfl ⟨congrArg (fun z => some (Value.int z)) (by unfold F_X10_neap; rw [if_pos c1, if_pos c3]), rfl⟩
        · refine r_iload_n dX10_neap_96 2 rfl ?_
          refine r_goto 101 dX10_neap_97 (by decide) ?_
          exact r_ireturn _ dX10_neap_101 rfl rfl ⟨congrArg (fun z => some (Value.int z)) (by unfold F_X10_neap; rw [if_pos c1, if_neg (not_not_intro c3)]), rfl⟩
      · replace hP := hP.2 c2
        refine r_aload_n dX10_neap_47 0 rfl ?_
        refine r_iload dX10_neap_48 5 rfl ?_
        have hs4 := hP.1
        replace hP := hP.2
        refine r_cvI (ok_X10_isInAny hG (nI (NX10_neap_40 p1 μ)) (muX10_neap_3 p1 μ) hs4) lX10_356 (hG.lt (by decide)) sh57 ⟨_, _, rfl⟩ dX10_neap_50 (by decide) (Nat.le_of_ble_eq_true rfl) rfl (Nat.le_of_ble_eq_true rfl) ?_
        refine r_join 64 [(0, .ref (ga G 57)), (1, .int p1), (2, .int (SX10_neap_40 p1 μ).1), (3, .int (SX10_neap_40 p1 μ).2.1), (4, .int (SX10_neap_40 p1 μ).2.2), (5, .int (nI (NX10_neap_40 p1 μ)))] [.int (VX10_neap_4 p1 μ)] (muX10_neap_3 p1 μ) ?_ (fun hJ => ?_)
        · refine r_istore [(4, _), (0, _), (1, _), (2, _), (3, _), (5, _)] dX10_neap_64 (Nat.le_of_ble_eq_true rfl) rfl ?_
          refine r_iload dX10_neap_66 0 rfl ?_
          refine r_iload_n dX10_neap_68 3 rfl ?_
          refine r_join 86 [(3, .int (VX10_neap_5 p1 μ)), (2, .int (VX10_neap_6 p1 μ)), (4, .int (VX10_neap_4 p1 μ)), (0, .ref (ga G 57)), (1, .int p1), (5, .int (nI (NX10_neap_40 p1 μ)))] [] (muX10_neap_3 p1 μ) ?_ (fun hJ => ?_)
          · refine r_iinc ((nI (NX10_neap_40 p1 μ)) + 1) [(5, _), (3, _), (2, _), (4, _), (0, _), (1, _)] dX10_neap_86 5 rfl rfl (Nat.le_of_ble_eq_true rfl) rfl ?_
            refine r_goto 40 dX10_neap_89 (by decide) ?_
            exact hP.elim
          · refine r_icmp_gt 75 dX10_neap_69 (by decide) (fun c3 => ?_) (fun c3 => ?_)
            · refine r_iload dX10_neap_75 0 rfl ?_
              refine r_istore_n [(2, _), (4, _), (0, _), (1, _), (3, _), (5, _)] dX10_neap_77 (Nat.le_of_ble_eq_true rfl) rfl ?_
              refine r_iload dX10_neap_78 5 rfl ?_
              refine r_iload dX10_neap_80 1 rfl ?_
              refine r_isub dX10_neap_82 ?_
              refine r_iconst 1 dX10_neap_83 rfl ?_
              refine r_iadd dX10_neap_84 ?_
              refine r_istore_n [(3, _), (2, _), (4, _), (0, _), (1, _), (5, _)] dX10_neap_85 (Nat.le_of_ble_eq_true rfl) rfl ?_
              have e : (VX10_neap_5 p1 μ) = (((nI (NX10_neap_40 p1 μ)) - (VX10_neap_4 p1 μ)) + 1) := by unfold VX10_neap_5; rw [if_pos c3]
              rw [e] at hJ
              clear e
              have e : (VX10_neap_6 p1 μ) = (VX10_neap_4 p1 μ) := by unfold VX10_neap_6; rw [if_pos c3]
              rw [e] at hJ
              exact r_sub [0, 1, 2, 3, 4, 5] rfl hJ
            · refine r_goto 86 dX10_neap_72 (by decide) ?_
              have e : (VX10_neap_5 p1 μ) = (SX10_neap_40 p1 μ).2.1 := by unfold VX10_neap_5; rw [if_neg (i32_nl c3)]
              rw [e] at hJ
              clear e
              have e : (VX10_neap_6 p1 μ) = (SX10_neap_40 p1 μ).1 := by unfold VX10_neap_6; rw [if_neg (i32_nl c3)]
              rw [e] at hJ
              exact r_sub [4, 3, 0, 1, 2, 5] rfl hJ
        · refine r_if_eq 60 dX10_neap_53 (by decide) (fun c3 => ?_) (fun c3 => ?_)
          · refine r_iload dX10_neap_60 4 rfl ?_
            refine r_iconst 1 dX10_neap_62 rfl ?_
            refine r_iadd dX10_neap_63 ?_
            have e : (VX10_neap_4 p1 μ) = ((SX10_neap_40 p1 μ).2.2 + 1) := by unfold VX10_neap_4; rw [if_pos c3]
            rw [e] at hJ
            exact r_sub [0, 1, 2, 3, 4, 5] rfl hJ
          · refine r_iconst 0 dX10_neap_56 rfl ?_
            refine r_goto 64 dX10_neap_57 (by decide) ?_
            have e : (VX10_neap_4 p1 μ) = 0 := by unfold VX10_neap_4; rw [if_neg c3]
            rw [e] at hJ
            exact r_sub [0, 1, 2, 3, 4, 5] rfl hJ
    · replace hP := hP.2 c1
      refine r_iconst 0 dX10_neap_28 rfl ?_
      exact r_ireturn _ dX10_neap_29 rfl rfl ⟨congrArg (fun z => some (Value.int z)) (by unfold F_X10_neap; rw [if_neg c1]), rfl⟩
  · refine r_if_ne 19 dX10_neap_12 (by decide) (fun c1 => ?_) (fun c1 => ?_)
    · refine r_iconst 0 dX10_neap_19 rfl ?_
      have e : (VX10_neap_2 p1 μ) = 0 := by unfold VX10_neap_2; rw [if_pos c1]
      rw [e] at hJ
      exact r_sub [0, 1] rfl hJ
    · refine r_iconst 1 dX10_neap_15 rfl ?_
      refine r_goto 20 dX10_neap_16 (by decide) ?_
      have e : (VX10_neap_2 p1 μ) = 1 := by unfold VX10_neap_2; rw [if_neg (not_not_intro c1)]
      rw [e] at hJ
      exact r_sub [0, 1] rfl hJ
def VX10_thingsIn_4_1 (v1 : Int32) (μ : Mem) (i : Nat) (s : Int32) : Int32 := (if (μ 521 (ix (0 + (nI i)))) ≠ v1 then 0 else 1)
theorem bo_VX10_thingsIn_4_1 (v1 : Int32) (μ : Mem) (i : Nat) (s : Int32) : (VX10_thingsIn_4_1 v1 μ i s) = 0 ∨ (VX10_thingsIn_4_1 v1 μ i s) = 1 := by
  unfold VX10_thingsIn_4_1
  split
  · exact Or.inl rfl
  · exact Or.inr rfl
def g_X10_thingsIn_4 (v1 : Int32) (μ : Mem) (i : Nat) (s : Int32) : Int32 := (s + (VX10_thingsIn_4_1 v1 μ i s))
def Pb_X10_thingsIn_4 (v1 : Int32) (μ : Mem) (i : Nat) (s : Int32) : Prop := (((μ 61 1) ≤ (nI i) → False) ∧ ((nI i) < (μ 61 1) → vp_in (0 + (nI i)) 63))
set_option maxRecDepth 20000 in
set_option maxHeartbeats 2000000 in
theorem lp_X10_thingsIn_4 {G : SG} (hG : GK 548 G)  (v1 : Int32) (μ : Mem) (s0 : Int32) (N : Nat) (sN : Int32) (eN : sN = fo N (g_X10_thingsIn_4 v1 μ) s0) (hN : ∀ i, i < N → Pb_X10_thingsIn_4 v1 μ i (fo i (g_X10_thingsIn_4 v1 μ) s0)) {t : Nat} {Q : PQ} {X : PX} (h : R G mX10_thingsIn 4 [(0, .ref (ga G 57)), (1, .int v1), (2, .int sN), (3, .int (nI N))] [] μ t Q X) : R G mX10_thingsIn 4 [(0, .ref (ga G 57)), (1, .int v1), (2, .int s0), (3, .int 0)] [] μ t Q X := by
  subst eN
  refine down_i N (fun i => R G mX10_thingsIn 4 [(0, .ref (ga G 57)), (1, .int v1), (2, .int (fo i (g_X10_thingsIn_4 v1 μ) s0)), (3, .int (nI i))] [] μ t Q X) h (fun i hi hS => ?_)
  have hP := hN i hi
  rw [fo_succ] at hS
  rw [nI_succ] at hS
  generalize fo i (g_X10_thingsIn_4 v1 μ) s0 = s at hS hP ⊢
  unfold Pb_X10_thingsIn_4 at hP
  refine r_iload_n dX10_thingsIn_4 3 rfl ?_
  refine r_aload_n dX10_thingsIn_5 0 rfl ?_
  refine r_getR 61 fX10_23 (hG.lt (by decide)) sh57 fs57_12 dX10_thingsIn_6 ?_
  refine r_iconst 1 dX10_thingsIn_9 rfl ?_
  refine r_ialdK 1 rfl (hG.lt (by decide)) sh61 (vp_of (by decide) (by decide)) dX10_thingsIn_10 ?_
  refine r_icmp_ge 40 dX10_thingsIn_11 (by decide) (fun c1 => ?_) (fun c1 => ?_)
  · replace hP := hP.1 c1
    exact hP.elim
  · replace hP := hP.2 c1
    refine r_iload_n dX10_thingsIn_14 2 rfl ?_
    refine r_aload_n dX10_thingsIn_15 0 rfl ?_
    refine r_getR 521 fX10_73 (hG.lt (by decide)) sh57 fs57_31 dX10_thingsIn_16 ?_
    refine r_iconst 0 dX10_thingsIn_19 rfl ?_
    refine r_iload_n dX10_thingsIn_20 3 rfl ?_
    refine r_iadd dX10_thingsIn_21 ?_
    have hs1 := hP
    refine r_iald (hG.lt (by decide)) sh521 hs1 dX10_thingsIn_22 ?_
    refine r_iload_n dX10_thingsIn_23 1 rfl ?_
    refine r_join 32 [(0, .ref (ga G 57)), (1, .int v1), (2, .int s), (3, .int (nI i))] [.int (VX10_thingsIn_4_1 v1 μ i s), .int s] μ ?_ (fun hJ => ?_)
    · refine r_iadd dX10_thingsIn_32 ?_
      refine r_istore_n [(2, _), (0, _), (1, _), (3, _)] dX10_thingsIn_33 (Nat.le_of_ble_eq_true rfl) rfl ?_
      refine r_iinc ((nI i) + 1) [(3, _), (2, _), (0, _), (1, _)] dX10_thingsIn_34 3 rfl rfl (Nat.le_of_ble_eq_true rfl) rfl ?_
      refine r_goto 4 dX10_thingsIn_37 (by decide) ?_
      have e : g_X10_thingsIn_4 v1 μ i s = (s + (VX10_thingsIn_4_1 v1 μ i s)) := by unfold g_X10_thingsIn_4; rfl
      rw [e] at hS
      exact r_sub [2, 3, 1, 0] rfl hS
    · refine r_icmp_ne 31 dX10_thingsIn_24 (by decide) (fun c2 => ?_) (fun c2 => ?_)
      · refine r_iconst 0 dX10_thingsIn_31 rfl ?_
        have e : (VX10_thingsIn_4_1 v1 μ i s) = 0 := by unfold VX10_thingsIn_4_1; rw [if_pos c2]
        rw [e] at hJ
        exact r_sub [0, 1, 2, 3] rfl hJ
      · refine r_iconst 1 dX10_thingsIn_27 rfl ?_
        refine r_goto 32 dX10_thingsIn_28 (by decide) ?_
        have e : (VX10_thingsIn_4_1 v1 μ i s) = 1 := by unfold VX10_thingsIn_4_1; rw [if_neg (not_not_intro c2)]
        rw [e] at hJ
        exact r_sub [0, 1, 2, 3] rfl hJ
def NX10_thingsIn_4 (p1 : Int32) (μ : Mem) : Nat := ix (μ 61 1)
def SX10_thingsIn_4 (p1 : Int32) (μ : Mem) : Int32 := fo (NX10_thingsIn_4 p1 μ) (g_X10_thingsIn_4 p1 μ) 0
def VX10_thingsIn_1 (p1 : Int32) (μ : Mem) : Int32 := (if (μ 521 (ix (0 + (nI (NX10_thingsIn_4 p1 μ))))) ≠ p1 then 0 else 1)
theorem bo_VX10_thingsIn_1 (p1 : Int32) (μ : Mem) : (VX10_thingsIn_1 p1 μ) = 0 ∨ (VX10_thingsIn_1 p1 μ) = 1 := by
  unfold VX10_thingsIn_1
  split
  · exact Or.inl rfl
  · exact Or.inr rfl
def F_X10_thingsIn (p1 : Int32) (μ : Mem) : Int32 := (SX10_thingsIn_4 p1 μ)
def P_X10_thingsIn (p1 : Int32) (μ : Mem) : Prop := ((∀ j9, j9 < (NX10_thingsIn_4 p1 μ) → Pb_X10_thingsIn_4 p1 μ j9 (fo j9 (g_X10_thingsIn_4 p1 μ) 0)) ∧ (((μ 61 1) ≤ (nI (NX10_thingsIn_4 p1 μ)) → True) ∧ ((nI (NX10_thingsIn_4 p1 μ)) < (μ 61 1) → ((vp_in (0 + (nI (NX10_thingsIn_4 p1 μ))) 63) ∧ False))))
set_option maxRecDepth 20000 in
set_option maxHeartbeats 2000000 in
theorem ok_X10_thingsIn {G : SG} (hG : GK 548 G) (p1 : Int32) (μ : Mem) (hP : P_X10_thingsIn p1 μ) : OkF G mX10_thingsIn [.ref (ga G 57), .int p1] μ (some (.int (F_X10_thingsIn p1 μ))) μ := by
  refine okF_of hG rfl rfl (Nat.le_of_ble_eq_true rfl) ?_
  unfold P_X10_thingsIn at hP
  refine r_iconst 0 dX10_thingsIn_0 rfl ?_
  refine r_istore_n [(2, _), (0, _), (1, _)] dX10_thingsIn_1 (Nat.le_of_ble_eq_true rfl) rfl ?_
  refine r_iconst 0 dX10_thingsIn_2 rfl ?_
  refine r_istore_n [(3, _), (2, _), (0, _), (1, _)] dX10_thingsIn_3 (Nat.le_of_ble_eq_true rfl) rfl ?_
  have hs1 := hP.1
  replace hP := hP.2
  refine r_sub [2, 3, 1, 0] rfl ?_
  refine lp_X10_thingsIn_4 hG p1 μ 0 ((NX10_thingsIn_4 p1 μ)) (SX10_thingsIn_4 p1 μ) rfl hs1 ?_
  refine r_iload_n dX10_thingsIn_4 3 rfl ?_
  refine r_aload_n dX10_thingsIn_5 0 rfl ?_
  refine r_getR 61 fX10_23 (hG.lt (by decide)) sh57 fs57_12 dX10_thingsIn_6 ?_
  refine r_iconst 1 dX10_thingsIn_9 rfl ?_
  refine r_ialdK 1 rfl (hG.lt (by decide)) sh61 (vp_of (by decide) (by decide)) dX10_thingsIn_10 ?_
  refine r_icmp_ge 40 dX10_thingsIn_11 (by decide) (fun c1 => ?_) (fun c1 => ?_)
  · replace hP := hP.1 c1
    refine r_iload_n dX10_thingsIn_40 2 rfl ?_
    exact r_ireturn _ dX10_thingsIn_41 rfl rfl ⟨congrArg (fun z => some (Value.int z)) (rfl), rfl⟩
  · replace hP := hP.2 c1
    refine r_iload_n dX10_thingsIn_14 2 rfl ?_
    refine r_aload_n dX10_thingsIn_15 0 rfl ?_
    refine r_getR 521 fX10_73 (hG.lt (by decide)) sh57 fs57_31 dX10_thingsIn_16 ?_
    refine r_iconst 0 dX10_thingsIn_19 rfl ?_
    refine r_iload_n dX10_thingsIn_20 3 rfl ?_
    refine r_iadd dX10_thingsIn_21 ?_
    have hs3 := hP.1
    replace hP := hP.2
    refine r_iald (hG.lt (by decide)) sh521 hs3 dX10_thingsIn_22 ?_
    refine r_iload_n dX10_thingsIn_23 1 rfl ?_
    refine r_join 32 [(0, .ref (ga G 57)), (1, .int p1), (2, .int (SX10_thingsIn_4 p1 μ)), (3, .int (nI (NX10_thingsIn_4 p1 μ)))] [.int (VX10_thingsIn_1 p1 μ), .int (SX10_thingsIn_4 p1 μ)] μ ?_ (fun hJ => ?_)
    · refine r_iadd dX10_thingsIn_32 ?_
      refine r_istore_n [(2, _), (0, _), (1, _), (3, _)] dX10_thingsIn_33 (Nat.le_of_ble_eq_true rfl) rfl ?_
      refine r_iinc ((nI (NX10_thingsIn_4 p1 μ)) + 1) [(3, _), (2, _), (0, _), (1, _)] dX10_thingsIn_34 3 rfl rfl (Nat.le_of_ble_eq_true rfl) rfl ?_
      refine r_goto 4 dX10_thingsIn_37 (by decide) ?_
      exact hP.elim
    · refine r_icmp_ne 31 dX10_thingsIn_24 (by decide) (fun c2 => ?_) (fun c2 => ?_)
      · refine r_iconst 0 dX10_thingsIn_31 rfl ?_
        have e : (VX10_thingsIn_1 p1 μ) = 0 := by unfold VX10_thingsIn_1; rw [if_pos c2]
        rw [e] at hJ
        exact r_sub [0, 1, 2, 3] rfl hJ
      · refine r_iconst 1 dX10_thingsIn_27 rfl ?_
        refine r_goto 32 dX10_thingsIn_28 (by decide) ?_
        have e : (VX10_thingsIn_1 p1 μ) = 1 := by unfold VX10_thingsIn_1; rw [if_neg (not_not_intro c2)]
        rw [e] at hJ
        exact r_sub [0, 1, 2, 3] rfl hJ
def muX10_fullest_1 (p1 : Int32) (μ : Mem) : Mem := (upm μ 57 0 0)
def VX10_fullest_2 (p1 : Int32) (μ : Mem) : Int32 := (if (F_X10_isIn p1 0 1 (muX10_fullest_1 p1 μ)) ≠ 0 then 0 else 1)
theorem bo_VX10_fullest_2 (p1 : Int32) (μ : Mem) : (VX10_fullest_2 p1 μ) = 0 ∨ (VX10_fullest_2 p1 μ) = 1 := by
  unfold VX10_fullest_2
  split
  · exact Or.inl rfl
  · exact Or.inr rfl
def muX10_fullest_3 (p1 : Int32) (μ : Mem) : Mem := (M_X10_bad (VX10_fullest_2 p1 μ) 1 1 (muX10_fullest_1 p1 μ))
def VX10_fullest_37_1 (v1 : Int32) (μ : Mem) (i : Nat) (s : Int32 × Int32) : Int32 := (if s.2 < (F_X10_thingsIn (nI i) μ) then (F_X10_thingsIn (nI i) μ) else s.2)
def VX10_fullest_37_2 (v1 : Int32) (μ : Mem) (i : Nat) (s : Int32 × Int32) : Int32 := (if s.2 < (F_X10_thingsIn (nI i) μ) then (nI i) else s.1)
def g_X10_fullest_37 (v1 : Int32) (μ : Mem) (i : Nat) (s : Int32 × Int32) : Int32 × Int32 := ((VX10_fullest_37_2 v1 μ i s), (VX10_fullest_37_1 v1 μ i s))
def Pb_X10_fullest_37 (v1 : Int32) (μ : Mem) (i : Nat) (s : Int32 × Int32) : Prop := (((μ 61 0) ≤ (nI i) → False) ∧ ((nI i) < (μ 61 0) → (P_X10_thingsIn (nI i) μ) ∧ ((s.2 < (F_X10_thingsIn (nI i) μ) → P_X10_thingsIn (nI i) μ) ∧ ((F_X10_thingsIn (nI i) μ) ≤ s.2 → True))))
set_option maxRecDepth 20000 in
set_option maxHeartbeats 2000000 in
theorem lp_X10_fullest_37 {G : SG} (hG : GK 548 G)  (v1 : Int32) (μ : Mem) (s0 : Int32 × Int32) (N : Nat) (sN : Int32 × Int32) (eN : sN = fo N (g_X10_fullest_37 v1 μ) s0) (hN : ∀ i, i < N → Pb_X10_fullest_37 v1 μ i (fo i (g_X10_fullest_37 v1 μ) s0)) {t : Nat} {Q : PQ} {X : PX} (h : R G mX10_fullest 37 [(0, .ref (ga G 57)), (1, .int v1), (2, .int (sN).1), (3, .int (sN).2), (4, .int (nI N))] [] μ t Q X) : R G mX10_fullest 37 [(0, .ref (ga G 57)), (1, .int v1), (2, .int (s0).1), (3, .int (s0).2), (4, .int 0)] [] μ t Q X := by
  subst eN
  refine down_i N (fun i => R G mX10_fullest 37 [(0, .ref (ga G 57)), (1, .int v1), (2, .int ((fo i (g_X10_fullest_37 v1 μ) s0)).1), (3, .int ((fo i (g_X10_fullest_37 v1 μ) s0)).2), (4, .int (nI i))] [] μ t Q X) h (fun i hi hS => ?_)
  have hP := hN i hi
  rw [fo_succ] at hS
  rw [nI_succ] at hS
  generalize fo i (g_X10_fullest_37 v1 μ) s0 = s at hS hP ⊢
  unfold Pb_X10_fullest_37 at hP
  refine r_iload dX10_fullest_37 4 rfl ?_
  refine r_aload_n dX10_fullest_39 0 rfl ?_
  refine r_getR 61 fX10_23 (hG.lt (by decide)) sh57 fs57_12 dX10_fullest_40 ?_
  refine r_iconst 0 dX10_fullest_43 rfl ?_
  refine r_ialdK 0 rfl (hG.lt (by decide)) sh61 (vp_of (by decide) (by decide)) dX10_fullest_44 ?_
  refine r_icmp_ge 77 dX10_fullest_45 (by decide) (fun c1 => ?_) (fun c1 => ?_)
  · replace hP := hP.1 c1
    exact hP.elim
  · replace hP := hP.2 c1
    refine r_aload_n dX10_fullest_48 0 rfl ?_
    refine r_iload dX10_fullest_49 4 rfl ?_
    have hs1 := hP.1
    replace hP := hP.2
    refine r_cvI (ok_X10_thingsIn hG (nI i) μ hs1) lX10_359 (hG.lt (by decide)) sh57 ⟨_, _, rfl⟩ dX10_fullest_51 (by decide) (Nat.le_of_ble_eq_true rfl) rfl (Nat.le_of_ble_eq_true rfl) ?_
    refine r_iload_n dX10_fullest_54 3 rfl ?_
    refine r_join 71 [(3, .int (VX10_fullest_37_1 v1 μ i s)), (2, .int (VX10_fullest_37_2 v1 μ i s)), (0, .ref (ga G 57)), (1, .int v1), (4, .int (nI i))] [] μ ?_ (fun hJ => ?_)
    · refine r_iinc ((nI i) + 1) [(4, _), (3, _), (2, _), (0, _), (1, _)] dX10_fullest_71 4 rfl rfl (Nat.le_of_ble_eq_true rfl) rfl ?_
      refine r_goto 37 dX10_fullest_74 (by decide) ?_
      have e : g_X10_fullest_37 v1 μ i s = ((VX10_fullest_37_2 v1 μ i s), (VX10_fullest_37_1 v1 μ i s)) := by unfold g_X10_fullest_37; rfl
      rw [e] at hS
      dsimp only at hS
      exact r_sub [3, 4, 2, 1, 0] rfl hS
    · refine r_icmp_gt 61 dX10_fullest_55 (by decide) (fun c2 => ?_) (fun c2 => ?_)
      · replace hP := hP.1 c2
        refine r_iload dX10_fullest_61 4 rfl ?_
        refine r_istore_n [(2, _), (0, _), (1, _), (3, _), (4, _)] dX10_fullest_63 (Nat.le_of_ble_eq_true rfl) rfl ?_
        refine r_aload_n dX10_fullest_64 1 rfl ?_
        refine r_iload dX10_fullest_65 4 rfl ?_
        have hs2 := hP
        refine r_cvI (ok_X10_thingsIn hG (nI i) μ hs2) lX10_359 (hG.lt (by decide)) sh57 ⟨_, _, rfl⟩ dX10_fullest_67 (by decide) (Nat.le_of_ble_eq_true rfl) rfl (Nat.le_of_ble_eq_true rfl) ?_
        refine r_istore_n [(3, _), (2, _), (0, _), (1, _), (4, _)] dX10_fullest_70 (Nat.le_of_ble_eq_true rfl) rfl ?_
        have e : (VX10_fullest_37_1 v1 μ i s) = (F_X10_thingsIn (nI i) μ) := by unfold VX10_fullest_37_1; rw [if_pos c2]
        rw [e] at hJ
        clear e
        have e : (VX10_fullest_37_2 v1 μ i s) = (nI i) := by unfold VX10_fullest_37_2; rw [if_pos c2]
        rw [e] at hJ
        exact r_sub [0, 1, 2, 3, 4] rfl hJ
      · replace hP := hP.2 c2
        refine r_goto 71 dX10_fullest_58 (by decide) ?_
        have e : (VX10_fullest_37_1 v1 μ i s) = s.2 := by unfold VX10_fullest_37_1; rw [if_neg (i32_nl c2)]
        rw [e] at hJ
        clear e
        have e : (VX10_fullest_37_2 v1 μ i s) = s.1 := by unfold VX10_fullest_37_2; rw [if_neg (i32_nl c2)]
        rw [e] at hJ
        exact r_sub [3, 2, 0, 1, 4] rfl hJ
def NX10_fullest_37 (p1 : Int32) (μ : Mem) : Nat := ix ((muX10_fullest_3 p1 μ) 61 0)
def SX10_fullest_37 (p1 : Int32) (μ : Mem) : Int32 × Int32 := fo (NX10_fullest_37 p1 μ) (g_X10_fullest_37 p1 (muX10_fullest_3 p1 μ)) ((-1), 0)
def VX10_fullest_4 (p1 : Int32) (μ : Mem) : Int32 := (if (SX10_fullest_37 p1 μ).2 < (F_X10_thingsIn (nI (NX10_fullest_37 p1 μ)) (muX10_fullest_3 p1 μ)) then (F_X10_thingsIn (nI (NX10_fullest_37 p1 μ)) (muX10_fullest_3 p1 μ)) else (SX10_fullest_37 p1 μ).2)
def VX10_fullest_5 (p1 : Int32) (μ : Mem) : Int32 := (if (SX10_fullest_37 p1 μ).2 < (F_X10_thingsIn (nI (NX10_fullest_37 p1 μ)) (muX10_fullest_3 p1 μ)) then (nI (NX10_fullest_37 p1 μ)) else (SX10_fullest_37 p1 μ).1)
def F_X10_fullest (p1 : Int32) (μ : Mem) : Int32 := (if (F_X10_bad (VX10_fullest_2 p1 μ) 1 1 (muX10_fullest_1 p1 μ)) = 0 then (if p1 = 0 then (SX10_fullest_37 p1 μ).1 else (if (SX10_fullest_37 p1 μ).1 ≠ (-1) then (SX10_fullest_37 p1 μ).2 else (SX10_fullest_37 p1 μ).1)) else 0)
def M_X10_fullest (p1 : Int32) (μ : Mem) : Mem := (muX10_fullest_3 p1 μ)
def P_X10_fullest (p1 : Int32) (μ : Mem) : Prop := ((P_X10_bad (VX10_fullest_2 p1 μ) 1 1 (muX10_fullest_1 p1 μ)) ∧ (((F_X10_bad (VX10_fullest_2 p1 μ) 1 1 (muX10_fullest_1 p1 μ)) = 0 → ((∀ j9, j9 < (NX10_fullest_37 p1 μ) → Pb_X10_fullest_37 p1 (muX10_fullest_3 p1 μ) j9 (fo j9 (g_X10_fullest_37 p1 (muX10_fullest_3 p1 μ)) ((-1), 0))) ∧ ((((muX10_fullest_3 p1 μ) 61 0) ≤ (nI (NX10_fullest_37 p1 μ)) → True) ∧ ((nI (NX10_fullest_37 p1 μ)) < ((muX10_fullest_3 p1 μ) 61 0) → ((P_X10_thingsIn (nI (NX10_fullest_37 p1 μ)) (muX10_fullest_3 p1 μ)) ∧ ((((SX10_fullest_37 p1 μ).2 < (F_X10_thingsIn (nI (NX10_fullest_37 p1 μ)) (muX10_fullest_3 p1 μ)) → (P_X10_thingsIn (nI (NX10_fullest_37 p1 μ)) (muX10_fullest_3 p1 μ))) ∧ ((F_X10_thingsIn (nI (NX10_fullest_37 p1 μ)) (muX10_fullest_3 p1 μ)) ≤ (SX10_fullest_37 p1 μ).2 → True)) ∧ False)))))) ∧ (¬ (F_X10_bad (VX10_fullest_2 p1 μ) 1 1 (muX10_fullest_1 p1 μ)) = 0 → True)))
set_option maxRecDepth 20000 in
set_option maxHeartbeats 2000000 in
theorem ok_X10_fullest {G : SG} (hG : GK 548 G) (p1 : Int32) (μ : Mem) (hP : P_X10_fullest p1 μ) : OkF G mX10_fullest [.ref (ga G 57), .int p1] μ (some (.int (F_X10_fullest p1 μ))) (M_X10_fullest p1 μ) := by
  refine okF_of hG rfl rfl (Nat.le_of_ble_eq_true rfl) ?_
  unfold P_X10_fullest at hP
  refine r_aload_n dX10_fullest_0 0 rfl ?_
  refine r_iconst 0 dX10_fullest_1 rfl ?_
  refine r_put fiX10_103 (hG.lt (by decide)) sh57 fs57_0 dX10_fullest_2 ?_
  refine r_mu (muX10_fullest_1 p1 μ) rfl ?_
  refine r_aload_n dX10_fullest_5 0 rfl ?_
  refine r_iload_n dX10_fullest_6 1 rfl ?_
  refine r_iconst 0 dX10_fullest_7 rfl ?_
  refine r_iconst 1 dX10_fullest_8 rfl ?_
  refine r_csI (ok_X10_isIn hG p1 0 1 (muX10_fullest_1 p1 μ)) lX10_137 dX10_fullest_9 (by decide) (Nat.le_of_ble_eq_true rfl) rfl (Nat.le_of_ble_eq_true rfl) ?_
  refine r_join 20 [(0, .ref (ga G 57)), (1, .int p1)] [.int (VX10_fullest_2 p1 μ), .ref (ga G 57)] (muX10_fullest_1 p1 μ) ?_ (fun hJ => ?_)
  · refine r_iconst 1 dX10_fullest_20 rfl ?_
    refine r_iconst 1 dX10_fullest_21 rfl ?_
    have hs1 := hP.1
    replace hP := hP.2
    refine r_cvI (ok_X10_bad hG (VX10_fullest_2 p1 μ) 1 1 (muX10_fullest_1 p1 μ) hs1) lX10_186 (hG.lt (by decide)) sh57 ⟨_, _, rfl⟩ dX10_fullest_22 (by decide) (Nat.le_of_ble_eq_true rfl) rfl (Nat.le_of_ble_eq_true rfl) ?_
    refine r_mu (muX10_fullest_3 p1 μ) rfl ?_
    refine r_if_eq 30 dX10_fullest_25 (by decide) (fun c1 => ?_) (fun c1 => ?_)
    · replace hP := hP.1 c1
      refine r_iconst (-1) dX10_fullest_30 rfl ?_
      refine r_istore_n [(2, _), (0, _), (1, _)] dX10_fullest_31 (Nat.le_of_ble_eq_true rfl) rfl ?_
      refine r_iconst 0 dX10_fullest_32 rfl ?_
      refine r_istore_n [(3, _), (2, _), (0, _), (1, _)] dX10_fullest_33 (Nat.le_of_ble_eq_true rfl) rfl ?_
      refine r_iconst 0 dX10_fullest_34 rfl ?_
      refine r_istore [(4, _), (3, _), (2, _), (0, _), (1, _)] dX10_fullest_35 (Nat.le_of_ble_eq_true rfl) rfl ?_
      have hs2 := hP.1
      replace hP := hP.2
      refine r_sub [3, 4, 2, 1, 0] rfl ?_
      refine lp_X10_fullest_37 hG p1 (muX10_fullest_3 p1 μ) ((-1), 0) ((NX10_fullest_37 p1 μ)) (SX10_fullest_37 p1 μ) rfl hs2 ?_
      refine r_iload dX10_fullest_37 4 rfl ?_
      refine r_aload_n dX10_fullest_39 0 rfl ?_
      refine r_getR 61 fX10_23 (hG.lt (by decide)) sh57 fs57_12 dX10_fullest_40 ?_
      refine r_iconst 0 dX10_fullest_43 rfl ?_
      refine r_ialdK 0 rfl (hG.lt (by decide)) sh61 (vp_of (by decide) (by decide)) dX10_fullest_44 ?_
      refine r_icmp_ge 77 dX10_fullest_45 (by decide) (fun c2 => ?_) (fun c2 => ?_)
      · replace hP := hP.1 c2
        refine r_iload_n dX10_fullest_77 1 rfl ?_
        refine r_if_eq 86 dX10_fullest_78 (by decide) (fun c3 => ?_) (fun c3 => ?_)
        · refine r_iload_n dX10_fullest_86 2 rfl ?_
          refine r_goto 91 dX10_fullest_87 (by decide) ?_
          exact r_ireturn _ dX10_fullest_91 rfl rfl ⟨congrArg (fun z => some (Value.int z)) (by unfold F_X10_fullest; rw [if_pos c1, if_pos c3]), rfl⟩
        · refine r_iload_n dX10_fullest_81 2 rfl ?_
          refine r_iconst (-1) dX10_fullest_82 rfl ?_
          refine r_icmp_ne 90 dX10_fullest_83 (by decide) (fun c4 => ?_) (fun c4 => ?_)
          · refine r_iload_n dX10_fullest_90 3 rfl ?_
            exact r_ireturn _ dX10_fullest_91 rfl rfl ⟨congrArg (fun z => some (Value.int z)) (by unfold F_X10_fullest; rw [if_pos c1, if_neg c3, if_pos c4]), rfl⟩
          · refine r_iload_n dX10_fullest_86 2 rfl ?_
            refine r_goto 91 dX10_fullest_87 (by decide) ?_
            exact r_ireturn _ dX10_fullest_91 rfl rfl ⟨congrArg (fun z => some (Value.int z)) (by unfold F_X10_fullest; rw [if_pos c1, if_neg c3, if_neg (not_not_intro c4)]), rfl⟩
      · replace hP := hP.2 c2
        refine r_aload_n dX10_fullest_48 0 rfl ?_
        refine r_iload dX10_fullest_49 4 rfl ?_
        have hs5 := hP.1
        replace hP := hP.2
        refine r_cvI (ok_X10_thingsIn hG (nI (NX10_fullest_37 p1 μ)) (muX10_fullest_3 p1 μ) hs5) lX10_359 (hG.lt (by decide)) sh57 ⟨_, _, rfl⟩ dX10_fullest_51 (by decide) (Nat.le_of_ble_eq_true rfl) rfl (Nat.le_of_ble_eq_true rfl) ?_
        refine r_iload_n dX10_fullest_54 3 rfl ?_
        refine r_join 71 [(3, .int (VX10_fullest_4 p1 μ)), (2, .int (VX10_fullest_5 p1 μ)), (0, .ref (ga G 57)), (1, .int p1), (4, .int (nI (NX10_fullest_37 p1 μ)))] [] (muX10_fullest_3 p1 μ) ?_ (fun hJ => ?_)
        · replace hP := hP.2
          refine r_iinc ((nI (NX10_fullest_37 p1 μ)) + 1) [(4, _), (3, _), (2, _), (0, _), (1, _)] dX10_fullest_71 4 rfl rfl (Nat.le_of_ble_eq_true rfl) rfl ?_
          refine r_goto 37 dX10_fullest_74 (by decide) ?_
          exact hP.elim
        · replace hP := hP.1
          refine r_icmp_gt 61 dX10_fullest_55 (by decide) (fun c3 => ?_) (fun c3 => ?_)
          · replace hP := hP.1 c3
            refine r_iload dX10_fullest_61 4 rfl ?_
            refine r_istore_n [(2, _), (0, _), (1, _), (3, _), (4, _)] dX10_fullest_63 (Nat.le_of_ble_eq_true rfl) rfl ?_
            refine r_aload_n dX10_fullest_64 1 rfl ?_
            refine r_iload dX10_fullest_65 4 rfl ?_
            have hs6 := hP
            refine r_cvI (ok_X10_thingsIn hG (nI (NX10_fullest_37 p1 μ)) (muX10_fullest_3 p1 μ) hs6) lX10_359 (hG.lt (by decide)) sh57 ⟨_, _, rfl⟩ dX10_fullest_67 (by decide) (Nat.le_of_ble_eq_true rfl) rfl (Nat.le_of_ble_eq_true rfl) ?_
            refine r_istore_n [(3, _), (2, _), (0, _), (1, _), (4, _)] dX10_fullest_70 (Nat.le_of_ble_eq_true rfl) rfl ?_
            have e : (VX10_fullest_4 p1 μ) = (F_X10_thingsIn (nI (NX10_fullest_37 p1 μ)) (muX10_fullest_3 p1 μ)) := by unfold VX10_fullest_4; rw [if_pos c3]
            rw [e] at hJ
            clear e
            have e : (VX10_fullest_5 p1 μ) = (nI (NX10_fullest_37 p1 μ)) := by unfold VX10_fullest_5; rw [if_pos c3]
            rw [e] at hJ
            exact r_sub [0, 1, 2, 3, 4] rfl hJ
          · replace hP := hP.2 c3
            refine r_goto 71 dX10_fullest_58 (by decide) ?_
            have e : (VX10_fullest_4 p1 μ) = (SX10_fullest_37 p1 μ).2 := by unfold VX10_fullest_4; rw [if_neg (i32_nl c3)]
            rw [e] at hJ
            clear e
            have e : (VX10_fullest_5 p1 μ) = (SX10_fullest_37 p1 μ).1 := by unfold VX10_fullest_5; rw [if_neg (i32_nl c3)]
            rw [e] at hJ
            exact r_sub [3, 2, 0, 1, 4] rfl hJ
    · replace hP := hP.2 c1
      refine r_iconst 0 dX10_fullest_28 rfl ?_
      exact r_ireturn _ dX10_fullest_29 rfl rfl ⟨congrArg (fun z => some (Value.int z)) (by unfold F_X10_fullest; rw [if_neg c1]), rfl⟩
  · refine r_if_ne 19 dX10_fullest_12 (by decide) (fun c1 => ?_) (fun c1 => ?_)
    · refine r_iconst 0 dX10_fullest_19 rfl ?_
      have e : (VX10_fullest_2 p1 μ) = 0 := by unfold VX10_fullest_2; rw [if_pos c1]
      rw [e] at hJ
      exact r_sub [0, 1] rfl hJ
    · refine r_iconst 1 dX10_fullest_15 rfl ?_
      refine r_goto 20 dX10_fullest_16 (by decide) ?_
      have e : (VX10_fullest_2 p1 μ) = 1 := by unfold VX10_fullest_2; rw [if_neg (not_not_intro c1)]
      rw [e] at hJ
      exact r_sub [0, 1] rfl hJ
