def g_X10_isStained_2 (v1 : Int32) (μ : Mem) (i : Nat) (s : Unit) : Unit := ()
def Pb_X10_isStained_2 (v1 : Int32) (μ : Mem) (i : Nat) (s : Unit) : Prop := (((μ 57 38) ≤ (nI i) → False) ∧ ((nI i) < (μ 57 38) → (vp_in (nI i) 6) ∧ (P_X10_stainBy (μ (425 + (ix (nI i))) 0) v1 μ) ∧ (vp_in (nI i) 6) ∧ (((F_X10_stainBy (μ (425 + (ix (nI i))) 0) v1 μ) = (μ (425 + (ix (nI i))) 1) → True) ∧ (¬ (F_X10_stainBy (μ (425 + (ix (nI i))) 0) v1 μ) = (μ (425 + (ix (nI i))) 1) → False))))
def Cb_X10_isStained_2 (v1 : Int32) (μ : Mem) (i : Nat) (s : Unit) : Bool := (if (μ 57 38) ≤ (nI i) then false else (if (F_X10_stainBy (μ (425 + (ix (nI i))) 0) v1 μ) = (μ (425 + (ix (nI i))) 1) then true else false))
set_option maxRecDepth 20000 in
set_option maxHeartbeats 2000000 in
theorem lp_X10_isStained_2 {G : SG} (hG : GK 548 G)  (v1 : Int32) (μ : Mem) (s0 : Unit) (N : Nat) (sN : Unit) (eN : sN = fo N (g_X10_isStained_2 v1 μ) s0) (hN : ∀ i, i < N → Pb_X10_isStained_2 v1 μ i (fo i (g_X10_isStained_2 v1 μ) s0)) {t : Nat} {Q : PQ} {X : PX} (h : R G mX10_isStained 2 [(0, .ref (ga G 57)), (1, .int v1), (2, .int (nI N))] [] μ t Q X) : R G mX10_isStained 2 [(0, .ref (ga G 57)), (1, .int v1), (2, .int 0)] [] μ t Q X := by
  subst eN
  refine down_i N (fun i => R G mX10_isStained 2 [(0, .ref (ga G 57)), (1, .int v1), (2, .int (nI i))] [] μ t Q X) h (fun i hi hS => ?_)
  have hP := hN i hi
  rw [nI_succ] at hS
  generalize fo i (g_X10_isStained_2 v1 μ) s0 = s at hS hP ⊢
  unfold Pb_X10_isStained_2 at hP
  refine r_iload_n dX10_isStained_2 2 rfl ?_
  refine r_aload_n dX10_isStained_3 0 rfl ?_
  refine r_getI fX10_209 (hG.lt (by decide)) sh57 fs57_38 dX10_isStained_4 ?_
  refine r_icmp_ge 42 dX10_isStained_7 (by decide) (fun c1 => ?_) (fun c1 => ?_)
  · replace hP := hP.1 c1
    exact hP.elim
  · replace hP := hP.2 c1
    refine r_aload_n dX10_isStained_10 0 rfl ?_
    refine r_aload_n dX10_isStained_11 0 rfl ?_
    refine r_getR 424 fX10_58 (hG.lt (by decide)) sh57 fs57_25 dX10_isStained_12 ?_
    refine r_iload_n dX10_isStained_15 2 rfl ?_
    have hs1 := hP.1
    replace hP := hP.2
    refine r_aald (hG.lt (by decide)) sh424 hs1 dX10_isStained_16 ?_
    refine r_iconst 0 dX10_isStained_17 rfl ?_
    refine r_ialdK 0 rfl (ltR (vp_ix hs1) (by decide) hG) (shr424 _ (vp_ix hs1)) (vp_of (by decide) (by decide)) dX10_isStained_18 ?_
    refine r_iload_n dX10_isStained_19 1 rfl ?_
    have hs2 := hP.1
    replace hP := hP.2
    refine r_cvI (ok_X10_stainBy hG (μ (425 + (ix (nI i))) 0) v1 μ hs2) lX10_382 (hG.lt (by decide)) sh57 ⟨_, _, rfl⟩ dX10_isStained_20 (by decide) (Nat.le_of_ble_eq_true rfl) rfl (Nat.le_of_ble_eq_true rfl) ?_
    refine r_aload_n dX10_isStained_23 0 rfl ?_
    refine r_getR 424 fX10_58 (hG.lt (by decide)) sh57 fs57_25 dX10_isStained_24 ?_
    refine r_iload_n dX10_isStained_27 2 rfl ?_
    have hs3 := hP.1
    replace hP := hP.2
    refine r_aald (hG.lt (by decide)) sh424 hs3 dX10_isStained_28 ?_
    refine r_iconst 1 dX10_isStained_29 rfl ?_
    refine r_ialdK 1 rfl (ltR (vp_ix hs3) (by decide) hG) (shr424 _ (vp_ix hs3)) (vp_of (by decide) (by decide)) dX10_isStained_30 ?_
    refine r_icmp_eq 36 dX10_isStained_31 (by decide) (fun c2 => ?_) (fun c2 => ?_)
    · replace hP := hP.1 c2
      refine r_iinc ((nI i) + 1) [(2, _), (0, _), (1, _)] dX10_isStained_36 2 rfl rfl (Nat.le_of_ble_eq_true rfl) rfl ?_
      refine r_goto 2 dX10_isStained_39 (by decide) ?_
      exact r_sub [1, 2, 0] rfl hS
    · replace hP := hP.2 c2
      refine r_iconst 0 dX10_isStained_34 rfl ?_
      exact hP.elim
def NX10_isStained_2 (p1 : Int32) (μ : Mem) : Nat := (fst 7 (fun j9 => !Cb_X10_isStained_2 p1 μ j9 (fo j9 (g_X10_isStained_2 p1 μ) ())))
def SX10_isStained_2 (p1 : Int32) (μ : Mem) : Unit := fo (NX10_isStained_2 p1 μ) (g_X10_isStained_2 p1 μ) ()
def F_X10_isStained (p1 : Int32) (μ : Mem) : Int32 := (if (μ 57 38) ≤ (nI (NX10_isStained_2 p1 μ)) then 1 else 0)
def P_X10_isStained (p1 : Int32) (μ : Mem) : Prop := ((∀ j9, j9 < (NX10_isStained_2 p1 μ) → Pb_X10_isStained_2 p1 μ j9 (fo j9 (g_X10_isStained_2 p1 μ) ())) ∧ (((μ 57 38) ≤ (nI (NX10_isStained_2 p1 μ)) → True) ∧ ((nI (NX10_isStained_2 p1 μ)) < (μ 57 38) → ((vp_in (nI (NX10_isStained_2 p1 μ)) 6) ∧ ((P_X10_stainBy (μ (425 + (ix (nI (NX10_isStained_2 p1 μ)))) 0) p1 μ) ∧ ((vp_in (nI (NX10_isStained_2 p1 μ)) 6) ∧ (((F_X10_stainBy (μ (425 + (ix (nI (NX10_isStained_2 p1 μ)))) 0) p1 μ) = (μ (425 + (ix (nI (NX10_isStained_2 p1 μ)))) 1) → False) ∧ (¬ (F_X10_stainBy (μ (425 + (ix (nI (NX10_isStained_2 p1 μ)))) 0) p1 μ) = (μ (425 + (ix (nI (NX10_isStained_2 p1 μ)))) 1) → True))))))))
theorem bo_X10_isStained (p1 : Int32) (μ : Mem) : F_X10_isStained p1 μ = 0 ∨ F_X10_isStained p1 μ = 1 := by
  unfold F_X10_isStained
  split
  · exact Or.inr rfl
  · exact Or.inl rfl
set_option maxRecDepth 20000 in
set_option maxHeartbeats 2000000 in
theorem ok_X10_isStained {G : SG} (hG : GK 548 G) (p1 : Int32) (μ : Mem) (hP : P_X10_isStained p1 μ) : OkF G mX10_isStained [.ref (ga G 57), .int p1] μ (some (.int (F_X10_isStained p1 μ))) μ := by
  refine okF_of hG rfl rfl (Nat.le_of_ble_eq_true rfl) ?_
  unfold P_X10_isStained at hP
  refine r_iconst 0 dX10_isStained_0 rfl ?_
  refine r_istore_n [(2, _), (0, _), (1, _)] dX10_isStained_1 (Nat.le_of_ble_eq_true rfl) rfl ?_
  have hs1 := hP.1
  replace hP := hP.2
  refine r_sub [1, 2, 0] rfl ?_
  refine lp_X10_isStained_2 hG p1 μ () ((NX10_isStained_2 p1 μ)) (SX10_isStained_2 p1 μ) rfl hs1 ?_
  refine r_iload_n dX10_isStained_2 2 rfl ?_
  refine r_aload_n dX10_isStained_3 0 rfl ?_
  refine r_getI fX10_209 (hG.lt (by decide)) sh57 fs57_38 dX10_isStained_4 ?_
  refine r_icmp_ge 42 dX10_isStained_7 (by decide) (fun c1 => ?_) (fun c1 => ?_)
  · replace hP := hP.1 c1
    refine r_iconst 1 dX10_isStained_42 rfl ?_
    exact r_ireturn _ dX10_isStained_43 rfl rfl ⟨congrArg (fun z => some (Value.int z)) (by unfold F_X10_isStained; rw [if_pos c1]), rfl⟩
  · replace hP := hP.2 c1
    refine r_aload_n dX10_isStained_10 0 rfl ?_
    refine r_aload_n dX10_isStained_11 0 rfl ?_
    refine r_getR 424 fX10_58 (hG.lt (by decide)) sh57 fs57_25 dX10_isStained_12 ?_
    refine r_iload_n dX10_isStained_15 2 rfl ?_
    have hs2 := hP.1
    replace hP := hP.2
    refine r_aald (hG.lt (by decide)) sh424 hs2 dX10_isStained_16 ?_
    refine r_iconst 0 dX10_isStained_17 rfl ?_
    refine r_ialdK 0 rfl (ltR (vp_ix hs2) (by decide) hG) (shr424 _ (vp_ix hs2)) (vp_of (by decide) (by decide)) dX10_isStained_18 ?_
    refine r_iload_n dX10_isStained_19 1 rfl ?_
    have hs3 := hP.1
    replace hP := hP.2
    refine r_cvI (ok_X10_stainBy hG (μ (425 + (ix (nI (NX10_isStained_2 p1 μ)))) 0) p1 μ hs3) lX10_382 (hG.lt (by decide)) sh57 ⟨_, _, rfl⟩ dX10_isStained_20 (by decide) (Nat.le_of_ble_eq_true rfl) rfl (Nat.le_of_ble_eq_true rfl) ?_
    refine r_aload_n dX10_isStained_23 0 rfl ?_
    refine r_getR 424 fX10_58 (hG.lt (by decide)) sh57 fs57_25 dX10_isStained_24 ?_
    refine r_iload_n dX10_isStained_27 2 rfl ?_
    have hs4 := hP.1
    replace hP := hP.2
    refine r_aald (hG.lt (by decide)) sh424 hs4 dX10_isStained_28 ?_
    refine r_iconst 1 dX10_isStained_29 rfl ?_
    refine r_ialdK 1 rfl (ltR (vp_ix hs4) (by decide) hG) (shr424 _ (vp_ix hs4)) (vp_of (by decide) (by decide)) dX10_isStained_30 ?_
    refine r_icmp_eq 36 dX10_isStained_31 (by decide) (fun c2 => ?_) (fun c2 => ?_)
    · replace hP := hP.1 c2
      refine r_iinc ((nI (NX10_isStained_2 p1 μ)) + 1) [(2, _), (0, _), (1, _)] dX10_isStained_36 2 rfl rfl (Nat.le_of_ble_eq_true rfl) rfl ?_
      refine r_goto 2 dX10_isStained_39 (by decide) ?_
      exact hP.elim
    · replace hP := hP.2 c2
      refine r_iconst 0 dX10_isStained_34 rfl ?_
      exact r_ireturn _ dX10_isStained_35 rfl rfl ⟨congrArg (fun z => some (Value.int z)) (by unfold F_X10_isStained; rw [if_neg (i32_ng c1)]), rfl⟩
def muX10_in_1 (p1 : Int32) (μ : Mem) : Mem := (upm μ 57 0 0)
def VX10_in_2 (p1 : Int32) (μ : Mem) : Int32 := (if (F_X10_isIn p1 0 2 (muX10_in_1 p1 μ)) ≠ 0 then 0 else 1)
theorem bo_VX10_in_2 (p1 : Int32) (μ : Mem) : (VX10_in_2 p1 μ) = 0 ∨ (VX10_in_2 p1 μ) = 1 := by
  unfold VX10_in_2
  split
  · exact Or.inl rfl
  · exact Or.inr rfl
def muX10_in_3 (p1 : Int32) (μ : Mem) : Mem := (M_X10_bad (VX10_in_2 p1 μ) 1 1 (muX10_in_1 p1 μ))
def VX10_in_49_1 (v1 : Int32) (μ : Mem) (i : Nat) (s : Int32 × Int32 × Int32) : Int32 := (if s.1 ≠ 0 then s.2.1 else (nI (1 + i)))
def VX10_in_49_2 (v1 : Int32) (μ : Mem) (i : Nat) (s : Int32 × Int32 × Int32) : Int32 := (if (F_X10_isStained (nI (1 + i)) μ) ≠ 0 then (s.1 + 1) else s.1)
def VX10_in_49_3 (v1 : Int32) (μ : Mem) (i : Nat) (s : Int32 × Int32 × Int32) : Int32 := (if (F_X10_isStained (nI (1 + i)) μ) ≠ 0 then (s.2.2 &&& (nI (1 + i))) else s.2.2)
def VX10_in_49_4 (v1 : Int32) (μ : Mem) (i : Nat) (s : Int32 × Int32 × Int32) : Int32 := (if (F_X10_isStained (nI (1 + i)) μ) ≠ 0 then (VX10_in_49_1 v1 μ i s) else s.2.1)
def g_X10_in_49 (v1 : Int32) (μ : Mem) (i : Nat) (s : Int32 × Int32 × Int32) : Int32 × Int32 × Int32 := ((VX10_in_49_2 v1 μ i s), (VX10_in_49_4 v1 μ i s), (VX10_in_49_3 v1 μ i s))
def Pb_X10_in_49 (v1 : Int32) (μ : Mem) (i : Nat) (s : Int32 × Int32 × Int32) : Prop := ((((1 : Int32) <<< ((μ 61 2) &&& 31)) ≤ (nI (1 + i)) → False) ∧ ((nI (1 + i)) < ((1 : Int32) <<< ((μ 61 2) &&& 31)) → P_X10_isStained (nI (1 + i)) μ))
set_option maxRecDepth 20000 in
set_option maxHeartbeats 2000000 in
theorem lp_X10_in_49 {G : SG} (hG : GK 548 G)  (v1 : Int32) (μ : Mem) (s0 : Int32 × Int32 × Int32) (N : Nat) (sN : Int32 × Int32 × Int32) (eN : sN = fo N (g_X10_in_49 v1 μ) s0) (hN : ∀ i, i < N → Pb_X10_in_49 v1 μ i (fo i (g_X10_in_49 v1 μ) s0)) {t : Nat} {Q : PQ} {X : PX} (h : R G mX10_in 49 [(0, .ref (ga G 57)), (1, .int v1), (2, .int (sN).1), (3, .int (sN).2.1), (4, .int (sN).2.2), (5, .int (nI (1 + N)))] [] μ t Q X) : R G mX10_in 49 [(0, .ref (ga G 57)), (1, .int v1), (2, .int (s0).1), (3, .int (s0).2.1), (4, .int (s0).2.2), (5, .int 1)] [] μ t Q X := by
  subst eN
  refine down_i N (fun i => R G mX10_in 49 [(0, .ref (ga G 57)), (1, .int v1), (2, .int ((fo i (g_X10_in_49 v1 μ) s0)).1), (3, .int ((fo i (g_X10_in_49 v1 μ) s0)).2.1), (4, .int ((fo i (g_X10_in_49 v1 μ) s0)).2.2), (5, .int (nI (1 + i)))] [] μ t Q X) h (fun i hi hS => ?_)
  have hP := hN i hi
  rw [fo_succ] at hS
  rw [(nI_sc 1 i)] at hS
  generalize fo i (g_X10_in_49 v1 μ) s0 = s at hS hP ⊢
  unfold Pb_X10_in_49 at hP
  refine r_iload dX10_in_49 5 rfl ?_
  refine r_iconst 1 dX10_in_51 rfl ?_
  refine r_aload_n dX10_in_52 0 rfl ?_
  refine r_getR 61 fX10_23 (hG.lt (by decide)) sh57 fs57_12 dX10_in_53 ?_
  refine r_iconst 2 dX10_in_56 rfl ?_
  refine r_ialdK 2 rfl (hG.lt (by decide)) sh61 (vp_of (by decide) (by decide)) dX10_in_57 ?_
  refine r_ishl dX10_in_58 rfl ?_
  refine r_icmp_ge 101 dX10_in_59 (by decide) (fun c1 => ?_) (fun c1 => ?_)
  · replace hP := hP.1 c1
    exact hP.elim
  · replace hP := hP.2 c1
    refine r_aload_n dX10_in_62 0 rfl ?_
    refine r_iload dX10_in_63 5 rfl ?_
    have hs1 := hP
    refine r_cvI (ok_X10_isStained hG (nI (1 + i)) μ hs1) lX10_385 (hG.lt (by decide)) sh57 ⟨_, _, rfl⟩ dX10_in_65 (by decide) (Nat.le_of_ble_eq_true rfl) rfl (Nat.le_of_ble_eq_true rfl) ?_
    refine r_join 95 [(2, .int (VX10_in_49_2 v1 μ i s)), (4, .int (VX10_in_49_3 v1 μ i s)), (3, .int (VX10_in_49_4 v1 μ i s)), (0, .ref (ga G 57)), (1, .int v1), (5, .int (nI (1 + i)))] [] μ ?_ (fun hJ => ?_)
    · refine r_iinc ((nI (1 + i)) + 1) [(5, _), (2, _), (4, _), (3, _), (0, _), (1, _)] dX10_in_95 5 rfl rfl (Nat.le_of_ble_eq_true rfl) rfl ?_
      refine r_goto 49 dX10_in_98 (by decide) ?_
      have e : g_X10_in_49 v1 μ i s = ((VX10_in_49_2 v1 μ i s), (VX10_in_49_4 v1 μ i s), (VX10_in_49_3 v1 μ i s)) := by unfold g_X10_in_49; rfl
      rw [e] at hS
      dsimp only at hS
      exact r_sub [4, 5, 1, 3, 2, 0] rfl hS
    · refine r_if_ne 74 dX10_in_68 (by decide) (fun c2 => ?_) (fun c2 => ?_)
      · refine r_iload_n dX10_in_74 2 rfl ?_
        refine r_join 84 [(0, .ref (ga G 57)), (1, .int v1), (2, .int s.1), (3, .int s.2.1), (4, .int s.2.2), (5, .int (nI (1 + i)))] [.int (VX10_in_49_1 v1 μ i s)] μ ?_ (fun hJ => ?_)
        · refine r_istore_n [(3, _), (0, _), (1, _), (2, _), (4, _), (5, _)] dX10_in_84 (Nat.le_of_ble_eq_true rfl) rfl ?_
          refine r_iload dX10_in_85 4 rfl ?_
          refine r_iload dX10_in_87 5 rfl ?_
          refine r_iand dX10_in_89 ?_
          refine r_istore [(4, _), (3, _), (0, _), (1, _), (2, _), (5, _)] dX10_in_90 (Nat.le_of_ble_eq_true rfl) rfl ?_
          refine r_iinc (s.1 + 1) [(2, _), (4, _), (3, _), (0, _), (1, _), (5, _)] dX10_in_92 4 rfl rfl (Nat.le_of_ble_eq_true rfl) rfl ?_
          have e : (VX10_in_49_2 v1 μ i s) = (s.1 + 1) := by unfold VX10_in_49_2; rw [if_pos c2]
          rw [e] at hJ
          clear e
          have e : (VX10_in_49_3 v1 μ i s) = (s.2.2 &&& (nI (1 + i))) := by unfold VX10_in_49_3; rw [if_pos c2]
          rw [e] at hJ
          clear e
          have e : (VX10_in_49_4 v1 μ i s) = (VX10_in_49_1 v1 μ i s) := by unfold VX10_in_49_4; rw [if_pos c2]
          rw [e] at hJ
          exact r_sub [0, 1, 2, 3, 4, 5] rfl hJ
        · refine r_if_ne 83 dX10_in_75 (by decide) (fun c3 => ?_) (fun c3 => ?_)
          · refine r_iload_n dX10_in_83 3 rfl ?_
            have e : (VX10_in_49_1 v1 μ i s) = s.2.1 := by unfold VX10_in_49_1; rw [if_pos c3]
            rw [e] at hJ
            exact r_sub [0, 1, 2, 3, 4, 5] rfl hJ
          · refine r_iload dX10_in_78 5 rfl ?_
            refine r_goto 84 dX10_in_80 (by decide) ?_
            have e : (VX10_in_49_1 v1 μ i s) = (nI (1 + i)) := by unfold VX10_in_49_1; rw [if_neg (not_not_intro c3)]
            rw [e] at hJ
            exact r_sub [0, 1, 2, 3, 4, 5] rfl hJ
      · refine r_goto 95 dX10_in_71 (by decide) ?_
        have e : (VX10_in_49_2 v1 μ i s) = s.1 := by unfold VX10_in_49_2; rw [if_neg (not_not_intro c2)]
        rw [e] at hJ
        clear e
        have e : (VX10_in_49_3 v1 μ i s) = s.2.2 := by unfold VX10_in_49_3; rw [if_neg (not_not_intro c2)]
        rw [e] at hJ
        clear e
        have e : (VX10_in_49_4 v1 μ i s) = s.2.1 := by unfold VX10_in_49_4; rw [if_neg (not_not_intro c2)]
        rw [e] at hJ
        exact r_sub [2, 4, 3, 0, 1, 5] rfl hJ
def NX10_in_49 (p1 : Int32) (μ : Mem) : Nat := 2 ^ ix ((muX10_in_3 p1 μ) 61 2) - 1
def SX10_in_49 (p1 : Int32) (μ : Mem) : Int32 × Int32 × Int32 := fo (NX10_in_49 p1 μ) (g_X10_in_49 p1 (muX10_in_3 p1 μ)) (0, (-1), (((1 : Int32) <<< (((muX10_in_3 p1 μ) 61 2) &&& 31)) - 1))
def VX10_in_4 (p1 : Int32) (μ : Mem) : Int32 := (if (SX10_in_49 p1 μ).1 ≠ 0 then (SX10_in_49 p1 μ).2.1 else (nI (1 + (NX10_in_49 p1 μ))))
def VX10_in_5 (p1 : Int32) (μ : Mem) : Int32 := (if (F_X10_isStained (nI (1 + (NX10_in_49 p1 μ))) (muX10_in_3 p1 μ)) ≠ 0 then ((SX10_in_49 p1 μ).1 + 1) else (SX10_in_49 p1 μ).1)
def VX10_in_6 (p1 : Int32) (μ : Mem) : Int32 := (if (F_X10_isStained (nI (1 + (NX10_in_49 p1 μ))) (muX10_in_3 p1 μ)) ≠ 0 then ((SX10_in_49 p1 μ).2.2 &&& (nI (1 + (NX10_in_49 p1 μ)))) else (SX10_in_49 p1 μ).2.2)
def VX10_in_7 (p1 : Int32) (μ : Mem) : Int32 := (if (F_X10_isStained (nI (1 + (NX10_in_49 p1 μ))) (muX10_in_3 p1 μ)) ≠ 0 then (VX10_in_4 p1 μ) else (SX10_in_49 p1 μ).2.1)
def F_X10_in (p1 : Int32) (μ : Mem) : Int32 := (if (F_X10_bad (VX10_in_2 p1 μ) 1 1 (muX10_in_1 p1 μ)) = 0 then (if p1 ≠ 0 then (if p1 ≠ 1 then (if (SX10_in_49 p1 μ).1 ≠ 0 then (SX10_in_49 p1 μ).2.2 else 0) else (SX10_in_49 p1 μ).2.1) else (SX10_in_49 p1 μ).1) else 0)
def M_X10_in (p1 : Int32) (μ : Mem) : Mem := (muX10_in_3 p1 μ)
def P_X10_in (p1 : Int32) (μ : Mem) : Prop := ((P_X10_bad (VX10_in_2 p1 μ) 1 1 (muX10_in_1 p1 μ)) ∧ (((F_X10_bad (VX10_in_2 p1 μ) 1 1 (muX10_in_1 p1 μ)) = 0 → ((∀ j9, j9 < (NX10_in_49 p1 μ) → Pb_X10_in_49 p1 (muX10_in_3 p1 μ) j9 (fo j9 (g_X10_in_49 p1 (muX10_in_3 p1 μ)) (0, (-1), (((1 : Int32) <<< (((muX10_in_3 p1 μ) 61 2) &&& 31)) - 1)))) ∧ ((((1 : Int32) <<< (((muX10_in_3 p1 μ) 61 2) &&& 31)) ≤ (nI (1 + (NX10_in_49 p1 μ))) → True) ∧ ((nI (1 + (NX10_in_49 p1 μ))) < ((1 : Int32) <<< (((muX10_in_3 p1 μ) 61 2) &&& 31)) → ((P_X10_isStained (nI (1 + (NX10_in_49 p1 μ))) (muX10_in_3 p1 μ)) ∧ False))))) ∧ (¬ (F_X10_bad (VX10_in_2 p1 μ) 1 1 (muX10_in_1 p1 μ)) = 0 → True)))
set_option maxRecDepth 20000 in
set_option maxHeartbeats 2000000 in
theorem ok_X10_in {G : SG} (hG : GK 548 G) (p1 : Int32) (μ : Mem) (hP : P_X10_in p1 μ) : OkF G mX10_in [.ref (ga G 57), .int p1] μ (some (.int (F_X10_in p1 μ))) (M_X10_in p1 μ) := by
  refine okF_of hG rfl rfl (Nat.le_of_ble_eq_true rfl) ?_
  unfold P_X10_in at hP
  refine r_aload_n dX10_in_0 0 rfl ?_
  refine r_iconst 0 dX10_in_1 rfl ?_
  refine r_put fiX10_103 (hG.lt (by decide)) sh57 fs57_0 dX10_in_2 ?_
  refine r_mu (muX10_in_1 p1 μ) rfl ?_
  refine r_aload_n dX10_in_5 0 rfl ?_
  refine r_iload_n dX10_in_6 1 rfl ?_
  refine r_iconst 0 dX10_in_7 rfl ?_
  refine r_iconst 2 dX10_in_8 rfl ?_
  refine r_csI (ok_X10_isIn hG p1 0 2 (muX10_in_1 p1 μ)) lX10_137 dX10_in_9 (by decide) (Nat.le_of_ble_eq_true rfl) rfl (Nat.le_of_ble_eq_true rfl) ?_
  refine r_join 20 [(0, .ref (ga G 57)), (1, .int p1)] [.int (VX10_in_2 p1 μ), .ref (ga G 57)] (muX10_in_1 p1 μ) ?_ (fun hJ => ?_)
  · refine r_iconst 1 dX10_in_20 rfl ?_
    refine r_iconst 1 dX10_in_21 rfl ?_
    have hs1 := hP.1
    replace hP := hP.2
    refine r_cvI (ok_X10_bad hG (VX10_in_2 p1 μ) 1 1 (muX10_in_1 p1 μ) hs1) lX10_186 (hG.lt (by decide)) sh57 ⟨_, _, rfl⟩ dX10_in_22 (by decide) (Nat.le_of_ble_eq_true rfl) rfl (Nat.le_of_ble_eq_true rfl) ?_
    refine r_mu (muX10_in_3 p1 μ) rfl ?_
    refine r_if_eq 30 dX10_in_25 (by decide) (fun c1 => ?_) (fun c1 => ?_)
    · replace hP := hP.1 c1
      refine r_iconst 0 dX10_in_30 rfl ?_
      refine r_istore_n [(2, _), (0, _), (1, _)] dX10_in_31 (Nat.le_of_ble_eq_true rfl) rfl ?_
      refine r_iconst (-1) dX10_in_32 rfl ?_
      refine r_istore_n [(3, _), (2, _), (0, _), (1, _)] dX10_in_33 (Nat.le_of_ble_eq_true rfl) rfl ?_
      refine r_iconst 1 dX10_in_34 rfl ?_
      refine r_aload_n dX10_in_35 2 rfl ?_
      refine r_getR 61 fX10_23 (hG.lt (by decide)) sh57 fs57_12 dX10_in_36 ?_
      refine r_iconst 2 dX10_in_39 rfl ?_
      refine r_ialdK 2 rfl (hG.lt (by decide)) sh61 (vp_of (by decide) (by decide)) dX10_in_40 ?_
      refine r_ishl dX10_in_41 rfl ?_
      refine r_iconst 1 dX10_in_42 rfl ?_
      refine r_isub dX10_in_43 ?_
      refine r_istore [(4, _), (3, _), (2, _), (0, _), (1, _)] dX10_in_44 (Nat.le_of_ble_eq_true rfl) rfl ?_
      refine r_iconst 1 dX10_in_46 rfl ?_
      refine r_istore [(5, _), (4, _), (3, _), (2, _), (0, _), (1, _)] dX10_in_47 (Nat.le_of_ble_eq_true rfl) rfl ?_
      have hs2 := hP.1
      replace hP := hP.2
      refine r_sub [4, 5, 3, 2, 1, 0] rfl ?_
      refine lp_X10_in_49 hG p1 (muX10_in_3 p1 μ) (0, (-1), (((1 : Int32) <<< (((muX10_in_3 p1 μ) 61 2) &&& 31)) - 1)) ((NX10_in_49 p1 μ)) (SX10_in_49 p1 μ) rfl hs2 ?_
      refine r_iload dX10_in_49 5 rfl ?_
      refine r_iconst 1 dX10_in_51 rfl ?_
      refine r_aload_n dX10_in_52 0 rfl ?_
      refine r_getR 61 fX10_23 (hG.lt (by decide)) sh57 fs57_12 dX10_in_53 ?_
      refine r_iconst 2 dX10_in_56 rfl ?_
      refine r_ialdK 2 rfl (hG.lt (by decide)) sh61 (vp_of (by decide) (by decide)) dX10_in_57 ?_
      refine r_ishl dX10_in_58 rfl ?_
      refine r_icmp_ge 101 dX10_in_59 (by decide) (fun c2 => ?_) (fun c2 => ?_)
      · replace hP := hP.1 c2
        refine r_iload_n dX10_in_101 1 rfl ?_
        refine r_if_ne 109 dX10_in_102 (by decide) (fun c3 => ?_) (fun c3 => ?_)
        · refine r_iload_n dX10_in_109 1 rfl ?_
          refine r_iconst 1 dX10_in_110 rfl ?_
          refine r_icmp_ne 118 dX10_in_111 (by decide) (fun c4 => ?_) (fun c4 => ?_)
          · refine r_iload_n dX10_in_118 2 rfl ?_
            refine r_if_ne 126 dX10_in_119 (by decide) (fun c5 => ?_) (fun c5 => ?_)
            · refine r_iload dX10_in_126 4 rfl ?_
              exact r_ireturn _ dX10_in_128 rfl rfl ⟨congrArg (fun z => some (Value.int z)) (by unfold F_X10_in; rw [if_pos c1, if_pos c3, if_pos c4, if_pos c5]), rfl⟩
            · refine r_iconst 0 dX10_in_122 rfl ?_
              refine r_goto 128 dX10_in_123 (by decide) ?_
              exact r_ireturn _ dX10_in_128 rfl rfl ⟨congrArg (fun z => some (Value.int z)) (by unfold F_X10_in; rw [if_pos c1, if_pos c3, if_pos c4, if_neg (not_not_intro c5)]), rfl⟩
          · refine r_iload_n dX10_in_114 3 rfl ?_
            refine r_goto 128 dX10_in_115 (by decide) ?_
            exact r_ireturn _ dX10_in_128 rfl rfl ⟨congrArg (fun z => some (Value.int z)) (by unfold F_X10_in; rw [if_pos c1, if_pos c3, if_neg (not_not_intro c4)]), rfl⟩
        · refine r_iload_n dX10_in_105 2 rfl ?_
          refine r_goto 128 dX10_in_106 (by decide) ?_
          exact r_ireturn _ dX10_in_128 rfl rfl ⟨congrArg (fun z => some (Value.int z)) (by unfold F_X10_in; rw [if_pos c1, if_neg (not_not_intro c3)]), rfl⟩
      · replace hP := hP.2 c2
        refine r_aload_n dX10_in_62 0 rfl ?_
        refine r_iload dX10_in_63 5 rfl ?_
        have hs4 := hP.1
        replace hP := hP.2
        refine r_cvI (ok_X10_isStained hG (nI (1 + (NX10_in_49 p1 μ))) (muX10_in_3 p1 μ) hs4) lX10_385 (hG.lt (by decide)) sh57 ⟨_, _, rfl⟩ dX10_in_65 (by decide) (Nat.le_of_ble_eq_true rfl) rfl (Nat.le_of_ble_eq_true rfl) ?_
        refine r_join 95 [(2, .int (VX10_in_5 p1 μ)), (4, .int (VX10_in_6 p1 μ)), (3, .int (VX10_in_7 p1 μ)), (0, .ref (ga G 57)), (1, .int p1), (5, .int (nI (1 + (NX10_in_49 p1 μ))))] [] (muX10_in_3 p1 μ) ?_ (fun hJ => ?_)
        · refine r_iinc ((nI (1 + (NX10_in_49 p1 μ))) + 1) [(5, _), (2, _), (4, _), (3, _), (0, _), (1, _)] dX10_in_95 5 rfl rfl (Nat.le_of_ble_eq_true rfl) rfl ?_
          refine r_goto 49 dX10_in_98 (by decide) ?_
          exact hP.elim
        · refine r_if_ne 74 dX10_in_68 (by decide) (fun c3 => ?_) (fun c3 => ?_)
          · refine r_iload_n dX10_in_74 2 rfl ?_
            refine r_join 84 [(0, .ref (ga G 57)), (1, .int p1), (2, .int (SX10_in_49 p1 μ).1), (3, .int (SX10_in_49 p1 μ).2.1), (4, .int (SX10_in_49 p1 μ).2.2), (5, .int (nI (1 + (NX10_in_49 p1 μ))))] [.int (VX10_in_4 p1 μ)] (muX10_in_3 p1 μ) ?_ (fun hJ => ?_)
            · refine r_istore_n [(3, _), (0, _), (1, _), (2, _), (4, _), (5, _)] dX10_in_84 (Nat.le_of_ble_eq_true rfl) rfl ?_
              refine r_iload dX10_in_85 4 rfl ?_
              refine r_iload dX10_in_87 5 rfl ?_
              refine r_iand dX10_in_89 ?_
              refine r_istore [(4, _), (3, _), (0, _), (1, _), (2, _), (5, _)] dX10_in_90 (Nat.le_of_ble_eq_true rfl) rfl ?_
              refine r_iinc ((SX10_in_49 p1 μ).1 + 1) [(2, _), (4, _), (3, _), (0, _), (1, _), (5, _)] dX10_in_92 4 rfl rfl (Nat.le_of_ble_eq_true rfl) rfl ?_
              have e : (VX10_in_5 p1 μ) = ((SX10_in_49 p1 μ).1 + 1) := by unfold VX10_in_5; rw [if_pos c3]
              rw [e] at hJ
              clear e
              have e : (VX10_in_6 p1 μ) = ((SX10_in_49 p1 μ).2.2 &&& (nI (1 + (NX10_in_49 p1 μ)))) := by unfold VX10_in_6; rw [if_pos c3]
              rw [e] at hJ
              clear e
              have e : (VX10_in_7 p1 μ) = (VX10_in_4 p1 μ) := by unfold VX10_in_7; rw [if_pos c3]
              rw [e] at hJ
              exact r_sub [0, 1, 2, 3, 4, 5] rfl hJ
            · refine r_if_ne 83 dX10_in_75 (by decide) (fun c4 => ?_) (fun c4 => ?_)
              · refine r_iload_n dX10_in_83 3 rfl ?_
                have e : (VX10_in_4 p1 μ) = (SX10_in_49 p1 μ).2.1 := by unfold VX10_in_4; rw [if_pos c4]
                rw [e] at hJ
                exact r_sub [0, 1, 2, 3, 4, 5] rfl hJ
              · refine r_iload dX10_in_78 5 rfl ?_
                refine r_goto 84 dX10_in_80 (by decide) ?_
                have e : (VX10_in_4 p1 μ) = (nI (1 + (NX10_in_49 p1 μ))) := by unfold VX10_in_4; rw [if_neg (not_not_intro c4)]
                rw [e] at hJ
                exact r_sub [0, 1, 2, 3, 4, 5] rfl hJ
          · refine r_goto 95 dX10_in_71 (by decide) ?_
            have e : (VX10_in_5 p1 μ) = (SX10_in_49 p1 μ).1 := by unfold VX10_in_5; rw [if_neg (not_not_intro c3)]
            rw [e] at hJ
            clear e
            have e : (VX10_in_6 p1 μ) = (SX10_in_49 p1 μ).2.2 := by unfold VX10_in_6; rw [if_neg (not_not_intro c3)]
            rw [e] at hJ
            clear e
            have e : (VX10_in_7 p1 μ) = (SX10_in_49 p1 μ).2.1 := by unfold VX10_in_7; rw [if_neg (not_not_intro c3)]
            rw [e] at hJ
            exact r_sub [2, 4, 3, 0, 1, 5] rfl hJ
    · replace hP := hP.2 c1
      refine r_iconst 0 dX10_in_28 rfl ?_
      exact r_ireturn _ dX10_in_29 rfl rfl ⟨congrArg (fun z => some (Value.int z)) (by unfold F_X10_in; rw [if_neg c1]), rfl⟩
  · refine r_if_ne 19 dX10_in_12 (by decide) (fun c1 => ?_) (fun c1 => ?_)
    · refine r_iconst 0 dX10_in_19 rfl ?_
      have e : (VX10_in_2 p1 μ) = 0 := by unfold VX10_in_2; rw [if_pos c1]
      rw [e] at hJ
      exact r_sub [0, 1] rfl hJ
    · refine r_iconst 1 dX10_in_15 rfl ?_
      refine r_goto 20 dX10_in_16 (by decide) ?_
      have e : (VX10_in_2 p1 μ) = 1 := by unfold VX10_in_2; rw [if_neg (not_not_intro c1)]
      rw [e] at hJ
      exact r_sub [0, 1] rfl hJ
def muX10_worstAt_4_1 (v1 : Int32) (v2 : Int32) (i : Nat) (s : Mem) : Mem := (upm s 547 (ix (nI i)) 0)
def g_X10_worstAt_4 (v1 : Int32) (v2 : Int32) (i : Nat) (s : Mem) : Mem := (muX10_worstAt_4_1 v1 v2 i s)
def Pb_X10_worstAt_4 (v1 : Int32) (v2 : Int32) (i : Nat) (s : Mem) : Prop := ((61 ≤ (nI i) → False) ∧ ((nI i) < 61 → vp_in (nI i) 61))
set_option maxRecDepth 20000 in
set_option maxHeartbeats 2000000 in
theorem lp_X10_worstAt_4 {G : SG} (hG : GK 548 G)  (v1 : Int32) (v2 : Int32) (s0 : Mem) (N : Nat) (sN : Mem) (eN : sN = fo N (g_X10_worstAt_4 v1 v2) s0) (hN : ∀ i, i < N → Pb_X10_worstAt_4 v1 v2 i (fo i (g_X10_worstAt_4 v1 v2) s0)) {t : Nat} {Q : PQ} {X : PX} (h : R G mX10_worstAt 4 [(0, .ref (ga G 57)), (1, .int v1), (2, .int v2), (3, .int (nI N))] [] sN t Q X) : R G mX10_worstAt 4 [(0, .ref (ga G 57)), (1, .int v1), (2, .int v2), (3, .int 0)] [] s0 t Q X := by
  subst eN
  refine down_i N (fun i => R G mX10_worstAt 4 [(0, .ref (ga G 57)), (1, .int v1), (2, .int v2), (3, .int (nI i))] [] (fo i (g_X10_worstAt_4 v1 v2) s0) t Q X) h (fun i hi hS => ?_)
  have hP := hN i hi
  rw [fo_succ] at hS
  rw [nI_succ] at hS
  generalize fo i (g_X10_worstAt_4 v1 v2) s0 = s at hS hP ⊢
  unfold Pb_X10_worstAt_4 at hP
  refine r_iload_n dX10_worstAt_4 3 rfl ?_
  refine r_bipush 61 dX10_worstAt_5 rfl ?_
  refine r_icmp_ge 23 dX10_worstAt_7 (by decide) (fun c1 => ?_) (fun c1 => ?_)
  · replace hP := hP.1 c1
    exact hP.elim
  · replace hP := hP.2 c1
    refine r_aload_n dX10_worstAt_10 0 rfl ?_
    refine r_getR 547 fX10_94 (hG.lt (by decide)) sh57 fs57_47 dX10_worstAt_11 ?_
    refine r_iload_n dX10_worstAt_14 3 rfl ?_
    refine r_iconst 0 dX10_worstAt_15 rfl ?_
    have hs1 := hP
    refine r_iast (hG.lt (by decide)) sh547 hs1 dX10_worstAt_16 ?_
    refine r_mu (muX10_worstAt_4_1 v1 v2 i s) rfl ?_
    refine r_iinc ((nI i) + 1) [(3, _), (0, _), (1, _), (2, _)] dX10_worstAt_17 3 rfl rfl (Nat.le_of_ble_eq_true rfl) rfl ?_
    refine r_goto 4 dX10_worstAt_20 (by decide) ?_
    have e : g_X10_worstAt_4 v1 v2 i s = (muX10_worstAt_4_1 v1 v2 i s) := by unfold g_X10_worstAt_4; rfl
    rw [e] at hS
    exact r_sub [1, 2, 3, 0] rfl hS
def NX10_worstAt_4 (p1 : Int32) (μ : Mem) : Nat := 61
def SX10_worstAt_4 (p1 : Int32) (μ : Mem) : Mem := fo (NX10_worstAt_4 p1 μ) (g_X10_worstAt_4 p1 0) μ
def muX10_worstAt_25_1 (v1 : Int32) (v2 : Int32) (i : Nat) (s : Mem) : Mem := (upm s 547 (ix (F_X10_stainBy v1 (nI (1 + i)) s)) ((s 547 (ix (F_X10_stainBy v1 (nI (1 + i)) s))) + 1))
def VX10_worstAt_25_2 (v1 : Int32) (v2 : Int32) (i : Nat) (s : Mem) : Mem := (if (F_X10_isStained (nI (1 + i)) s) = 0 then s else (muX10_worstAt_25_1 v1 v2 i s))
def g_X10_worstAt_25 (v1 : Int32) (v2 : Int32) (i : Nat) (s : Mem) : Mem := (VX10_worstAt_25_2 v1 v2 i s)
def Pb_X10_worstAt_25 (v1 : Int32) (v2 : Int32) (i : Nat) (s : Mem) : Prop := ((((1 : Int32) <<< ((s 61 2) &&& 31)) ≤ (nI (1 + i)) → False) ∧ ((nI (1 + i)) < ((1 : Int32) <<< ((s 61 2) &&& 31)) → (P_X10_isStained (nI (1 + i)) s) ∧ (((F_X10_isStained (nI (1 + i)) s) = 0 → True) ∧ (¬ (F_X10_isStained (nI (1 + i)) s) = 0 → (P_X10_stainBy v1 (nI (1 + i)) s) ∧ (vp_in (F_X10_stainBy v1 (nI (1 + i)) s) 61) ∧ vp_in (F_X10_stainBy v1 (nI (1 + i)) s) 61))))
set_option maxRecDepth 20000 in
set_option maxHeartbeats 2000000 in
theorem lp_X10_worstAt_25 {G : SG} (hG : GK 548 G)  (v1 : Int32) (v2 : Int32) (s0 : Mem) (N : Nat) (sN : Mem) (eN : sN = fo N (g_X10_worstAt_25 v1 v2) s0) (hN : ∀ i, i < N → Pb_X10_worstAt_25 v1 v2 i (fo i (g_X10_worstAt_25 v1 v2) s0)) {t : Nat} {Q : PQ} {X : PX} (h : R G mX10_worstAt 25 [(0, .ref (ga G 57)), (1, .int v1), (2, .int v2), (3, .int (nI (1 + N)))] [] sN t Q X) : R G mX10_worstAt 25 [(0, .ref (ga G 57)), (1, .int v1), (2, .int v2), (3, .int 1)] [] s0 t Q X := by
  subst eN
  refine down_i N (fun i => R G mX10_worstAt 25 [(0, .ref (ga G 57)), (1, .int v1), (2, .int v2), (3, .int (nI (1 + i)))] [] (fo i (g_X10_worstAt_25 v1 v2) s0) t Q X) h (fun i hi hS => ?_)
  have hP := hN i hi
  rw [fo_succ] at hS
  rw [(nI_sc 1 i)] at hS
  generalize fo i (g_X10_worstAt_25 v1 v2) s0 = s at hS hP ⊢
  unfold Pb_X10_worstAt_25 at hP
  refine r_iload_n dX10_worstAt_25 3 rfl ?_
  refine r_iconst 1 dX10_worstAt_26 rfl ?_
  refine r_aload_n dX10_worstAt_27 0 rfl ?_
  refine r_getR 61 fX10_23 (hG.lt (by decide)) sh57 fs57_12 dX10_worstAt_28 ?_
  refine r_iconst 2 dX10_worstAt_31 rfl ?_
  refine r_ialdK 2 rfl (hG.lt (by decide)) sh61 (vp_of (by decide) (by decide)) dX10_worstAt_32 ?_
  refine r_ishl dX10_worstAt_33 rfl ?_
  refine r_icmp_ge 66 dX10_worstAt_34 (by decide) (fun c1 => ?_) (fun c1 => ?_)
  · replace hP := hP.1 c1
    exact hP.elim
  · replace hP := hP.2 c1
    refine r_aload_n dX10_worstAt_37 0 rfl ?_
    refine r_iload_n dX10_worstAt_38 3 rfl ?_
    have hs1 := hP.1
    replace hP := hP.2
    refine r_cvI (ok_X10_isStained hG (nI (1 + i)) s hs1) lX10_385 (hG.lt (by decide)) sh57 ⟨_, _, rfl⟩ dX10_worstAt_39 (by decide) (Nat.le_of_ble_eq_true rfl) rfl (Nat.le_of_ble_eq_true rfl) ?_
    refine r_join 60 [(0, .ref (ga G 57)), (1, .int v1), (2, .int v2), (3, .int (nI (1 + i)))] [] (VX10_worstAt_25_2 v1 v2 i s) ?_ (fun hJ => ?_)
    · refine r_iinc ((nI (1 + i)) + 1) [(3, _), (0, _), (1, _), (2, _)] dX10_worstAt_60 3 rfl rfl (Nat.le_of_ble_eq_true rfl) rfl ?_
      refine r_goto 25 dX10_worstAt_63 (by decide) ?_
      have e : g_X10_worstAt_25 v1 v2 i s = (VX10_worstAt_25_2 v1 v2 i s) := by unfold g_X10_worstAt_25; rfl
      rw [e] at hS
      exact r_sub [1, 2, 3, 0] rfl hS
    · refine r_if_eq 60 dX10_worstAt_42 (by decide) (fun c2 => ?_) (fun c2 => ?_)
      · replace hP := hP.1 c2
        have e : (VX10_worstAt_25_2 v1 v2 i s) = s := by unfold VX10_worstAt_25_2; rw [if_pos c2]
        rw [e] at hJ
        exact r_sub [0, 1, 2, 3] rfl hJ
      · replace hP := hP.2 c2
        refine r_aload_n dX10_worstAt_45 0 rfl ?_
        refine r_getR 547 fX10_94 (hG.lt (by decide)) sh57 fs57_47 dX10_worstAt_46 ?_
        refine r_aload_n dX10_worstAt_49 0 rfl ?_
        refine r_iload_n dX10_worstAt_50 1 rfl ?_
        refine r_iload_n dX10_worstAt_51 3 rfl ?_
        have hs2 := hP.1
        replace hP := hP.2
        refine r_cvI (ok_X10_stainBy hG v1 (nI (1 + i)) s hs2) lX10_382 (hG.lt (by decide)) sh57 ⟨_, _, rfl⟩ dX10_worstAt_52 (by decide) (Nat.le_of_ble_eq_true rfl) rfl (Nat.le_of_ble_eq_true rfl) ?_
        refine r_dup2 dX10_worstAt_55 rfl rfl ?_
        have hs3 := hP.1
        replace hP := hP.2
        refine r_iald (hG.lt (by decide)) sh547 hs3 dX10_worstAt_56 ?_
        refine r_iconst 1 dX10_worstAt_57 rfl ?_
        refine r_iadd dX10_worstAt_58 ?_
        have hs4 := hP
        refine r_iast (hG.lt (by decide)) sh547 hs4 dX10_worstAt_59 ?_
        refine r_mu (muX10_worstAt_25_1 v1 v2 i s) rfl ?_
        have e : (VX10_worstAt_25_2 v1 v2 i s) = (muX10_worstAt_25_1 v1 v2 i s) := by unfold VX10_worstAt_25_2; rw [if_neg c2]
        rw [e] at hJ
        exact r_sub [0, 1, 2, 3] rfl hJ
def NX10_worstAt_25 (p1 : Int32) (μ : Mem) : Nat := 2 ^ ix ((SX10_worstAt_4 p1 μ) 61 2) - 1
def SX10_worstAt_25 (p1 : Int32) (μ : Mem) : Mem := fo (NX10_worstAt_25 p1 μ) (g_X10_worstAt_25 p1 0) (SX10_worstAt_4 p1 μ)
def g_X10_worstAt_68 (v1 : Int32) (μ : Mem) (i : Nat) (s : Int32) : Int32 := (F_X10_more s (μ 547 (ix (nI i))) μ)
def Pb_X10_worstAt_68 (v1 : Int32) (μ : Mem) (i : Nat) (s : Int32) : Prop := ((61 ≤ (nI i) → False) ∧ ((nI i) < 61 → vp_in (nI i) 61))
set_option maxRecDepth 20000 in
set_option maxHeartbeats 2000000 in
theorem lp_X10_worstAt_68 {G : SG} (hG : GK 548 G)  (v1 : Int32) (μ : Mem) (s0 : Int32) (N : Nat) (sN : Int32) (eN : sN = fo N (g_X10_worstAt_68 v1 μ) s0) (hN : ∀ i, i < N → Pb_X10_worstAt_68 v1 μ i (fo i (g_X10_worstAt_68 v1 μ) s0)) {t : Nat} {Q : PQ} {X : PX} (h : R G mX10_worstAt 68 [(0, .ref (ga G 57)), (1, .int v1), (2, .int sN), (3, .int (nI N))] [] μ t Q X) : R G mX10_worstAt 68 [(0, .ref (ga G 57)), (1, .int v1), (2, .int s0), (3, .int 0)] [] μ t Q X := by
  subst eN
  refine down_i N (fun i => R G mX10_worstAt 68 [(0, .ref (ga G 57)), (1, .int v1), (2, .int (fo i (g_X10_worstAt_68 v1 μ) s0)), (3, .int (nI i))] [] μ t Q X) h (fun i hi hS => ?_)
  have hP := hN i hi
  rw [fo_succ] at hS
  rw [nI_succ] at hS
  generalize fo i (g_X10_worstAt_68 v1 μ) s0 = s at hS hP ⊢
  unfold Pb_X10_worstAt_68 at hP
  refine r_iload_n dX10_worstAt_68 3 rfl ?_
  refine r_bipush 61 dX10_worstAt_69 rfl ?_
  refine r_icmp_ge 91 dX10_worstAt_71 (by decide) (fun c1 => ?_) (fun c1 => ?_)
  · replace hP := hP.1 c1
    exact hP.elim
  · replace hP := hP.2 c1
    refine r_iload_n dX10_worstAt_74 2 rfl ?_
    refine r_aload_n dX10_worstAt_75 0 rfl ?_
    refine r_getR 547 fX10_94 (hG.lt (by decide)) sh57 fs57_47 dX10_worstAt_76 ?_
    refine r_iload_n dX10_worstAt_79 3 rfl ?_
    have hs1 := hP
    refine r_iald (hG.lt (by decide)) sh547 hs1 dX10_worstAt_80 ?_
    refine r_csI (ok_X10_more hG s (μ 547 (ix (nI i))) μ) lX10_252 dX10_worstAt_81 (by decide) (Nat.le_of_ble_eq_true rfl) rfl (Nat.le_of_ble_eq_true rfl) ?_
    refine r_istore_n [(2, _), (0, _), (1, _), (3, _)] dX10_worstAt_84 (Nat.le_of_ble_eq_true rfl) rfl ?_
    refine r_iinc ((nI i) + 1) [(3, _), (2, _), (0, _), (1, _)] dX10_worstAt_85 3 rfl rfl (Nat.le_of_ble_eq_true rfl) rfl ?_
    refine r_goto 68 dX10_worstAt_88 (by decide) ?_
    have e : g_X10_worstAt_68 v1 μ i s = (F_X10_more s (μ 547 (ix (nI i))) μ) := by unfold g_X10_worstAt_68; rfl
    rw [e] at hS
    exact r_sub [2, 3, 1, 0] rfl hS
def NX10_worstAt_68 (p1 : Int32) (μ : Mem) : Nat := 61
def SX10_worstAt_68 (p1 : Int32) (μ : Mem) : Int32 := fo (NX10_worstAt_68 p1 μ) (g_X10_worstAt_68 p1 (SX10_worstAt_25 p1 μ)) 0
def muX10_worstAt_1 (p1 : Int32) (μ : Mem) : Mem := (upm (SX10_worstAt_25 p1 μ) 547 (ix (F_X10_stainBy p1 (nI (1 + (NX10_worstAt_25 p1 μ))) (SX10_worstAt_25 p1 μ))) (((SX10_worstAt_25 p1 μ) 547 (ix (F_X10_stainBy p1 (nI (1 + (NX10_worstAt_25 p1 μ))) (SX10_worstAt_25 p1 μ)))) + 1))
def VX10_worstAt_2 (p1 : Int32) (μ : Mem) : Mem := (if (F_X10_isStained (nI (1 + (NX10_worstAt_25 p1 μ))) (SX10_worstAt_25 p1 μ)) = 0 then (SX10_worstAt_25 p1 μ) else (muX10_worstAt_1 p1 μ))
def muX10_worstAt_3 (p1 : Int32) (μ : Mem) : Mem := (upm (SX10_worstAt_4 p1 μ) 547 (ix (nI (NX10_worstAt_4 p1 μ))) 0)
def F_X10_worstAt (p1 : Int32) (μ : Mem) : Int32 := (SX10_worstAt_68 p1 μ)
def M_X10_worstAt (p1 : Int32) (μ : Mem) : Mem := (SX10_worstAt_25 p1 μ)
def P_X10_worstAt (p1 : Int32) (μ : Mem) : Prop := ((∀ j9, j9 < (NX10_worstAt_4 p1 μ) → Pb_X10_worstAt_4 p1 0 j9 (fo j9 (g_X10_worstAt_4 p1 0) μ)) ∧ ((61 ≤ (nI (NX10_worstAt_4 p1 μ)) → ((∀ j9, j9 < (NX10_worstAt_25 p1 μ) → Pb_X10_worstAt_25 p1 0 j9 (fo j9 (g_X10_worstAt_25 p1 0) (SX10_worstAt_4 p1 μ))) ∧ ((((1 : Int32) <<< (((SX10_worstAt_25 p1 μ) 61 2) &&& 31)) ≤ (nI (1 + (NX10_worstAt_25 p1 μ))) → ((∀ j9, j9 < (NX10_worstAt_68 p1 μ) → Pb_X10_worstAt_68 p1 (SX10_worstAt_25 p1 μ) j9 (fo j9 (g_X10_worstAt_68 p1 (SX10_worstAt_25 p1 μ)) 0)) ∧ ((61 ≤ (nI (NX10_worstAt_68 p1 μ)) → True) ∧ ((nI (NX10_worstAt_68 p1 μ)) < 61 → ((vp_in (nI (NX10_worstAt_68 p1 μ)) 61) ∧ False))))) ∧ ((nI (1 + (NX10_worstAt_25 p1 μ))) < ((1 : Int32) <<< (((SX10_worstAt_25 p1 μ) 61 2) &&& 31)) → ((P_X10_isStained (nI (1 + (NX10_worstAt_25 p1 μ))) (SX10_worstAt_25 p1 μ)) ∧ ((((F_X10_isStained (nI (1 + (NX10_worstAt_25 p1 μ))) (SX10_worstAt_25 p1 μ)) = 0 → True) ∧ (¬ (F_X10_isStained (nI (1 + (NX10_worstAt_25 p1 μ))) (SX10_worstAt_25 p1 μ)) = 0 → ((P_X10_stainBy p1 (nI (1 + (NX10_worstAt_25 p1 μ))) (SX10_worstAt_25 p1 μ)) ∧ ((vp_in (F_X10_stainBy p1 (nI (1 + (NX10_worstAt_25 p1 μ))) (SX10_worstAt_25 p1 μ)) 61) ∧ (vp_in (F_X10_stainBy p1 (nI (1 + (NX10_worstAt_25 p1 μ))) (SX10_worstAt_25 p1 μ)) 61))))) ∧ False)))))) ∧ ((nI (NX10_worstAt_4 p1 μ)) < 61 → ((vp_in (nI (NX10_worstAt_4 p1 μ)) 61) ∧ False))))
set_option maxRecDepth 20000 in
set_option maxHeartbeats 2000000 in
theorem ok_X10_worstAt {G : SG} (hG : GK 548 G) (p1 : Int32) (μ : Mem) (hP : P_X10_worstAt p1 μ) : OkF G mX10_worstAt [.ref (ga G 57), .int p1] μ (some (.int (F_X10_worstAt p1 μ))) (M_X10_worstAt p1 μ) := by
  refine okF_of hG rfl rfl (Nat.le_of_ble_eq_true rfl) ?_
  unfold P_X10_worstAt at hP
  refine r_iconst 0 dX10_worstAt_0 rfl ?_
  refine r_istore_n [(2, _), (0, _), (1, _)] dX10_worstAt_1 (Nat.le_of_ble_eq_true rfl) rfl ?_
  refine r_iconst 0 dX10_worstAt_2 rfl ?_
  refine r_istore_n [(3, _), (2, _), (0, _), (1, _)] dX10_worstAt_3 (Nat.le_of_ble_eq_true rfl) rfl ?_
  have hs1 := hP.1
  replace hP := hP.2
  refine r_sub [2, 3, 1, 0] rfl ?_
  refine lp_X10_worstAt_4 hG p1 0 μ ((NX10_worstAt_4 p1 μ)) (SX10_worstAt_4 p1 μ) rfl hs1 ?_
  refine r_iload_n dX10_worstAt_4 3 rfl ?_
  refine r_bipush 61 dX10_worstAt_5 rfl ?_
  refine r_icmp_ge 23 dX10_worstAt_7 (by decide) (fun c1 => ?_) (fun c1 => ?_)
  · replace hP := hP.1 c1
    refine r_iconst 1 dX10_worstAt_23 rfl ?_
    refine r_istore_n [(3, _), (0, _), (1, _), (2, _)] dX10_worstAt_24 (Nat.le_of_ble_eq_true rfl) rfl ?_
    have hs3 := hP.1
    replace hP := hP.2
    refine r_sub [1, 2, 3, 0] rfl ?_
    refine lp_X10_worstAt_25 hG p1 0 (SX10_worstAt_4 p1 μ) ((NX10_worstAt_25 p1 μ)) (SX10_worstAt_25 p1 μ) rfl hs3 ?_
    refine r_iload_n dX10_worstAt_25 3 rfl ?_
    refine r_iconst 1 dX10_worstAt_26 rfl ?_
    refine r_aload_n dX10_worstAt_27 0 rfl ?_
    refine r_getR 61 fX10_23 (hG.lt (by decide)) sh57 fs57_12 dX10_worstAt_28 ?_
    refine r_iconst 2 dX10_worstAt_31 rfl ?_
    refine r_ialdK 2 rfl (hG.lt (by decide)) sh61 (vp_of (by decide) (by decide)) dX10_worstAt_32 ?_
    refine r_ishl dX10_worstAt_33 rfl ?_
    refine r_icmp_ge 66 dX10_worstAt_34 (by decide) (fun c2 => ?_) (fun c2 => ?_)
    · replace hP := hP.1 c2
      refine r_iconst 0 dX10_worstAt_66 rfl ?_
      refine r_istore_n [(3, _), (0, _), (1, _), (2, _)] dX10_worstAt_67 (Nat.le_of_ble_eq_true rfl) rfl ?_
      have hs8 := hP.1
      replace hP := hP.2
      refine r_sub [1, 2, 3, 0] rfl ?_
      refine lp_X10_worstAt_68 hG p1 (SX10_worstAt_25 p1 μ) 0 ((NX10_worstAt_68 p1 μ)) (SX10_worstAt_68 p1 μ) rfl hs8 ?_
      refine r_iload_n dX10_worstAt_68 3 rfl ?_
      refine r_bipush 61 dX10_worstAt_69 rfl ?_
      refine r_icmp_ge 91 dX10_worstAt_71 (by decide) (fun c3 => ?_) (fun c3 => ?_)
      · replace hP := hP.1 c3
        refine r_iload_n dX10_worstAt_91 2 rfl ?_
        exact r_ireturn _ dX10_worstAt_92 rfl rfl ⟨congrArg (fun z => some (Value.int z)) (rfl), rfl⟩
      · replace hP := hP.2 c3
        refine r_iload_n dX10_worstAt_74 2 rfl ?_
        refine r_aload_n dX10_worstAt_75 0 rfl ?_
        refine r_getR 547 fX10_94 (hG.lt (by decide)) sh57 fs57_47 dX10_worstAt_76 ?_
        refine r_iload_n dX10_worstAt_79 3 rfl ?_
        have hs10 := hP.1
        replace hP := hP.2
        refine r_iald (hG.lt (by decide)) sh547 hs10 dX10_worstAt_80 ?_
        refine r_csI (ok_X10_more hG (SX10_worstAt_68 p1 μ) ((SX10_worstAt_25 p1 μ) 547 (ix (nI (NX10_worstAt_68 p1 μ)))) (SX10_worstAt_25 p1 μ)) lX10_252 dX10_worstAt_81 (by decide) (Nat.le_of_ble_eq_true rfl) rfl (Nat.le_of_ble_eq_true rfl) ?_
        refine r_istore_n [(2, _), (0, _), (1, _), (3, _)] dX10_worstAt_84 (Nat.le_of_ble_eq_true rfl) rfl ?_
        refine r_iinc ((nI (NX10_worstAt_68 p1 μ)) + 1) [(3, _), (2, _), (0, _), (1, _)] dX10_worstAt_85 3 rfl rfl (Nat.le_of_ble_eq_true rfl) rfl ?_
        refine r_goto 68 dX10_worstAt_88 (by decide) ?_
        exact hP.elim
    · replace hP := hP.2 c2
      refine r_aload_n dX10_worstAt_37 0 rfl ?_
      refine r_iload_n dX10_worstAt_38 3 rfl ?_
      have hs11 := hP.1
      replace hP := hP.2
      refine r_cvI (ok_X10_isStained hG (nI (1 + (NX10_worstAt_25 p1 μ))) (SX10_worstAt_25 p1 μ) hs11) lX10_385 (hG.lt (by decide)) sh57 ⟨_, _, rfl⟩ dX10_worstAt_39 (by decide) (Nat.le_of_ble_eq_true rfl) rfl (Nat.le_of_ble_eq_true rfl) ?_
      refine r_join 60 [(0, .ref (ga G 57)), (1, .int p1), (2, .int 0), (3, .int (nI (1 + (NX10_worstAt_25 p1 μ))))] [] (VX10_worstAt_2 p1 μ) ?_ (fun hJ => ?_)
      · replace hP := hP.2
        refine r_iinc ((nI (1 + (NX10_worstAt_25 p1 μ))) + 1) [(3, _), (0, _), (1, _), (2, _)] dX10_worstAt_60 3 rfl rfl (Nat.le_of_ble_eq_true rfl) rfl ?_
        refine r_goto 25 dX10_worstAt_63 (by decide) ?_
        exact hP.elim
      · replace hP := hP.1
        refine r_if_eq 60 dX10_worstAt_42 (by decide) (fun c3 => ?_) (fun c3 => ?_)
        · replace hP := hP.1 c3
          have e : (VX10_worstAt_2 p1 μ) = (SX10_worstAt_25 p1 μ) := by unfold VX10_worstAt_2; rw [if_pos c3]
          rw [e] at hJ
          exact r_sub [0, 1, 2, 3] rfl hJ
        · replace hP := hP.2 c3
          refine r_aload_n dX10_worstAt_45 0 rfl ?_
          refine r_getR 547 fX10_94 (hG.lt (by decide)) sh57 fs57_47 dX10_worstAt_46 ?_
          refine r_aload_n dX10_worstAt_49 0 rfl ?_
          refine r_iload_n dX10_worstAt_50 1 rfl ?_
          refine r_iload_n dX10_worstAt_51 3 rfl ?_
          have hs12 := hP.1
          replace hP := hP.2
          refine r_cvI (ok_X10_stainBy hG p1 (nI (1 + (NX10_worstAt_25 p1 μ))) (SX10_worstAt_25 p1 μ) hs12) lX10_382 (hG.lt (by decide)) sh57 ⟨_, _, rfl⟩ dX10_worstAt_52 (by decide) (Nat.le_of_ble_eq_true rfl) rfl (Nat.le_of_ble_eq_true rfl) ?_
          refine r_dup2 dX10_worstAt_55 rfl rfl ?_
          have hs13 := hP.1
          replace hP := hP.2
          refine r_iald (hG.lt (by decide)) sh547 hs13 dX10_worstAt_56 ?_
          refine r_iconst 1 dX10_worstAt_57 rfl ?_
          refine r_iadd dX10_worstAt_58 ?_
          have hs14 := hP
          refine r_iast (hG.lt (by decide)) sh547 hs14 dX10_worstAt_59 ?_
          refine r_mu (muX10_worstAt_1 p1 μ) rfl ?_
          have e : (VX10_worstAt_2 p1 μ) = (muX10_worstAt_1 p1 μ) := by unfold VX10_worstAt_2; rw [if_neg c3]
          rw [e] at hJ
          exact r_sub [0, 1, 2, 3] rfl hJ
  · replace hP := hP.2 c1
    refine r_aload_n dX10_worstAt_10 0 rfl ?_
    refine r_getR 547 fX10_94 (hG.lt (by decide)) sh57 fs57_47 dX10_worstAt_11 ?_
    refine r_iload_n dX10_worstAt_14 3 rfl ?_
    refine r_iconst 0 dX10_worstAt_15 rfl ?_
    have hs15 := hP.1
    replace hP := hP.2
    refine r_iast (hG.lt (by decide)) sh547 hs15 dX10_worstAt_16 ?_
    refine r_mu (muX10_worstAt_3 p1 μ) rfl ?_
    refine r_iinc ((nI (NX10_worstAt_4 p1 μ)) + 1) [(3, _), (0, _), (1, _), (2, _)] dX10_worstAt_17 3 rfl rfl (Nat.le_of_ble_eq_true rfl) rfl ?_
    refine r_goto 4 dX10_worstAt_20 (by decide) ?_
    exact hP.elim
def g_X10_isTold_2 (v1 : Int32) (μ : Mem) (i : Nat) (s : Unit) : Unit := ()
def Pb_X10_isTold_2 (v1 : Int32) (μ : Mem) (i : Nat) (s : Unit) : Prop := (((μ 57 38) ≤ (nI i) → False) ∧ ((nI i) < (μ 57 38) → (vp_in (nI i) 6) ∧ (((μ (425 + (ix (nI i))) 0) ≠ v1 → True) ∧ ((μ (425 + (ix (nI i))) 0) = v1 → False))))
def Cb_X10_isTold_2 (v1 : Int32) (μ : Mem) (i : Nat) (s : Unit) : Bool := (if (μ 57 38) ≤ (nI i) then false else (if (μ (425 + (ix (nI i))) 0) ≠ v1 then true else false))
set_option maxRecDepth 20000 in
set_option maxHeartbeats 2000000 in
theorem lp_X10_isTold_2 {G : SG} (hG : GK 548 G)  (v1 : Int32) (μ : Mem) (s0 : Unit) (N : Nat) (sN : Unit) (eN : sN = fo N (g_X10_isTold_2 v1 μ) s0) (hN : ∀ i, i < N → Pb_X10_isTold_2 v1 μ i (fo i (g_X10_isTold_2 v1 μ) s0)) {t : Nat} {Q : PQ} {X : PX} (h : R G mX10_isTold 2 [(0, .ref (ga G 57)), (1, .int v1), (2, .int (nI N))] [] μ t Q X) : R G mX10_isTold 2 [(0, .ref (ga G 57)), (1, .int v1), (2, .int 0)] [] μ t Q X := by
  subst eN
  refine down_i N (fun i => R G mX10_isTold 2 [(0, .ref (ga G 57)), (1, .int v1), (2, .int (nI i))] [] μ t Q X) h (fun i hi hS => ?_)
  have hP := hN i hi
  rw [nI_succ] at hS
  generalize fo i (g_X10_isTold_2 v1 μ) s0 = s at hS hP ⊢
  unfold Pb_X10_isTold_2 at hP
  refine r_iload_n dX10_isTold_2 2 rfl ?_
  refine r_aload_n dX10_isTold_3 0 rfl ?_
  refine r_getI fX10_209 (hG.lt (by decide)) sh57 fs57_38 dX10_isTold_4 ?_
  refine r_icmp_ge 30 dX10_isTold_7 (by decide) (fun c1 => ?_) (fun c1 => ?_)
  · replace hP := hP.1 c1
    exact hP.elim
  · replace hP := hP.2 c1
    refine r_aload_n dX10_isTold_10 0 rfl ?_
    refine r_getR 424 fX10_58 (hG.lt (by decide)) sh57 fs57_25 dX10_isTold_11 ?_
    refine r_iload_n dX10_isTold_14 2 rfl ?_
    have hs1 := hP.1
    replace hP := hP.2
    refine r_aald (hG.lt (by decide)) sh424 hs1 dX10_isTold_15 ?_
    refine r_iconst 0 dX10_isTold_16 rfl ?_
    refine r_ialdK 0 rfl (ltR (vp_ix hs1) (by decide) hG) (shr424 _ (vp_ix hs1)) (vp_of (by decide) (by decide)) dX10_isTold_17 ?_
    refine r_iload_n dX10_isTold_18 1 rfl ?_
    refine r_icmp_ne 24 dX10_isTold_19 (by decide) (fun c2 => ?_) (fun c2 => ?_)
    · replace hP := hP.1 c2
      refine r_iinc ((nI i) + 1) [(2, _), (0, _), (1, _)] dX10_isTold_24 2 rfl rfl (Nat.le_of_ble_eq_true rfl) rfl ?_
      refine r_goto 2 dX10_isTold_27 (by decide) ?_
      exact r_sub [1, 2, 0] rfl hS
    · replace hP := hP.2 c2
      refine r_iconst 1 dX10_isTold_22 rfl ?_
      exact hP.elim
def NX10_isTold_2 (p1 : Int32) (μ : Mem) : Nat := (fst 7 (fun j9 => !Cb_X10_isTold_2 p1 μ j9 (fo j9 (g_X10_isTold_2 p1 μ) ())))
def SX10_isTold_2 (p1 : Int32) (μ : Mem) : Unit := fo (NX10_isTold_2 p1 μ) (g_X10_isTold_2 p1 μ) ()
def F_X10_isTold (p1 : Int32) (μ : Mem) : Int32 := (if (μ 57 38) ≤ (nI (NX10_isTold_2 p1 μ)) then 0 else 1)
def P_X10_isTold (p1 : Int32) (μ : Mem) : Prop := ((∀ j9, j9 < (NX10_isTold_2 p1 μ) → Pb_X10_isTold_2 p1 μ j9 (fo j9 (g_X10_isTold_2 p1 μ) ())) ∧ (((μ 57 38) ≤ (nI (NX10_isTold_2 p1 μ)) → True) ∧ ((nI (NX10_isTold_2 p1 μ)) < (μ 57 38) → ((vp_in (nI (NX10_isTold_2 p1 μ)) 6) ∧ (((μ (425 + (ix (nI (NX10_isTold_2 p1 μ)))) 0) ≠ p1 → False) ∧ ((μ (425 + (ix (nI (NX10_isTold_2 p1 μ)))) 0) = p1 → True))))))
theorem bo_X10_isTold (p1 : Int32) (μ : Mem) : F_X10_isTold p1 μ = 0 ∨ F_X10_isTold p1 μ = 1 := by
  unfold F_X10_isTold
  split
  · exact Or.inl rfl
  · exact Or.inr rfl
set_option maxRecDepth 20000 in
set_option maxHeartbeats 2000000 in
theorem ok_X10_isTold {G : SG} (hG : GK 548 G) (p1 : Int32) (μ : Mem) (hP : P_X10_isTold p1 μ) : OkF G mX10_isTold [.ref (ga G 57), .int p1] μ (some (.int (F_X10_isTold p1 μ))) μ := by
  refine okF_of hG rfl rfl (Nat.le_of_ble_eq_true rfl) ?_
  unfold P_X10_isTold at hP
  refine r_iconst 0 dX10_isTold_0 rfl ?_
  refine r_istore_n [(2, _), (0, _), (1, _)] dX10_isTold_1 (Nat.le_of_ble_eq_true rfl) rfl ?_
  have hs1 := hP.1
  replace hP := hP.2
  refine r_sub [1, 2, 0] rfl ?_
  refine lp_X10_isTold_2 hG p1 μ () ((NX10_isTold_2 p1 μ)) (SX10_isTold_2 p1 μ) rfl hs1 ?_
  refine r_iload_n dX10_isTold_2 2 rfl ?_
  refine r_aload_n dX10_isTold_3 0 rfl ?_
  refine r_getI fX10_209 (hG.lt (by decide)) sh57 fs57_38 dX10_isTold_4 ?_
  refine r_icmp_ge 30 dX10_isTold_7 (by decide) (fun c1 => ?_) (fun c1 => ?_)
  · replace hP := hP.1 c1
    refine r_iconst 0 dX10_isTold_30 rfl ?_
    exact r_ireturn _ dX10_isTold_31 rfl rfl ⟨congrArg (fun z => some (Value.int z)) (by unfold F_X10_isTold; rw [if_pos c1]), rfl⟩
  · replace hP := hP.2 c1
    refine r_aload_n dX10_isTold_10 0 rfl ?_
    refine r_getR 424 fX10_58 (hG.lt (by decide)) sh57 fs57_25 dX10_isTold_11 ?_
    refine r_iload_n dX10_isTold_14 2 rfl ?_
    have hs2 := hP.1
    replace hP := hP.2
    refine r_aald (hG.lt (by decide)) sh424 hs2 dX10_isTold_15 ?_
    refine r_iconst 0 dX10_isTold_16 rfl ?_
    refine r_ialdK 0 rfl (ltR (vp_ix hs2) (by decide) hG) (shr424 _ (vp_ix hs2)) (vp_of (by decide) (by decide)) dX10_isTold_17 ?_
    refine r_iload_n dX10_isTold_18 1 rfl ?_
    refine r_icmp_ne 24 dX10_isTold_19 (by decide) (fun c2 => ?_) (fun c2 => ?_)
    · replace hP := hP.1 c2
      refine r_iinc ((nI (NX10_isTold_2 p1 μ)) + 1) [(2, _), (0, _), (1, _)] dX10_isTold_24 2 rfl rfl (Nat.le_of_ble_eq_true rfl) rfl ?_
      refine r_goto 2 dX10_isTold_27 (by decide) ?_
      exact hP.elim
    · replace hP := hP.2 c2
      refine r_iconst 1 dX10_isTold_22 rfl ?_
      exact r_ireturn _ dX10_isTold_23 rfl rfl ⟨congrArg (fun z => some (Value.int z)) (by unfold F_X10_isTold; rw [if_neg (i32_ng c1)]), rfl⟩
def muX10_board_1 (p1 : Int32) (μ : Mem) : Mem := (upm μ 57 0 0)
def VX10_board_2 (p1 : Int32) (μ : Mem) : Int32 := (if (F_X10_isIn p1 0 1 (muX10_board_1 p1 μ)) ≠ 0 then 0 else 1)
theorem bo_VX10_board_2 (p1 : Int32) (μ : Mem) : (VX10_board_2 p1 μ) = 0 ∨ (VX10_board_2 p1 μ) = 1 := by
  unfold VX10_board_2
  split
  · exact Or.inl rfl
  · exact Or.inr rfl
def muX10_board_3 (p1 : Int32) (μ : Mem) : Mem := (M_X10_bad (VX10_board_2 p1 μ) 1 1 (muX10_board_1 p1 μ))
def muX10_board_37_1 (v1 : Int32) (i : Nat) (s : Int32 × Int32 × Mem) : Mem := (M_X10_worstAt (nI i) s.2.2)
def VX10_board_37_2 (v1 : Int32) (i : Nat) (s : Int32 × Int32 × Mem) : Int32 := (if (F_X10_isTold (nI i) s.2.2) = 0 then (if s.1 = (-1) then (F_X10_worstAt (nI i) s.2.2) else (if (F_X10_worstAt (nI i) s.2.2) < s.2.1 then (F_X10_worstAt (nI i) s.2.2) else s.2.1)) else s.2.1)
def VX10_board_37_3 (v1 : Int32) (i : Nat) (s : Int32 × Int32 × Mem) : Int32 := (if (F_X10_isTold (nI i) s.2.2) = 0 then (if s.1 = (-1) then (nI i) else (if (F_X10_worstAt (nI i) s.2.2) < s.2.1 then (nI i) else s.1)) else s.1)
def VX10_board_37_4 (v1 : Int32) (i : Nat) (s : Int32 × Int32 × Mem) : Mem := (if (F_X10_isTold (nI i) s.2.2) = 0 then (muX10_board_37_1 v1 i s) else s.2.2)
def g_X10_board_37 (v1 : Int32) (i : Nat) (s : Int32 × Int32 × Mem) : Int32 × Int32 × Mem := ((VX10_board_37_3 v1 i s), (VX10_board_37_2 v1 i s), (VX10_board_37_4 v1 i s))
def Pb_X10_board_37 (v1 : Int32) (i : Nat) (s : Int32 × Int32 × Mem) : Prop := (((s.2.2 61 0) ≤ (nI i) → False) ∧ ((nI i) < (s.2.2 61 0) → (P_X10_isTold (nI i) s.2.2) ∧ (((F_X10_isTold (nI i) s.2.2) = 0 → P_X10_worstAt (nI i) s.2.2) ∧ (¬ (F_X10_isTold (nI i) s.2.2) = 0 → True))))
set_option maxRecDepth 20000 in
set_option maxHeartbeats 2000000 in
theorem lp_X10_board_37 {G : SG} (hG : GK 548 G)  (v1 : Int32) (s0 : Int32 × Int32 × Mem) (N : Nat) (sN : Int32 × Int32 × Mem) (eN : sN = fo N (g_X10_board_37 v1) s0) (hN : ∀ i, i < N → Pb_X10_board_37 v1 i (fo i (g_X10_board_37 v1) s0)) {t : Nat} {Q : PQ} {X : PX} (h : R G mX10_board 37 [(0, .ref (ga G 57)), (1, .int v1), (2, .int (sN).1), (3, .int (sN).2.1), (4, .int (nI N))] [] (sN).2.2 t Q X) : R G mX10_board 37 [(0, .ref (ga G 57)), (1, .int v1), (2, .int (s0).1), (3, .int (s0).2.1), (4, .int 0)] [] (s0).2.2 t Q X := by
  subst eN
  refine down_i N (fun i => R G mX10_board 37 [(0, .ref (ga G 57)), (1, .int v1), (2, .int ((fo i (g_X10_board_37 v1) s0)).1), (3, .int ((fo i (g_X10_board_37 v1) s0)).2.1), (4, .int (nI i))] [] ((fo i (g_X10_board_37 v1) s0)).2.2 t Q X) h (fun i hi hS => ?_)
  have hP := hN i hi
  rw [fo_succ] at hS
  rw [nI_succ] at hS
  generalize fo i (g_X10_board_37 v1) s0 = s at hS hP ⊢
  unfold Pb_X10_board_37 at hP
  refine r_iload dX10_board_37 4 rfl ?_
  refine r_aload_n dX10_board_39 0 rfl ?_
  refine r_getR 61 fX10_23 (hG.lt (by decide)) sh57 fs57_12 dX10_board_40 ?_
  refine r_iconst 0 dX10_board_43 rfl ?_
  refine r_ialdK 0 rfl (hG.lt (by decide)) sh61 (vp_of (by decide) (by decide)) dX10_board_44 ?_
  refine r_icmp_ge 94 dX10_board_45 (by decide) (fun c1 => ?_) (fun c1 => ?_)
  · replace hP := hP.1 c1
    exact hP.elim
  · replace hP := hP.2 c1
    refine r_aload_n dX10_board_48 0 rfl ?_
    refine r_iload dX10_board_49 4 rfl ?_
    have hs1 := hP.1
    replace hP := hP.2
    refine r_cvI (ok_X10_isTold hG (nI i) s.2.2 hs1) lX10_388 (hG.lt (by decide)) sh57 ⟨_, _, rfl⟩ dX10_board_51 (by decide) (Nat.le_of_ble_eq_true rfl) rfl (Nat.le_of_ble_eq_true rfl) ?_
    refine r_join 88 [(3, .int (VX10_board_37_2 v1 i s)), (2, .int (VX10_board_37_3 v1 i s)), (0, .ref (ga G 57)), (1, .int v1), (4, .int (nI i))] [] (VX10_board_37_4 v1 i s) ?_ (fun hJ => ?_)
    · refine r_iinc ((nI i) + 1) [(4, _), (3, _), (2, _), (0, _), (1, _)] dX10_board_88 4 rfl rfl (Nat.le_of_ble_eq_true rfl) rfl ?_
      refine r_goto 37 dX10_board_91 (by decide) ?_
      have e : g_X10_board_37 v1 i s = ((VX10_board_37_3 v1 i s), (VX10_board_37_2 v1 i s), (VX10_board_37_4 v1 i s)) := by unfold g_X10_board_37; rfl
      rw [e] at hS
      dsimp only at hS
      exact r_sub [3, 4, 2, 1, 0] rfl hS
    · refine r_if_eq 60 dX10_board_54 (by decide) (fun c2 => ?_) (fun c2 => ?_)
      · replace hP := hP.1 c2
        refine r_aload_n dX10_board_60 0 rfl ?_
        refine r_iload dX10_board_61 4 rfl ?_
        have hs2 := hP
        refine r_cvI (ok_X10_worstAt hG (nI i) s.2.2 hs2) lX10_391 (hG.lt (by decide)) sh57 ⟨_, _, rfl⟩ dX10_board_63 (by decide) (Nat.le_of_ble_eq_true rfl) rfl (Nat.le_of_ble_eq_true rfl) ?_
        refine r_mu (muX10_board_37_1 v1 i s) rfl ?_
        refine r_istore [(5, _), (0, _), (1, _), (2, _), (3, _), (4, _)] dX10_board_66 (Nat.le_of_ble_eq_true rfl) rfl ?_
        refine r_iload_n dX10_board_68 3 rfl ?_
        refine r_iconst (-1) dX10_board_69 rfl ?_
        refine r_icmp_eq 82 dX10_board_70 (by decide) (fun c3 => ?_) (fun c3 => ?_)
        · refine r_iload dX10_board_82 5 rfl ?_
          refine r_istore_n [(2, _), (5, _), (0, _), (1, _), (3, _), (4, _)] dX10_board_84 (Nat.le_of_ble_eq_true rfl) rfl ?_
          refine r_iload dX10_board_85 1 rfl ?_
          refine r_istore_n [(3, _), (2, _), (5, _), (0, _), (1, _), (4, _)] dX10_board_87 (Nat.le_of_ble_eq_true rfl) rfl ?_
          have e : (VX10_board_37_2 v1 i s) = (F_X10_worstAt (nI i) s.2.2) := by unfold VX10_board_37_2; rw [if_pos c2, if_pos c3]
          rw [e] at hJ
          clear e
          have e : (VX10_board_37_3 v1 i s) = (nI i) := by unfold VX10_board_37_3; rw [if_pos c2, if_pos c3]
          rw [e] at hJ
          clear e
          have e : (VX10_board_37_4 v1 i s) = (muX10_board_37_1 v1 i s) := by unfold VX10_board_37_4; rw [if_pos c2]
          rw [e] at hJ
          exact r_sub [0, 1, 3, 4, 5] rfl hJ
        · refine r_iload dX10_board_73 0 rfl ?_
          refine r_iload_n dX10_board_75 4 rfl ?_
          refine r_icmp_lt 82 dX10_board_76 (by decide) (fun c4 => ?_) (fun c4 => ?_)
          · refine r_iload dX10_board_82 5 rfl ?_
            refine r_istore_n [(2, _), (5, _), (0, _), (1, _), (3, _), (4, _)] dX10_board_84 (Nat.le_of_ble_eq_true rfl) rfl ?_
            refine r_iload dX10_board_85 1 rfl ?_
            refine r_istore_n [(3, _), (2, _), (5, _), (0, _), (1, _), (4, _)] dX10_board_87 (Nat.le_of_ble_eq_true rfl) rfl ?_
            have e : (VX10_board_37_2 v1 i s) = (F_X10_worstAt (nI i) s.2.2) := by unfold VX10_board_37_2; rw [if_pos c2, if_neg c3, if_pos c4]
            rw [e] at hJ
            clear e
            have e : (VX10_board_37_3 v1 i s) = (nI i) := by unfold VX10_board_37_3; rw [if_pos c2, if_neg c3, if_pos c4]
            rw [e] at hJ
            clear e
            have e : (VX10_board_37_4 v1 i s) = (muX10_board_37_1 v1 i s) := by unfold VX10_board_37_4; rw [if_pos c2]
            rw [e] at hJ
            exact r_sub [0, 1, 3, 4, 5] rfl hJ
          · refine r_goto 88 dX10_board_79 (by decide) ?_
            have e : (VX10_board_37_2 v1 i s) = s.2.1 := by unfold VX10_board_37_2; rw [if_pos c2, if_neg c3, if_neg (i32_nl c4)]
            rw [e] at hJ
            clear e
            have e : (VX10_board_37_3 v1 i s) = s.1 := by unfold VX10_board_37_3; rw [if_pos c2, if_neg c3, if_neg (i32_nl c4)]
            rw [e] at hJ
            clear e
            have e : (VX10_board_37_4 v1 i s) = (muX10_board_37_1 v1 i s) := by unfold VX10_board_37_4; rw [if_pos c2]
            rw [e] at hJ
            exact r_sub [4, 3, 1, 2, 5] rfl hJ
      · replace hP := hP.2 c2
        refine r_goto 88 dX10_board_57 (by decide) ?_
        have e : (VX10_board_37_2 v1 i s) = s.2.1 := by unfold VX10_board_37_2; rw [if_neg c2]
        rw [e] at hJ
        clear e
        have e : (VX10_board_37_3 v1 i s) = s.1 := by unfold VX10_board_37_3; rw [if_neg c2]
        rw [e] at hJ
        clear e
        have e : (VX10_board_37_4 v1 i s) = s.2.2 := by unfold VX10_board_37_4; rw [if_neg c2]
        rw [e] at hJ
        exact r_sub [3, 2, 0, 1, 4] rfl hJ
def NX10_board_37 (p1 : Int32) (μ : Mem) : Nat := ix ((muX10_board_3 p1 μ) 61 0)
def SX10_board_37 (p1 : Int32) (μ : Mem) : Int32 × Int32 × Mem := fo (NX10_board_37 p1 μ) (g_X10_board_37 p1) ((-1), (-1), (muX10_board_3 p1 μ))
def muX10_board_4 (p1 : Int32) (μ : Mem) : Mem := (M_X10_worstAt (nI (NX10_board_37 p1 μ)) (SX10_board_37 p1 μ).2.2)
def VX10_board_5 (p1 : Int32) (μ : Mem) : Int32 := (if (F_X10_isTold (nI (NX10_board_37 p1 μ)) (SX10_board_37 p1 μ).2.2) = 0 then (if (SX10_board_37 p1 μ).1 = (-1) then (F_X10_worstAt (nI (NX10_board_37 p1 μ)) (SX10_board_37 p1 μ).2.2) else (if (F_X10_worstAt (nI (NX10_board_37 p1 μ)) (SX10_board_37 p1 μ).2.2) < (SX10_board_37 p1 μ).2.1 then (F_X10_worstAt (nI (NX10_board_37 p1 μ)) (SX10_board_37 p1 μ).2.2) else (SX10_board_37 p1 μ).2.1)) else (SX10_board_37 p1 μ).2.1)
def VX10_board_6 (p1 : Int32) (μ : Mem) : Int32 := (if (F_X10_isTold (nI (NX10_board_37 p1 μ)) (SX10_board_37 p1 μ).2.2) = 0 then (if (SX10_board_37 p1 μ).1 = (-1) then (nI (NX10_board_37 p1 μ)) else (if (F_X10_worstAt (nI (NX10_board_37 p1 μ)) (SX10_board_37 p1 μ).2.2) < (SX10_board_37 p1 μ).2.1 then (nI (NX10_board_37 p1 μ)) else (SX10_board_37 p1 μ).1)) else (SX10_board_37 p1 μ).1)
def VX10_board_7 (p1 : Int32) (μ : Mem) : Mem := (if (F_X10_isTold (nI (NX10_board_37 p1 μ)) (SX10_board_37 p1 μ).2.2) = 0 then (muX10_board_4 p1 μ) else (SX10_board_37 p1 μ).2.2)
def F_X10_board (p1 : Int32) (μ : Mem) : Int32 := (if (F_X10_bad (VX10_board_2 p1 μ) 1 1 (muX10_board_1 p1 μ)) = 0 then (if p1 ≠ 0 then (SX10_board_37 p1 μ).2.1 else (SX10_board_37 p1 μ).1) else 0)
def M_X10_board (p1 : Int32) (μ : Mem) : Mem := (if (F_X10_bad (VX10_board_2 p1 μ) 1 1 (muX10_board_1 p1 μ)) = 0 then (SX10_board_37 p1 μ).2.2 else (muX10_board_3 p1 μ))
def P_X10_board (p1 : Int32) (μ : Mem) : Prop := ((P_X10_bad (VX10_board_2 p1 μ) 1 1 (muX10_board_1 p1 μ)) ∧ (((F_X10_bad (VX10_board_2 p1 μ) 1 1 (muX10_board_1 p1 μ)) = 0 → ((∀ j9, j9 < (NX10_board_37 p1 μ) → Pb_X10_board_37 p1 j9 (fo j9 (g_X10_board_37 p1) ((-1), (-1), (muX10_board_3 p1 μ)))) ∧ ((((SX10_board_37 p1 μ).2.2 61 0) ≤ (nI (NX10_board_37 p1 μ)) → True) ∧ ((nI (NX10_board_37 p1 μ)) < ((SX10_board_37 p1 μ).2.2 61 0) → ((P_X10_isTold (nI (NX10_board_37 p1 μ)) (SX10_board_37 p1 μ).2.2) ∧ ((((F_X10_isTold (nI (NX10_board_37 p1 μ)) (SX10_board_37 p1 μ).2.2) = 0 → (P_X10_worstAt (nI (NX10_board_37 p1 μ)) (SX10_board_37 p1 μ).2.2)) ∧ (¬ (F_X10_isTold (nI (NX10_board_37 p1 μ)) (SX10_board_37 p1 μ).2.2) = 0 → True)) ∧ False)))))) ∧ (¬ (F_X10_bad (VX10_board_2 p1 μ) 1 1 (muX10_board_1 p1 μ)) = 0 → True)))
set_option maxRecDepth 20000 in
set_option maxHeartbeats 2000000 in
theorem ok_X10_board {G : SG} (hG : GK 548 G) (p1 : Int32) (μ : Mem) (hP : P_X10_board p1 μ) : OkF G mX10_board [.ref (ga G 57), .int p1] μ (some (.int (F_X10_board p1 μ))) (M_X10_board p1 μ) := by
  refine okF_of hG rfl rfl (Nat.le_of_ble_eq_true rfl) ?_
  unfold P_X10_board at hP
  refine r_aload_n dX10_board_0 0 rfl ?_
  refine r_iconst 0 dX10_board_1 rfl ?_
  refine r_put fiX10_103 (hG.lt (by decide)) sh57 fs57_0 dX10_board_2 ?_
  refine r_mu (muX10_board_1 p1 μ) rfl ?_
  refine r_aload_n dX10_board_5 0 rfl ?_
  refine r_iload_n dX10_board_6 1 rfl ?_
  refine r_iconst 0 dX10_board_7 rfl ?_
  refine r_iconst 1 dX10_board_8 rfl ?_
  refine r_csI (ok_X10_isIn hG p1 0 1 (muX10_board_1 p1 μ)) lX10_137 dX10_board_9 (by decide) (Nat.le_of_ble_eq_true rfl) rfl (Nat.le_of_ble_eq_true rfl) ?_
  refine r_join 20 [(0, .ref (ga G 57)), (1, .int p1)] [.int (VX10_board_2 p1 μ), .ref (ga G 57)] (muX10_board_1 p1 μ) ?_ (fun hJ => ?_)
  · refine r_iconst 1 dX10_board_20 rfl ?_
    refine r_iconst 1 dX10_board_21 rfl ?_
    have hs1 := hP.1
    replace hP := hP.2
    refine r_cvI (ok_X10_bad hG (VX10_board_2 p1 μ) 1 1 (muX10_board_1 p1 μ) hs1) lX10_186 (hG.lt (by decide)) sh57 ⟨_, _, rfl⟩ dX10_board_22 (by decide) (Nat.le_of_ble_eq_true rfl) rfl (Nat.le_of_ble_eq_true rfl) ?_
    refine r_mu (muX10_board_3 p1 μ) rfl ?_
    refine r_if_eq 30 dX10_board_25 (by decide) (fun c1 => ?_) (fun c1 => ?_)
    · replace hP := hP.1 c1
      refine r_iconst (-1) dX10_board_30 rfl ?_
      refine r_istore_n [(2, _), (0, _), (1, _)] dX10_board_31 (Nat.le_of_ble_eq_true rfl) rfl ?_
      refine r_iconst (-1) dX10_board_32 rfl ?_
      refine r_istore_n [(3, _), (2, _), (0, _), (1, _)] dX10_board_33 (Nat.le_of_ble_eq_true rfl) rfl ?_
      refine r_iconst 0 dX10_board_34 rfl ?_
      refine r_istore [(4, _), (3, _), (2, _), (0, _), (1, _)] dX10_board_35 (Nat.le_of_ble_eq_true rfl) rfl ?_
      have hs2 := hP.1
      replace hP := hP.2
      refine r_sub [3, 4, 2, 1, 0] rfl ?_
      refine lp_X10_board_37 hG p1 ((-1), (-1), (muX10_board_3 p1 μ)) ((NX10_board_37 p1 μ)) (SX10_board_37 p1 μ) rfl hs2 ?_
      refine r_iload dX10_board_37 4 rfl ?_
      refine r_aload_n dX10_board_39 0 rfl ?_
      refine r_getR 61 fX10_23 (hG.lt (by decide)) sh57 fs57_12 dX10_board_40 ?_
      refine r_iconst 0 dX10_board_43 rfl ?_
      refine r_ialdK 0 rfl (hG.lt (by decide)) sh61 (vp_of (by decide) (by decide)) dX10_board_44 ?_
      refine r_icmp_ge 94 dX10_board_45 (by decide) (fun c2 => ?_) (fun c2 => ?_)
      · replace hP := hP.1 c2
        refine r_iload_n dX10_board_94 1 rfl ?_
        refine r_if_ne 102 dX10_board_95 (by decide) (fun c3 => ?_) (fun c3 => ?_)
        · refine r_iload_n dX10_board_102 3 rfl ?_
          exact r_ireturn _ dX10_board_103 rfl rfl ⟨congrArg (fun z => some (Value.int z)) (by unfold F_X10_board; rw [if_pos c1, if_pos c3]), by unfold M_X10_board; rw [if_pos c1]⟩
        · refine r_iload_n dX10_board_98 2 rfl ?_
          refine r_goto 103 dX10_board_99 (by decide) ?_
          exact r_ireturn _ dX10_board_103 rfl rfl ⟨congrArg (fun z => some (Value.int z)) (by unfold F_X10_board; rw [if_pos c1, if_neg (not_not_intro c3)]), by unfold M_X10_board; rw [if_pos c1]⟩
      · replace hP := hP.2 c2
        refine r_aload_n dX10_board_48 0 rfl ?_
        refine r_iload dX10_board_49 4 rfl ?_
        have hs5 := hP.1
        replace hP := hP.2
        refine r_cvI (ok_X10_isTold hG (nI (NX10_board_37 p1 μ)) (SX10_board_37 p1 μ).2.2 hs5) lX10_388 (hG.lt (by decide)) sh57 ⟨_, _, rfl⟩ dX10_board_51 (by decide) (Nat.le_of_ble_eq_true rfl) rfl (Nat.le_of_ble_eq_true rfl) ?_
        refine r_join 88 [(3, .int (VX10_board_5 p1 μ)), (2, .int (VX10_board_6 p1 μ)), (0, .ref (ga G 57)), (1, .int p1), (4, .int (nI (NX10_board_37 p1 μ)))] [] (VX10_board_7 p1 μ) ?_ (fun hJ => ?_)
        · replace hP := hP.2
          refine r_iinc ((nI (NX10_board_37 p1 μ)) + 1) [(4, _), (3, _), (2, _), (0, _), (1, _)] dX10_board_88 4 rfl rfl (Nat.le_of_ble_eq_true rfl) rfl ?_
          refine r_goto 37 dX10_board_91 (by decide) ?_
          exact hP.elim
        · replace hP := hP.1
          refine r_if_eq 60 dX10_board_54 (by decide) (fun c3 => ?_) (fun c3 => ?_)
          · replace hP := hP.1 c3
            refine r_aload_n dX10_board_60 0 rfl ?_
            refine r_iload dX10_board_61 4 rfl ?_
            have hs6 := hP
            refine r_cvI (ok_X10_worstAt hG (nI (NX10_board_37 p1 μ)) (SX10_board_37 p1 μ).2.2 hs6) lX10_391 (hG.lt (by decide)) sh57 ⟨_, _, rfl⟩ dX10_board_63 (by decide) (Nat.le_of_ble_eq_true rfl) rfl (Nat.le_of_ble_eq_true rfl) ?_
            refine r_mu (muX10_board_4 p1 μ) rfl ?_
            refine r_istore [(5, _), (0, _), (1, _), (2, _), (3, _), (4, _)] dX10_board_66 (Nat.le_of_ble_eq_true rfl) rfl ?_
            refine r_iload_n dX10_board_68 3 rfl ?_
            refine r_iconst (-1) dX10_board_69 rfl ?_
            refine r_icmp_eq 82 dX10_board_70 (by decide) (fun c4 => ?_) (fun c4 => ?_)
            · refine r_iload dX10_board_82 5 rfl ?_
              refine r_istore_n [(2, _), (5, _), (0, _), (1, _), (3, _), (4, _)] dX10_board_84 (Nat.le_of_ble_eq_true rfl) rfl ?_
              refine r_iload dX10_board_85 1 rfl ?_
              refine r_istore_n [(3, _), (2, _), (5, _), (0, _), (1, _), (4, _)] dX10_board_87 (Nat.le_of_ble_eq_true rfl) rfl ?_
              have e : (VX10_board_5 p1 μ) = (F_X10_worstAt (nI (NX10_board_37 p1 μ)) (SX10_board_37 p1 μ).2.2) := by unfold VX10_board_5; rw [if_pos c3, if_pos c4]
              rw [e] at hJ
              clear e
              have e : (VX10_board_6 p1 μ) = (nI (NX10_board_37 p1 μ)) := by unfold VX10_board_6; rw [if_pos c3, if_pos c4]
              rw [e] at hJ
              clear e
              have e : (VX10_board_7 p1 μ) = (muX10_board_4 p1 μ) := by unfold VX10_board_7; rw [if_pos c3]
              rw [e] at hJ
              exact r_sub [0, 1, 3, 4, 5] rfl hJ
            · refine r_iload dX10_board_73 0 rfl ?_
              refine r_iload_n dX10_board_75 4 rfl ?_
              refine r_icmp_lt 82 dX10_board_76 (by decide) (fun c5 => ?_) (fun c5 => ?_)
              · refine r_iload dX10_board_82 5 rfl ?_
                refine r_istore_n [(2, _), (5, _), (0, _), (1, _), (3, _), (4, _)] dX10_board_84 (Nat.le_of_ble_eq_true rfl) rfl ?_
                refine r_iload dX10_board_85 1 rfl ?_
                refine r_istore_n [(3, _), (2, _), (5, _), (0, _), (1, _), (4, _)] dX10_board_87 (Nat.le_of_ble_eq_true rfl) rfl ?_
                have e : (VX10_board_5 p1 μ) = (F_X10_worstAt (nI (NX10_board_37 p1 μ)) (SX10_board_37 p1 μ).2.2) := by unfold VX10_board_5; rw [if_pos c3, if_neg c4, if_pos c5]
                rw [e] at hJ
                clear e
                have e : (VX10_board_6 p1 μ) = (nI (NX10_board_37 p1 μ)) := by unfold VX10_board_6; rw [if_pos c3, if_neg c4, if_pos c5]
                rw [e] at hJ
                clear e
                have e : (VX10_board_7 p1 μ) = (muX10_board_4 p1 μ) := by unfold VX10_board_7; rw [if_pos c3]
                rw [e] at hJ
                exact r_sub [0, 1, 3, 4, 5] rfl hJ
              · refine r_goto 88 dX10_board_79 (by decide) ?_
                have e : (VX10_board_5 p1 μ) = (SX10_board_37 p1 μ).2.1 := by unfold VX10_board_5; rw [if_pos c3, if_neg c4, if_neg (i32_nl c5)]
                rw [e] at hJ
                clear e
                have e : (VX10_board_6 p1 μ) = (SX10_board_37 p1 μ).1 := by unfold VX10_board_6; rw [if_pos c3, if_neg c4, if_neg (i32_nl c5)]
                rw [e] at hJ
                clear e
                have e : (VX10_board_7 p1 μ) = (muX10_board_4 p1 μ) := by unfold VX10_board_7; rw [if_pos c3]
                rw [e] at hJ
                exact r_sub [4, 3, 1, 2, 5] rfl hJ
          · replace hP := hP.2 c3
            refine r_goto 88 dX10_board_57 (by decide) ?_
            have e : (VX10_board_5 p1 μ) = (SX10_board_37 p1 μ).2.1 := by unfold VX10_board_5; rw [if_neg c3]
            rw [e] at hJ
            clear e
            have e : (VX10_board_6 p1 μ) = (SX10_board_37 p1 μ).1 := by unfold VX10_board_6; rw [if_neg c3]
            rw [e] at hJ
            clear e
            have e : (VX10_board_7 p1 μ) = (SX10_board_37 p1 μ).2.2 := by unfold VX10_board_7; rw [if_neg c3]
            rw [e] at hJ
            exact r_sub [3, 2, 0, 1, 4] rfl hJ
    · replace hP := hP.2 c1
      refine r_iconst 0 dX10_board_28 rfl ?_
      exact r_ireturn _ dX10_board_29 rfl rfl ⟨congrArg (fun z => some (Value.int z)) (by unfold F_X10_board; rw [if_neg c1]), by unfold M_X10_board; rw [if_neg c1]⟩
  · refine r_if_ne 19 dX10_board_12 (by decide) (fun c1 => ?_) (fun c1 => ?_)
    · refine r_iconst 0 dX10_board_19 rfl ?_
      have e : (VX10_board_2 p1 μ) = 0 := by unfold VX10_board_2; rw [if_pos c1]
      rw [e] at hJ
      exact r_sub [0, 1] rfl hJ
    · refine r_iconst 1 dX10_board_15 rfl ?_
      refine r_goto 20 dX10_board_16 (by decide) ?_
      have e : (VX10_board_2 p1 μ) = 1 := by unfold VX10_board_2; rw [if_neg (not_not_intro c1)]
      rw [e] at hJ
      exact r_sub [0, 1] rfl hJ
def VX10_driftOf_6_1 (v1 : Int32) (v2 : Int32) (v3 : Int32) (μ : Mem) (i : Nat) (s : Int32) : Int32 := (if (F_X10_waterBy 521 s (F_X10_heightIn ((μ 521 62) + (nI i)) μ) μ) < v2 then s else (F_X10_nextHouse s μ))
def g_X10_driftOf_6 (v1 : Int32) (v2 : Int32) (v3 : Int32) (μ : Mem) (i : Nat) (s : Int32) : Int32 := (VX10_driftOf_6_1 v1 v2 v3 μ i s)
def Pb_X10_driftOf_6 (v1 : Int32) (v2 : Int32) (v3 : Int32) (μ : Mem) (i : Nat) (s : Int32) : Prop := ((v3 ≤ (nI i) → False) ∧ ((nI i) < v3 → ((s = (-1) → False) ∧ (¬ s = (-1) → (P_X10_heightIn ((μ 521 62) + (nI i)) μ) ∧ P_X10_waterBy 521 s (F_X10_heightIn ((μ 521 62) + (nI i)) μ) μ))))
def Cb_X10_driftOf_6 (v1 : Int32) (v2 : Int32) (v3 : Int32) (μ : Mem) (i : Nat) (s : Int32) : Bool := (if v3 ≤ (nI i) then false else (if s = (-1) then false else true))
set_option maxRecDepth 20000 in
set_option maxHeartbeats 2000000 in
theorem lp_X10_driftOf_6 {G : SG} (hG : GK 548 G)  (v1 : Int32) (v2 : Int32) (v3 : Int32) (μ : Mem) (s0 : Int32) (N : Nat) (sN : Int32) (eN : sN = fo N (g_X10_driftOf_6 v1 v2 v3 μ) s0) (hN : ∀ i, i < N → Pb_X10_driftOf_6 v1 v2 v3 μ i (fo i (g_X10_driftOf_6 v1 v2 v3 μ) s0)) {t : Nat} {Q : PQ} {X : PX} (h : R G mX10_driftOf 6 [(0, .ref (ga G 57)), (1, .int v1), (2, .int v2), (3, .int v3), (4, .int sN), (5, .int (nI N))] [] μ t Q X) : R G mX10_driftOf 6 [(0, .ref (ga G 57)), (1, .int v1), (2, .int v2), (3, .int v3), (4, .int s0), (5, .int 0)] [] μ t Q X := by
  subst eN
  refine down_i N (fun i => R G mX10_driftOf 6 [(0, .ref (ga G 57)), (1, .int v1), (2, .int v2), (3, .int v3), (4, .int (fo i (g_X10_driftOf_6 v1 v2 v3 μ) s0)), (5, .int (nI i))] [] μ t Q X) h (fun i hi hS => ?_)
  have hP := hN i hi
  rw [fo_succ] at hS
  rw [nI_succ] at hS
  generalize fo i (g_X10_driftOf_6 v1 v2 v3 μ) s0 = s at hS hP ⊢
  unfold Pb_X10_driftOf_6 at hP
  refine r_iload dX10_driftOf_6 5 rfl ?_
  refine r_iload_n dX10_driftOf_8 3 rfl ?_
  refine r_icmp_ge 65 dX10_driftOf_9 (by decide) (fun c1 => ?_) (fun c1 => ?_)
  · replace hP := hP.1 c1
    exact hP.elim
  · replace hP := hP.2 c1
    refine r_iload dX10_driftOf_12 4 rfl ?_
    refine r_iconst (-1) dX10_driftOf_14 rfl ?_
    refine r_icmp_eq 65 dX10_driftOf_15 (by decide) (fun c2 => ?_) (fun c2 => ?_)
    · replace hP := hP.1 c2
      exact hP.elim
    · replace hP := hP.2 c2
      refine r_aload_n dX10_driftOf_18 0 rfl ?_
      refine r_aload_n dX10_driftOf_19 0 rfl ?_
      refine r_getR 521 fX10_73 (hG.lt (by decide)) sh57 fs57_31 dX10_driftOf_20 ?_
      refine r_iload dX10_driftOf_23 4 rfl ?_
      refine r_aload_n dX10_driftOf_25 0 rfl ?_
      refine r_aload_n dX10_driftOf_26 0 rfl ?_
      refine r_getR 521 fX10_73 (hG.lt (by decide)) sh57 fs57_31 dX10_driftOf_27 ?_
      refine r_bipush 62 dX10_driftOf_30 rfl ?_
      refine r_ialdK 62 rfl (hG.lt (by decide)) sh521 (vp_of (by decide) (by decide)) dX10_driftOf_32 ?_
      refine r_iload dX10_driftOf_33 5 rfl ?_
      refine r_iadd dX10_driftOf_35 ?_
      have hs1 := hP.1
      replace hP := hP.2
      refine r_cvI (ok_X10_heightIn hG ((μ 521 62) + (nI i)) μ hs1) lX10_276 (hG.lt (by decide)) sh57 ⟨_, _, rfl⟩ dX10_driftOf_36 (by decide) (Nat.le_of_ble_eq_true rfl) rfl (Nat.le_of_ble_eq_true rfl) ?_
      have hs2 := hP
      refine r_cvI (ok_X10_waterBy hG (hG.lt (by decide)) sh521 s (F_X10_heightIn ((μ 521 62) + (nI i)) μ) μ hs2) lX10_282 (hG.lt (by decide)) sh57 ⟨_, _, rfl⟩ dX10_driftOf_39 (by decide) (Nat.le_of_ble_eq_true rfl) rfl (Nat.le_of_ble_eq_true rfl) ?_
      refine r_iload_n dX10_driftOf_42 2 rfl ?_
      refine r_join 57 [(0, .ref (ga G 57)), (1, .int v1), (2, .int v2), (3, .int v3), (4, .int s), (5, .int (nI i))] [.int (VX10_driftOf_6_1 v1 v2 v3 μ i s)] μ ?_ (fun hJ => ?_)
      · refine r_istore [(4, _), (0, _), (1, _), (2, _), (3, _), (5, _)] dX10_driftOf_57 (Nat.le_of_ble_eq_true rfl) rfl ?_
        refine r_iinc ((nI i) + 1) [(5, _), (4, _), (0, _), (1, _), (2, _), (3, _)] dX10_driftOf_59 5 rfl rfl (Nat.le_of_ble_eq_true rfl) rfl ?_
        refine r_goto 6 dX10_driftOf_62 (by decide) ?_
        have e : g_X10_driftOf_6 v1 v2 v3 μ i s = (VX10_driftOf_6_1 v1 v2 v3 μ i s) := by unfold g_X10_driftOf_6; rfl
        rw [e] at hS
        exact r_sub [2, 3, 4, 5, 1, 0] rfl hS
      · refine r_icmp_lt 55 dX10_driftOf_43 (by decide) (fun c3 => ?_) (fun c3 => ?_)
        · refine r_iload dX10_driftOf_55 4 rfl ?_
          have e : (VX10_driftOf_6_1 v1 v2 v3 μ i s) = s := by unfold VX10_driftOf_6_1; rw [if_pos c3]
          rw [e] at hJ
          exact r_sub [0, 1, 2, 3, 4, 5] rfl hJ
        · refine r_aload_n dX10_driftOf_46 0 rfl ?_
          refine r_iload dX10_driftOf_47 4 rfl ?_
          refine r_cvI (ok_X10_nextHouse hG s μ) lX10_310 (hG.lt (by decide)) sh57 ⟨_, _, rfl⟩ dX10_driftOf_49 (by decide) (Nat.le_of_ble_eq_true rfl) rfl (Nat.le_of_ble_eq_true rfl) ?_
          refine r_goto 57 dX10_driftOf_52 (by decide) ?_
          have e : (VX10_driftOf_6_1 v1 v2 v3 μ i s) = (F_X10_nextHouse s μ) := by unfold VX10_driftOf_6_1; rw [if_neg (i32_nl c3)]
          rw [e] at hJ
          exact r_sub [0, 1, 2, 3, 4, 5] rfl hJ
def NX10_driftOf_6 (p1 : Int32) (p2 : Int32) (p3 : Int32) (μ : Mem) : Nat := (fst 25 (fun j9 => !Cb_X10_driftOf_6 p1 p2 p3 μ j9 (fo j9 (g_X10_driftOf_6 p1 p2 p3 μ) p1)))
def SX10_driftOf_6 (p1 : Int32) (p2 : Int32) (p3 : Int32) (μ : Mem) : Int32 := fo (NX10_driftOf_6 p1 p2 p3 μ) (g_X10_driftOf_6 p1 p2 p3 μ) p1
def VX10_driftOf_1 (p1 : Int32) (p2 : Int32) (p3 : Int32) (μ : Mem) : Int32 := (if (F_X10_waterBy 521 (SX10_driftOf_6 p1 p2 p3 μ) (F_X10_heightIn ((μ 521 62) + (nI (NX10_driftOf_6 p1 p2 p3 μ))) μ) μ) < p2 then (SX10_driftOf_6 p1 p2 p3 μ) else (F_X10_nextHouse (SX10_driftOf_6 p1 p2 p3 μ) μ))
def F_X10_driftOf (p1 : Int32) (p2 : Int32) (p3 : Int32) (μ : Mem) : Int32 := (SX10_driftOf_6 p1 p2 p3 μ)
def P_X10_driftOf (p1 : Int32) (p2 : Int32) (p3 : Int32) (μ : Mem) : Prop := ((∀ j9, j9 < (NX10_driftOf_6 p1 p2 p3 μ) → Pb_X10_driftOf_6 p1 p2 p3 μ j9 (fo j9 (g_X10_driftOf_6 p1 p2 p3 μ) p1)) ∧ ((p3 ≤ (nI (NX10_driftOf_6 p1 p2 p3 μ)) → True) ∧ ((nI (NX10_driftOf_6 p1 p2 p3 μ)) < p3 → (((SX10_driftOf_6 p1 p2 p3 μ) = (-1) → True) ∧ (¬ (SX10_driftOf_6 p1 p2 p3 μ) = (-1) → ((P_X10_heightIn ((μ 521 62) + (nI (NX10_driftOf_6 p1 p2 p3 μ))) μ) ∧ ((P_X10_waterBy 521 (SX10_driftOf_6 p1 p2 p3 μ) (F_X10_heightIn ((μ 521 62) + (nI (NX10_driftOf_6 p1 p2 p3 μ))) μ) μ) ∧ False)))))))
set_option maxRecDepth 20000 in
set_option maxHeartbeats 2000000 in
theorem ok_X10_driftOf {G : SG} (hG : GK 548 G) (p1 : Int32) (p2 : Int32) (p3 : Int32) (μ : Mem) (hP : P_X10_driftOf p1 p2 p3 μ) : OkF G mX10_driftOf [.ref (ga G 57), .int p1, .int p2, .int p3] μ (some (.int (F_X10_driftOf p1 p2 p3 μ))) μ := by
  refine okF_of hG rfl rfl (Nat.le_of_ble_eq_true rfl) ?_
  unfold P_X10_driftOf at hP
  refine r_iload_n dX10_driftOf_0 1 rfl ?_
  refine r_istore [(4, _), (0, _), (1, _), (2, _), (3, _)] dX10_driftOf_1 (Nat.le_of_ble_eq_true rfl) rfl ?_
  refine r_iconst 0 dX10_driftOf_3 rfl ?_
  refine r_istore [(5, _), (4, _), (0, _), (1, _), (2, _), (3, _)] dX10_driftOf_4 (Nat.le_of_ble_eq_true rfl) rfl ?_
  have hs1 := hP.1
  replace hP := hP.2
  refine r_sub [2, 3, 4, 5, 1, 0] rfl ?_
  refine lp_X10_driftOf_6 hG p1 p2 p3 μ p1 ((NX10_driftOf_6 p1 p2 p3 μ)) (SX10_driftOf_6 p1 p2 p3 μ) rfl hs1 ?_
  refine r_iload dX10_driftOf_6 5 rfl ?_
  refine r_iload_n dX10_driftOf_8 3 rfl ?_
  refine r_icmp_ge 65 dX10_driftOf_9 (by decide) (fun c1 => ?_) (fun c1 => ?_)
  · replace hP := hP.1 c1
    refine r_iload dX10_driftOf_65 4 rfl ?_
    exact r_ireturn _ dX10_driftOf_67 rfl rfl ⟨congrArg (fun z => some (Value.int z)) (rfl), rfl⟩
  · replace hP := hP.2 c1
    refine r_iload dX10_driftOf_12 4 rfl ?_
    refine r_iconst (-1) dX10_driftOf_14 rfl ?_
    refine r_icmp_eq 65 dX10_driftOf_15 (by decide) (fun c2 => ?_) (fun c2 => ?_)
    · replace hP := hP.1 c2
      refine r_iload dX10_driftOf_65 4 rfl ?_
      exact r_ireturn _ dX10_driftOf_67 rfl rfl ⟨congrArg (fun z => some (Value.int z)) (rfl), rfl⟩
    · replace hP := hP.2 c2
      refine r_aload_n dX10_driftOf_18 0 rfl ?_
      refine r_aload_n dX10_driftOf_19 0 rfl ?_
      refine r_getR 521 fX10_73 (hG.lt (by decide)) sh57 fs57_31 dX10_driftOf_20 ?_
      refine r_iload dX10_driftOf_23 4 rfl ?_
      refine r_aload_n dX10_driftOf_25 0 rfl ?_
      refine r_aload_n dX10_driftOf_26 0 rfl ?_
      refine r_getR 521 fX10_73 (hG.lt (by decide)) sh57 fs57_31 dX10_driftOf_27 ?_
      refine r_bipush 62 dX10_driftOf_30 rfl ?_
      refine r_ialdK 62 rfl (hG.lt (by decide)) sh521 (vp_of (by decide) (by decide)) dX10_driftOf_32 ?_
      refine r_iload dX10_driftOf_33 5 rfl ?_
      refine r_iadd dX10_driftOf_35 ?_
      have hs6 := hP.1
      replace hP := hP.2
      refine r_cvI (ok_X10_heightIn hG ((μ 521 62) + (nI (NX10_driftOf_6 p1 p2 p3 μ))) μ hs6) lX10_276 (hG.lt (by decide)) sh57 ⟨_, _, rfl⟩ dX10_driftOf_36 (by decide) (Nat.le_of_ble_eq_true rfl) rfl (Nat.le_of_ble_eq_true rfl) ?_
      have hs7 := hP.1
      replace hP := hP.2
      refine r_cvI (ok_X10_waterBy hG (hG.lt (by decide)) sh521 (SX10_driftOf_6 p1 p2 p3 μ) (F_X10_heightIn ((μ 521 62) + (nI (NX10_driftOf_6 p1 p2 p3 μ))) μ) μ hs7) lX10_282 (hG.lt (by decide)) sh57 ⟨_, _, rfl⟩ dX10_driftOf_39 (by decide) (Nat.le_of_ble_eq_true rfl) rfl (Nat.le_of_ble_eq_true rfl) ?_
      refine r_iload_n dX10_driftOf_42 2 rfl ?_
      refine r_join 57 [(0, .ref (ga G 57)), (1, .int p1), (2, .int p2), (3, .int p3), (4, .int (SX10_driftOf_6 p1 p2 p3 μ)), (5, .int (nI (NX10_driftOf_6 p1 p2 p3 μ)))] [.int (VX10_driftOf_1 p1 p2 p3 μ)] μ ?_ (fun hJ => ?_)
      · refine r_istore [(4, _), (0, _), (1, _), (2, _), (3, _), (5, _)] dX10_driftOf_57 (Nat.le_of_ble_eq_true rfl) rfl ?_
        refine r_iinc ((nI (NX10_driftOf_6 p1 p2 p3 μ)) + 1) [(5, _), (4, _), (0, _), (1, _), (2, _), (3, _)] dX10_driftOf_59 5 rfl rfl (Nat.le_of_ble_eq_true rfl) rfl ?_
        refine r_goto 6 dX10_driftOf_62 (by decide) ?_
        exact hP.elim
      · refine r_icmp_lt 55 dX10_driftOf_43 (by decide) (fun c3 => ?_) (fun c3 => ?_)
        · refine r_iload dX10_driftOf_55 4 rfl ?_
          have e : (VX10_driftOf_1 p1 p2 p3 μ) = (SX10_driftOf_6 p1 p2 p3 μ) := by unfold VX10_driftOf_1; rw [if_pos c3]
          rw [e] at hJ
          exact r_sub [0, 1, 2, 3, 4, 5] rfl hJ
        · refine r_aload_n dX10_driftOf_46 0 rfl ?_
          refine r_iload dX10_driftOf_47 4 rfl ?_
          refine r_cvI (ok_X10_nextHouse hG (SX10_driftOf_6 p1 p2 p3 μ) μ) lX10_310 (hG.lt (by decide)) sh57 ⟨_, _, rfl⟩ dX10_driftOf_49 (by decide) (Nat.le_of_ble_eq_true rfl) rfl (Nat.le_of_ble_eq_true rfl) ?_
          refine r_goto 57 dX10_driftOf_52 (by decide) ?_
          have e : (VX10_driftOf_1 p1 p2 p3 μ) = (F_X10_nextHouse (SX10_driftOf_6 p1 p2 p3 μ) μ) := by unfold VX10_driftOf_1; rw [if_neg (i32_nl c3)]
          rw [e] at hJ
          exact r_sub [0, 1, 2, 3, 4, 5] rfl hJ
def muX10_drift_1 (p1 : Int32) (p2 : Int32) (p3 : Int32) (μ : Mem) : Mem := (upm μ 57 0 0)
def VX10_drift_2 (p1 : Int32) (p2 : Int32) (p3 : Int32) (μ : Mem) : Int32 := (if (F_X10_isHouse p1 (muX10_drift_1 p1 p2 p3 μ)) ≠ 0 then 0 else 1)
theorem bo_VX10_drift_2 (p1 : Int32) (p2 : Int32) (p3 : Int32) (μ : Mem) : (VX10_drift_2 p1 p2 p3 μ) = 0 ∨ (VX10_drift_2 p1 p2 p3 μ) = 1 := by
  unfold VX10_drift_2
  split
  · exact Or.inl rfl
  · exact Or.inr rfl
def muX10_drift_3 (p1 : Int32) (p2 : Int32) (p3 : Int32) (μ : Mem) : Mem := (M_X10_bad (VX10_drift_2 p1 p2 p3 μ) 1 0 (muX10_drift_1 p1 p2 p3 μ))
def VX10_drift_4 (p1 : Int32) (p2 : Int32) (p3 : Int32) (μ : Mem) : Int32 := (if (F_X10_isIn p2 1 20 (muX10_drift_3 p1 p2 p3 μ)) = 0 then 1 else (if (F_X10_isIn p3 0 24 (muX10_drift_3 p1 p2 p3 μ)) ≠ 0 then 0 else 1))
theorem bo_VX10_drift_4 (p1 : Int32) (p2 : Int32) (p3 : Int32) (μ : Mem) : (VX10_drift_4 p1 p2 p3 μ) = 0 ∨ (VX10_drift_4 p1 p2 p3 μ) = 1 := by
  unfold VX10_drift_4
  split
  · exact Or.inr rfl
  · split
    · exact Or.inl rfl
    · exact Or.inr rfl
def muX10_drift_5 (p1 : Int32) (p2 : Int32) (p3 : Int32) (μ : Mem) : Mem := (M_X10_bad (VX10_drift_4 p1 p2 p3 μ) 2 1 (muX10_drift_3 p1 p2 p3 μ))
def F_X10_drift (p1 : Int32) (p2 : Int32) (p3 : Int32) (μ : Mem) : Int32 := (if (F_X10_bad (VX10_drift_2 p1 p2 p3 μ) 1 0 (muX10_drift_1 p1 p2 p3 μ)) ≠ 0 then 0 else (if (F_X10_bad (VX10_drift_4 p1 p2 p3 μ) 2 1 (muX10_drift_3 p1 p2 p3 μ)) = 0 then (F_X10_driftOf p1 p2 p3 (muX10_drift_5 p1 p2 p3 μ)) else 0))
def M_X10_drift (p1 : Int32) (p2 : Int32) (p3 : Int32) (μ : Mem) : Mem := (if (F_X10_bad (VX10_drift_2 p1 p2 p3 μ) 1 0 (muX10_drift_1 p1 p2 p3 μ)) ≠ 0 then (muX10_drift_3 p1 p2 p3 μ) else (muX10_drift_5 p1 p2 p3 μ))
def P_X10_drift (p1 : Int32) (p2 : Int32) (p3 : Int32) (μ : Mem) : Prop := ((P_X10_bad (VX10_drift_2 p1 p2 p3 μ) 1 0 (muX10_drift_1 p1 p2 p3 μ)) ∧ (((F_X10_bad (VX10_drift_2 p1 p2 p3 μ) 1 0 (muX10_drift_1 p1 p2 p3 μ)) ≠ 0 → True) ∧ ((F_X10_bad (VX10_drift_2 p1 p2 p3 μ) 1 0 (muX10_drift_1 p1 p2 p3 μ)) = 0 → ((P_X10_bad (VX10_drift_4 p1 p2 p3 μ) 2 1 (muX10_drift_3 p1 p2 p3 μ)) ∧ (((F_X10_bad (VX10_drift_4 p1 p2 p3 μ) 2 1 (muX10_drift_3 p1 p2 p3 μ)) = 0 → (P_X10_driftOf p1 p2 p3 (muX10_drift_5 p1 p2 p3 μ))) ∧ (¬ (F_X10_bad (VX10_drift_4 p1 p2 p3 μ) 2 1 (muX10_drift_3 p1 p2 p3 μ)) = 0 → True))))))
set_option maxRecDepth 20000 in
set_option maxHeartbeats 2000000 in
theorem ok_X10_drift {G : SG} (hG : GK 548 G) (p1 : Int32) (p2 : Int32) (p3 : Int32) (μ : Mem) (hP : P_X10_drift p1 p2 p3 μ) : OkF G mX10_drift [.ref (ga G 57), .int p1, .int p2, .int p3] μ (some (.int (F_X10_drift p1 p2 p3 μ))) (M_X10_drift p1 p2 p3 μ) := by
  refine okF_of hG rfl rfl (Nat.le_of_ble_eq_true rfl) ?_
  unfold P_X10_drift at hP
  refine r_aload_n dX10_drift_0 0 rfl ?_
  refine r_iconst 0 dX10_drift_1 rfl ?_
  refine r_put fiX10_103 (hG.lt (by decide)) sh57 fs57_0 dX10_drift_2 ?_
  refine r_mu (muX10_drift_1 p1 p2 p3 μ) rfl ?_
  refine r_aload_n dX10_drift_5 0 rfl ?_
  refine r_aload_n dX10_drift_6 0 rfl ?_
  refine r_iload_n dX10_drift_7 1 rfl ?_
  refine r_cvI (ok_X10_isHouse hG p1 (muX10_drift_1 p1 p2 p3 μ)) lX10_347 (hG.lt (by decide)) sh57 ⟨_, _, rfl⟩ dX10_drift_8 (by decide) (Nat.le_of_ble_eq_true rfl) rfl (Nat.le_of_ble_eq_true rfl) ?_
  refine r_join 19 [(0, .ref (ga G 57)), (1, .int p1), (2, .int p2), (3, .int p3)] [.int (VX10_drift_2 p1 p2 p3 μ), .ref (ga G 57)] (muX10_drift_1 p1 p2 p3 μ) ?_ (fun hJ => ?_)
  · refine r_iconst 1 dX10_drift_19 rfl ?_
    refine r_iconst 0 dX10_drift_20 rfl ?_
    have hs1 := hP.1
    replace hP := hP.2
    refine r_cvI (ok_X10_bad hG (VX10_drift_2 p1 p2 p3 μ) 1 0 (muX10_drift_1 p1 p2 p3 μ) hs1) lX10_186 (hG.lt (by decide)) sh57 ⟨_, _, rfl⟩ dX10_drift_21 (by decide) (Nat.le_of_ble_eq_true rfl) rfl (Nat.le_of_ble_eq_true rfl) ?_
    refine r_mu (muX10_drift_3 p1 p2 p3 μ) rfl ?_
    refine r_if_ne 61 dX10_drift_24 (by decide) (fun c1 => ?_) (fun c1 => ?_)
    · replace hP := hP.1 c1
      refine r_iconst 0 dX10_drift_61 rfl ?_
      exact r_ireturn _ dX10_drift_62 rfl rfl ⟨congrArg (fun z => some (Value.int z)) (by unfold F_X10_drift; rw [if_pos c1]), by unfold M_X10_drift; rw [if_pos c1]⟩
    · replace hP := hP.2 c1
      refine r_aload_n dX10_drift_27 0 rfl ?_
      refine r_iload_n dX10_drift_28 2 rfl ?_
      refine r_iconst 1 dX10_drift_29 rfl ?_
      refine r_bipush 20 dX10_drift_30 rfl ?_
      refine r_csI (ok_X10_isIn hG p2 1 20 (muX10_drift_3 p1 p2 p3 μ)) lX10_137 dX10_drift_32 (by decide) (Nat.le_of_ble_eq_true rfl) rfl (Nat.le_of_ble_eq_true rfl) ?_
      refine r_join 53 [(0, .ref (ga G 57)), (1, .int p1), (2, .int p2), (3, .int p3)] [.int (VX10_drift_4 p1 p2 p3 μ), .ref (ga G 57)] (muX10_drift_3 p1 p2 p3 μ) ?_ (fun hJ => ?_)
      · refine r_iconst 2 dX10_drift_53 rfl ?_
        refine r_iconst 1 dX10_drift_54 rfl ?_
        have hs2 := hP.1
        replace hP := hP.2
        refine r_cvI (ok_X10_bad hG (VX10_drift_4 p1 p2 p3 μ) 2 1 (muX10_drift_3 p1 p2 p3 μ) hs2) lX10_186 (hG.lt (by decide)) sh57 ⟨_, _, rfl⟩ dX10_drift_55 (by decide) (Nat.le_of_ble_eq_true rfl) rfl (Nat.le_of_ble_eq_true rfl) ?_
        refine r_mu (muX10_drift_5 p1 p2 p3 μ) rfl ?_
        refine r_if_eq 63 dX10_drift_58 (by decide) (fun c2 => ?_) (fun c2 => ?_)
        · replace hP := hP.1 c2
          refine r_aload_n dX10_drift_63 0 rfl ?_
          refine r_iload_n dX10_drift_64 1 rfl ?_
          refine r_iload_n dX10_drift_65 2 rfl ?_
          refine r_iload_n dX10_drift_66 3 rfl ?_
          have hs3 := hP
          refine r_cvI (ok_X10_driftOf hG p1 p2 p3 (muX10_drift_5 p1 p2 p3 μ) hs3) lX10_394 (hG.lt (by decide)) sh57 ⟨_, _, rfl⟩ dX10_drift_67 (by decide) (Nat.le_of_ble_eq_true rfl) rfl (Nat.le_of_ble_eq_true rfl) ?_
          exact r_ireturn _ dX10_drift_70 rfl rfl ⟨congrArg (fun z => some (Value.int z)) (by unfold F_X10_drift; rw [if_neg (not_not_intro c1), if_pos c2]), by unfold M_X10_drift; rw [if_neg (not_not_intro c1)]⟩
        · replace hP := hP.2 c2
          refine r_iconst 0 dX10_drift_61 rfl ?_
          exact r_ireturn _ dX10_drift_62 rfl rfl ⟨congrArg (fun z => some (Value.int z)) (by unfold F_X10_drift; rw [if_neg (not_not_intro c1), if_neg c2]), by unfold M_X10_drift; rw [if_neg (not_not_intro c1)]⟩
      · refine r_if_eq 48 dX10_drift_35 (by decide) (fun c2 => ?_) (fun c2 => ?_)
        · refine r_iconst 1 dX10_drift_48 rfl ?_
          refine r_goto 53 dX10_drift_49 (by decide) ?_
          have e : (VX10_drift_4 p1 p2 p3 μ) = 1 := by unfold VX10_drift_4; rw [if_pos c2]
          rw [e] at hJ
          exact r_sub [0, 1, 2, 3] rfl hJ
        · refine r_iload_n dX10_drift_38 3 rfl ?_
          refine r_iconst 0 dX10_drift_39 rfl ?_
          refine r_bipush 24 dX10_drift_40 rfl ?_
          refine r_csI (ok_X10_isIn hG p3 0 24 (muX10_drift_3 p1 p2 p3 μ)) lX10_137 dX10_drift_42 (by decide) (Nat.le_of_ble_eq_true rfl) rfl (Nat.le_of_ble_eq_true rfl) ?_
          refine r_if_ne 52 dX10_drift_45 (by decide) (fun c3 => ?_) (fun c3 => ?_)
          · refine r_iconst 0 dX10_drift_52 rfl ?_
            have e : (VX10_drift_4 p1 p2 p3 μ) = 0 := by unfold VX10_drift_4; rw [if_neg c2, if_pos c3]
            rw [e] at hJ
            exact r_sub [0, 1, 2, 3] rfl hJ
          · refine r_iconst 1 dX10_drift_48 rfl ?_
            refine r_goto 53 dX10_drift_49 (by decide) ?_
            have e : (VX10_drift_4 p1 p2 p3 μ) = 1 := by unfold VX10_drift_4; rw [if_neg c2, if_neg (not_not_intro c3)]
            rw [e] at hJ
            exact r_sub [0, 1, 2, 3] rfl hJ
  · refine r_if_ne 18 dX10_drift_11 (by decide) (fun c1 => ?_) (fun c1 => ?_)
    · refine r_iconst 0 dX10_drift_18 rfl ?_
      have e : (VX10_drift_2 p1 p2 p3 μ) = 0 := by unfold VX10_drift_2; rw [if_pos c1]
      rw [e] at hJ
      exact r_sub [0, 1, 2, 3] rfl hJ
    · refine r_iconst 1 dX10_drift_14 rfl ?_
      refine r_goto 19 dX10_drift_15 (by decide) ?_
      have e : (VX10_drift_2 p1 p2 p3 μ) = 1 := by unfold VX10_drift_2; rw [if_neg (not_not_intro c1)]
      rw [e] at hJ
      exact r_sub [0, 1, 2, 3] rfl hJ
def muX10_whence_1 (p1 : Int32) (p2 : Int32) (p3 : Int32) (μ : Mem) : Mem := (upm μ 57 0 0)
def VX10_whence_2 (p1 : Int32) (p2 : Int32) (p3 : Int32) (μ : Mem) : Int32 := (if (F_X10_isHouse p1 (muX10_whence_1 p1 p2 p3 μ)) ≠ 0 then 0 else 1)
theorem bo_VX10_whence_2 (p1 : Int32) (p2 : Int32) (p3 : Int32) (μ : Mem) : (VX10_whence_2 p1 p2 p3 μ) = 0 ∨ (VX10_whence_2 p1 p2 p3 μ) = 1 := by
  unfold VX10_whence_2
  split
  · exact Or.inl rfl
  · exact Or.inr rfl
def muX10_whence_3 (p1 : Int32) (p2 : Int32) (p3 : Int32) (μ : Mem) : Mem := (M_X10_bad (VX10_whence_2 p1 p2 p3 μ) 1 0 (muX10_whence_1 p1 p2 p3 μ))
def VX10_whence_4 (p1 : Int32) (p2 : Int32) (p3 : Int32) (μ : Mem) : Int32 := (if (F_X10_isIn p2 0 24 (muX10_whence_3 p1 p2 p3 μ)) = 0 then 1 else (if (F_X10_isIn p3 0 2 (muX10_whence_3 p1 p2 p3 μ)) ≠ 0 then 0 else 1))
theorem bo_VX10_whence_4 (p1 : Int32) (p2 : Int32) (p3 : Int32) (μ : Mem) : (VX10_whence_4 p1 p2 p3 μ) = 0 ∨ (VX10_whence_4 p1 p2 p3 μ) = 1 := by
  unfold VX10_whence_4
  split
  · exact Or.inr rfl
  · split
    · exact Or.inl rfl
    · exact Or.inr rfl
def muX10_whence_5 (p1 : Int32) (p2 : Int32) (p3 : Int32) (μ : Mem) : Mem := (M_X10_bad (VX10_whence_4 p1 p2 p3 μ) 2 1 (muX10_whence_3 p1 p2 p3 μ))
def VX10_whence_83_1 (v1 : Int32) (v2 : Int32) (v3 : Int32) (v7 : Int32) (μ : Mem) (i : Nat) (s : Int32 × Int32 × Int32) : Int32 := (if (F_X10_driftOf (nI i) v7 v2 μ) = v1 then v7 else s.2.2)
def VX10_whence_83_2 (v1 : Int32) (v2 : Int32) (v3 : Int32) (v7 : Int32) (μ : Mem) (i : Nat) (s : Int32 × Int32 × Int32) : Int32 := (if (F_X10_driftOf (nI i) v7 v2 μ) = v1 then (s.2.1 ||| ((1 : Int32) <<< ((nI i) &&& 31))) else s.2.1)
def VX10_whence_83_3 (v1 : Int32) (v2 : Int32) (v3 : Int32) (v7 : Int32) (μ : Mem) (i : Nat) (s : Int32 × Int32 × Int32) : Int32 := (if (F_X10_driftOf (nI i) v7 v2 μ) = v1 then (s.1 + 1) else s.1)
def g_X10_whence_83 (v1 : Int32) (v2 : Int32) (v3 : Int32) (v7 : Int32) (μ : Mem) (i : Nat) (s : Int32 × Int32 × Int32) : Int32 × Int32 × Int32 := ((VX10_whence_83_3 v1 v2 v3 v7 μ i s), (VX10_whence_83_2 v1 v2 v3 v7 μ i s), (VX10_whence_83_1 v1 v2 v3 v7 μ i s))
def Pb_X10_whence_83 (v1 : Int32) (v2 : Int32) (v3 : Int32) (v7 : Int32) (μ : Mem) (i : Nat) (s : Int32 × Int32 × Int32) : Prop := (((μ 61 0) ≤ (nI i) → False) ∧ ((nI i) < (μ 61 0) → P_X10_driftOf (nI i) v7 v2 μ))
set_option maxRecDepth 20000 in
set_option maxHeartbeats 2000000 in
theorem lp_X10_whence_83 {G : SG} (hG : GK 548 G)  (v1 : Int32) (v2 : Int32) (v3 : Int32) (v7 : Int32) (μ : Mem) (s0 : Int32 × Int32 × Int32) (N : Nat) (sN : Int32 × Int32 × Int32) (eN : sN = fo N (g_X10_whence_83 v1 v2 v3 v7 μ) s0) (hN : ∀ i, i < N → Pb_X10_whence_83 v1 v2 v3 v7 μ i (fo i (g_X10_whence_83 v1 v2 v3 v7 μ) s0)) {t : Nat} {Q : PQ} {X : PX} (h : R G mX10_whence 83 [(0, .ref (ga G 57)), (1, .int v1), (2, .int v2), (3, .int v3), (4, .int (sN).1), (5, .int (sN).2.1), (6, .int (sN).2.2), (7, .int v7), (8, .int (nI N))] [] μ t Q X) : R G mX10_whence 83 [(0, .ref (ga G 57)), (1, .int v1), (2, .int v2), (3, .int v3), (4, .int (s0).1), (5, .int (s0).2.1), (6, .int (s0).2.2), (7, .int v7), (8, .int 0)] [] μ t Q X := by
  subst eN
  refine down_i N (fun i => R G mX10_whence 83 [(0, .ref (ga G 57)), (1, .int v1), (2, .int v2), (3, .int v3), (4, .int ((fo i (g_X10_whence_83 v1 v2 v3 v7 μ) s0)).1), (5, .int ((fo i (g_X10_whence_83 v1 v2 v3 v7 μ) s0)).2.1), (6, .int ((fo i (g_X10_whence_83 v1 v2 v3 v7 μ) s0)).2.2), (7, .int v7), (8, .int (nI i))] [] μ t Q X) h (fun i hi hS => ?_)
  have hP := hN i hi
  rw [fo_succ] at hS
  rw [nI_succ] at hS
  generalize fo i (g_X10_whence_83 v1 v2 v3 v7 μ) s0 = s at hS hP ⊢
  unfold Pb_X10_whence_83 at hP
  refine r_iload dX10_whence_83 8 rfl ?_
  refine r_aload_n dX10_whence_85 0 rfl ?_
  refine r_getR 61 fX10_23 (hG.lt (by decide)) sh57 fs57_12 dX10_whence_86 ?_
  refine r_iconst 0 dX10_whence_89 rfl ?_
  refine r_ialdK 0 rfl (hG.lt (by decide)) sh61 (vp_of (by decide) (by decide)) dX10_whence_90 ?_
  refine r_icmp_ge 132 dX10_whence_91 (by decide) (fun c1 => ?_) (fun c1 => ?_)
  · replace hP := hP.1 c1
    exact hP.elim
  · replace hP := hP.2 c1
    refine r_aload_n dX10_whence_94 0 rfl ?_
    refine r_iload dX10_whence_95 8 rfl ?_
    refine r_iload dX10_whence_97 7 rfl ?_
    refine r_iload_n dX10_whence_99 2 rfl ?_
    have hs1 := hP
    refine r_cvI (ok_X10_driftOf hG (nI i) v7 v2 μ hs1) lX10_394 (hG.lt (by decide)) sh57 ⟨_, _, rfl⟩ dX10_whence_100 (by decide) (Nat.le_of_ble_eq_true rfl) rfl (Nat.le_of_ble_eq_true rfl) ?_
    refine r_iload_n dX10_whence_103 1 rfl ?_
    refine r_join 126 [(6, .int (VX10_whence_83_1 v1 v2 v3 v7 μ i s)), (5, .int (VX10_whence_83_2 v1 v2 v3 v7 μ i s)), (4, .int (VX10_whence_83_3 v1 v2 v3 v7 μ i s)), (0, .ref (ga G 57)), (1, .int v1), (2, .int v2), (3, .int v3), (7, .int v7), (8, .int (nI i))] [] μ ?_ (fun hJ => ?_)
    · refine r_iinc ((nI i) + 1) [(8, _), (6, _), (5, _), (4, _), (0, _), (1, _), (2, _), (3, _), (7, _)] dX10_whence_126 8 rfl rfl (Nat.le_of_ble_eq_true rfl) rfl ?_
      refine r_goto 83 dX10_whence_129 (by decide) ?_
      have e : g_X10_whence_83 v1 v2 v3 v7 μ i s = ((VX10_whence_83_3 v1 v2 v3 v7 μ i s), (VX10_whence_83_2 v1 v2 v3 v7 μ i s), (VX10_whence_83_1 v1 v2 v3 v7 μ i s)) := by unfold g_X10_whence_83; rfl
      rw [e] at hS
      dsimp only at hS
      exact r_sub [4, 5, 6, 7, 3, 2, 1, 8, 0] rfl hS
    · refine r_icmp_eq 110 dX10_whence_104 (by decide) (fun c2 => ?_) (fun c2 => ?_)
      · refine r_iinc (s.1 + 1) [(4, _), (0, _), (1, _), (2, _), (3, _), (5, _), (6, _), (7, _), (8, _)] dX10_whence_110 4 rfl rfl (Nat.le_of_ble_eq_true rfl) rfl ?_
        refine r_iload dX10_whence_113 5 rfl ?_
        refine r_iconst 1 dX10_whence_115 rfl ?_
        refine r_iload dX10_whence_116 8 rfl ?_
        refine r_ishl dX10_whence_118 rfl ?_
        refine r_ior dX10_whence_119 ?_
        refine r_istore [(5, _), (4, _), (0, _), (1, _), (2, _), (3, _), (6, _), (7, _), (8, _)] dX10_whence_120 (Nat.le_of_ble_eq_true rfl) rfl ?_
        refine r_iload dX10_whence_122 7 rfl ?_
        refine r_istore [(6, _), (5, _), (4, _), (0, _), (1, _), (2, _), (3, _), (7, _), (8, _)] dX10_whence_124 (Nat.le_of_ble_eq_true rfl) rfl ?_
        have e : (VX10_whence_83_1 v1 v2 v3 v7 μ i s) = v7 := by unfold VX10_whence_83_1; rw [if_pos c2]
        rw [e] at hJ
        clear e
        have e : (VX10_whence_83_2 v1 v2 v3 v7 μ i s) = (s.2.1 ||| ((1 : Int32) <<< ((nI i) &&& 31))) := by unfold VX10_whence_83_2; rw [if_pos c2]
        rw [e] at hJ
        clear e
        have e : (VX10_whence_83_3 v1 v2 v3 v7 μ i s) = (s.1 + 1) := by unfold VX10_whence_83_3; rw [if_pos c2]
        rw [e] at hJ
        exact r_sub [0, 1, 2, 3, 4, 5, 6, 7, 8] rfl hJ
      · refine r_goto 126 dX10_whence_107 (by decide) ?_
        have e : (VX10_whence_83_1 v1 v2 v3 v7 μ i s) = s.2.2 := by unfold VX10_whence_83_1; rw [if_neg c2]
        rw [e] at hJ
        clear e
        have e : (VX10_whence_83_2 v1 v2 v3 v7 μ i s) = s.2.1 := by unfold VX10_whence_83_2; rw [if_neg c2]
        rw [e] at hJ
        clear e
        have e : (VX10_whence_83_3 v1 v2 v3 v7 μ i s) = s.1 := by unfold VX10_whence_83_3; rw [if_neg c2]
        rw [e] at hJ
        exact r_sub [6, 5, 4, 0, 1, 2, 3, 7, 8] rfl hJ
def NX10_whence_75_83 (v1 : Int32) (v2 : Int32) (v3 : Int32) (μ : Mem) (i : Nat) (s : Int32 × Int32 × Int32 × Int32) : Nat := ix (μ 61 0)
def SX10_whence_75_83 (v1 : Int32) (v2 : Int32) (v3 : Int32) (μ : Mem) (i : Nat) (s : Int32 × Int32 × Int32 × Int32) : Int32 × Int32 × Int32 := fo (NX10_whence_75_83 v1 v2 v3 μ i s) (g_X10_whence_83 v1 v2 v3 s.2.2.2 μ) (s.1, s.2.1, s.2.2.1)
def VX10_whence_75_1 (v1 : Int32) (v2 : Int32) (v3 : Int32) (μ : Mem) (i : Nat) (s : Int32 × Int32 × Int32 × Int32) : Int32 := (if (F_X10_driftOf (nI (NX10_whence_75_83 v1 v2 v3 μ i s)) s.2.2.2 v2 μ) = v1 then s.2.2.2 else (SX10_whence_75_83 v1 v2 v3 μ i s).2.2)
def VX10_whence_75_2 (v1 : Int32) (v2 : Int32) (v3 : Int32) (μ : Mem) (i : Nat) (s : Int32 × Int32 × Int32 × Int32) : Int32 := (if (F_X10_driftOf (nI (NX10_whence_75_83 v1 v2 v3 μ i s)) s.2.2.2 v2 μ) = v1 then ((SX10_whence_75_83 v1 v2 v3 μ i s).2.1 ||| ((1 : Int32) <<< ((nI (NX10_whence_75_83 v1 v2 v3 μ i s)) &&& 31))) else (SX10_whence_75_83 v1 v2 v3 μ i s).2.1)
def VX10_whence_75_3 (v1 : Int32) (v2 : Int32) (v3 : Int32) (μ : Mem) (i : Nat) (s : Int32 × Int32 × Int32 × Int32) : Int32 := (if (F_X10_driftOf (nI (NX10_whence_75_83 v1 v2 v3 μ i s)) s.2.2.2 v2 μ) = v1 then ((SX10_whence_75_83 v1 v2 v3 μ i s).1 + 1) else (SX10_whence_75_83 v1 v2 v3 μ i s).1)
def g_X10_whence_75 (v1 : Int32) (v2 : Int32) (v3 : Int32) (μ : Mem) (i : Nat) (s : Int32 × Int32 × Int32 × Int32) : Int32 × Int32 × Int32 × Int32 := ((SX10_whence_75_83 v1 v2 v3 μ i s).1, (SX10_whence_75_83 v1 v2 v3 μ i s).2.1, (SX10_whence_75_83 v1 v2 v3 μ i s).2.2, (s.2.2.2 + (-1)))
def Pb_X10_whence_75 (v1 : Int32) (v2 : Int32) (v3 : Int32) (μ : Mem) (i : Nat) (s : Int32 × Int32 × Int32 × Int32) : Prop := ((s.2.2.2 ≤ 0 → False) ∧ (0 < s.2.2.2 → (∀ j9, j9 < (NX10_whence_75_83 v1 v2 v3 μ i s) → Pb_X10_whence_83 v1 v2 v3 s.2.2.2 μ j9 (fo j9 (g_X10_whence_83 v1 v2 v3 s.2.2.2 μ) (s.1, s.2.1, s.2.2.1))) ∧ (((μ 61 0) ≤ (nI (NX10_whence_75_83 v1 v2 v3 μ i s)) → True) ∧ ((nI (NX10_whence_75_83 v1 v2 v3 μ i s)) < (μ 61 0) → (P_X10_driftOf (nI (NX10_whence_75_83 v1 v2 v3 μ i s)) s.2.2.2 v2 μ) ∧ False))))
set_option maxRecDepth 20000 in
set_option maxHeartbeats 2000000 in
theorem lp_X10_whence_75 {G : SG} (hG : GK 548 G)  (v1 : Int32) (v2 : Int32) (v3 : Int32) (μ : Mem) (s0 : Int32 × Int32 × Int32 × Int32) (N : Nat) (sN : Int32 × Int32 × Int32 × Int32) (eN : sN = fo N (g_X10_whence_75 v1 v2 v3 μ) s0) (hN : ∀ i, i < N → Pb_X10_whence_75 v1 v2 v3 μ i (fo i (g_X10_whence_75 v1 v2 v3 μ) s0)) {t : Nat} {Q : PQ} {X : PX} (h : R G mX10_whence 75 [(0, .ref (ga G 57)), (1, .int v1), (2, .int v2), (3, .int v3), (4, .int (sN).1), (5, .int (sN).2.1), (6, .int (sN).2.2.1), (7, .int (sN).2.2.2)] [] μ t Q X) : R G mX10_whence 75 [(0, .ref (ga G 57)), (1, .int v1), (2, .int v2), (3, .int v3), (4, .int (s0).1), (5, .int (s0).2.1), (6, .int (s0).2.2.1), (7, .int (s0).2.2.2)] [] μ t Q X := by
  subst eN
  refine down_i N (fun i => R G mX10_whence 75 [(0, .ref (ga G 57)), (1, .int v1), (2, .int v2), (3, .int v3), (4, .int ((fo i (g_X10_whence_75 v1 v2 v3 μ) s0)).1), (5, .int ((fo i (g_X10_whence_75 v1 v2 v3 μ) s0)).2.1), (6, .int ((fo i (g_X10_whence_75 v1 v2 v3 μ) s0)).2.2.1), (7, .int ((fo i (g_X10_whence_75 v1 v2 v3 μ) s0)).2.2.2)] [] μ t Q X) h (fun i hi hS => ?_)
  have hP := hN i hi
  rw [fo_succ] at hS
  generalize fo i (g_X10_whence_75 v1 v2 v3 μ) s0 = s at hS hP ⊢
  unfold Pb_X10_whence_75 at hP
  refine r_iload dX10_whence_75 7 rfl ?_
  refine r_if_le 138 dX10_whence_77 (by decide) (fun c1 => ?_) (fun c1 => ?_)
  · replace hP := hP.1 c1
    exact hP.elim
  · replace hP := hP.2 c1
    refine r_iconst 0 dX10_whence_80 rfl ?_
    refine r_istore [(8, _), (0, _), (1, _), (2, _), (3, _), (4, _), (5, _), (6, _), (7, _)] dX10_whence_81 (Nat.le_of_ble_eq_true rfl) rfl ?_
    have hs1 := hP.1
    replace hP := hP.2
    refine r_sub [1, 2, 3, 4, 5, 6, 7, 8, 0] rfl ?_
    refine lp_X10_whence_83 hG v1 v2 v3 s.2.2.2 μ (s.1, s.2.1, s.2.2.1) ((NX10_whence_75_83 v1 v2 v3 μ i s)) (SX10_whence_75_83 v1 v2 v3 μ i s) rfl hs1 ?_
    refine r_iload dX10_whence_83 8 rfl ?_
    refine r_aload_n dX10_whence_85 0 rfl ?_
    refine r_getR 61 fX10_23 (hG.lt (by decide)) sh57 fs57_12 dX10_whence_86 ?_
    refine r_iconst 0 dX10_whence_89 rfl ?_
    refine r_ialdK 0 rfl (hG.lt (by decide)) sh61 (vp_of (by decide) (by decide)) dX10_whence_90 ?_
    refine r_icmp_ge 132 dX10_whence_91 (by decide) (fun c2 => ?_) (fun c2 => ?_)
    · replace hP := hP.1 c2
      refine r_iinc (s.2.2.2 + (-1)) [(7, _), (0, _), (1, _), (2, _), (3, _), (4, _), (5, _), (6, _), (8, _)] dX10_whence_132 7 rfl rfl (Nat.le_of_ble_eq_true rfl) rfl ?_
      refine r_goto 75 dX10_whence_135 (by decide) ?_
      have e : g_X10_whence_75 v1 v2 v3 μ i s = ((SX10_whence_75_83 v1 v2 v3 μ i s).1, (SX10_whence_75_83 v1 v2 v3 μ i s).2.1, (SX10_whence_75_83 v1 v2 v3 μ i s).2.2, (s.2.2.2 + (-1))) := by unfold g_X10_whence_75; rfl
      rw [e] at hS
      dsimp only at hS
      exact r_sub [1, 2, 3, 4, 5, 6, 7, 0] rfl hS
    · replace hP := hP.2 c2
      refine r_aload_n dX10_whence_94 0 rfl ?_
      refine r_iload dX10_whence_95 8 rfl ?_
      refine r_iload dX10_whence_97 7 rfl ?_
      refine r_iload_n dX10_whence_99 2 rfl ?_
      have hs3 := hP.1
      replace hP := hP.2
      refine r_cvI (ok_X10_driftOf hG (nI (NX10_whence_75_83 v1 v2 v3 μ i s)) s.2.2.2 v2 μ hs3) lX10_394 (hG.lt (by decide)) sh57 ⟨_, _, rfl⟩ dX10_whence_100 (by decide) (Nat.le_of_ble_eq_true rfl) rfl (Nat.le_of_ble_eq_true rfl) ?_
      refine r_iload_n dX10_whence_103 1 rfl ?_
      refine r_join 126 [(6, .int (VX10_whence_75_1 v1 v2 v3 μ i s)), (5, .int (VX10_whence_75_2 v1 v2 v3 μ i s)), (4, .int (VX10_whence_75_3 v1 v2 v3 μ i s)), (0, .ref (ga G 57)), (1, .int v1), (2, .int v2), (3, .int v3), (7, .int s.2.2.2), (8, .int (nI (NX10_whence_75_83 v1 v2 v3 μ i s)))] [] μ ?_ (fun hJ => ?_)
      · refine r_iinc ((nI (NX10_whence_75_83 v1 v2 v3 μ i s)) + 1) [(8, _), (6, _), (5, _), (4, _), (0, _), (1, _), (2, _), (3, _), (7, _)] dX10_whence_126 8 rfl rfl (Nat.le_of_ble_eq_true rfl) rfl ?_
        refine r_goto 83 dX10_whence_129 (by decide) ?_
        exact hP.elim
      · refine r_icmp_eq 110 dX10_whence_104 (by decide) (fun c3 => ?_) (fun c3 => ?_)
        · refine r_iinc ((SX10_whence_75_83 v1 v2 v3 μ i s).1 + 1) [(4, _), (0, _), (1, _), (2, _), (3, _), (5, _), (6, _), (7, _), (8, _)] dX10_whence_110 4 rfl rfl (Nat.le_of_ble_eq_true rfl) rfl ?_
          refine r_iload dX10_whence_113 5 rfl ?_
          refine r_iconst 1 dX10_whence_115 rfl ?_
          refine r_iload dX10_whence_116 8 rfl ?_
          refine r_ishl dX10_whence_118 rfl ?_
          refine r_ior dX10_whence_119 ?_
          refine r_istore [(5, _), (4, _), (0, _), (1, _), (2, _), (3, _), (6, _), (7, _), (8, _)] dX10_whence_120 (Nat.le_of_ble_eq_true rfl) rfl ?_
          refine r_iload dX10_whence_122 7 rfl ?_
          refine r_istore [(6, _), (5, _), (4, _), (0, _), (1, _), (2, _), (3, _), (7, _), (8, _)] dX10_whence_124 (Nat.le_of_ble_eq_true rfl) rfl ?_
          have e : (VX10_whence_75_1 v1 v2 v3 μ i s) = s.2.2.2 := by unfold VX10_whence_75_1; rw [if_pos c3]
          rw [e] at hJ
          clear e
          have e : (VX10_whence_75_2 v1 v2 v3 μ i s) = ((SX10_whence_75_83 v1 v2 v3 μ i s).2.1 ||| ((1 : Int32) <<< ((nI (NX10_whence_75_83 v1 v2 v3 μ i s)) &&& 31))) := by unfold VX10_whence_75_2; rw [if_pos c3]
          rw [e] at hJ
          clear e
          have e : (VX10_whence_75_3 v1 v2 v3 μ i s) = ((SX10_whence_75_83 v1 v2 v3 μ i s).1 + 1) := by unfold VX10_whence_75_3; rw [if_pos c3]
          rw [e] at hJ
          exact r_sub [0, 1, 2, 3, 4, 5, 6, 7, 8] rfl hJ
        · refine r_goto 126 dX10_whence_107 (by decide) ?_
          have e : (VX10_whence_75_1 v1 v2 v3 μ i s) = (SX10_whence_75_83 v1 v2 v3 μ i s).2.2 := by unfold VX10_whence_75_1; rw [if_neg c3]
          rw [e] at hJ
          clear e
          have e : (VX10_whence_75_2 v1 v2 v3 μ i s) = (SX10_whence_75_83 v1 v2 v3 μ i s).2.1 := by unfold VX10_whence_75_2; rw [if_neg c3]
          rw [e] at hJ
          clear e
          have e : (VX10_whence_75_3 v1 v2 v3 μ i s) = (SX10_whence_75_83 v1 v2 v3 μ i s).1 := by unfold VX10_whence_75_3; rw [if_neg c3]
          rw [e] at hJ
          exact r_sub [6, 5, 4, 0, 1, 2, 3, 7, 8] rfl hJ
def NX10_whence_75 (p1 : Int32) (p2 : Int32) (p3 : Int32) (μ : Mem) : Nat := 20
def SX10_whence_75 (p1 : Int32) (p2 : Int32) (p3 : Int32) (μ : Mem) : Int32 × Int32 × Int32 × Int32 := fo (NX10_whence_75 p1 p2 p3 μ) (g_X10_whence_75 p1 p2 p3 (muX10_whence_5 p1 p2 p3 μ)) (0, 0, (-1), 20)
def NX10_whence_83 (p1 : Int32) (p2 : Int32) (p3 : Int32) (μ : Mem) : Nat := ix ((muX10_whence_5 p1 p2 p3 μ) 61 0)
def SX10_whence_83 (p1 : Int32) (p2 : Int32) (p3 : Int32) (μ : Mem) : Int32 × Int32 × Int32 := fo (NX10_whence_83 p1 p2 p3 μ) (g_X10_whence_83 p1 p2 p3 (SX10_whence_75 p1 p2 p3 μ).2.2.2 (muX10_whence_5 p1 p2 p3 μ)) ((SX10_whence_75 p1 p2 p3 μ).1, (SX10_whence_75 p1 p2 p3 μ).2.1, (SX10_whence_75 p1 p2 p3 μ).2.2.1)
def VX10_whence_6 (p1 : Int32) (p2 : Int32) (p3 : Int32) (μ : Mem) : Int32 := (if (F_X10_driftOf (nI (NX10_whence_83 p1 p2 p3 μ)) (SX10_whence_75 p1 p2 p3 μ).2.2.2 p2 (muX10_whence_5 p1 p2 p3 μ)) = p1 then (SX10_whence_75 p1 p2 p3 μ).2.2.2 else (SX10_whence_83 p1 p2 p3 μ).2.2)
def VX10_whence_7 (p1 : Int32) (p2 : Int32) (p3 : Int32) (μ : Mem) : Int32 := (if (F_X10_driftOf (nI (NX10_whence_83 p1 p2 p3 μ)) (SX10_whence_75 p1 p2 p3 μ).2.2.2 p2 (muX10_whence_5 p1 p2 p3 μ)) = p1 then ((SX10_whence_83 p1 p2 p3 μ).2.1 ||| ((1 : Int32) <<< ((nI (NX10_whence_83 p1 p2 p3 μ)) &&& 31))) else (SX10_whence_83 p1 p2 p3 μ).2.1)
def VX10_whence_8 (p1 : Int32) (p2 : Int32) (p3 : Int32) (μ : Mem) : Int32 := (if (F_X10_driftOf (nI (NX10_whence_83 p1 p2 p3 μ)) (SX10_whence_75 p1 p2 p3 μ).2.2.2 p2 (muX10_whence_5 p1 p2 p3 μ)) = p1 then ((SX10_whence_83 p1 p2 p3 μ).1 + 1) else (SX10_whence_83 p1 p2 p3 μ).1)
def F_X10_whence (p1 : Int32) (p2 : Int32) (p3 : Int32) (μ : Mem) : Int32 := (if (F_X10_bad (VX10_whence_2 p1 p2 p3 μ) 1 0 (muX10_whence_1 p1 p2 p3 μ)) ≠ 0 then 0 else (if (F_X10_bad (VX10_whence_4 p1 p2 p3 μ) 2 1 (muX10_whence_3 p1 p2 p3 μ)) = 0 then (if p3 ≠ 0 then (if p3 ≠ 1 then (SX10_whence_75 p1 p2 p3 μ).2.2.1 else (SX10_whence_75 p1 p2 p3 μ).2.1) else (SX10_whence_75 p1 p2 p3 μ).1) else 0))
def M_X10_whence (p1 : Int32) (p2 : Int32) (p3 : Int32) (μ : Mem) : Mem := (if (F_X10_bad (VX10_whence_2 p1 p2 p3 μ) 1 0 (muX10_whence_1 p1 p2 p3 μ)) ≠ 0 then (muX10_whence_3 p1 p2 p3 μ) else (muX10_whence_5 p1 p2 p3 μ))
def P_X10_whence (p1 : Int32) (p2 : Int32) (p3 : Int32) (μ : Mem) : Prop := ((P_X10_bad (VX10_whence_2 p1 p2 p3 μ) 1 0 (muX10_whence_1 p1 p2 p3 μ)) ∧ (((F_X10_bad (VX10_whence_2 p1 p2 p3 μ) 1 0 (muX10_whence_1 p1 p2 p3 μ)) ≠ 0 → True) ∧ ((F_X10_bad (VX10_whence_2 p1 p2 p3 μ) 1 0 (muX10_whence_1 p1 p2 p3 μ)) = 0 → ((P_X10_bad (VX10_whence_4 p1 p2 p3 μ) 2 1 (muX10_whence_3 p1 p2 p3 μ)) ∧ (((F_X10_bad (VX10_whence_4 p1 p2 p3 μ) 2 1 (muX10_whence_3 p1 p2 p3 μ)) = 0 → ((∀ j9, j9 < (NX10_whence_75 p1 p2 p3 μ) → Pb_X10_whence_75 p1 p2 p3 (muX10_whence_5 p1 p2 p3 μ) j9 (fo j9 (g_X10_whence_75 p1 p2 p3 (muX10_whence_5 p1 p2 p3 μ)) (0, 0, (-1), 20))) ∧ (((SX10_whence_75 p1 p2 p3 μ).2.2.2 ≤ 0 → True) ∧ (0 < (SX10_whence_75 p1 p2 p3 μ).2.2.2 → ((∀ j9, j9 < (NX10_whence_83 p1 p2 p3 μ) → Pb_X10_whence_83 p1 p2 p3 (SX10_whence_75 p1 p2 p3 μ).2.2.2 (muX10_whence_5 p1 p2 p3 μ) j9 (fo j9 (g_X10_whence_83 p1 p2 p3 (SX10_whence_75 p1 p2 p3 μ).2.2.2 (muX10_whence_5 p1 p2 p3 μ)) ((SX10_whence_75 p1 p2 p3 μ).1, (SX10_whence_75 p1 p2 p3 μ).2.1, (SX10_whence_75 p1 p2 p3 μ).2.2.1))) ∧ ((((muX10_whence_5 p1 p2 p3 μ) 61 0) ≤ (nI (NX10_whence_83 p1 p2 p3 μ)) → False) ∧ ((nI (NX10_whence_83 p1 p2 p3 μ)) < ((muX10_whence_5 p1 p2 p3 μ) 61 0) → ((P_X10_driftOf (nI (NX10_whence_83 p1 p2 p3 μ)) (SX10_whence_75 p1 p2 p3 μ).2.2.2 p2 (muX10_whence_5 p1 p2 p3 μ)) ∧ False)))))))) ∧ (¬ (F_X10_bad (VX10_whence_4 p1 p2 p3 μ) 2 1 (muX10_whence_3 p1 p2 p3 μ)) = 0 → True))))))
set_option maxRecDepth 20000 in
set_option maxHeartbeats 2000000 in
theorem ok_X10_whence {G : SG} (hG : GK 548 G) (p1 : Int32) (p2 : Int32) (p3 : Int32) (μ : Mem) (hP : P_X10_whence p1 p2 p3 μ) : OkF G mX10_whence [.ref (ga G 57), .int p1, .int p2, .int p3] μ (some (.int (F_X10_whence p1 p2 p3 μ))) (M_X10_whence p1 p2 p3 μ) := by
  refine okF_of hG rfl rfl (Nat.le_of_ble_eq_true rfl) ?_
  unfold P_X10_whence at hP
  refine r_aload_n dX10_whence_0 0 rfl ?_
  refine r_iconst 0 dX10_whence_1 rfl ?_
  refine r_put fiX10_103 (hG.lt (by decide)) sh57 fs57_0 dX10_whence_2 ?_
  refine r_mu (muX10_whence_1 p1 p2 p3 μ) rfl ?_
  refine r_aload_n dX10_whence_5 0 rfl ?_
  refine r_aload_n dX10_whence_6 0 rfl ?_
  refine r_iload_n dX10_whence_7 1 rfl ?_
  refine r_cvI (ok_X10_isHouse hG p1 (muX10_whence_1 p1 p2 p3 μ)) lX10_347 (hG.lt (by decide)) sh57 ⟨_, _, rfl⟩ dX10_whence_8 (by decide) (Nat.le_of_ble_eq_true rfl) rfl (Nat.le_of_ble_eq_true rfl) ?_
  refine r_join 19 [(0, .ref (ga G 57)), (1, .int p1), (2, .int p2), (3, .int p3)] [.int (VX10_whence_2 p1 p2 p3 μ), .ref (ga G 57)] (muX10_whence_1 p1 p2 p3 μ) ?_ (fun hJ => ?_)
  · refine r_iconst 1 dX10_whence_19 rfl ?_
    refine r_iconst 0 dX10_whence_20 rfl ?_
    have hs1 := hP.1
    replace hP := hP.2
    refine r_cvI (ok_X10_bad hG (VX10_whence_2 p1 p2 p3 μ) 1 0 (muX10_whence_1 p1 p2 p3 μ) hs1) lX10_186 (hG.lt (by decide)) sh57 ⟨_, _, rfl⟩ dX10_whence_21 (by decide) (Nat.le_of_ble_eq_true rfl) rfl (Nat.le_of_ble_eq_true rfl) ?_
    refine r_mu (muX10_whence_3 p1 p2 p3 μ) rfl ?_
    refine r_if_ne 60 dX10_whence_24 (by decide) (fun c1 => ?_) (fun c1 => ?_)
    · replace hP := hP.1 c1
      refine r_iconst 0 dX10_whence_60 rfl ?_
      exact r_ireturn _ dX10_whence_61 rfl rfl ⟨congrArg (fun z => some (Value.int z)) (by unfold F_X10_whence; rw [if_pos c1]), by unfold M_X10_whence; rw [if_pos c1]⟩
    · replace hP := hP.2 c1
      refine r_aload_n dX10_whence_27 0 rfl ?_
      refine r_iload_n dX10_whence_28 2 rfl ?_
      refine r_iconst 0 dX10_whence_29 rfl ?_
      refine r_bipush 24 dX10_whence_30 rfl ?_
      refine r_csI (ok_X10_isIn hG p2 0 24 (muX10_whence_3 p1 p2 p3 μ)) lX10_137 dX10_whence_32 (by decide) (Nat.le_of_ble_eq_true rfl) rfl (Nat.le_of_ble_eq_true rfl) ?_
      refine r_join 52 [(0, .ref (ga G 57)), (1, .int p1), (2, .int p2), (3, .int p3)] [.int (VX10_whence_4 p1 p2 p3 μ), .ref (ga G 57)] (muX10_whence_3 p1 p2 p3 μ) ?_ (fun hJ => ?_)
      · refine r_iconst 2 dX10_whence_52 rfl ?_
        refine r_iconst 1 dX10_whence_53 rfl ?_
        have hs2 := hP.1
        replace hP := hP.2
        refine r_cvI (ok_X10_bad hG (VX10_whence_4 p1 p2 p3 μ) 2 1 (muX10_whence_3 p1 p2 p3 μ) hs2) lX10_186 (hG.lt (by decide)) sh57 ⟨_, _, rfl⟩ dX10_whence_54 (by decide) (Nat.le_of_ble_eq_true rfl) rfl (Nat.le_of_ble_eq_true rfl) ?_
        refine r_mu (muX10_whence_5 p1 p2 p3 μ) rfl ?_
        refine r_if_eq 62 dX10_whence_57 (by decide) (fun c2 => ?_) (fun c2 => ?_)
        · replace hP := hP.1 c2
          refine r_iconst 0 dX10_whence_62 rfl ?_
          refine r_istore [(4, _), (0, _), (1, _), (2, _), (3, _)] dX10_whence_63 (Nat.le_of_ble_eq_true rfl) rfl ?_
          refine r_iconst 0 dX10_whence_65 rfl ?_
          refine r_istore [(5, _), (4, _), (0, _), (1, _), (2, _), (3, _)] dX10_whence_66 (Nat.le_of_ble_eq_true rfl) rfl ?_
          refine r_iconst (-1) dX10_whence_68 rfl ?_
          refine r_istore [(6, _), (5, _), (4, _), (0, _), (1, _), (2, _), (3, _)] dX10_whence_69 (Nat.le_of_ble_eq_true rfl) rfl ?_
          refine r_bipush 20 dX10_whence_71 rfl ?_
          refine r_istore [(7, _), (6, _), (5, _), (4, _), (0, _), (1, _), (2, _), (3, _)] dX10_whence_73 (Nat.le_of_ble_eq_true rfl) rfl ?_
          have hs3 := hP.1
          replace hP := hP.2
          refine r_sub [4, 5, 6, 7, 3, 2, 1, 0] rfl ?_
          refine lp_X10_whence_75 hG p1 p2 p3 (muX10_whence_5 p1 p2 p3 μ) (0, 0, (-1), 20) ((NX10_whence_75 p1 p2 p3 μ)) (SX10_whence_75 p1 p2 p3 μ) rfl hs3 ?_
          refine r_iload dX10_whence_75 7 rfl ?_
          refine r_if_le 138 dX10_whence_77 (by decide) (fun c3 => ?_) (fun c3 => ?_)
          · replace hP := hP.1 c3
            refine r_iload_n dX10_whence_138 3 rfl ?_
            refine r_if_ne 147 dX10_whence_139 (by decide) (fun c4 => ?_) (fun c4 => ?_)
            · refine r_iload_n dX10_whence_147 3 rfl ?_
              refine r_iconst 1 dX10_whence_148 rfl ?_
              refine r_icmp_ne 157 dX10_whence_149 (by decide) (fun c5 => ?_) (fun c5 => ?_)
              · refine r_iload dX10_whence_157 6 rfl ?_
                exact r_ireturn _ dX10_whence_159 rfl rfl ⟨congrArg (fun z => some (Value.int z)) (by unfold F_X10_whence; rw [if_neg (not_not_intro c1), if_pos c2, if_pos c4, if_pos c5]), by unfold M_X10_whence; rw [if_neg (not_not_intro c1)]⟩
              · refine r_iload dX10_whence_152 5 rfl ?_
                refine r_goto 159 dX10_whence_154 (by decide) ?_
                exact r_ireturn _ dX10_whence_159 rfl rfl ⟨congrArg (fun z => some (Value.int z)) (by unfold F_X10_whence; rw [if_neg (not_not_intro c1), if_pos c2, if_pos c4, if_neg (not_not_intro c5)]), by unfold M_X10_whence; rw [if_neg (not_not_intro c1)]⟩
            · refine r_iload dX10_whence_142 4 rfl ?_
              refine r_goto 159 dX10_whence_144 (by decide) ?_
              exact r_ireturn _ dX10_whence_159 rfl rfl ⟨congrArg (fun z => some (Value.int z)) (by unfold F_X10_whence; rw [if_neg (not_not_intro c1), if_pos c2, if_neg (not_not_intro c4)]), by unfold M_X10_whence; rw [if_neg (not_not_intro c1)]⟩
          · replace hP := hP.2 c3
            refine r_iconst 0 dX10_whence_80 rfl ?_
            refine r_istore [(8, _), (0, _), (1, _), (2, _), (3, _), (4, _), (5, _), (6, _), (7, _)] dX10_whence_81 (Nat.le_of_ble_eq_true rfl) rfl ?_
            have hs7 := hP.1
            replace hP := hP.2
            refine r_sub [1, 2, 3, 4, 5, 6, 7, 8, 0] rfl ?_
            refine lp_X10_whence_83 hG p1 p2 p3 (SX10_whence_75 p1 p2 p3 μ).2.2.2 (muX10_whence_5 p1 p2 p3 μ) ((SX10_whence_75 p1 p2 p3 μ).1, (SX10_whence_75 p1 p2 p3 μ).2.1, (SX10_whence_75 p1 p2 p3 μ).2.2.1) ((NX10_whence_83 p1 p2 p3 μ)) (SX10_whence_83 p1 p2 p3 μ) rfl hs7 ?_
            refine r_iload dX10_whence_83 8 rfl ?_
            refine r_aload_n dX10_whence_85 0 rfl ?_
            refine r_getR 61 fX10_23 (hG.lt (by decide)) sh57 fs57_12 dX10_whence_86 ?_
            refine r_iconst 0 dX10_whence_89 rfl ?_
            refine r_ialdK 0 rfl (hG.lt (by decide)) sh61 (vp_of (by decide) (by decide)) dX10_whence_90 ?_
            refine r_icmp_ge 132 dX10_whence_91 (by decide) (fun c4 => ?_) (fun c4 => ?_)
            · replace hP := hP.1 c4
              refine r_iinc ((SX10_whence_75 p1 p2 p3 μ).2.2.2 + (-1)) [(7, _), (0, _), (1, _), (2, _), (3, _), (4, _), (5, _), (6, _), (8, _)] dX10_whence_132 7 rfl rfl (Nat.le_of_ble_eq_true rfl) rfl ?_
              refine r_goto 75 dX10_whence_135 (by decide) ?_
              exact hP.elim
            · replace hP := hP.2 c4
              refine r_aload_n dX10_whence_94 0 rfl ?_
              refine r_iload dX10_whence_95 8 rfl ?_
              refine r_iload dX10_whence_97 7 rfl ?_
              refine r_iload_n dX10_whence_99 2 rfl ?_
              have hs9 := hP.1
              replace hP := hP.2
              refine r_cvI (ok_X10_driftOf hG (nI (NX10_whence_83 p1 p2 p3 μ)) (SX10_whence_75 p1 p2 p3 μ).2.2.2 p2 (muX10_whence_5 p1 p2 p3 μ) hs9) lX10_394 (hG.lt (by decide)) sh57 ⟨_, _, rfl⟩ dX10_whence_100 (by decide) (Nat.le_of_ble_eq_true rfl) rfl (Nat.le_of_ble_eq_true rfl) ?_
              refine r_iload_n dX10_whence_103 1 rfl ?_
              refine r_join 126 [(6, .int (VX10_whence_6 p1 p2 p3 μ)), (5, .int (VX10_whence_7 p1 p2 p3 μ)), (4, .int (VX10_whence_8 p1 p2 p3 μ)), (0, .ref (ga G 57)), (1, .int p1), (2, .int p2), (3, .int p3), (7, .int (SX10_whence_75 p1 p2 p3 μ).2.2.2), (8, .int (nI (NX10_whence_83 p1 p2 p3 μ)))] [] (muX10_whence_5 p1 p2 p3 μ) ?_ (fun hJ => ?_)
              · refine r_iinc ((nI (NX10_whence_83 p1 p2 p3 μ)) + 1) [(8, _), (6, _), (5, _), (4, _), (0, _), (1, _), (2, _), (3, _), (7, _)] dX10_whence_126 8 rfl rfl (Nat.le_of_ble_eq_true rfl) rfl ?_
                refine r_goto 83 dX10_whence_129 (by decide) ?_
                exact hP.elim
              · refine r_icmp_eq 110 dX10_whence_104 (by decide) (fun c5 => ?_) (fun c5 => ?_)
                · refine r_iinc ((SX10_whence_83 p1 p2 p3 μ).1 + 1) [(4, _), (0, _), (1, _), (2, _), (3, _), (5, _), (6, _), (7, _), (8, _)] dX10_whence_110 4 rfl rfl (Nat.le_of_ble_eq_true rfl) rfl ?_
                  refine r_iload dX10_whence_113 5 rfl ?_
                  refine r_iconst 1 dX10_whence_115 rfl ?_
                  refine r_iload dX10_whence_116 8 rfl ?_
                  refine r_ishl dX10_whence_118 rfl ?_
                  refine r_ior dX10_whence_119 ?_
                  refine r_istore [(5, _), (4, _), (0, _), (1, _), (2, _), (3, _), (6, _), (7, _), (8, _)] dX10_whence_120 (Nat.le_of_ble_eq_true rfl) rfl ?_
                  refine r_iload dX10_whence_122 7 rfl ?_
                  refine r_istore [(6, _), (5, _), (4, _), (0, _), (1, _), (2, _), (3, _), (7, _), (8, _)] dX10_whence_124 (Nat.le_of_ble_eq_true rfl) rfl ?_
                  have e : (VX10_whence_6 p1 p2 p3 μ) = (SX10_whence_75 p1 p2 p3 μ).2.2.2 := by unfold VX10_whence_6; rw [if_pos c5]
                  rw [e] at hJ
                  clear e
                  have e : (VX10_whence_7 p1 p2 p3 μ) = ((SX10_whence_83 p1 p2 p3 μ).2.1 ||| ((1 : Int32) <<< ((nI (NX10_whence_83 p1 p2 p3 μ)) &&& 31))) := by unfold VX10_whence_7; rw [if_pos c5]
                  rw [e] at hJ
                  clear e
                  have e : (VX10_whence_8 p1 p2 p3 μ) = ((SX10_whence_83 p1 p2 p3 μ).1 + 1) := by unfold VX10_whence_8; rw [if_pos c5]
                  rw [e] at hJ
                  exact r_sub [0, 1, 2, 3, 4, 5, 6, 7, 8] rfl hJ
                · refine r_goto 126 dX10_whence_107 (by decide) ?_
                  have e : (VX10_whence_6 p1 p2 p3 μ) = (SX10_whence_83 p1 p2 p3 μ).2.2 := by unfold VX10_whence_6; rw [if_neg c5]
                  rw [e] at hJ
                  clear e
                  have e : (VX10_whence_7 p1 p2 p3 μ) = (SX10_whence_83 p1 p2 p3 μ).2.1 := by unfold VX10_whence_7; rw [if_neg c5]
                  rw [e] at hJ
                  clear e
                  have e : (VX10_whence_8 p1 p2 p3 μ) = (SX10_whence_83 p1 p2 p3 μ).1 := by unfold VX10_whence_8; rw [if_neg c5]
                  rw [e] at hJ
                  exact r_sub [6, 5, 4, 0, 1, 2, 3, 7, 8] rfl hJ
        · replace hP := hP.2 c2
          refine r_iconst 0 dX10_whence_60 rfl ?_
          exact r_ireturn _ dX10_whence_61 rfl rfl ⟨congrArg (fun z => some (Value.int z)) (by unfold F_X10_whence; rw [if_neg (not_not_intro c1), if_neg c2]), by unfold M_X10_whence; rw [if_neg (not_not_intro c1)]⟩
      · refine r_if_eq 47 dX10_whence_35 (by decide) (fun c2 => ?_) (fun c2 => ?_)
        · refine r_iconst 1 dX10_whence_47 rfl ?_
          refine r_goto 52 dX10_whence_48 (by decide) ?_
          have e : (VX10_whence_4 p1 p2 p3 μ) = 1 := by unfold VX10_whence_4; rw [if_pos c2]
          rw [e] at hJ
          exact r_sub [0, 1, 2, 3] rfl hJ
        · refine r_iload_n dX10_whence_38 3 rfl ?_
          refine r_iconst 0 dX10_whence_39 rfl ?_
          refine r_iconst 2 dX10_whence_40 rfl ?_
          refine r_csI (ok_X10_isIn hG p3 0 2 (muX10_whence_3 p1 p2 p3 μ)) lX10_137 dX10_whence_41 (by decide) (Nat.le_of_ble_eq_true rfl) rfl (Nat.le_of_ble_eq_true rfl) ?_
          refine r_if_ne 51 dX10_whence_44 (by decide) (fun c3 => ?_) (fun c3 => ?_)
          · refine r_iconst 0 dX10_whence_51 rfl ?_
            have e : (VX10_whence_4 p1 p2 p3 μ) = 0 := by unfold VX10_whence_4; rw [if_neg c2, if_pos c3]
            rw [e] at hJ
            exact r_sub [0, 1, 2, 3] rfl hJ
          · refine r_iconst 1 dX10_whence_47 rfl ?_
            refine r_goto 52 dX10_whence_48 (by decide) ?_
            have e : (VX10_whence_4 p1 p2 p3 μ) = 1 := by unfold VX10_whence_4; rw [if_neg c2, if_neg (not_not_intro c3)]
            rw [e] at hJ
            exact r_sub [0, 1, 2, 3] rfl hJ
  · refine r_if_ne 18 dX10_whence_11 (by decide) (fun c1 => ?_) (fun c1 => ?_)
    · refine r_iconst 0 dX10_whence_18 rfl ?_
      have e : (VX10_whence_2 p1 p2 p3 μ) = 0 := by unfold VX10_whence_2; rw [if_pos c1]
      rw [e] at hJ
      exact r_sub [0, 1, 2, 3] rfl hJ
    · refine r_iconst 1 dX10_whence_14 rfl ?_
      refine r_goto 19 dX10_whence_15 (by decide) ?_
      have e : (VX10_whence_2 p1 p2 p3 μ) = 1 := by unfold VX10_whence_2; rw [if_neg (not_not_intro c1)]
      rw [e] at hJ
      exact r_sub [0, 1, 2, 3] rfl hJ
