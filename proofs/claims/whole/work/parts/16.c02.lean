def VX0_driftFrom_6_1 (v1 : Int32) (v2 : Int32) (v3 : Int32) (μ : Mem) (i : Nat) (s : Int32) : Int32 := (if (F_X0_waterAhead s (nI i) μ) < v2 then 0 else 1)
theorem bo_VX0_driftFrom_6_1 (v1 : Int32) (v2 : Int32) (v3 : Int32) (μ : Mem) (i : Nat) (s : Int32) : (VX0_driftFrom_6_1 v1 v2 v3 μ i s) = 0 ∨ (VX0_driftFrom_6_1 v1 v2 v3 μ i s) = 1 := by
  unfold VX0_driftFrom_6_1
  split
  · exact Or.inl rfl
  · exact Or.inr rfl
def g_X0_driftFrom_6 (v1 : Int32) (v2 : Int32) (v3 : Int32) (μ : Mem) (i : Nat) (s : Int32) : Int32 := (s + (VX0_driftFrom_6_1 v1 v2 v3 μ i s))
def Pb_X0_driftFrom_6 (v1 : Int32) (v2 : Int32) (v3 : Int32) (μ : Mem) (i : Nat) (s : Int32) : Prop := ((v3 ≤ (nI i) → False) ∧ ((nI i) < v3 → (((μ 3 8) ≤ s → False) ∧ (s < (μ 3 8) → P_X0_waterAhead s (nI i) μ))))
def Cb_X0_driftFrom_6 (v1 : Int32) (v2 : Int32) (v3 : Int32) (μ : Mem) (i : Nat) (s : Int32) : Bool := (if v3 ≤ (nI i) then false else (if (μ 3 8) ≤ s then false else true))
set_option maxRecDepth 20000 in
set_option maxHeartbeats 2000000 in
theorem lp_X0_driftFrom_6 {G : SG} (hG : GK 57 G)  (v1 : Int32) (v2 : Int32) (v3 : Int32) (μ : Mem) (s0 : Int32) (N : Nat) (sN : Int32) (eN : sN = fo N (g_X0_driftFrom_6 v1 v2 v3 μ) s0) (hN : ∀ i, i < N → Pb_X0_driftFrom_6 v1 v2 v3 μ i (fo i (g_X0_driftFrom_6 v1 v2 v3 μ) s0)) {t : Nat} {Q : PQ} {X : PX} (h : R G mX0_driftFrom 6 [(0, .ref (ga G 51)), (1, .int v1), (2, .int v2), (3, .int v3), (4, .int sN), (5, .int (nI N))] [] μ t Q X) : R G mX0_driftFrom 6 [(0, .ref (ga G 51)), (1, .int v1), (2, .int v2), (3, .int v3), (4, .int s0), (5, .int 0)] [] μ t Q X := by
  subst eN
  refine down_i N (fun i => R G mX0_driftFrom 6 [(0, .ref (ga G 51)), (1, .int v1), (2, .int v2), (3, .int v3), (4, .int (fo i (g_X0_driftFrom_6 v1 v2 v3 μ) s0)), (5, .int (nI i))] [] μ t Q X) h (fun i hi hS => ?_)
  have hP := hN i hi
  rw [fo_succ] at hS
  rw [nI_succ] at hS
  generalize fo i (g_X0_driftFrom_6 v1 v2 v3 μ) s0 = s at hS hP ⊢
  unfold Pb_X0_driftFrom_6 at hP
  refine r_iload dX0_driftFrom_6 5 rfl ?_
  refine r_iload_n dX0_driftFrom_8 3 rfl ?_
  refine r_icmp_ge 52 dX0_driftFrom_9 (by decide) (fun c1 => ?_) (fun c1 => ?_)
  · replace hP := hP.1 c1
    exact hP.elim
  · replace hP := hP.2 c1
    refine r_iload dX0_driftFrom_12 4 rfl ?_
    refine r_aload_n dX0_driftFrom_14 0 rfl ?_
    refine r_getR 3 fX0_18 (hG.lt (by decide)) sh51 fs51_0 dX0_driftFrom_15 ?_
    refine r_getI fX0_54 (hG.lt (by decide)) sh3 fs3_8 dX0_driftFrom_18 ?_
    refine r_icmp_ge 52 dX0_driftFrom_21 (by decide) (fun c2 => ?_) (fun c2 => ?_)
    · replace hP := hP.1 c2
      exact hP.elim
    · replace hP := hP.2 c2
      refine r_iload dX0_driftFrom_24 4 rfl ?_
      refine r_aload_n dX0_driftFrom_26 0 rfl ?_
      refine r_iload dX0_driftFrom_27 4 rfl ?_
      refine r_iload dX0_driftFrom_29 5 rfl ?_
      have hs1 := hP
      refine r_cvI (ok_X0_waterAhead hG s (nI i) μ hs1) lX0_58 (hG.lt (by decide)) sh51 ⟨_, _, rfl⟩ dX0_driftFrom_31 (by decide) (Nat.le_of_ble_eq_true rfl) rfl (Nat.le_of_ble_eq_true rfl) ?_
      refine r_iload_n dX0_driftFrom_34 2 rfl ?_
      refine r_join 43 [(0, .ref (ga G 51)), (1, .int v1), (2, .int v2), (3, .int v3), (4, .int s), (5, .int (nI i))] [.int (VX0_driftFrom_6_1 v1 v2 v3 μ i s), .int s] μ ?_ (fun hJ => ?_)
      · refine r_iadd dX0_driftFrom_43 ?_
        refine r_istore [(4, _), (0, _), (1, _), (2, _), (3, _), (5, _)] dX0_driftFrom_44 (Nat.le_of_ble_eq_true rfl) rfl ?_
        refine r_iinc ((nI i) + 1) [(5, _), (4, _), (0, _), (1, _), (2, _), (3, _)] dX0_driftFrom_46 5 rfl rfl (Nat.le_of_ble_eq_true rfl) rfl ?_
        refine r_goto 6 dX0_driftFrom_49 (by decide) ?_
        have e : g_X0_driftFrom_6 v1 v2 v3 μ i s = (s + (VX0_driftFrom_6_1 v1 v2 v3 μ i s)) := by unfold g_X0_driftFrom_6; rfl
        rw [e] at hS
        exact r_sub [2, 3, 4, 5, 1, 0] rfl hS
      · refine r_icmp_lt 42 dX0_driftFrom_35 (by decide) (fun c3 => ?_) (fun c3 => ?_)
        · refine r_iconst 0 dX0_driftFrom_42 rfl ?_
          have e : (VX0_driftFrom_6_1 v1 v2 v3 μ i s) = 0 := by unfold VX0_driftFrom_6_1; rw [if_pos c3]
          rw [e] at hJ
          exact r_sub [0, 1, 2, 3, 4, 5] rfl hJ
        · refine r_iconst 1 dX0_driftFrom_38 rfl ?_
          refine r_goto 43 dX0_driftFrom_39 (by decide) ?_
          have e : (VX0_driftFrom_6_1 v1 v2 v3 μ i s) = 1 := by unfold VX0_driftFrom_6_1; rw [if_neg (i32_nl c3)]
          rw [e] at hJ
          exact r_sub [0, 1, 2, 3, 4, 5] rfl hJ
def NX0_driftFrom_6 (p1 : Int32) (p2 : Int32) (p3 : Int32) (μ : Mem) : Nat := (fst 25 (fun j9 => !Cb_X0_driftFrom_6 p1 p2 p3 μ j9 (fo j9 (g_X0_driftFrom_6 p1 p2 p3 μ) p1)))
def SX0_driftFrom_6 (p1 : Int32) (p2 : Int32) (p3 : Int32) (μ : Mem) : Int32 := fo (NX0_driftFrom_6 p1 p2 p3 μ) (g_X0_driftFrom_6 p1 p2 p3 μ) p1
def VX0_driftFrom_1 (p1 : Int32) (p2 : Int32) (p3 : Int32) (μ : Mem) : Int32 := (if (F_X0_waterAhead (SX0_driftFrom_6 p1 p2 p3 μ) (nI (NX0_driftFrom_6 p1 p2 p3 μ)) μ) < p2 then 0 else 1)
theorem bo_VX0_driftFrom_1 (p1 : Int32) (p2 : Int32) (p3 : Int32) (μ : Mem) : (VX0_driftFrom_1 p1 p2 p3 μ) = 0 ∨ (VX0_driftFrom_1 p1 p2 p3 μ) = 1 := by
  unfold VX0_driftFrom_1
  split
  · exact Or.inl rfl
  · exact Or.inr rfl
def F_X0_driftFrom (p1 : Int32) (p2 : Int32) (p3 : Int32) (μ : Mem) : Int32 := (if (μ 3 8) ≤ (SX0_driftFrom_6 p1 p2 p3 μ) then (-1) else (SX0_driftFrom_6 p1 p2 p3 μ))
def P_X0_driftFrom (p1 : Int32) (p2 : Int32) (p3 : Int32) (μ : Mem) : Prop := ((∀ j9, j9 < (NX0_driftFrom_6 p1 p2 p3 μ) → Pb_X0_driftFrom_6 p1 p2 p3 μ j9 (fo j9 (g_X0_driftFrom_6 p1 p2 p3 μ) p1)) ∧ ((p3 ≤ (nI (NX0_driftFrom_6 p1 p2 p3 μ)) → True) ∧ ((nI (NX0_driftFrom_6 p1 p2 p3 μ)) < p3 → (((μ 3 8) ≤ (SX0_driftFrom_6 p1 p2 p3 μ) → True) ∧ ((SX0_driftFrom_6 p1 p2 p3 μ) < (μ 3 8) → ((P_X0_waterAhead (SX0_driftFrom_6 p1 p2 p3 μ) (nI (NX0_driftFrom_6 p1 p2 p3 μ)) μ) ∧ False))))))
set_option maxRecDepth 20000 in
set_option maxHeartbeats 2000000 in
theorem ok_X0_driftFrom {G : SG} (hG : GK 57 G) (p1 : Int32) (p2 : Int32) (p3 : Int32) (μ : Mem) (hP : P_X0_driftFrom p1 p2 p3 μ) : OkF G mX0_driftFrom [.ref (ga G 51), .int p1, .int p2, .int p3] μ (some (.int (F_X0_driftFrom p1 p2 p3 μ))) μ := by
  refine okF_of hG rfl rfl (Nat.le_of_ble_eq_true rfl) ?_
  unfold P_X0_driftFrom at hP
  refine r_iload_n dX0_driftFrom_0 1 rfl ?_
  refine r_istore [(4, _), (0, _), (1, _), (2, _), (3, _)] dX0_driftFrom_1 (Nat.le_of_ble_eq_true rfl) rfl ?_
  refine r_iconst 0 dX0_driftFrom_3 rfl ?_
  refine r_istore [(5, _), (4, _), (0, _), (1, _), (2, _), (3, _)] dX0_driftFrom_4 (Nat.le_of_ble_eq_true rfl) rfl ?_
  have hs1 := hP.1
  replace hP := hP.2
  refine r_sub [2, 3, 4, 5, 1, 0] rfl ?_
  refine lp_X0_driftFrom_6 hG p1 p2 p3 μ p1 ((NX0_driftFrom_6 p1 p2 p3 μ)) (SX0_driftFrom_6 p1 p2 p3 μ) rfl hs1 ?_
  refine r_iload dX0_driftFrom_6 5 rfl ?_
  refine r_iload_n dX0_driftFrom_8 3 rfl ?_
  refine r_icmp_ge 52 dX0_driftFrom_9 (by decide) (fun c1 => ?_) (fun c1 => ?_)
  · replace hP := hP.1 c1
    refine r_iload dX0_driftFrom_52 4 rfl ?_
    refine r_aload_n dX0_driftFrom_54 0 rfl ?_
    refine r_getR 3 fX0_18 (hG.lt (by decide)) sh51 fs51_0 dX0_driftFrom_55 ?_
    refine r_getI fX0_54 (hG.lt (by decide)) sh3 fs3_8 dX0_driftFrom_58 ?_
    refine r_icmp_ge 69 dX0_driftFrom_61 (by decide) (fun c2 => ?_) (fun c2 => ?_)
    · refine r_iconst (-1) dX0_driftFrom_69 rfl ?_
      exact r_ireturn _ dX0_driftFrom_70 rfl rfl ⟨congrArg (fun z => some (Value.int z)) (by unfold F_X0_driftFrom; rw [if_pos c2]), rfl⟩
    · refine r_iload dX0_driftFrom_64 4 rfl ?_
      refine r_goto 70 dX0_driftFrom_66 (by decide) ?_
      exact r_ireturn _ dX0_driftFrom_70 rfl rfl ⟨congrArg (fun z => some (Value.int z)) (by unfold F_X0_driftFrom; rw [if_neg (i32_ng c2)]), rfl⟩
  · replace hP := hP.2 c1
    refine r_iload dX0_driftFrom_12 4 rfl ?_
    refine r_aload_n dX0_driftFrom_14 0 rfl ?_
    refine r_getR 3 fX0_18 (hG.lt (by decide)) sh51 fs51_0 dX0_driftFrom_15 ?_
    refine r_getI fX0_54 (hG.lt (by decide)) sh3 fs3_8 dX0_driftFrom_18 ?_
    refine r_icmp_ge 52 dX0_driftFrom_21 (by decide) (fun c2 => ?_) (fun c2 => ?_)
    · replace hP := hP.1 c2
      refine r_iload dX0_driftFrom_52 4 rfl ?_
      refine r_aload_n dX0_driftFrom_54 0 rfl ?_
      refine r_getR 3 fX0_18 (hG.lt (by decide)) sh51 fs51_0 dX0_driftFrom_55 ?_
      refine r_getI fX0_54 (hG.lt (by decide)) sh3 fs3_8 dX0_driftFrom_58 ?_
      refine r_icmp_ge 69 dX0_driftFrom_61 (by decide) (fun c3 => ?_) (fun c3 => ?_)
      · refine r_iconst (-1) dX0_driftFrom_69 rfl ?_
        exact r_ireturn _ dX0_driftFrom_70 rfl rfl ⟨congrArg (fun z => some (Value.int z)) (by unfold F_X0_driftFrom; rw [if_pos c3]), rfl⟩
      · refine r_iload dX0_driftFrom_64 4 rfl ?_
        refine r_goto 70 dX0_driftFrom_66 (by decide) ?_
        exact r_ireturn _ dX0_driftFrom_70 rfl rfl ⟨congrArg (fun z => some (Value.int z)) (by unfold F_X0_driftFrom; rw [if_neg (i32_ng c3)]), rfl⟩
    · replace hP := hP.2 c2
      refine r_iload dX0_driftFrom_24 4 rfl ?_
      refine r_aload_n dX0_driftFrom_26 0 rfl ?_
      refine r_iload dX0_driftFrom_27 4 rfl ?_
      refine r_iload dX0_driftFrom_29 5 rfl ?_
      have hs4 := hP.1
      replace hP := hP.2
      refine r_cvI (ok_X0_waterAhead hG (SX0_driftFrom_6 p1 p2 p3 μ) (nI (NX0_driftFrom_6 p1 p2 p3 μ)) μ hs4) lX0_58 (hG.lt (by decide)) sh51 ⟨_, _, rfl⟩ dX0_driftFrom_31 (by decide) (Nat.le_of_ble_eq_true rfl) rfl (Nat.le_of_ble_eq_true rfl) ?_
      refine r_iload_n dX0_driftFrom_34 2 rfl ?_
      refine r_join 43 [(0, .ref (ga G 51)), (1, .int p1), (2, .int p2), (3, .int p3), (4, .int (SX0_driftFrom_6 p1 p2 p3 μ)), (5, .int (nI (NX0_driftFrom_6 p1 p2 p3 μ)))] [.int (VX0_driftFrom_1 p1 p2 p3 μ), .int (SX0_driftFrom_6 p1 p2 p3 μ)] μ ?_ (fun hJ => ?_)
      · refine r_iadd dX0_driftFrom_43 ?_
        refine r_istore [(4, _), (0, _), (1, _), (2, _), (3, _), (5, _)] dX0_driftFrom_44 (Nat.le_of_ble_eq_true rfl) rfl ?_
        refine r_iinc ((nI (NX0_driftFrom_6 p1 p2 p3 μ)) + 1) [(5, _), (4, _), (0, _), (1, _), (2, _), (3, _)] dX0_driftFrom_46 5 rfl rfl (Nat.le_of_ble_eq_true rfl) rfl ?_
        refine r_goto 6 dX0_driftFrom_49 (by decide) ?_
        exact hP.elim
      · refine r_icmp_lt 42 dX0_driftFrom_35 (by decide) (fun c3 => ?_) (fun c3 => ?_)
        · refine r_iconst 0 dX0_driftFrom_42 rfl ?_
          have e : (VX0_driftFrom_1 p1 p2 p3 μ) = 0 := by unfold VX0_driftFrom_1; rw [if_pos c3]
          rw [e] at hJ
          exact r_sub [0, 1, 2, 3, 4, 5] rfl hJ
        · refine r_iconst 1 dX0_driftFrom_38 rfl ?_
          refine r_goto 43 dX0_driftFrom_39 (by decide) ?_
          have e : (VX0_driftFrom_1 p1 p2 p3 μ) = 1 := by unfold VX0_driftFrom_1; rw [if_neg (i32_nl c3)]
          rw [e] at hJ
          exact r_sub [0, 1, 2, 3, 4, 5] rfl hJ
def VX0_driftsTo_22_1 (v1 : Int32) (v2 : Int32) (v3 : Int32) (v7 : Int32) (μ : Mem) (i : Nat) (s : Int32 × Int32 × Int32) : Int32 := (if (F_X0_driftFrom (nI i) v7 v2 μ) ≠ v1 then s.1 else (s.1 + 1))
def VX0_driftsTo_22_2 (v1 : Int32) (v2 : Int32) (v3 : Int32) (v7 : Int32) (μ : Mem) (i : Nat) (s : Int32 × Int32 × Int32) : Int32 := (if (F_X0_driftFrom (nI i) v7 v2 μ) ≠ v1 then s.2.1 else (s.2.1 ||| ((1 : Int32) <<< ((nI i) &&& 31))))
def VX0_driftsTo_22_3 (v1 : Int32) (v2 : Int32) (v3 : Int32) (v7 : Int32) (μ : Mem) (i : Nat) (s : Int32 × Int32 × Int32) : Int32 := (if (F_X0_driftFrom (nI i) v7 v2 μ) ≠ v1 then s.2.2 else v7)
def g_X0_driftsTo_22 (v1 : Int32) (v2 : Int32) (v3 : Int32) (v7 : Int32) (μ : Mem) (i : Nat) (s : Int32 × Int32 × Int32) : Int32 × Int32 × Int32 := ((VX0_driftsTo_22_1 v1 v2 v3 v7 μ i s), (VX0_driftsTo_22_2 v1 v2 v3 v7 μ i s), (VX0_driftsTo_22_3 v1 v2 v3 v7 μ i s))
def Pb_X0_driftsTo_22 (v1 : Int32) (v2 : Int32) (v3 : Int32) (v7 : Int32) (μ : Mem) (i : Nat) (s : Int32 × Int32 × Int32) : Prop := (((μ 3 8) ≤ (nI i) → False) ∧ ((nI i) < (μ 3 8) → P_X0_driftFrom (nI i) v7 v2 μ))
set_option maxRecDepth 20000 in
set_option maxHeartbeats 2000000 in
theorem lp_X0_driftsTo_22 {G : SG} (hG : GK 57 G)  (v1 : Int32) (v2 : Int32) (v3 : Int32) (v7 : Int32) (μ : Mem) (s0 : Int32 × Int32 × Int32) (N : Nat) (sN : Int32 × Int32 × Int32) (eN : sN = fo N (g_X0_driftsTo_22 v1 v2 v3 v7 μ) s0) (hN : ∀ i, i < N → Pb_X0_driftsTo_22 v1 v2 v3 v7 μ i (fo i (g_X0_driftsTo_22 v1 v2 v3 v7 μ) s0)) {t : Nat} {Q : PQ} {X : PX} (h : R G mX0_driftsTo 22 [(0, .ref (ga G 51)), (1, .int v1), (2, .int v2), (3, .int v3), (4, .int (sN).1), (5, .int (sN).2.1), (6, .int (sN).2.2), (7, .int v7), (8, .int (nI N))] [] μ t Q X) : R G mX0_driftsTo 22 [(0, .ref (ga G 51)), (1, .int v1), (2, .int v2), (3, .int v3), (4, .int (s0).1), (5, .int (s0).2.1), (6, .int (s0).2.2), (7, .int v7), (8, .int 0)] [] μ t Q X := by
  subst eN
  refine down_i N (fun i => R G mX0_driftsTo 22 [(0, .ref (ga G 51)), (1, .int v1), (2, .int v2), (3, .int v3), (4, .int ((fo i (g_X0_driftsTo_22 v1 v2 v3 v7 μ) s0)).1), (5, .int ((fo i (g_X0_driftsTo_22 v1 v2 v3 v7 μ) s0)).2.1), (6, .int ((fo i (g_X0_driftsTo_22 v1 v2 v3 v7 μ) s0)).2.2), (7, .int v7), (8, .int (nI i))] [] μ t Q X) h (fun i hi hS => ?_)
  have hP := hN i hi
  rw [fo_succ] at hS
  rw [nI_succ] at hS
  generalize fo i (g_X0_driftsTo_22 v1 v2 v3 v7 μ) s0 = s at hS hP ⊢
  unfold Pb_X0_driftsTo_22 at hP
  refine r_iload dX0_driftsTo_22 8 rfl ?_
  refine r_aload_n dX0_driftsTo_24 0 rfl ?_
  refine r_getR 3 fX0_18 (hG.lt (by decide)) sh51 fs51_0 dX0_driftsTo_25 ?_
  refine r_getI fX0_54 (hG.lt (by decide)) sh3 fs3_8 dX0_driftsTo_28 ?_
  refine r_icmp_ge 69 dX0_driftsTo_31 (by decide) (fun c1 => ?_) (fun c1 => ?_)
  · replace hP := hP.1 c1
    exact hP.elim
  · replace hP := hP.2 c1
    refine r_aload_n dX0_driftsTo_34 0 rfl ?_
    refine r_iload dX0_driftsTo_35 8 rfl ?_
    refine r_iload dX0_driftsTo_37 7 rfl ?_
    refine r_iload_n dX0_driftsTo_39 2 rfl ?_
    have hs1 := hP
    refine r_cvI (ok_X0_driftFrom hG (nI i) v7 v2 μ hs1) lX0_129 (hG.lt (by decide)) sh51 ⟨_, _, rfl⟩ dX0_driftsTo_40 (by decide) (Nat.le_of_ble_eq_true rfl) rfl (Nat.le_of_ble_eq_true rfl) ?_
    refine r_iload_n dX0_driftsTo_43 1 rfl ?_
    refine r_join 63 [(0, .ref (ga G 51)), (1, .int v1), (2, .int v2), (3, .int v3), (4, .int (VX0_driftsTo_22_1 v1 v2 v3 v7 μ i s)), (5, .int (VX0_driftsTo_22_2 v1 v2 v3 v7 μ i s)), (6, .int (VX0_driftsTo_22_3 v1 v2 v3 v7 μ i s)), (7, .int v7), (8, .int (nI i))] [] μ ?_ (fun hJ => ?_)
    · refine r_iinc ((nI i) + 1) [(8, _), (0, _), (1, _), (2, _), (3, _), (4, _), (5, _), (6, _), (7, _)] dX0_driftsTo_63 8 rfl rfl (Nat.le_of_ble_eq_true rfl) rfl ?_
      refine r_goto 22 dX0_driftsTo_66 (by decide) ?_
      have e : g_X0_driftsTo_22 v1 v2 v3 v7 μ i s = ((VX0_driftsTo_22_1 v1 v2 v3 v7 μ i s), (VX0_driftsTo_22_2 v1 v2 v3 v7 μ i s), (VX0_driftsTo_22_3 v1 v2 v3 v7 μ i s)) := by unfold g_X0_driftsTo_22; rfl
      rw [e] at hS
      dsimp only at hS
      exact r_sub [1, 2, 3, 4, 5, 6, 7, 8, 0] rfl hS
    · refine r_icmp_ne 63 dX0_driftsTo_44 (by decide) (fun c2 => ?_) (fun c2 => ?_)
      · have e : (VX0_driftsTo_22_1 v1 v2 v3 v7 μ i s) = s.1 := by unfold VX0_driftsTo_22_1; rw [if_pos c2]
        rw [e] at hJ
        clear e
        have e : (VX0_driftsTo_22_2 v1 v2 v3 v7 μ i s) = s.2.1 := by unfold VX0_driftsTo_22_2; rw [if_pos c2]
        rw [e] at hJ
        clear e
        have e : (VX0_driftsTo_22_3 v1 v2 v3 v7 μ i s) = s.2.2 := by unfold VX0_driftsTo_22_3; rw [if_pos c2]
        rw [e] at hJ
        exact r_sub [0, 1, 2, 3, 4, 5, 6, 7, 8] rfl hJ
      · refine r_iinc (s.1 + 1) [(4, _), (0, _), (1, _), (2, _), (3, _), (5, _), (6, _), (7, _), (8, _)] dX0_driftsTo_47 4 rfl rfl (Nat.le_of_ble_eq_true rfl) rfl ?_
        refine r_iload dX0_driftsTo_50 5 rfl ?_
        refine r_iconst 1 dX0_driftsTo_52 rfl ?_
        refine r_iload dX0_driftsTo_53 8 rfl ?_
        refine r_ishl dX0_driftsTo_55 rfl ?_
        refine r_ior dX0_driftsTo_56 ?_
        refine r_istore [(5, _), (4, _), (0, _), (1, _), (2, _), (3, _), (6, _), (7, _), (8, _)] dX0_driftsTo_57 (Nat.le_of_ble_eq_true rfl) rfl ?_
        refine r_iload dX0_driftsTo_59 7 rfl ?_
        refine r_istore [(6, _), (5, _), (4, _), (0, _), (1, _), (2, _), (3, _), (7, _), (8, _)] dX0_driftsTo_61 (Nat.le_of_ble_eq_true rfl) rfl ?_
        have e : (VX0_driftsTo_22_1 v1 v2 v3 v7 μ i s) = (s.1 + 1) := by unfold VX0_driftsTo_22_1; rw [if_neg (not_not_intro c2)]
        rw [e] at hJ
        clear e
        have e : (VX0_driftsTo_22_2 v1 v2 v3 v7 μ i s) = (s.2.1 ||| ((1 : Int32) <<< ((nI i) &&& 31))) := by unfold VX0_driftsTo_22_2; rw [if_neg (not_not_intro c2)]
        rw [e] at hJ
        clear e
        have e : (VX0_driftsTo_22_3 v1 v2 v3 v7 μ i s) = v7 := by unfold VX0_driftsTo_22_3; rw [if_neg (not_not_intro c2)]
        rw [e] at hJ
        exact r_sub [3, 4, 5, 6, 2, 1, 0, 7, 8] rfl hJ
def NX0_driftsTo_13_22 (v1 : Int32) (v2 : Int32) (v3 : Int32) (μ : Mem) (i : Nat) (s : Int32 × Int32 × Int32 × Int32) : Nat := ix (μ 3 8)
def SX0_driftsTo_13_22 (v1 : Int32) (v2 : Int32) (v3 : Int32) (μ : Mem) (i : Nat) (s : Int32 × Int32 × Int32 × Int32) : Int32 × Int32 × Int32 := fo (NX0_driftsTo_13_22 v1 v2 v3 μ i s) (g_X0_driftsTo_22 v1 v2 v3 s.2.2.2 μ) (s.1, s.2.1, s.2.2.1)
def VX0_driftsTo_13_1 (v1 : Int32) (v2 : Int32) (v3 : Int32) (μ : Mem) (i : Nat) (s : Int32 × Int32 × Int32 × Int32) : Int32 := (if (F_X0_driftFrom (nI (NX0_driftsTo_13_22 v1 v2 v3 μ i s)) s.2.2.2 v2 μ) ≠ v1 then (SX0_driftsTo_13_22 v1 v2 v3 μ i s).1 else ((SX0_driftsTo_13_22 v1 v2 v3 μ i s).1 + 1))
def VX0_driftsTo_13_2 (v1 : Int32) (v2 : Int32) (v3 : Int32) (μ : Mem) (i : Nat) (s : Int32 × Int32 × Int32 × Int32) : Int32 := (if (F_X0_driftFrom (nI (NX0_driftsTo_13_22 v1 v2 v3 μ i s)) s.2.2.2 v2 μ) ≠ v1 then (SX0_driftsTo_13_22 v1 v2 v3 μ i s).2.1 else ((SX0_driftsTo_13_22 v1 v2 v3 μ i s).2.1 ||| ((1 : Int32) <<< ((nI (NX0_driftsTo_13_22 v1 v2 v3 μ i s)) &&& 31))))
def VX0_driftsTo_13_3 (v1 : Int32) (v2 : Int32) (v3 : Int32) (μ : Mem) (i : Nat) (s : Int32 × Int32 × Int32 × Int32) : Int32 := (if (F_X0_driftFrom (nI (NX0_driftsTo_13_22 v1 v2 v3 μ i s)) s.2.2.2 v2 μ) ≠ v1 then (SX0_driftsTo_13_22 v1 v2 v3 μ i s).2.2 else s.2.2.2)
def g_X0_driftsTo_13 (v1 : Int32) (v2 : Int32) (v3 : Int32) (μ : Mem) (i : Nat) (s : Int32 × Int32 × Int32 × Int32) : Int32 × Int32 × Int32 × Int32 := ((SX0_driftsTo_13_22 v1 v2 v3 μ i s).1, (SX0_driftsTo_13_22 v1 v2 v3 μ i s).2.1, (SX0_driftsTo_13_22 v1 v2 v3 μ i s).2.2, (s.2.2.2 + (-1)))
def Pb_X0_driftsTo_13 (v1 : Int32) (v2 : Int32) (v3 : Int32) (μ : Mem) (i : Nat) (s : Int32 × Int32 × Int32 × Int32) : Prop := ((s.2.2.2 < 1 → False) ∧ (1 ≤ s.2.2.2 → (∀ j9, j9 < (NX0_driftsTo_13_22 v1 v2 v3 μ i s) → Pb_X0_driftsTo_22 v1 v2 v3 s.2.2.2 μ j9 (fo j9 (g_X0_driftsTo_22 v1 v2 v3 s.2.2.2 μ) (s.1, s.2.1, s.2.2.1))) ∧ (((μ 3 8) ≤ (nI (NX0_driftsTo_13_22 v1 v2 v3 μ i s)) → True) ∧ ((nI (NX0_driftsTo_13_22 v1 v2 v3 μ i s)) < (μ 3 8) → (P_X0_driftFrom (nI (NX0_driftsTo_13_22 v1 v2 v3 μ i s)) s.2.2.2 v2 μ) ∧ False))))
set_option maxRecDepth 20000 in
set_option maxHeartbeats 2000000 in
theorem lp_X0_driftsTo_13 {G : SG} (hG : GK 57 G)  (v1 : Int32) (v2 : Int32) (v3 : Int32) (μ : Mem) (s0 : Int32 × Int32 × Int32 × Int32) (N : Nat) (sN : Int32 × Int32 × Int32 × Int32) (eN : sN = fo N (g_X0_driftsTo_13 v1 v2 v3 μ) s0) (hN : ∀ i, i < N → Pb_X0_driftsTo_13 v1 v2 v3 μ i (fo i (g_X0_driftsTo_13 v1 v2 v3 μ) s0)) {t : Nat} {Q : PQ} {X : PX} (h : R G mX0_driftsTo 13 [(0, .ref (ga G 51)), (1, .int v1), (2, .int v2), (3, .int v3), (4, .int (sN).1), (5, .int (sN).2.1), (6, .int (sN).2.2.1), (7, .int (sN).2.2.2)] [] μ t Q X) : R G mX0_driftsTo 13 [(0, .ref (ga G 51)), (1, .int v1), (2, .int v2), (3, .int v3), (4, .int (s0).1), (5, .int (s0).2.1), (6, .int (s0).2.2.1), (7, .int (s0).2.2.2)] [] μ t Q X := by
  subst eN
  refine down_i N (fun i => R G mX0_driftsTo 13 [(0, .ref (ga G 51)), (1, .int v1), (2, .int v2), (3, .int v3), (4, .int ((fo i (g_X0_driftsTo_13 v1 v2 v3 μ) s0)).1), (5, .int ((fo i (g_X0_driftsTo_13 v1 v2 v3 μ) s0)).2.1), (6, .int ((fo i (g_X0_driftsTo_13 v1 v2 v3 μ) s0)).2.2.1), (7, .int ((fo i (g_X0_driftsTo_13 v1 v2 v3 μ) s0)).2.2.2)] [] μ t Q X) h (fun i hi hS => ?_)
  have hP := hN i hi
  rw [fo_succ] at hS
  generalize fo i (g_X0_driftsTo_13 v1 v2 v3 μ) s0 = s at hS hP ⊢
  unfold Pb_X0_driftsTo_13 at hP
  refine r_iload dX0_driftsTo_13 7 rfl ?_
  refine r_iconst 1 dX0_driftsTo_15 rfl ?_
  refine r_icmp_lt 75 dX0_driftsTo_16 (by decide) (fun c1 => ?_) (fun c1 => ?_)
  · replace hP := hP.1 c1
    exact hP.elim
  · replace hP := hP.2 c1
    refine r_iconst 0 dX0_driftsTo_19 rfl ?_
    refine r_istore [(8, _), (0, _), (1, _), (2, _), (3, _), (4, _), (5, _), (6, _), (7, _)] dX0_driftsTo_20 (Nat.le_of_ble_eq_true rfl) rfl ?_
    have hs1 := hP.1
    replace hP := hP.2
    refine r_sub [1, 2, 3, 4, 5, 6, 7, 8, 0] rfl ?_
    refine lp_X0_driftsTo_22 hG v1 v2 v3 s.2.2.2 μ (s.1, s.2.1, s.2.2.1) ((NX0_driftsTo_13_22 v1 v2 v3 μ i s)) (SX0_driftsTo_13_22 v1 v2 v3 μ i s) rfl hs1 ?_
    refine r_iload dX0_driftsTo_22 8 rfl ?_
    refine r_aload_n dX0_driftsTo_24 0 rfl ?_
    refine r_getR 3 fX0_18 (hG.lt (by decide)) sh51 fs51_0 dX0_driftsTo_25 ?_
    refine r_getI fX0_54 (hG.lt (by decide)) sh3 fs3_8 dX0_driftsTo_28 ?_
    refine r_icmp_ge 69 dX0_driftsTo_31 (by decide) (fun c2 => ?_) (fun c2 => ?_)
    · replace hP := hP.1 c2
      refine r_iinc (s.2.2.2 + (-1)) [(7, _), (0, _), (1, _), (2, _), (3, _), (4, _), (5, _), (6, _), (8, _)] dX0_driftsTo_69 7 rfl rfl (Nat.le_of_ble_eq_true rfl) rfl ?_
      refine r_goto 13 dX0_driftsTo_72 (by decide) ?_
      have e : g_X0_driftsTo_13 v1 v2 v3 μ i s = ((SX0_driftsTo_13_22 v1 v2 v3 μ i s).1, (SX0_driftsTo_13_22 v1 v2 v3 μ i s).2.1, (SX0_driftsTo_13_22 v1 v2 v3 μ i s).2.2, (s.2.2.2 + (-1))) := by unfold g_X0_driftsTo_13; rfl
      rw [e] at hS
      dsimp only at hS
      exact r_sub [1, 2, 3, 4, 5, 6, 7, 0] rfl hS
    · replace hP := hP.2 c2
      refine r_aload_n dX0_driftsTo_34 0 rfl ?_
      refine r_iload dX0_driftsTo_35 8 rfl ?_
      refine r_iload dX0_driftsTo_37 7 rfl ?_
      refine r_iload_n dX0_driftsTo_39 2 rfl ?_
      have hs3 := hP.1
      replace hP := hP.2
      refine r_cvI (ok_X0_driftFrom hG (nI (NX0_driftsTo_13_22 v1 v2 v3 μ i s)) s.2.2.2 v2 μ hs3) lX0_129 (hG.lt (by decide)) sh51 ⟨_, _, rfl⟩ dX0_driftsTo_40 (by decide) (Nat.le_of_ble_eq_true rfl) rfl (Nat.le_of_ble_eq_true rfl) ?_
      refine r_iload_n dX0_driftsTo_43 1 rfl ?_
      refine r_join 63 [(0, .ref (ga G 51)), (1, .int v1), (2, .int v2), (3, .int v3), (4, .int (VX0_driftsTo_13_1 v1 v2 v3 μ i s)), (5, .int (VX0_driftsTo_13_2 v1 v2 v3 μ i s)), (6, .int (VX0_driftsTo_13_3 v1 v2 v3 μ i s)), (7, .int s.2.2.2), (8, .int (nI (NX0_driftsTo_13_22 v1 v2 v3 μ i s)))] [] μ ?_ (fun hJ => ?_)
      · refine r_iinc ((nI (NX0_driftsTo_13_22 v1 v2 v3 μ i s)) + 1) [(8, _), (0, _), (1, _), (2, _), (3, _), (4, _), (5, _), (6, _), (7, _)] dX0_driftsTo_63 8 rfl rfl (Nat.le_of_ble_eq_true rfl) rfl ?_
        refine r_goto 22 dX0_driftsTo_66 (by decide) ?_
        exact hP.elim
      · refine r_icmp_ne 63 dX0_driftsTo_44 (by decide) (fun c3 => ?_) (fun c3 => ?_)
        · have e : (VX0_driftsTo_13_1 v1 v2 v3 μ i s) = (SX0_driftsTo_13_22 v1 v2 v3 μ i s).1 := by unfold VX0_driftsTo_13_1; rw [if_pos c3]
          rw [e] at hJ
          clear e
          have e : (VX0_driftsTo_13_2 v1 v2 v3 μ i s) = (SX0_driftsTo_13_22 v1 v2 v3 μ i s).2.1 := by unfold VX0_driftsTo_13_2; rw [if_pos c3]
          rw [e] at hJ
          clear e
          have e : (VX0_driftsTo_13_3 v1 v2 v3 μ i s) = (SX0_driftsTo_13_22 v1 v2 v3 μ i s).2.2 := by unfold VX0_driftsTo_13_3; rw [if_pos c3]
          rw [e] at hJ
          exact r_sub [0, 1, 2, 3, 4, 5, 6, 7, 8] rfl hJ
        · refine r_iinc ((SX0_driftsTo_13_22 v1 v2 v3 μ i s).1 + 1) [(4, _), (0, _), (1, _), (2, _), (3, _), (5, _), (6, _), (7, _), (8, _)] dX0_driftsTo_47 4 rfl rfl (Nat.le_of_ble_eq_true rfl) rfl ?_
          refine r_iload dX0_driftsTo_50 5 rfl ?_
          refine r_iconst 1 dX0_driftsTo_52 rfl ?_
          refine r_iload dX0_driftsTo_53 8 rfl ?_
          refine r_ishl dX0_driftsTo_55 rfl ?_
          refine r_ior dX0_driftsTo_56 ?_
          refine r_istore [(5, _), (4, _), (0, _), (1, _), (2, _), (3, _), (6, _), (7, _), (8, _)] dX0_driftsTo_57 (Nat.le_of_ble_eq_true rfl) rfl ?_
          refine r_iload dX0_driftsTo_59 7 rfl ?_
          refine r_istore [(6, _), (5, _), (4, _), (0, _), (1, _), (2, _), (3, _), (7, _), (8, _)] dX0_driftsTo_61 (Nat.le_of_ble_eq_true rfl) rfl ?_
          have e : (VX0_driftsTo_13_1 v1 v2 v3 μ i s) = ((SX0_driftsTo_13_22 v1 v2 v3 μ i s).1 + 1) := by unfold VX0_driftsTo_13_1; rw [if_neg (not_not_intro c3)]
          rw [e] at hJ
          clear e
          have e : (VX0_driftsTo_13_2 v1 v2 v3 μ i s) = ((SX0_driftsTo_13_22 v1 v2 v3 μ i s).2.1 ||| ((1 : Int32) <<< ((nI (NX0_driftsTo_13_22 v1 v2 v3 μ i s)) &&& 31))) := by unfold VX0_driftsTo_13_2; rw [if_neg (not_not_intro c3)]
          rw [e] at hJ
          clear e
          have e : (VX0_driftsTo_13_3 v1 v2 v3 μ i s) = s.2.2.2 := by unfold VX0_driftsTo_13_3; rw [if_neg (not_not_intro c3)]
          rw [e] at hJ
          exact r_sub [3, 4, 5, 6, 2, 1, 0, 7, 8] rfl hJ
def NX0_driftsTo_13 (p1 : Int32) (p2 : Int32) (p3 : Int32) (μ : Mem) : Nat := 20
def SX0_driftsTo_13 (p1 : Int32) (p2 : Int32) (p3 : Int32) (μ : Mem) : Int32 × Int32 × Int32 × Int32 := fo (NX0_driftsTo_13 p1 p2 p3 μ) (g_X0_driftsTo_13 p1 p2 p3 μ) (0, 0, (-1), 20)
def NX0_driftsTo_22 (p1 : Int32) (p2 : Int32) (p3 : Int32) (μ : Mem) : Nat := ix (μ 3 8)
def SX0_driftsTo_22 (p1 : Int32) (p2 : Int32) (p3 : Int32) (μ : Mem) : Int32 × Int32 × Int32 := fo (NX0_driftsTo_22 p1 p2 p3 μ) (g_X0_driftsTo_22 p1 p2 p3 (SX0_driftsTo_13 p1 p2 p3 μ).2.2.2 μ) ((SX0_driftsTo_13 p1 p2 p3 μ).1, (SX0_driftsTo_13 p1 p2 p3 μ).2.1, (SX0_driftsTo_13 p1 p2 p3 μ).2.2.1)
def VX0_driftsTo_1 (p1 : Int32) (p2 : Int32) (p3 : Int32) (μ : Mem) : Int32 := (if (F_X0_driftFrom (nI (NX0_driftsTo_22 p1 p2 p3 μ)) (SX0_driftsTo_13 p1 p2 p3 μ).2.2.2 p2 μ) ≠ p1 then (SX0_driftsTo_22 p1 p2 p3 μ).1 else ((SX0_driftsTo_22 p1 p2 p3 μ).1 + 1))
def VX0_driftsTo_2 (p1 : Int32) (p2 : Int32) (p3 : Int32) (μ : Mem) : Int32 := (if (F_X0_driftFrom (nI (NX0_driftsTo_22 p1 p2 p3 μ)) (SX0_driftsTo_13 p1 p2 p3 μ).2.2.2 p2 μ) ≠ p1 then (SX0_driftsTo_22 p1 p2 p3 μ).2.1 else ((SX0_driftsTo_22 p1 p2 p3 μ).2.1 ||| ((1 : Int32) <<< ((nI (NX0_driftsTo_22 p1 p2 p3 μ)) &&& 31))))
def VX0_driftsTo_3 (p1 : Int32) (p2 : Int32) (p3 : Int32) (μ : Mem) : Int32 := (if (F_X0_driftFrom (nI (NX0_driftsTo_22 p1 p2 p3 μ)) (SX0_driftsTo_13 p1 p2 p3 μ).2.2.2 p2 μ) ≠ p1 then (SX0_driftsTo_22 p1 p2 p3 μ).2.2 else (SX0_driftsTo_13 p1 p2 p3 μ).2.2.2)
def F_X0_driftsTo (p1 : Int32) (p2 : Int32) (p3 : Int32) (μ : Mem) : Int32 := (if p3 ≠ 0 then (if p3 ≠ 1 then (SX0_driftsTo_13 p1 p2 p3 μ).2.2.1 else (SX0_driftsTo_13 p1 p2 p3 μ).2.1) else (SX0_driftsTo_13 p1 p2 p3 μ).1)
def P_X0_driftsTo (p1 : Int32) (p2 : Int32) (p3 : Int32) (μ : Mem) : Prop := ((∀ j9, j9 < (NX0_driftsTo_13 p1 p2 p3 μ) → Pb_X0_driftsTo_13 p1 p2 p3 μ j9 (fo j9 (g_X0_driftsTo_13 p1 p2 p3 μ) (0, 0, (-1), 20))) ∧ (((SX0_driftsTo_13 p1 p2 p3 μ).2.2.2 < 1 → True) ∧ (1 ≤ (SX0_driftsTo_13 p1 p2 p3 μ).2.2.2 → ((∀ j9, j9 < (NX0_driftsTo_22 p1 p2 p3 μ) → Pb_X0_driftsTo_22 p1 p2 p3 (SX0_driftsTo_13 p1 p2 p3 μ).2.2.2 μ j9 (fo j9 (g_X0_driftsTo_22 p1 p2 p3 (SX0_driftsTo_13 p1 p2 p3 μ).2.2.2 μ) ((SX0_driftsTo_13 p1 p2 p3 μ).1, (SX0_driftsTo_13 p1 p2 p3 μ).2.1, (SX0_driftsTo_13 p1 p2 p3 μ).2.2.1))) ∧ (((μ 3 8) ≤ (nI (NX0_driftsTo_22 p1 p2 p3 μ)) → False) ∧ ((nI (NX0_driftsTo_22 p1 p2 p3 μ)) < (μ 3 8) → ((P_X0_driftFrom (nI (NX0_driftsTo_22 p1 p2 p3 μ)) (SX0_driftsTo_13 p1 p2 p3 μ).2.2.2 p2 μ) ∧ False)))))))
set_option maxRecDepth 20000 in
set_option maxHeartbeats 2000000 in
theorem ok_X0_driftsTo {G : SG} (hG : GK 57 G) (p1 : Int32) (p2 : Int32) (p3 : Int32) (μ : Mem) (hP : P_X0_driftsTo p1 p2 p3 μ) : OkF G mX0_driftsTo [.ref (ga G 51), .int p1, .int p2, .int p3] μ (some (.int (F_X0_driftsTo p1 p2 p3 μ))) μ := by
  refine okF_of hG rfl rfl (Nat.le_of_ble_eq_true rfl) ?_
  unfold P_X0_driftsTo at hP
  refine r_iconst 0 dX0_driftsTo_0 rfl ?_
  refine r_istore [(4, _), (0, _), (1, _), (2, _), (3, _)] dX0_driftsTo_1 (Nat.le_of_ble_eq_true rfl) rfl ?_
  refine r_iconst 0 dX0_driftsTo_3 rfl ?_
  refine r_istore [(5, _), (4, _), (0, _), (1, _), (2, _), (3, _)] dX0_driftsTo_4 (Nat.le_of_ble_eq_true rfl) rfl ?_
  refine r_iconst (-1) dX0_driftsTo_6 rfl ?_
  refine r_istore [(6, _), (5, _), (4, _), (0, _), (1, _), (2, _), (3, _)] dX0_driftsTo_7 (Nat.le_of_ble_eq_true rfl) rfl ?_
  refine r_bipush 20 dX0_driftsTo_9 rfl ?_
  refine r_istore [(7, _), (6, _), (5, _), (4, _), (0, _), (1, _), (2, _), (3, _)] dX0_driftsTo_11 (Nat.le_of_ble_eq_true rfl) rfl ?_
  have hs1 := hP.1
  replace hP := hP.2
  refine r_sub [4, 5, 6, 7, 3, 2, 1, 0] rfl ?_
  refine lp_X0_driftsTo_13 hG p1 p2 p3 μ (0, 0, (-1), 20) ((NX0_driftsTo_13 p1 p2 p3 μ)) (SX0_driftsTo_13 p1 p2 p3 μ) rfl hs1 ?_
  refine r_iload dX0_driftsTo_13 7 rfl ?_
  refine r_iconst 1 dX0_driftsTo_15 rfl ?_
  refine r_icmp_lt 75 dX0_driftsTo_16 (by decide) (fun c1 => ?_) (fun c1 => ?_)
  · replace hP := hP.1 c1
    refine r_iload_n dX0_driftsTo_75 3 rfl ?_
    refine r_if_ne 84 dX0_driftsTo_76 (by decide) (fun c2 => ?_) (fun c2 => ?_)
    · refine r_iload_n dX0_driftsTo_84 3 rfl ?_
      refine r_iconst 1 dX0_driftsTo_85 rfl ?_
      refine r_icmp_ne 94 dX0_driftsTo_86 (by decide) (fun c3 => ?_) (fun c3 => ?_)
      · refine r_iload dX0_driftsTo_94 6 rfl ?_
        exact r_ireturn _ dX0_driftsTo_96 rfl rfl ⟨congrArg (fun z => some (Value.int z)) (by unfold F_X0_driftsTo; rw [if_pos c2, if_pos c3]), rfl⟩
      · refine r_iload dX0_driftsTo_89 5 rfl ?_
        refine r_goto 96 dX0_driftsTo_91 (by decide) ?_
        exact r_ireturn _ dX0_driftsTo_96 rfl rfl ⟨congrArg (fun z => some (Value.int z)) (by unfold F_X0_driftsTo; rw [if_pos c2, if_neg (not_not_intro c3)]), rfl⟩
    · refine r_iload dX0_driftsTo_79 4 rfl ?_
      refine r_goto 96 dX0_driftsTo_81 (by decide) ?_
      exact r_ireturn _ dX0_driftsTo_96 rfl rfl ⟨congrArg (fun z => some (Value.int z)) (by unfold F_X0_driftsTo; rw [if_neg (not_not_intro c2)]), rfl⟩
  · replace hP := hP.2 c1
    refine r_iconst 0 dX0_driftsTo_19 rfl ?_
    refine r_istore [(8, _), (0, _), (1, _), (2, _), (3, _), (4, _), (5, _), (6, _), (7, _)] dX0_driftsTo_20 (Nat.le_of_ble_eq_true rfl) rfl ?_
    have hs5 := hP.1
    replace hP := hP.2
    refine r_sub [1, 2, 3, 4, 5, 6, 7, 8, 0] rfl ?_
    refine lp_X0_driftsTo_22 hG p1 p2 p3 (SX0_driftsTo_13 p1 p2 p3 μ).2.2.2 μ ((SX0_driftsTo_13 p1 p2 p3 μ).1, (SX0_driftsTo_13 p1 p2 p3 μ).2.1, (SX0_driftsTo_13 p1 p2 p3 μ).2.2.1) ((NX0_driftsTo_22 p1 p2 p3 μ)) (SX0_driftsTo_22 p1 p2 p3 μ) rfl hs5 ?_
    refine r_iload dX0_driftsTo_22 8 rfl ?_
    refine r_aload_n dX0_driftsTo_24 0 rfl ?_
    refine r_getR 3 fX0_18 (hG.lt (by decide)) sh51 fs51_0 dX0_driftsTo_25 ?_
    refine r_getI fX0_54 (hG.lt (by decide)) sh3 fs3_8 dX0_driftsTo_28 ?_
    refine r_icmp_ge 69 dX0_driftsTo_31 (by decide) (fun c2 => ?_) (fun c2 => ?_)
    · replace hP := hP.1 c2
      refine r_iinc ((SX0_driftsTo_13 p1 p2 p3 μ).2.2.2 + (-1)) [(7, _), (0, _), (1, _), (2, _), (3, _), (4, _), (5, _), (6, _), (8, _)] dX0_driftsTo_69 7 rfl rfl (Nat.le_of_ble_eq_true rfl) rfl ?_
      refine r_goto 13 dX0_driftsTo_72 (by decide) ?_
      exact hP.elim
    · replace hP := hP.2 c2
      refine r_aload_n dX0_driftsTo_34 0 rfl ?_
      refine r_iload dX0_driftsTo_35 8 rfl ?_
      refine r_iload dX0_driftsTo_37 7 rfl ?_
      refine r_iload_n dX0_driftsTo_39 2 rfl ?_
      have hs7 := hP.1
      replace hP := hP.2
      refine r_cvI (ok_X0_driftFrom hG (nI (NX0_driftsTo_22 p1 p2 p3 μ)) (SX0_driftsTo_13 p1 p2 p3 μ).2.2.2 p2 μ hs7) lX0_129 (hG.lt (by decide)) sh51 ⟨_, _, rfl⟩ dX0_driftsTo_40 (by decide) (Nat.le_of_ble_eq_true rfl) rfl (Nat.le_of_ble_eq_true rfl) ?_
      refine r_iload_n dX0_driftsTo_43 1 rfl ?_
      refine r_join 63 [(0, .ref (ga G 51)), (1, .int p1), (2, .int p2), (3, .int p3), (4, .int (VX0_driftsTo_1 p1 p2 p3 μ)), (5, .int (VX0_driftsTo_2 p1 p2 p3 μ)), (6, .int (VX0_driftsTo_3 p1 p2 p3 μ)), (7, .int (SX0_driftsTo_13 p1 p2 p3 μ).2.2.2), (8, .int (nI (NX0_driftsTo_22 p1 p2 p3 μ)))] [] μ ?_ (fun hJ => ?_)
      · refine r_iinc ((nI (NX0_driftsTo_22 p1 p2 p3 μ)) + 1) [(8, _), (0, _), (1, _), (2, _), (3, _), (4, _), (5, _), (6, _), (7, _)] dX0_driftsTo_63 8 rfl rfl (Nat.le_of_ble_eq_true rfl) rfl ?_
        refine r_goto 22 dX0_driftsTo_66 (by decide) ?_
        exact hP.elim
      · refine r_icmp_ne 63 dX0_driftsTo_44 (by decide) (fun c3 => ?_) (fun c3 => ?_)
        · have e : (VX0_driftsTo_1 p1 p2 p3 μ) = (SX0_driftsTo_22 p1 p2 p3 μ).1 := by unfold VX0_driftsTo_1; rw [if_pos c3]
          rw [e] at hJ
          clear e
          have e : (VX0_driftsTo_2 p1 p2 p3 μ) = (SX0_driftsTo_22 p1 p2 p3 μ).2.1 := by unfold VX0_driftsTo_2; rw [if_pos c3]
          rw [e] at hJ
          clear e
          have e : (VX0_driftsTo_3 p1 p2 p3 μ) = (SX0_driftsTo_22 p1 p2 p3 μ).2.2 := by unfold VX0_driftsTo_3; rw [if_pos c3]
          rw [e] at hJ
          exact r_sub [0, 1, 2, 3, 4, 5, 6, 7, 8] rfl hJ
        · refine r_iinc ((SX0_driftsTo_22 p1 p2 p3 μ).1 + 1) [(4, _), (0, _), (1, _), (2, _), (3, _), (5, _), (6, _), (7, _), (8, _)] dX0_driftsTo_47 4 rfl rfl (Nat.le_of_ble_eq_true rfl) rfl ?_
          refine r_iload dX0_driftsTo_50 5 rfl ?_
          refine r_iconst 1 dX0_driftsTo_52 rfl ?_
          refine r_iload dX0_driftsTo_53 8 rfl ?_
          refine r_ishl dX0_driftsTo_55 rfl ?_
          refine r_ior dX0_driftsTo_56 ?_
          refine r_istore [(5, _), (4, _), (0, _), (1, _), (2, _), (3, _), (6, _), (7, _), (8, _)] dX0_driftsTo_57 (Nat.le_of_ble_eq_true rfl) rfl ?_
          refine r_iload dX0_driftsTo_59 7 rfl ?_
          refine r_istore [(6, _), (5, _), (4, _), (0, _), (1, _), (2, _), (3, _), (7, _), (8, _)] dX0_driftsTo_61 (Nat.le_of_ble_eq_true rfl) rfl ?_
          have e : (VX0_driftsTo_1 p1 p2 p3 μ) = ((SX0_driftsTo_22 p1 p2 p3 μ).1 + 1) := by unfold VX0_driftsTo_1; rw [if_neg (not_not_intro c3)]
          rw [e] at hJ
          clear e
          have e : (VX0_driftsTo_2 p1 p2 p3 μ) = ((SX0_driftsTo_22 p1 p2 p3 μ).2.1 ||| ((1 : Int32) <<< ((nI (NX0_driftsTo_22 p1 p2 p3 μ)) &&& 31))) := by unfold VX0_driftsTo_2; rw [if_neg (not_not_intro c3)]
          rw [e] at hJ
          clear e
          have e : (VX0_driftsTo_3 p1 p2 p3 μ) = (SX0_driftsTo_13 p1 p2 p3 μ).2.2.2 := by unfold VX0_driftsTo_3; rw [if_neg (not_not_intro c3)]
          rw [e] at hJ
          exact r_sub [3, 4, 5, 6, 2, 1, 0, 7, 8] rfl hJ
def g_X0_meanFound_6 (v1 : Int32) (v2 : Int32) (v3 : Int32) (μ : Mem) (i : Nat) (s : Int32) : Int32 := (s + ((F_X9_at 10 6 (nI i) μ) * (F_X9_at 11 6 (nI i) μ)))
def Pb_X0_meanFound_6 (v1 : Int32) (v2 : Int32) (v3 : Int32) (μ : Mem) (i : Nat) (s : Int32) : Prop := (((μ 3 11) ≤ (nI i) → False) ∧ ((nI i) < (μ 3 11) → True))
set_option maxRecDepth 20000 in
set_option maxHeartbeats 2000000 in
theorem lp_X0_meanFound_6 {G : SG} (hG : GK 57 G)  (v1 : Int32) (v2 : Int32) (v3 : Int32) (μ : Mem) (s0 : Int32) (N : Nat) (sN : Int32) (eN : sN = fo N (g_X0_meanFound_6 v1 v2 v3 μ) s0) (hN : ∀ i, i < N → Pb_X0_meanFound_6 v1 v2 v3 μ i (fo i (g_X0_meanFound_6 v1 v2 v3 μ) s0)) {t : Nat} {Q : PQ} {X : PX} (h : R G mX0_meanFound 6 [(0, .ref (ga G 51)), (1, .int v1), (2, .int v2), (3, .int v3), (4, .int sN), (5, .int (nI N))] [] μ t Q X) : R G mX0_meanFound 6 [(0, .ref (ga G 51)), (1, .int v1), (2, .int v2), (3, .int v3), (4, .int s0), (5, .int 0)] [] μ t Q X := by
  subst eN
  refine down_i N (fun i => R G mX0_meanFound 6 [(0, .ref (ga G 51)), (1, .int v1), (2, .int v2), (3, .int v3), (4, .int (fo i (g_X0_meanFound_6 v1 v2 v3 μ) s0)), (5, .int (nI i))] [] μ t Q X) h (fun i hi hS => ?_)
  have hP := hN i hi
  rw [fo_succ] at hS
  rw [nI_succ] at hS
  generalize fo i (g_X0_meanFound_6 v1 v2 v3 μ) s0 = s at hS hP ⊢
  unfold Pb_X0_meanFound_6 at hP
  refine r_iload dX0_meanFound_6 5 rfl ?_
  refine r_aload_n dX0_meanFound_8 0 rfl ?_
  refine r_getR 3 fX0_18 (hG.lt (by decide)) sh51 fs51_0 dX0_meanFound_9 ?_
  refine r_getI fX0_133 (hG.lt (by decide)) sh3 fs3_11 dX0_meanFound_12 ?_
  refine r_icmp_ge 54 dX0_meanFound_15 (by decide) (fun c1 => ?_) (fun c1 => ?_)
  · replace hP := hP.1 c1
    exact hP.elim
  · replace hP := hP.2 c1
    refine r_iload dX0_meanFound_18 4 rfl ?_
    refine r_aload_n dX0_meanFound_20 0 rfl ?_
    refine r_getR 3 fX0_18 (hG.lt (by decide)) sh51 fs51_0 dX0_meanFound_21 ?_
    refine r_getR 10 fX0_136 (hG.lt (by decide)) sh3 fs3_6 dX0_meanFound_24 ?_
    refine r_iload dX0_meanFound_27 5 rfl ?_
    refine r_csI (ok_X9_at hG (hG.lt (by decide)) sh10 (nI i) μ) lX0_120 dX0_meanFound_29 (by decide) (Nat.le_of_ble_eq_true rfl) rfl (Nat.le_of_ble_eq_true rfl) ?_
    refine r_aload_n dX0_meanFound_32 0 rfl ?_
    refine r_getR 3 fX0_18 (hG.lt (by decide)) sh51 fs51_0 dX0_meanFound_33 ?_
    refine r_getR 11 fX0_139 (hG.lt (by decide)) sh3 fs3_7 dX0_meanFound_36 ?_
    refine r_iload dX0_meanFound_39 5 rfl ?_
    refine r_csI (ok_X9_at hG (hG.lt (by decide)) sh11 (nI i) μ) lX0_120 dX0_meanFound_41 (by decide) (Nat.le_of_ble_eq_true rfl) rfl (Nat.le_of_ble_eq_true rfl) ?_
    refine r_imul dX0_meanFound_44 ?_
    refine r_iadd dX0_meanFound_45 ?_
    refine r_istore [(4, _), (0, _), (1, _), (2, _), (3, _), (5, _)] dX0_meanFound_46 (Nat.le_of_ble_eq_true rfl) rfl ?_
    refine r_iinc ((nI i) + 1) [(5, _), (4, _), (0, _), (1, _), (2, _), (3, _)] dX0_meanFound_48 5 rfl rfl (Nat.le_of_ble_eq_true rfl) rfl ?_
    refine r_goto 6 dX0_meanFound_51 (by decide) ?_
    have e : g_X0_meanFound_6 v1 v2 v3 μ i s = (s + ((F_X9_at 10 6 (nI i) μ) * (F_X9_at 11 6 (nI i) μ))) := by unfold g_X0_meanFound_6; rfl
    rw [e] at hS
    exact r_sub [2, 3, 4, 5, 1, 0] rfl hS
def NX0_meanFound_6 (p1 : Int32) (p2 : Int32) (p3 : Int32) (μ : Mem) : Nat := ix (μ 3 11)
def SX0_meanFound_6 (p1 : Int32) (p2 : Int32) (p3 : Int32) (μ : Mem) : Int32 := fo (NX0_meanFound_6 p1 p2 p3 μ) (g_X0_meanFound_6 p1 p2 p3 μ) 0
def g_X0_meanFound_74 (v1 : Int32) (v2 : Int32) (v3 : Int32) (μ : Mem) (i : Nat) (s : Int32 × Int32) : Int32 × Int32 := ((s.1 / 2), (s.2 / 2))
def Pb_X0_meanFound_74 (v1 : Int32) (v2 : Int32) (v3 : Int32) (μ : Mem) (i : Nat) (s : Int32 × Int32) : Prop := ((4 ≤ (nI i) → False) ∧ ((nI i) < 4 → (((s.1 - s.1 / 2 * 2) ≠ 0 → False) ∧ ((s.1 - s.1 / 2 * 2) = 0 → True))))
def Cb_X0_meanFound_74 (v1 : Int32) (v2 : Int32) (v3 : Int32) (μ : Mem) (i : Nat) (s : Int32 × Int32) : Bool := (if 4 ≤ (nI i) then false else (if (s.1 - s.1 / 2 * 2) ≠ 0 then false else true))
set_option maxRecDepth 20000 in
set_option maxHeartbeats 2000000 in
theorem lp_X0_meanFound_74 {G : SG} (hG : GK 57 G)  (v1 : Int32) (v2 : Int32) (v3 : Int32) (μ : Mem) (s0 : Int32 × Int32) (N : Nat) (sN : Int32 × Int32) (eN : sN = fo N (g_X0_meanFound_74 v1 v2 v3 μ) s0) (hN : ∀ i, i < N → Pb_X0_meanFound_74 v1 v2 v3 μ i (fo i (g_X0_meanFound_74 v1 v2 v3 μ) s0)) {t : Nat} {Q : PQ} {X : PX} (h : R G mX0_meanFound 74 [(0, .ref (ga G 51)), (1, .int v1), (2, .int v2), (3, .int v3), (4, .int (sN).1), (5, .int (sN).2), (6, .int (nI N))] [] μ t Q X) : R G mX0_meanFound 74 [(0, .ref (ga G 51)), (1, .int v1), (2, .int v2), (3, .int v3), (4, .int (s0).1), (5, .int (s0).2), (6, .int 0)] [] μ t Q X := by
  subst eN
  refine down_i N (fun i => R G mX0_meanFound 74 [(0, .ref (ga G 51)), (1, .int v1), (2, .int v2), (3, .int v3), (4, .int ((fo i (g_X0_meanFound_74 v1 v2 v3 μ) s0)).1), (5, .int ((fo i (g_X0_meanFound_74 v1 v2 v3 μ) s0)).2), (6, .int (nI i))] [] μ t Q X) h (fun i hi hS => ?_)
  have hP := hN i hi
  rw [fo_succ] at hS
  rw [nI_succ] at hS
  generalize fo i (g_X0_meanFound_74 v1 v2 v3 μ) s0 = s at hS hP ⊢
  unfold Pb_X0_meanFound_74 at hP
  refine r_iload dX0_meanFound_74 6 rfl ?_
  refine r_iconst 4 dX0_meanFound_76 rfl ?_
  refine r_icmp_ge 105 dX0_meanFound_77 (by decide) (fun c1 => ?_) (fun c1 => ?_)
  · replace hP := hP.1 c1
    exact hP.elim
  · replace hP := hP.2 c1
    refine r_iload dX0_meanFound_80 4 rfl ?_
    refine r_iconst 2 dX0_meanFound_82 rfl ?_
    refine r_irem dX0_meanFound_83 (by decide) ?_
    refine r_if_ne 105 dX0_meanFound_84 (by decide) (fun c2 => ?_) (fun c2 => ?_)
    · replace hP := hP.1 c2
      exact hP.elim
    · replace hP := hP.2 c2
      refine r_iload dX0_meanFound_87 4 rfl ?_
      refine r_iconst 2 dX0_meanFound_89 rfl ?_
      refine r_idiv dX0_meanFound_90 (by decide) ?_
      refine r_istore [(4, _), (0, _), (1, _), (2, _), (3, _), (5, _), (6, _)] dX0_meanFound_91 (Nat.le_of_ble_eq_true rfl) rfl ?_
      refine r_iload dX0_meanFound_93 5 rfl ?_
      refine r_iconst 2 dX0_meanFound_95 rfl ?_
      refine r_idiv dX0_meanFound_96 (by decide) ?_
      refine r_istore [(5, _), (4, _), (0, _), (1, _), (2, _), (3, _), (6, _)] dX0_meanFound_97 (Nat.le_of_ble_eq_true rfl) rfl ?_
      refine r_iinc ((nI i) + 1) [(6, _), (5, _), (4, _), (0, _), (1, _), (2, _), (3, _)] dX0_meanFound_99 6 rfl rfl (Nat.le_of_ble_eq_true rfl) rfl ?_
      refine r_goto 74 dX0_meanFound_102 (by decide) ?_
      have e : g_X0_meanFound_74 v1 v2 v3 μ i s = ((s.1 / 2), (s.2 / 2)) := by unfold g_X0_meanFound_74; rfl
      rw [e] at hS
      dsimp only at hS
      exact r_sub [3, 4, 5, 6, 2, 1, 0] rfl hS
def NX0_meanFound_74 (p1 : Int32) (p2 : Int32) (p3 : Int32) (μ : Mem) : Nat := (fst 5 (fun j9 => !Cb_X0_meanFound_74 p1 p2 p3 μ j9 (fo j9 (g_X0_meanFound_74 p1 p2 p3 μ) (((SX0_meanFound_6 p1 p2 p3 μ) * (F_X0_timesInto ((1 : Int32) <<< (p1 &&& 31)) p2 μ)), 16))))
def SX0_meanFound_74 (p1 : Int32) (p2 : Int32) (p3 : Int32) (μ : Mem) : Int32 × Int32 := fo (NX0_meanFound_74 p1 p2 p3 μ) (g_X0_meanFound_74 p1 p2 p3 μ) (((SX0_meanFound_6 p1 p2 p3 μ) * (F_X0_timesInto ((1 : Int32) <<< (p1 &&& 31)) p2 μ)), 16)
def F_X0_meanFound (p1 : Int32) (p2 : Int32) (p3 : Int32) (μ : Mem) : Int32 := (if p3 ≠ 0 then (SX0_meanFound_74 p1 p2 p3 μ).2 else (SX0_meanFound_74 p1 p2 p3 μ).1)
def P_X0_meanFound (p1 : Int32) (p2 : Int32) (p3 : Int32) (μ : Mem) : Prop := ((∀ j9, j9 < (NX0_meanFound_6 p1 p2 p3 μ) → Pb_X0_meanFound_6 p1 p2 p3 μ j9 (fo j9 (g_X0_meanFound_6 p1 p2 p3 μ) 0)) ∧ (((μ 3 11) ≤ (nI (NX0_meanFound_6 p1 p2 p3 μ)) → ((P_X0_timesInto ((1 : Int32) <<< (p1 &&& 31)) p2 μ) ∧ ((∀ j9, j9 < (NX0_meanFound_74 p1 p2 p3 μ) → Pb_X0_meanFound_74 p1 p2 p3 μ j9 (fo j9 (g_X0_meanFound_74 p1 p2 p3 μ) (((SX0_meanFound_6 p1 p2 p3 μ) * (F_X0_timesInto ((1 : Int32) <<< (p1 &&& 31)) p2 μ)), 16))) ∧ ((4 ≤ (nI (NX0_meanFound_74 p1 p2 p3 μ)) → True) ∧ ((nI (NX0_meanFound_74 p1 p2 p3 μ)) < 4 → ((((SX0_meanFound_74 p1 p2 p3 μ).1 - (SX0_meanFound_74 p1 p2 p3 μ).1 / 2 * 2) ≠ 0 → True) ∧ (((SX0_meanFound_74 p1 p2 p3 μ).1 - (SX0_meanFound_74 p1 p2 p3 μ).1 / 2 * 2) = 0 → False))))))) ∧ ((nI (NX0_meanFound_6 p1 p2 p3 μ)) < (μ 3 11) → False)))
set_option maxRecDepth 20000 in
set_option maxHeartbeats 2000000 in
theorem ok_X0_meanFound {G : SG} (hG : GK 57 G) (p1 : Int32) (p2 : Int32) (p3 : Int32) (μ : Mem) (hP : P_X0_meanFound p1 p2 p3 μ) : OkF G mX0_meanFound [.ref (ga G 51), .int p1, .int p2, .int p3] μ (some (.int (F_X0_meanFound p1 p2 p3 μ))) μ := by
  refine okF_of hG rfl rfl (Nat.le_of_ble_eq_true rfl) ?_
  unfold P_X0_meanFound at hP
  refine r_iconst 0 dX0_meanFound_0 rfl ?_
  refine r_istore [(4, _), (0, _), (1, _), (2, _), (3, _)] dX0_meanFound_1 (Nat.le_of_ble_eq_true rfl) rfl ?_
  refine r_iconst 0 dX0_meanFound_3 rfl ?_
  refine r_istore [(5, _), (4, _), (0, _), (1, _), (2, _), (3, _)] dX0_meanFound_4 (Nat.le_of_ble_eq_true rfl) rfl ?_
  have hs1 := hP.1
  replace hP := hP.2
  refine r_sub [2, 3, 4, 5, 1, 0] rfl ?_
  refine lp_X0_meanFound_6 hG p1 p2 p3 μ 0 ((NX0_meanFound_6 p1 p2 p3 μ)) (SX0_meanFound_6 p1 p2 p3 μ) rfl hs1 ?_
  refine r_iload dX0_meanFound_6 5 rfl ?_
  refine r_aload_n dX0_meanFound_8 0 rfl ?_
  refine r_getR 3 fX0_18 (hG.lt (by decide)) sh51 fs51_0 dX0_meanFound_9 ?_
  refine r_getI fX0_133 (hG.lt (by decide)) sh3 fs3_11 dX0_meanFound_12 ?_
  refine r_icmp_ge 54 dX0_meanFound_15 (by decide) (fun c1 => ?_) (fun c1 => ?_)
  · replace hP := hP.1 c1
    refine r_iload dX0_meanFound_54 4 rfl ?_
    refine r_aload_n dX0_meanFound_56 0 rfl ?_
    refine r_iconst 1 dX0_meanFound_57 rfl ?_
    refine r_iload_n dX0_meanFound_58 1 rfl ?_
    refine r_ishl dX0_meanFound_59 rfl ?_
    refine r_iload_n dX0_meanFound_60 2 rfl ?_
    have hs2 := hP.1
    replace hP := hP.2
    refine r_cvI (ok_X0_timesInto hG ((1 : Int32) <<< (p1 &&& 31)) p2 μ hs2) lX0_96 (hG.lt (by decide)) sh51 ⟨_, _, rfl⟩ dX0_meanFound_61 (by decide) (Nat.le_of_ble_eq_true rfl) rfl (Nat.le_of_ble_eq_true rfl) ?_
    refine r_imul dX0_meanFound_64 ?_
    refine r_istore [(4, _), (0, _), (1, _), (2, _), (3, _), (5, _)] dX0_meanFound_65 (Nat.le_of_ble_eq_true rfl) rfl ?_
    refine r_bipush 16 dX0_meanFound_67 rfl ?_
    refine r_istore [(5, _), (4, _), (0, _), (1, _), (2, _), (3, _)] dX0_meanFound_69 (Nat.le_of_ble_eq_true rfl) rfl ?_
    refine r_iconst 0 dX0_meanFound_71 rfl ?_
    refine r_istore [(6, _), (5, _), (4, _), (0, _), (1, _), (2, _), (3, _)] dX0_meanFound_72 (Nat.le_of_ble_eq_true rfl) rfl ?_
    have hs3 := hP.1
    replace hP := hP.2
    refine r_sub [3, 4, 5, 6, 2, 1, 0] rfl ?_
    refine lp_X0_meanFound_74 hG p1 p2 p3 μ (((SX0_meanFound_6 p1 p2 p3 μ) * (F_X0_timesInto ((1 : Int32) <<< (p1 &&& 31)) p2 μ)), 16) ((NX0_meanFound_74 p1 p2 p3 μ)) (SX0_meanFound_74 p1 p2 p3 μ) rfl hs3 ?_
    refine r_iload dX0_meanFound_74 6 rfl ?_
    refine r_iconst 4 dX0_meanFound_76 rfl ?_
    refine r_icmp_ge 105 dX0_meanFound_77 (by decide) (fun c2 => ?_) (fun c2 => ?_)
    · replace hP := hP.1 c2
      refine r_iload_n dX0_meanFound_105 3 rfl ?_
      refine r_if_ne 114 dX0_meanFound_106 (by decide) (fun c3 => ?_) (fun c3 => ?_)
      · refine r_iload dX0_meanFound_114 5 rfl ?_
        exact r_ireturn _ dX0_meanFound_116 rfl rfl ⟨congrArg (fun z => some (Value.int z)) (by unfold F_X0_meanFound; rw [if_pos c3]), rfl⟩
      · refine r_iload dX0_meanFound_109 4 rfl ?_
        refine r_goto 116 dX0_meanFound_111 (by decide) ?_
        exact r_ireturn _ dX0_meanFound_116 rfl rfl ⟨congrArg (fun z => some (Value.int z)) (by unfold F_X0_meanFound; rw [if_neg (not_not_intro c3)]), rfl⟩
    · replace hP := hP.2 c2
      refine r_iload dX0_meanFound_80 4 rfl ?_
      refine r_iconst 2 dX0_meanFound_82 rfl ?_
      refine r_irem dX0_meanFound_83 (by decide) ?_
      refine r_if_ne 105 dX0_meanFound_84 (by decide) (fun c3 => ?_) (fun c3 => ?_)
      · replace hP := hP.1 c3
        refine r_iload_n dX0_meanFound_105 3 rfl ?_
        refine r_if_ne 114 dX0_meanFound_106 (by decide) (fun c4 => ?_) (fun c4 => ?_)
        · refine r_iload dX0_meanFound_114 5 rfl ?_
          exact r_ireturn _ dX0_meanFound_116 rfl rfl ⟨congrArg (fun z => some (Value.int z)) (by unfold F_X0_meanFound; rw [if_pos c4]), rfl⟩
        · refine r_iload dX0_meanFound_109 4 rfl ?_
          refine r_goto 116 dX0_meanFound_111 (by decide) ?_
          exact r_ireturn _ dX0_meanFound_116 rfl rfl ⟨congrArg (fun z => some (Value.int z)) (by unfold F_X0_meanFound; rw [if_neg (not_not_intro c4)]), rfl⟩
      · replace hP := hP.2 c3
        refine r_iload dX0_meanFound_87 4 rfl ?_
        refine r_iconst 2 dX0_meanFound_89 rfl ?_
        refine r_idiv dX0_meanFound_90 (by decide) ?_
        refine r_istore [(4, _), (0, _), (1, _), (2, _), (3, _), (5, _), (6, _)] dX0_meanFound_91 (Nat.le_of_ble_eq_true rfl) rfl ?_
        refine r_iload dX0_meanFound_93 5 rfl ?_
        refine r_iconst 2 dX0_meanFound_95 rfl ?_
        refine r_idiv dX0_meanFound_96 (by decide) ?_
        refine r_istore [(5, _), (4, _), (0, _), (1, _), (2, _), (3, _), (6, _)] dX0_meanFound_97 (Nat.le_of_ble_eq_true rfl) rfl ?_
        refine r_iinc ((nI (NX0_meanFound_74 p1 p2 p3 μ)) + 1) [(6, _), (5, _), (4, _), (0, _), (1, _), (2, _), (3, _)] dX0_meanFound_99 6 rfl rfl (Nat.le_of_ble_eq_true rfl) rfl ?_
        refine r_goto 74 dX0_meanFound_102 (by decide) ?_
        exact hP.elim
  · replace hP := hP.2 c1
    refine r_iload dX0_meanFound_18 4 rfl ?_
    refine r_aload_n dX0_meanFound_20 0 rfl ?_
    refine r_getR 3 fX0_18 (hG.lt (by decide)) sh51 fs51_0 dX0_meanFound_21 ?_
    refine r_getR 10 fX0_136 (hG.lt (by decide)) sh3 fs3_6 dX0_meanFound_24 ?_
    refine r_iload dX0_meanFound_27 5 rfl ?_
    refine r_csI (ok_X9_at hG (hG.lt (by decide)) sh10 (nI (NX0_meanFound_6 p1 p2 p3 μ)) μ) lX0_120 dX0_meanFound_29 (by decide) (Nat.le_of_ble_eq_true rfl) rfl (Nat.le_of_ble_eq_true rfl) ?_
    refine r_aload_n dX0_meanFound_32 0 rfl ?_
    refine r_getR 3 fX0_18 (hG.lt (by decide)) sh51 fs51_0 dX0_meanFound_33 ?_
    refine r_getR 11 fX0_139 (hG.lt (by decide)) sh3 fs3_7 dX0_meanFound_36 ?_
    refine r_iload dX0_meanFound_39 5 rfl ?_
    refine r_csI (ok_X9_at hG (hG.lt (by decide)) sh11 (nI (NX0_meanFound_6 p1 p2 p3 μ)) μ) lX0_120 dX0_meanFound_41 (by decide) (Nat.le_of_ble_eq_true rfl) rfl (Nat.le_of_ble_eq_true rfl) ?_
    refine r_imul dX0_meanFound_44 ?_
    refine r_iadd dX0_meanFound_45 ?_
    refine r_istore [(4, _), (0, _), (1, _), (2, _), (3, _), (5, _)] dX0_meanFound_46 (Nat.le_of_ble_eq_true rfl) rfl ?_
    refine r_iinc ((nI (NX0_meanFound_6 p1 p2 p3 μ)) + 1) [(5, _), (4, _), (0, _), (1, _), (2, _), (3, _)] dX0_meanFound_48 5 rfl rfl (Nat.le_of_ble_eq_true rfl) rfl ?_
    refine r_goto 6 dX0_meanFound_51 (by decide) ?_
    exact hP.elim
def muX0_timesWet_1 (p1 : Int32) (p2 : Int32) (μ : Mem) : Mem := (M_X0_begin  μ)
def VX0_timesWet_9_1 (v1 : Int32) (v2 : Int32) (i : Nat) (s : Int32 × Mem) : Int32 := (if (F_X5_isDown 52 v1 s.2) = 0 then s.1 else (if (F_X0_waterAhead (F_X5_of 52 0 v1 s.2) (nI i) s.2) ≤ 0 then s.1 else (s.1 + 1)))
def muX0_timesWet_9_2 (v1 : Int32) (v2 : Int32) (i : Nat) (s : Int32 × Mem) : Mem := (M_X0_passNext  s.2)
def g_X0_timesWet_9 (v1 : Int32) (v2 : Int32) (i : Nat) (s : Int32 × Mem) : Int32 × Mem := ((VX0_timesWet_9_1 v1 v2 i s), (muX0_timesWet_9_2 v1 v2 i s))
def Pb_X0_timesWet_9 (v1 : Int32) (v2 : Int32) (i : Nat) (s : Int32 × Mem) : Prop := ((v2 ≤ (nI i) → False) ∧ ((nI i) < v2 → ((((F_X5_isDown 52 v1 s.2) = 0 → True) ∧ (¬ (F_X5_isDown 52 v1 s.2) = 0 → P_X0_waterAhead (F_X5_of 52 0 v1 s.2) (nI i) s.2)) ∧ P_X0_passNext  s.2)))
set_option maxRecDepth 20000 in
set_option maxHeartbeats 2000000 in
theorem lp_X0_timesWet_9 {G : SG} (hG : GK 57 G)  (v1 : Int32) (v2 : Int32) (s0 : Int32 × Mem) (N : Nat) (sN : Int32 × Mem) (eN : sN = fo N (g_X0_timesWet_9 v1 v2) s0) (hN : ∀ i, i < N → Pb_X0_timesWet_9 v1 v2 i (fo i (g_X0_timesWet_9 v1 v2) s0)) {t : Nat} {Q : PQ} {X : PX} (h : R G mX0_timesWet 9 [(0, .ref (ga G 51)), (1, .int v1), (2, .int v2), (3, .int (sN).1), (4, .int (nI N))] [] (sN).2 t Q X) : R G mX0_timesWet 9 [(0, .ref (ga G 51)), (1, .int v1), (2, .int v2), (3, .int (s0).1), (4, .int 0)] [] (s0).2 t Q X := by
  subst eN
  refine down_i N (fun i => R G mX0_timesWet 9 [(0, .ref (ga G 51)), (1, .int v1), (2, .int v2), (3, .int ((fo i (g_X0_timesWet_9 v1 v2) s0)).1), (4, .int (nI i))] [] ((fo i (g_X0_timesWet_9 v1 v2) s0)).2 t Q X) h (fun i hi hS => ?_)
  have hP := hN i hi
  rw [fo_succ] at hS
  rw [nI_succ] at hS
  generalize fo i (g_X0_timesWet_9 v1 v2) s0 = s at hS hP ⊢
  unfold Pb_X0_timesWet_9 at hP
  refine r_iload dX0_timesWet_9 4 rfl ?_
  refine r_iload_n dX0_timesWet_11 2 rfl ?_
  refine r_icmp_ge 57 dX0_timesWet_12 (by decide) (fun c1 => ?_) (fun c1 => ?_)
  · replace hP := hP.1 c1
    exact hP.elim
  · replace hP := hP.2 c1
    refine r_aload_n dX0_timesWet_15 0 rfl ?_
    refine r_getR 52 fX0_12 (hG.lt (by decide)) sh51 fs51_3 dX0_timesWet_16 ?_
    refine r_iload_n dX0_timesWet_19 1 rfl ?_
    refine r_cvI (ok_X5_isDown hG (IsSt.of52) v1 s.2) lX0_114 (hG.lt (by decide)) sh52 ⟨_, _, rfl⟩ dX0_timesWet_20 (by decide) (Nat.le_of_ble_eq_true rfl) rfl (Nat.le_of_ble_eq_true rfl) ?_
    refine r_join 47 [(0, .ref (ga G 51)), (1, .int v1), (2, .int v2), (3, .int (VX0_timesWet_9_1 v1 v2 i s)), (4, .int (nI i))] [] s.2 ?_ (fun hJ => ?_)
    · replace hP := hP.2
      refine r_aload_n dX0_timesWet_47 0 rfl ?_
      have hs2 := hP
      refine r_cvV (ok_X0_passNext hG  s.2 hs2) lX0_68 (hG.lt (by decide)) sh51 ⟨_, _, rfl⟩ dX0_timesWet_48 (by decide) (Nat.le_of_ble_eq_true rfl) rfl (Nat.le_of_ble_eq_true rfl) ?_
      refine r_mu (muX0_timesWet_9_2 v1 v2 i s) rfl ?_
      refine r_iinc ((nI i) + 1) [(4, _), (0, _), (1, _), (2, _), (3, _)] dX0_timesWet_51 4 rfl rfl (Nat.le_of_ble_eq_true rfl) rfl ?_
      refine r_goto 9 dX0_timesWet_54 (by decide) ?_
      have e : g_X0_timesWet_9 v1 v2 i s = ((VX0_timesWet_9_1 v1 v2 i s), (muX0_timesWet_9_2 v1 v2 i s)) := by unfold g_X0_timesWet_9; rfl
      rw [e] at hS
      dsimp only at hS
      exact r_sub [1, 2, 3, 4, 0] rfl hS
    · replace hP := hP.1
      refine r_if_eq 47 dX0_timesWet_23 (by decide) (fun c2 => ?_) (fun c2 => ?_)
      · replace hP := hP.1 c2
        have e : (VX0_timesWet_9_1 v1 v2 i s) = s.1 := by unfold VX0_timesWet_9_1; rw [if_pos c2]
        rw [e] at hJ
        exact r_sub [0, 1, 2, 3, 4] rfl hJ
      · replace hP := hP.2 c2
        refine r_aload_n dX0_timesWet_26 0 rfl ?_
        refine r_aload_n dX0_timesWet_27 0 rfl ?_
        refine r_getR 52 fX0_12 (hG.lt (by decide)) sh51 fs51_3 dX0_timesWet_28 ?_
        refine r_iconst 0 dX0_timesWet_31 rfl ?_
        refine r_iload_n dX0_timesWet_32 1 rfl ?_
        refine r_cvI (ok_X5_of hG (IsSt.of52) 0 v1 s.2) lX0_93 (hG.lt (by decide)) sh52 ⟨_, _, rfl⟩ dX0_timesWet_33 (by decide) (Nat.le_of_ble_eq_true rfl) rfl (Nat.le_of_ble_eq_true rfl) ?_
        refine r_iload dX0_timesWet_36 4 rfl ?_
        have hs1 := hP
        refine r_cvI (ok_X0_waterAhead hG (F_X5_of 52 0 v1 s.2) (nI i) s.2 hs1) lX0_58 (hG.lt (by decide)) sh51 ⟨_, _, rfl⟩ dX0_timesWet_38 (by decide) (Nat.le_of_ble_eq_true rfl) rfl (Nat.le_of_ble_eq_true rfl) ?_
        refine r_if_le 47 dX0_timesWet_41 (by decide) (fun c3 => ?_) (fun c3 => ?_)
        · have e : (VX0_timesWet_9_1 v1 v2 i s) = s.1 := by unfold VX0_timesWet_9_1; rw [if_neg c2, if_pos c3]
          rw [e] at hJ
          exact r_sub [0, 1, 2, 3, 4] rfl hJ
        · refine r_iinc (s.1 + 1) [(3, _), (0, _), (1, _), (2, _), (4, _)] dX0_timesWet_44 3 rfl rfl (Nat.le_of_ble_eq_true rfl) rfl ?_
          have e : (VX0_timesWet_9_1 v1 v2 i s) = (s.1 + 1) := by unfold VX0_timesWet_9_1; rw [if_neg c2, if_neg (i32_ng c3)]
          rw [e] at hJ
          exact r_sub [1, 2, 3, 0, 4] rfl hJ
def NX0_timesWet_9 (p1 : Int32) (p2 : Int32) (μ : Mem) : Nat := ix p2
def SX0_timesWet_9 (p1 : Int32) (p2 : Int32) (μ : Mem) : Int32 × Mem := fo (NX0_timesWet_9 p1 p2 μ) (g_X0_timesWet_9 p1 p2) (0, (muX0_timesWet_1 p1 p2 μ))
def VX0_timesWet_2 (p1 : Int32) (p2 : Int32) (μ : Mem) : Int32 := (if (F_X5_isDown 52 p1 (SX0_timesWet_9 p1 p2 μ).2) = 0 then (SX0_timesWet_9 p1 p2 μ).1 else (if (F_X0_waterAhead (F_X5_of 52 0 p1 (SX0_timesWet_9 p1 p2 μ).2) (nI (NX0_timesWet_9 p1 p2 μ)) (SX0_timesWet_9 p1 p2 μ).2) ≤ 0 then (SX0_timesWet_9 p1 p2 μ).1 else ((SX0_timesWet_9 p1 p2 μ).1 + 1)))
def muX0_timesWet_3 (p1 : Int32) (p2 : Int32) (μ : Mem) : Mem := (M_X0_passNext  (SX0_timesWet_9 p1 p2 μ).2)
def F_X0_timesWet (p1 : Int32) (p2 : Int32) (μ : Mem) : Int32 := (SX0_timesWet_9 p1 p2 μ).1
def M_X0_timesWet (p1 : Int32) (p2 : Int32) (μ : Mem) : Mem := (SX0_timesWet_9 p1 p2 μ).2
def P_X0_timesWet (p1 : Int32) (p2 : Int32) (μ : Mem) : Prop := ((P_X0_begin  μ) ∧ ((∀ j9, j9 < (NX0_timesWet_9 p1 p2 μ) → Pb_X0_timesWet_9 p1 p2 j9 (fo j9 (g_X0_timesWet_9 p1 p2) (0, (muX0_timesWet_1 p1 p2 μ)))) ∧ ((p2 ≤ (nI (NX0_timesWet_9 p1 p2 μ)) → True) ∧ ((nI (NX0_timesWet_9 p1 p2 μ)) < p2 → ((((F_X5_isDown 52 p1 (SX0_timesWet_9 p1 p2 μ).2) = 0 → True) ∧ (¬ (F_X5_isDown 52 p1 (SX0_timesWet_9 p1 p2 μ).2) = 0 → (P_X0_waterAhead (F_X5_of 52 0 p1 (SX0_timesWet_9 p1 p2 μ).2) (nI (NX0_timesWet_9 p1 p2 μ)) (SX0_timesWet_9 p1 p2 μ).2))) ∧ ((P_X0_passNext  (SX0_timesWet_9 p1 p2 μ).2) ∧ False))))))
set_option maxRecDepth 20000 in
set_option maxHeartbeats 2000000 in
theorem ok_X0_timesWet {G : SG} (hG : GK 57 G) (p1 : Int32) (p2 : Int32) (μ : Mem) (hP : P_X0_timesWet p1 p2 μ) : OkF G mX0_timesWet [.ref (ga G 51), .int p1, .int p2] μ (some (.int (F_X0_timesWet p1 p2 μ))) (M_X0_timesWet p1 p2 μ) := by
  refine okF_of hG rfl rfl (Nat.le_of_ble_eq_true rfl) ?_
  unfold P_X0_timesWet at hP
  refine r_aload_n dX0_timesWet_0 0 rfl ?_
  have hs1 := hP.1
  replace hP := hP.2
  refine r_cvV (ok_X0_begin hG  μ hs1) lX0_65 (hG.lt (by decide)) sh51 ⟨_, _, rfl⟩ dX0_timesWet_1 (by decide) (Nat.le_of_ble_eq_true rfl) rfl (Nat.le_of_ble_eq_true rfl) ?_
  refine r_mu (muX0_timesWet_1 p1 p2 μ) rfl ?_
  refine r_iconst 0 dX0_timesWet_4 rfl ?_
  refine r_istore_n [(3, _), (0, _), (1, _), (2, _)] dX0_timesWet_5 (Nat.le_of_ble_eq_true rfl) rfl ?_
  refine r_iconst 0 dX0_timesWet_6 rfl ?_
  refine r_istore [(4, _), (3, _), (0, _), (1, _), (2, _)] dX0_timesWet_7 (Nat.le_of_ble_eq_true rfl) rfl ?_
  have hs2 := hP.1
  replace hP := hP.2
  refine r_sub [2, 3, 4, 1, 0] rfl ?_
  refine lp_X0_timesWet_9 hG p1 p2 (0, (muX0_timesWet_1 p1 p2 μ)) ((NX0_timesWet_9 p1 p2 μ)) (SX0_timesWet_9 p1 p2 μ) rfl hs2 ?_
  refine r_iload dX0_timesWet_9 4 rfl ?_
  refine r_iload_n dX0_timesWet_11 2 rfl ?_
  refine r_icmp_ge 57 dX0_timesWet_12 (by decide) (fun c1 => ?_) (fun c1 => ?_)
  · replace hP := hP.1 c1
    refine r_iload_n dX0_timesWet_57 3 rfl ?_
    exact r_ireturn _ dX0_timesWet_58 rfl rfl ⟨congrArg (fun z => some (Value.int z)) (rfl), rfl⟩
  · replace hP := hP.2 c1
    refine r_aload_n dX0_timesWet_15 0 rfl ?_
    refine r_getR 52 fX0_12 (hG.lt (by decide)) sh51 fs51_3 dX0_timesWet_16 ?_
    refine r_iload_n dX0_timesWet_19 1 rfl ?_
    refine r_cvI (ok_X5_isDown hG (IsSt.of52) p1 (SX0_timesWet_9 p1 p2 μ).2) lX0_114 (hG.lt (by decide)) sh52 ⟨_, _, rfl⟩ dX0_timesWet_20 (by decide) (Nat.le_of_ble_eq_true rfl) rfl (Nat.le_of_ble_eq_true rfl) ?_
    refine r_join 47 [(0, .ref (ga G 51)), (1, .int p1), (2, .int p2), (3, .int (VX0_timesWet_2 p1 p2 μ)), (4, .int (nI (NX0_timesWet_9 p1 p2 μ)))] [] (SX0_timesWet_9 p1 p2 μ).2 ?_ (fun hJ => ?_)
    · replace hP := hP.2
      refine r_aload_n dX0_timesWet_47 0 rfl ?_
      have hs6 := hP.1
      replace hP := hP.2
      refine r_cvV (ok_X0_passNext hG  (SX0_timesWet_9 p1 p2 μ).2 hs6) lX0_68 (hG.lt (by decide)) sh51 ⟨_, _, rfl⟩ dX0_timesWet_48 (by decide) (Nat.le_of_ble_eq_true rfl) rfl (Nat.le_of_ble_eq_true rfl) ?_
      refine r_mu (muX0_timesWet_3 p1 p2 μ) rfl ?_
      refine r_iinc ((nI (NX0_timesWet_9 p1 p2 μ)) + 1) [(4, _), (0, _), (1, _), (2, _), (3, _)] dX0_timesWet_51 4 rfl rfl (Nat.le_of_ble_eq_true rfl) rfl ?_
      refine r_goto 9 dX0_timesWet_54 (by decide) ?_
      exact hP.elim
    · replace hP := hP.1
      refine r_if_eq 47 dX0_timesWet_23 (by decide) (fun c2 => ?_) (fun c2 => ?_)
      · replace hP := hP.1 c2
        have e : (VX0_timesWet_2 p1 p2 μ) = (SX0_timesWet_9 p1 p2 μ).1 := by unfold VX0_timesWet_2; rw [if_pos c2]
        rw [e] at hJ
        exact r_sub [0, 1, 2, 3, 4] rfl hJ
      · replace hP := hP.2 c2
        refine r_aload_n dX0_timesWet_26 0 rfl ?_
        refine r_aload_n dX0_timesWet_27 0 rfl ?_
        refine r_getR 52 fX0_12 (hG.lt (by decide)) sh51 fs51_3 dX0_timesWet_28 ?_
        refine r_iconst 0 dX0_timesWet_31 rfl ?_
        refine r_iload_n dX0_timesWet_32 1 rfl ?_
        refine r_cvI (ok_X5_of hG (IsSt.of52) 0 p1 (SX0_timesWet_9 p1 p2 μ).2) lX0_93 (hG.lt (by decide)) sh52 ⟨_, _, rfl⟩ dX0_timesWet_33 (by decide) (Nat.le_of_ble_eq_true rfl) rfl (Nat.le_of_ble_eq_true rfl) ?_
        refine r_iload dX0_timesWet_36 4 rfl ?_
        have hs5 := hP
        refine r_cvI (ok_X0_waterAhead hG (F_X5_of 52 0 p1 (SX0_timesWet_9 p1 p2 μ).2) (nI (NX0_timesWet_9 p1 p2 μ)) (SX0_timesWet_9 p1 p2 μ).2 hs5) lX0_58 (hG.lt (by decide)) sh51 ⟨_, _, rfl⟩ dX0_timesWet_38 (by decide) (Nat.le_of_ble_eq_true rfl) rfl (Nat.le_of_ble_eq_true rfl) ?_
        refine r_if_le 47 dX0_timesWet_41 (by decide) (fun c3 => ?_) (fun c3 => ?_)
        · have e : (VX0_timesWet_2 p1 p2 μ) = (SX0_timesWet_9 p1 p2 μ).1 := by unfold VX0_timesWet_2; rw [if_neg c2, if_pos c3]
          rw [e] at hJ
          exact r_sub [0, 1, 2, 3, 4] rfl hJ
        · refine r_iinc ((SX0_timesWet_9 p1 p2 μ).1 + 1) [(3, _), (0, _), (1, _), (2, _), (4, _)] dX0_timesWet_44 3 rfl rfl (Nat.le_of_ble_eq_true rfl) rfl ?_
          have e : (VX0_timesWet_2 p1 p2 μ) = ((SX0_timesWet_9 p1 p2 μ).1 + 1) := by unfold VX0_timesWet_2; rw [if_neg c2, if_neg (i32_ng c3)]
          rw [e] at hJ
          exact r_sub [1, 2, 3, 0, 4] rfl hJ
def muX0_breakOf_1 (p1 : Int32) (μ : Mem) : Mem := (M_X0_begin  μ)
def muX0_breakOf_6_1 (v1 : Int32) (i : Nat) (s : Mem) : Mem := (M_X0_passNext  s)
def g_X0_breakOf_6 (v1 : Int32) (i : Nat) (s : Mem) : Mem := (muX0_breakOf_6_1 v1 i s)
def Pb_X0_breakOf_6 (v1 : Int32) (i : Nat) (s : Mem) : Prop := ((60 ≤ (nI i) → False) ∧ ((nI i) < 60 → (((F_X5_of 52 20 v1 s) ≠ 1 → False) ∧ ((F_X5_of 52 20 v1 s) = 1 → (P_X0_passNext  s) ∧ (((F_X5_of 52 20 v1 (muX0_breakOf_6_1 v1 i s)) ≠ 0 → True) ∧ ((F_X5_of 52 20 v1 (muX0_breakOf_6_1 v1 i s)) = 0 → False))))))
def Cb_X0_breakOf_6 (v1 : Int32) (i : Nat) (s : Mem) : Bool := (if 60 ≤ (nI i) then false else (if (F_X5_of 52 20 v1 s) ≠ 1 then false else (if (F_X5_of 52 20 v1 (muX0_breakOf_6_1 v1 i s)) ≠ 0 then true else false)))
set_option maxRecDepth 20000 in
set_option maxHeartbeats 2000000 in
theorem lp_X0_breakOf_6 {G : SG} (hG : GK 57 G)  (v1 : Int32) (s0 : Mem) (N : Nat) (sN : Mem) (eN : sN = fo N (g_X0_breakOf_6 v1) s0) (hN : ∀ i, i < N → Pb_X0_breakOf_6 v1 i (fo i (g_X0_breakOf_6 v1) s0)) {t : Nat} {Q : PQ} {X : PX} (h : R G mX0_breakOf 6 [(0, .ref (ga G 51)), (1, .int v1), (2, .int (nI N))] [] sN t Q X) : R G mX0_breakOf 6 [(0, .ref (ga G 51)), (1, .int v1), (2, .int 0)] [] s0 t Q X := by
  subst eN
  refine down_i N (fun i => R G mX0_breakOf 6 [(0, .ref (ga G 51)), (1, .int v1), (2, .int (nI i))] [] (fo i (g_X0_breakOf_6 v1) s0) t Q X) h (fun i hi hS => ?_)
  have hP := hN i hi
  rw [fo_succ] at hS
  rw [nI_succ] at hS
  generalize fo i (g_X0_breakOf_6 v1) s0 = s at hS hP ⊢
  unfold Pb_X0_breakOf_6 at hP
  refine r_iload_n dX0_breakOf_6 2 rfl ?_
  refine r_bipush 60 dX0_breakOf_7 rfl ?_
  refine r_icmp_ge 51 dX0_breakOf_9 (by decide) (fun c1 => ?_) (fun c1 => ?_)
  · replace hP := hP.1 c1
    exact hP.elim
  · replace hP := hP.2 c1
    refine r_aload_n dX0_breakOf_12 0 rfl ?_
    refine r_getR 52 fX0_12 (hG.lt (by decide)) sh51 fs51_3 dX0_breakOf_13 ?_
    refine r_bipush 20 dX0_breakOf_16 rfl ?_
    refine r_iload_n dX0_breakOf_18 1 rfl ?_
    refine r_cvI (ok_X5_of hG (IsSt.of52) 20 v1 s) lX0_93 (hG.lt (by decide)) sh52 ⟨_, _, rfl⟩ dX0_breakOf_19 (by decide) (Nat.le_of_ble_eq_true rfl) rfl (Nat.le_of_ble_eq_true rfl) ?_
    refine r_iconst 1 dX0_breakOf_22 rfl ?_
    refine r_icmp_ne 51 dX0_breakOf_23 (by decide) (fun c2 => ?_) (fun c2 => ?_)
    · replace hP := hP.1 c2
      exact hP.elim
    · replace hP := hP.2 c2
      refine r_aload_n dX0_breakOf_26 0 rfl ?_
      have hs1 := hP.1
      replace hP := hP.2
      refine r_cvV (ok_X0_passNext hG  s hs1) lX0_68 (hG.lt (by decide)) sh51 ⟨_, _, rfl⟩ dX0_breakOf_27 (by decide) (Nat.le_of_ble_eq_true rfl) rfl (Nat.le_of_ble_eq_true rfl) ?_
      refine r_mu (muX0_breakOf_6_1 v1 i s) rfl ?_
      refine r_aload_n dX0_breakOf_30 0 rfl ?_
      refine r_getR 52 fX0_12 (hG.lt (by decide)) sh51 fs51_3 dX0_breakOf_31 ?_
      refine r_bipush 20 dX0_breakOf_34 rfl ?_
      refine r_iload_n dX0_breakOf_36 1 rfl ?_
      refine r_cvI (ok_X5_of hG (IsSt.of52) 20 v1 (muX0_breakOf_6_1 v1 i s)) lX0_93 (hG.lt (by decide)) sh52 ⟨_, _, rfl⟩ dX0_breakOf_37 (by decide) (Nat.le_of_ble_eq_true rfl) rfl (Nat.le_of_ble_eq_true rfl) ?_
      refine r_if_ne 45 dX0_breakOf_40 (by decide) (fun c3 => ?_) (fun c3 => ?_)
      · replace hP := hP.1 c3
        refine r_iinc ((nI i) + 1) [(2, _), (0, _), (1, _)] dX0_breakOf_45 2 rfl rfl (Nat.le_of_ble_eq_true rfl) rfl ?_
        refine r_goto 6 dX0_breakOf_48 (by decide) ?_
        have e : g_X0_breakOf_6 v1 i s = (muX0_breakOf_6_1 v1 i s) := by unfold g_X0_breakOf_6; rfl
        rw [e] at hS
        exact r_sub [1, 2, 0] rfl hS
      · replace hP := hP.2 c3
        refine r_iload_n dX0_breakOf_43 2 rfl ?_
        exact hP.elim
def NX0_breakOf_6 (p1 : Int32) (μ : Mem) : Nat := (fst 61 (fun j9 => !Cb_X0_breakOf_6 p1 j9 (fo j9 (g_X0_breakOf_6 p1) (muX0_breakOf_1 p1 μ))))
def SX0_breakOf_6 (p1 : Int32) (μ : Mem) : Mem := fo (NX0_breakOf_6 p1 μ) (g_X0_breakOf_6 p1) (muX0_breakOf_1 p1 μ)
def muX0_breakOf_2 (p1 : Int32) (μ : Mem) : Mem := (M_X0_passNext  (SX0_breakOf_6 p1 μ))
def F_X0_breakOf (p1 : Int32) (μ : Mem) : Int32 := (if 60 ≤ (nI (NX0_breakOf_6 p1 μ)) then (-1) else (if (F_X5_of 52 20 p1 (SX0_breakOf_6 p1 μ)) ≠ 1 then (-1) else (nI (NX0_breakOf_6 p1 μ))))
def M_X0_breakOf (p1 : Int32) (μ : Mem) : Mem := (if 60 ≤ (nI (NX0_breakOf_6 p1 μ)) then (SX0_breakOf_6 p1 μ) else (if (F_X5_of 52 20 p1 (SX0_breakOf_6 p1 μ)) ≠ 1 then (SX0_breakOf_6 p1 μ) else (muX0_breakOf_2 p1 μ)))
def P_X0_breakOf (p1 : Int32) (μ : Mem) : Prop := ((P_X0_begin  μ) ∧ ((∀ j9, j9 < (NX0_breakOf_6 p1 μ) → Pb_X0_breakOf_6 p1 j9 (fo j9 (g_X0_breakOf_6 p1) (muX0_breakOf_1 p1 μ))) ∧ ((60 ≤ (nI (NX0_breakOf_6 p1 μ)) → True) ∧ ((nI (NX0_breakOf_6 p1 μ)) < 60 → (((F_X5_of 52 20 p1 (SX0_breakOf_6 p1 μ)) ≠ 1 → True) ∧ ((F_X5_of 52 20 p1 (SX0_breakOf_6 p1 μ)) = 1 → ((P_X0_passNext  (SX0_breakOf_6 p1 μ)) ∧ (((F_X5_of 52 20 p1 (muX0_breakOf_2 p1 μ)) ≠ 0 → False) ∧ ((F_X5_of 52 20 p1 (muX0_breakOf_2 p1 μ)) = 0 → True)))))))))
set_option maxRecDepth 20000 in
set_option maxHeartbeats 2000000 in
theorem ok_X0_breakOf {G : SG} (hG : GK 57 G) (p1 : Int32) (μ : Mem) (hP : P_X0_breakOf p1 μ) : OkF G mX0_breakOf [.ref (ga G 51), .int p1] μ (some (.int (F_X0_breakOf p1 μ))) (M_X0_breakOf p1 μ) := by
  refine okF_of hG rfl rfl (Nat.le_of_ble_eq_true rfl) ?_
  unfold P_X0_breakOf at hP
  refine r_aload_n dX0_breakOf_0 0 rfl ?_
  have hs1 := hP.1
  replace hP := hP.2
  refine r_cvV (ok_X0_begin hG  μ hs1) lX0_65 (hG.lt (by decide)) sh51 ⟨_, _, rfl⟩ dX0_breakOf_1 (by decide) (Nat.le_of_ble_eq_true rfl) rfl (Nat.le_of_ble_eq_true rfl) ?_
  refine r_mu (muX0_breakOf_1 p1 μ) rfl ?_
  refine r_iconst 0 dX0_breakOf_4 rfl ?_
  refine r_istore_n [(2, _), (0, _), (1, _)] dX0_breakOf_5 (Nat.le_of_ble_eq_true rfl) rfl ?_
  have hs2 := hP.1
  replace hP := hP.2
  refine r_sub [1, 2, 0] rfl ?_
  refine lp_X0_breakOf_6 hG p1 (muX0_breakOf_1 p1 μ) ((NX0_breakOf_6 p1 μ)) (SX0_breakOf_6 p1 μ) rfl hs2 ?_
  refine r_iload_n dX0_breakOf_6 2 rfl ?_
  refine r_bipush 60 dX0_breakOf_7 rfl ?_
  refine r_icmp_ge 51 dX0_breakOf_9 (by decide) (fun c1 => ?_) (fun c1 => ?_)
  · replace hP := hP.1 c1
    refine r_iconst (-1) dX0_breakOf_51 rfl ?_
    exact r_ireturn _ dX0_breakOf_52 rfl rfl ⟨congrArg (fun z => some (Value.int z)) (by unfold F_X0_breakOf; rw [if_pos c1]), by unfold M_X0_breakOf; rw [if_pos c1]⟩
  · replace hP := hP.2 c1
    refine r_aload_n dX0_breakOf_12 0 rfl ?_
    refine r_getR 52 fX0_12 (hG.lt (by decide)) sh51 fs51_3 dX0_breakOf_13 ?_
    refine r_bipush 20 dX0_breakOf_16 rfl ?_
    refine r_iload_n dX0_breakOf_18 1 rfl ?_
    refine r_cvI (ok_X5_of hG (IsSt.of52) 20 p1 (SX0_breakOf_6 p1 μ)) lX0_93 (hG.lt (by decide)) sh52 ⟨_, _, rfl⟩ dX0_breakOf_19 (by decide) (Nat.le_of_ble_eq_true rfl) rfl (Nat.le_of_ble_eq_true rfl) ?_
    refine r_iconst 1 dX0_breakOf_22 rfl ?_
    refine r_icmp_ne 51 dX0_breakOf_23 (by decide) (fun c2 => ?_) (fun c2 => ?_)
    · replace hP := hP.1 c2
      refine r_iconst (-1) dX0_breakOf_51 rfl ?_
      exact r_ireturn _ dX0_breakOf_52 rfl rfl ⟨congrArg (fun z => some (Value.int z)) (by unfold F_X0_breakOf; rw [if_neg (i32_ng c1), if_pos c2]), by unfold M_X0_breakOf; rw [if_neg (i32_ng c1), if_pos c2]⟩
    · replace hP := hP.2 c2
      refine r_aload_n dX0_breakOf_26 0 rfl ?_
      have hs3 := hP.1
      replace hP := hP.2
      refine r_cvV (ok_X0_passNext hG  (SX0_breakOf_6 p1 μ) hs3) lX0_68 (hG.lt (by decide)) sh51 ⟨_, _, rfl⟩ dX0_breakOf_27 (by decide) (Nat.le_of_ble_eq_true rfl) rfl (Nat.le_of_ble_eq_true rfl) ?_
      refine r_mu (muX0_breakOf_2 p1 μ) rfl ?_
      refine r_aload_n dX0_breakOf_30 0 rfl ?_
      refine r_getR 52 fX0_12 (hG.lt (by decide)) sh51 fs51_3 dX0_breakOf_31 ?_
      refine r_bipush 20 dX0_breakOf_34 rfl ?_
      refine r_iload_n dX0_breakOf_36 1 rfl ?_
      refine r_cvI (ok_X5_of hG (IsSt.of52) 20 p1 (muX0_breakOf_2 p1 μ)) lX0_93 (hG.lt (by decide)) sh52 ⟨_, _, rfl⟩ dX0_breakOf_37 (by decide) (Nat.le_of_ble_eq_true rfl) rfl (Nat.le_of_ble_eq_true rfl) ?_
      refine r_if_ne 45 dX0_breakOf_40 (by decide) (fun c3 => ?_) (fun c3 => ?_)
      · replace hP := hP.1 c3
        refine r_iinc ((nI (NX0_breakOf_6 p1 μ)) + 1) [(2, _), (0, _), (1, _)] dX0_breakOf_45 2 rfl rfl (Nat.le_of_ble_eq_true rfl) rfl ?_
        refine r_goto 6 dX0_breakOf_48 (by decide) ?_
        exact hP.elim
      · replace hP := hP.2 c3
        refine r_iload_n dX0_breakOf_43 2 rfl ?_
        exact r_ireturn _ dX0_breakOf_44 rfl rfl ⟨congrArg (fun z => some (Value.int z)) (by unfold F_X0_breakOf; rw [if_neg (i32_ng c1), if_neg (not_not_intro c2)]), by unfold M_X0_breakOf; rw [if_neg (i32_ng c1), if_neg (not_not_intro c2)]⟩
def VX0_longestDry_10_1 (v1 : Int32) (μ : Mem) (i : Nat) (s : Int32 × Int32 × Int32) : Int32 := (if (F_X0_comesIntoAny (-1) (nI i) μ) = 0 then (s.2.2 + 1) else 0)
def VX0_longestDry_10_2 (v1 : Int32) (μ : Mem) (i : Nat) (s : Int32 × Int32 × Int32) : Int32 := (if (VX0_longestDry_10_1 v1 μ i s) ≤ s.1 then s.1 else (VX0_longestDry_10_1 v1 μ i s))
def VX0_longestDry_10_3 (v1 : Int32) (μ : Mem) (i : Nat) (s : Int32 × Int32 × Int32) : Int32 := (if (VX0_longestDry_10_1 v1 μ i s) ≤ s.1 then s.2.1 else (((nI i) + 1) - (VX0_longestDry_10_1 v1 μ i s)))
def g_X0_longestDry_10 (v1 : Int32) (μ : Mem) (i : Nat) (s : Int32 × Int32 × Int32) : Int32 × Int32 × Int32 := ((VX0_longestDry_10_2 v1 μ i s), (VX0_longestDry_10_3 v1 μ i s), (VX0_longestDry_10_1 v1 μ i s))
def Pb_X0_longestDry_10 (v1 : Int32) (μ : Mem) (i : Nat) (s : Int32 × Int32 × Int32) : Prop := ((60 ≤ (nI i) → False) ∧ ((nI i) < 60 → P_X0_comesIntoAny (-1) (nI i) μ))
set_option maxRecDepth 20000 in
set_option maxHeartbeats 2000000 in
theorem lp_X0_longestDry_10 {G : SG} (hG : GK 57 G)  (v1 : Int32) (μ : Mem) (s0 : Int32 × Int32 × Int32) (N : Nat) (sN : Int32 × Int32 × Int32) (eN : sN = fo N (g_X0_longestDry_10 v1 μ) s0) (hN : ∀ i, i < N → Pb_X0_longestDry_10 v1 μ i (fo i (g_X0_longestDry_10 v1 μ) s0)) {t : Nat} {Q : PQ} {X : PX} (h : R G mX0_longestDry 10 [(0, .ref (ga G 51)), (1, .int v1), (2, .int (sN).1), (3, .int (sN).2.1), (4, .int (sN).2.2), (5, .int (nI N))] [] μ t Q X) : R G mX0_longestDry 10 [(0, .ref (ga G 51)), (1, .int v1), (2, .int (s0).1), (3, .int (s0).2.1), (4, .int (s0).2.2), (5, .int 0)] [] μ t Q X := by
  subst eN
  refine down_i N (fun i => R G mX0_longestDry 10 [(0, .ref (ga G 51)), (1, .int v1), (2, .int ((fo i (g_X0_longestDry_10 v1 μ) s0)).1), (3, .int ((fo i (g_X0_longestDry_10 v1 μ) s0)).2.1), (4, .int ((fo i (g_X0_longestDry_10 v1 μ) s0)).2.2), (5, .int (nI i))] [] μ t Q X) h (fun i hi hS => ?_)
  have hP := hN i hi
  rw [fo_succ] at hS
  rw [nI_succ] at hS
  generalize fo i (g_X0_longestDry_10 v1 μ) s0 = s at hS hP ⊢
  unfold Pb_X0_longestDry_10 at hP
  refine r_iload dX0_longestDry_10 5 rfl ?_
  refine r_bipush 60 dX0_longestDry_12 rfl ?_
  refine r_icmp_ge 60 dX0_longestDry_14 (by decide) (fun c1 => ?_) (fun c1 => ?_)
  · replace hP := hP.1 c1
    exact hP.elim
  · replace hP := hP.2 c1
    refine r_aload_n dX0_longestDry_17 0 rfl ?_
    refine r_iconst (-1) dX0_longestDry_18 rfl ?_
    refine r_iload dX0_longestDry_19 5 rfl ?_
    have hs1 := hP
    refine r_cvI (ok_X0_comesIntoAny hG (-1) (nI i) μ hs1) lX0_142 (hG.lt (by decide)) sh51 ⟨_, _, rfl⟩ dX0_longestDry_21 (by decide) (Nat.le_of_ble_eq_true rfl) rfl (Nat.le_of_ble_eq_true rfl) ?_
    refine r_join 35 [(0, .ref (ga G 51)), (1, .int v1), (2, .int s.1), (3, .int s.2.1), (4, .int s.2.2), (5, .int (nI i))] [.int (VX0_longestDry_10_1 v1 μ i s)] μ ?_ (fun hJ => ?_)
    · refine r_istore [(4, _), (0, _), (1, _), (2, _), (3, _), (5, _)] dX0_longestDry_35 (Nat.le_of_ble_eq_true rfl) rfl ?_
      refine r_iload dX0_longestDry_37 0 rfl ?_
      refine r_iload_n dX0_longestDry_39 3 rfl ?_
      refine r_join 54 [(4, .int (VX0_longestDry_10_1 v1 μ i s)), (0, .ref (ga G 51)), (1, .int v1), (2, .int (VX0_longestDry_10_2 v1 μ i s)), (3, .int (VX0_longestDry_10_3 v1 μ i s)), (5, .int (nI i))] [] μ ?_ (fun hJ => ?_)
      · refine r_iinc ((nI i) + 1) [(5, _), (4, _), (0, _), (1, _), (2, _), (3, _)] dX0_longestDry_54 5 rfl rfl (Nat.le_of_ble_eq_true rfl) rfl ?_
        refine r_goto 10 dX0_longestDry_57 (by decide) ?_
        have e : g_X0_longestDry_10 v1 μ i s = ((VX0_longestDry_10_2 v1 μ i s), (VX0_longestDry_10_3 v1 μ i s), (VX0_longestDry_10_1 v1 μ i s)) := by unfold g_X0_longestDry_10; rfl
        rw [e] at hS
        dsimp only at hS
        exact r_sub [2, 3, 4, 5, 1, 0] rfl hS
      · refine r_icmp_le 54 dX0_longestDry_40 (by decide) (fun c2 => ?_) (fun c2 => ?_)
        · have e : (VX0_longestDry_10_2 v1 μ i s) = s.1 := by unfold VX0_longestDry_10_2; rw [if_pos c2]
          rw [e] at hJ
          clear e
          have e : (VX0_longestDry_10_3 v1 μ i s) = s.2.1 := by unfold VX0_longestDry_10_3; rw [if_pos c2]
          rw [e] at hJ
          exact r_sub [0, 1, 2, 3, 4, 5] rfl hJ
        · refine r_iload dX0_longestDry_43 0 rfl ?_
          refine r_istore_n [(2, _), (4, _), (0, _), (1, _), (3, _), (5, _)] dX0_longestDry_45 (Nat.le_of_ble_eq_true rfl) rfl ?_
          refine r_iload dX0_longestDry_46 5 rfl ?_
          refine r_iconst 1 dX0_longestDry_48 rfl ?_
          refine r_iadd dX0_longestDry_49 ?_
          refine r_iload dX0_longestDry_50 1 rfl ?_
          refine r_isub dX0_longestDry_52 ?_
          refine r_istore_n [(3, _), (2, _), (4, _), (0, _), (1, _), (5, _)] dX0_longestDry_53 (Nat.le_of_ble_eq_true rfl) rfl ?_
          have e : (VX0_longestDry_10_2 v1 μ i s) = (VX0_longestDry_10_1 v1 μ i s) := by unfold VX0_longestDry_10_2; rw [if_neg (i32_ng c2)]
          rw [e] at hJ
          clear e
          have e : (VX0_longestDry_10_3 v1 μ i s) = (((nI i) + 1) - (VX0_longestDry_10_1 v1 μ i s)) := by unfold VX0_longestDry_10_3; rw [if_neg (i32_ng c2)]
          rw [e] at hJ
          exact r_sub [2, 3, 4, 1, 0, 5] rfl hJ
    · refine r_if_eq 31 dX0_longestDry_24 (by decide) (fun c2 => ?_) (fun c2 => ?_)
      · refine r_iload dX0_longestDry_31 4 rfl ?_
        refine r_iconst 1 dX0_longestDry_33 rfl ?_
        refine r_iadd dX0_longestDry_34 ?_
        have e : (VX0_longestDry_10_1 v1 μ i s) = (s.2.2 + 1) := by unfold VX0_longestDry_10_1; rw [if_pos c2]
        rw [e] at hJ
        exact r_sub [0, 1, 2, 3, 4, 5] rfl hJ
      · refine r_iconst 0 dX0_longestDry_27 rfl ?_
        refine r_goto 35 dX0_longestDry_28 (by decide) ?_
        have e : (VX0_longestDry_10_1 v1 μ i s) = 0 := by unfold VX0_longestDry_10_1; rw [if_neg c2]
        rw [e] at hJ
        exact r_sub [0, 1, 2, 3, 4, 5] rfl hJ
def NX0_longestDry_10 (p1 : Int32) (μ : Mem) : Nat := 60
def SX0_longestDry_10 (p1 : Int32) (μ : Mem) : Int32 × Int32 × Int32 := fo (NX0_longestDry_10 p1 μ) (g_X0_longestDry_10 p1 μ) (0, (-1), 0)
def VX0_longestDry_1 (p1 : Int32) (μ : Mem) : Int32 := (if (F_X0_comesIntoAny (-1) (nI (NX0_longestDry_10 p1 μ)) μ) = 0 then ((SX0_longestDry_10 p1 μ).2.2 + 1) else 0)
def VX0_longestDry_2 (p1 : Int32) (μ : Mem) : Int32 := (if (VX0_longestDry_1 p1 μ) ≤ (SX0_longestDry_10 p1 μ).1 then (SX0_longestDry_10 p1 μ).1 else (VX0_longestDry_1 p1 μ))
def VX0_longestDry_3 (p1 : Int32) (μ : Mem) : Int32 := (if (VX0_longestDry_1 p1 μ) ≤ (SX0_longestDry_10 p1 μ).1 then (SX0_longestDry_10 p1 μ).2.1 else (((nI (NX0_longestDry_10 p1 μ)) + 1) - (VX0_longestDry_1 p1 μ)))
def F_X0_longestDry (p1 : Int32) (μ : Mem) : Int32 := (if p1 ≠ 0 then (SX0_longestDry_10 p1 μ).2.1 else (SX0_longestDry_10 p1 μ).1)
def P_X0_longestDry (p1 : Int32) (μ : Mem) : Prop := ((∀ j9, j9 < (NX0_longestDry_10 p1 μ) → Pb_X0_longestDry_10 p1 μ j9 (fo j9 (g_X0_longestDry_10 p1 μ) (0, (-1), 0))) ∧ ((60 ≤ (nI (NX0_longestDry_10 p1 μ)) → True) ∧ ((nI (NX0_longestDry_10 p1 μ)) < 60 → ((P_X0_comesIntoAny (-1) (nI (NX0_longestDry_10 p1 μ)) μ) ∧ False))))
set_option maxRecDepth 20000 in
set_option maxHeartbeats 2000000 in
theorem ok_X0_longestDry {G : SG} (hG : GK 57 G) (p1 : Int32) (μ : Mem) (hP : P_X0_longestDry p1 μ) : OkF G mX0_longestDry [.ref (ga G 51), .int p1] μ (some (.int (F_X0_longestDry p1 μ))) μ := by
  refine okF_of hG rfl rfl (Nat.le_of_ble_eq_true rfl) ?_
  unfold P_X0_longestDry at hP
  refine r_iconst 0 dX0_longestDry_0 rfl ?_
  refine r_istore_n [(2, _), (0, _), (1, _)] dX0_longestDry_1 (Nat.le_of_ble_eq_true rfl) rfl ?_
  refine r_iconst (-1) dX0_longestDry_2 rfl ?_
  refine r_istore_n [(3, _), (2, _), (0, _), (1, _)] dX0_longestDry_3 (Nat.le_of_ble_eq_true rfl) rfl ?_
  refine r_iconst 0 dX0_longestDry_4 rfl ?_
  refine r_istore [(4, _), (3, _), (2, _), (0, _), (1, _)] dX0_longestDry_5 (Nat.le_of_ble_eq_true rfl) rfl ?_
  refine r_iconst 0 dX0_longestDry_7 rfl ?_
  refine r_istore [(5, _), (4, _), (3, _), (2, _), (0, _), (1, _)] dX0_longestDry_8 (Nat.le_of_ble_eq_true rfl) rfl ?_
  have hs1 := hP.1
  replace hP := hP.2
  refine r_sub [4, 5, 3, 2, 1, 0] rfl ?_
  refine lp_X0_longestDry_10 hG p1 μ (0, (-1), 0) ((NX0_longestDry_10 p1 μ)) (SX0_longestDry_10 p1 μ) rfl hs1 ?_
  refine r_iload dX0_longestDry_10 5 rfl ?_
  refine r_bipush 60 dX0_longestDry_12 rfl ?_
  refine r_icmp_ge 60 dX0_longestDry_14 (by decide) (fun c1 => ?_) (fun c1 => ?_)
  · replace hP := hP.1 c1
    refine r_iload_n dX0_longestDry_60 1 rfl ?_
    refine r_if_ne 68 dX0_longestDry_61 (by decide) (fun c2 => ?_) (fun c2 => ?_)
    · refine r_iload_n dX0_longestDry_68 3 rfl ?_
      exact r_ireturn _ dX0_longestDry_69 rfl rfl ⟨congrArg (fun z => some (Value.int z)) (by unfold F_X0_longestDry; rw [if_pos c2]), rfl⟩
    · refine r_iload_n dX0_longestDry_64 2 rfl ?_
      refine r_goto 69 dX0_longestDry_65 (by decide) ?_
      exact r_ireturn _ dX0_longestDry_69 rfl rfl ⟨congrArg (fun z => some (Value.int z)) (by unfold F_X0_longestDry; rw [if_neg (not_not_intro c2)]), rfl⟩
  · replace hP := hP.2 c1
    refine r_aload_n dX0_longestDry_17 0 rfl ?_
    refine r_iconst (-1) dX0_longestDry_18 rfl ?_
    refine r_iload dX0_longestDry_19 5 rfl ?_
    have hs3 := hP.1
    replace hP := hP.2
    refine r_cvI (ok_X0_comesIntoAny hG (-1) (nI (NX0_longestDry_10 p1 μ)) μ hs3) lX0_142 (hG.lt (by decide)) sh51 ⟨_, _, rfl⟩ dX0_longestDry_21 (by decide) (Nat.le_of_ble_eq_true rfl) rfl (Nat.le_of_ble_eq_true rfl) ?_
    refine r_join 35 [(0, .ref (ga G 51)), (1, .int p1), (2, .int (SX0_longestDry_10 p1 μ).1), (3, .int (SX0_longestDry_10 p1 μ).2.1), (4, .int (SX0_longestDry_10 p1 μ).2.2), (5, .int (nI (NX0_longestDry_10 p1 μ)))] [.int (VX0_longestDry_1 p1 μ)] μ ?_ (fun hJ => ?_)
    · refine r_istore [(4, _), (0, _), (1, _), (2, _), (3, _), (5, _)] dX0_longestDry_35 (Nat.le_of_ble_eq_true rfl) rfl ?_
      refine r_iload dX0_longestDry_37 0 rfl ?_
      refine r_iload_n dX0_longestDry_39 3 rfl ?_
      refine r_join 54 [(4, .int (VX0_longestDry_1 p1 μ)), (0, .ref (ga G 51)), (1, .int p1), (2, .int (VX0_longestDry_2 p1 μ)), (3, .int (VX0_longestDry_3 p1 μ)), (5, .int (nI (NX0_longestDry_10 p1 μ)))] [] μ ?_ (fun hJ => ?_)
      · refine r_iinc ((nI (NX0_longestDry_10 p1 μ)) + 1) [(5, _), (4, _), (0, _), (1, _), (2, _), (3, _)] dX0_longestDry_54 5 rfl rfl (Nat.le_of_ble_eq_true rfl) rfl ?_
        refine r_goto 10 dX0_longestDry_57 (by decide) ?_
        exact hP.elim
      · refine r_icmp_le 54 dX0_longestDry_40 (by decide) (fun c2 => ?_) (fun c2 => ?_)
        · have e : (VX0_longestDry_2 p1 μ) = (SX0_longestDry_10 p1 μ).1 := by unfold VX0_longestDry_2; rw [if_pos c2]
          rw [e] at hJ
          clear e
          have e : (VX0_longestDry_3 p1 μ) = (SX0_longestDry_10 p1 μ).2.1 := by unfold VX0_longestDry_3; rw [if_pos c2]
          rw [e] at hJ
          exact r_sub [0, 1, 2, 3, 4, 5] rfl hJ
        · refine r_iload dX0_longestDry_43 0 rfl ?_
          refine r_istore_n [(2, _), (4, _), (0, _), (1, _), (3, _), (5, _)] dX0_longestDry_45 (Nat.le_of_ble_eq_true rfl) rfl ?_
          refine r_iload dX0_longestDry_46 5 rfl ?_
          refine r_iconst 1 dX0_longestDry_48 rfl ?_
          refine r_iadd dX0_longestDry_49 ?_
          refine r_iload dX0_longestDry_50 1 rfl ?_
          refine r_isub dX0_longestDry_52 ?_
          refine r_istore_n [(3, _), (2, _), (4, _), (0, _), (1, _), (5, _)] dX0_longestDry_53 (Nat.le_of_ble_eq_true rfl) rfl ?_
          have e : (VX0_longestDry_2 p1 μ) = (VX0_longestDry_1 p1 μ) := by unfold VX0_longestDry_2; rw [if_neg (i32_ng c2)]
          rw [e] at hJ
          clear e
          have e : (VX0_longestDry_3 p1 μ) = (((nI (NX0_longestDry_10 p1 μ)) + 1) - (VX0_longestDry_1 p1 μ)) := by unfold VX0_longestDry_3; rw [if_neg (i32_ng c2)]
          rw [e] at hJ
          exact r_sub [2, 3, 4, 1, 0, 5] rfl hJ
    · refine r_if_eq 31 dX0_longestDry_24 (by decide) (fun c2 => ?_) (fun c2 => ?_)
      · refine r_iload dX0_longestDry_31 4 rfl ?_
        refine r_iconst 1 dX0_longestDry_33 rfl ?_
        refine r_iadd dX0_longestDry_34 ?_
        have e : (VX0_longestDry_1 p1 μ) = ((SX0_longestDry_10 p1 μ).2.2 + 1) := by unfold VX0_longestDry_1; rw [if_pos c2]
        rw [e] at hJ
        exact r_sub [0, 1, 2, 3, 4, 5] rfl hJ
      · refine r_iconst 0 dX0_longestDry_27 rfl ?_
        refine r_goto 35 dX0_longestDry_28 (by decide) ?_
        have e : (VX0_longestDry_1 p1 μ) = 0 := by unfold VX0_longestDry_1; rw [if_neg c2]
        rw [e] at hJ
        exact r_sub [0, 1, 2, 3, 4, 5] rfl hJ
def muX0_goWindy_1 (p1 : Int32) (p2 : Int32) (p3 : Int32) (p4 : Int32) (p5 : Int32) (μ : Mem) : Mem := (M_X0_begin  μ)
def VX0_goWindy_13_1 (v1 : Int32) (v2 : Int32) (v3 : Int32) (v4 : Int32) (v5 : Int32) (i : Nat) (s : Int32 × Int32 × Mem) : Int32 := (if v3 ≤ ((((s.2.1 * 1103515245) + 12345) >>> 16) &&& 15) then 0 else 1)
theorem bo_VX0_goWindy_13_1 (v1 : Int32) (v2 : Int32) (v3 : Int32) (v4 : Int32) (v5 : Int32) (i : Nat) (s : Int32 × Int32 × Mem) : (VX0_goWindy_13_1 v1 v2 v3 v4 v5 i s) = 0 ∨ (VX0_goWindy_13_1 v1 v2 v3 v4 v5 i s) = 1 := by
  unfold VX0_goWindy_13_1
  split
  · exact Or.inl rfl
  · exact Or.inr rfl
def VX0_goWindy_13_2 (v1 : Int32) (v2 : Int32) (v3 : Int32) (v4 : Int32) (v5 : Int32) (i : Nat) (s : Int32 × Int32 × Mem) : Int32 := (if (VX0_goWindy_13_1 v1 v2 v3 v4 v5 i s) = 0 then 0 else 1)
theorem bo_VX0_goWindy_13_2 (v1 : Int32) (v2 : Int32) (v3 : Int32) (v4 : Int32) (v5 : Int32) (i : Nat) (s : Int32 × Int32 × Mem) : (VX0_goWindy_13_2 v1 v2 v3 v4 v5 i s) = 0 ∨ (VX0_goWindy_13_2 v1 v2 v3 v4 v5 i s) = 1 := by
  unfold VX0_goWindy_13_2
  split
  · exact Or.inl rfl
  · exact Or.inr rfl
def VX0_goWindy_13_3 (v1 : Int32) (v2 : Int32) (v3 : Int32) (v4 : Int32) (v5 : Int32) (i : Nat) (s : Int32 × Int32 × Mem) : Int32 := (if (VX0_goWindy_13_1 v1 v2 v3 v4 v5 i s) = 0 then 0 else v4)
def muX0_goWindy_13_4 (v1 : Int32) (v2 : Int32) (v3 : Int32) (v4 : Int32) (v5 : Int32) (i : Nat) (s : Int32 × Int32 × Mem) : Mem := (M_X5_pass 52 ((F_X7_heightOf (F_X5_tideToCome 52 s.2.2) s.2.2) + (VX0_goWindy_13_3 v1 v2 v3 v4 v5 i s)) s.2.2)
def muX0_goWindy_13_5 (v1 : Int32) (v2 : Int32) (v3 : Int32) (v4 : Int32) (v5 : Int32) (i : Nat) (s : Int32 × Int32 × Mem) : Mem := (M_X5_payDues 52 ((muX0_goWindy_13_4 v1 v2 v3 v4 v5 i s) 3 12) (muX0_goWindy_13_4 v1 v2 v3 v4 v5 i s))
def VX0_goWindy_13_6 (v1 : Int32) (v2 : Int32) (v3 : Int32) (v4 : Int32) (v5 : Int32) (i : Nat) (s : Int32 × Int32 × Mem) : Mem := (if v5 = 0 then (muX0_goWindy_13_4 v1 v2 v3 v4 v5 i s) else (muX0_goWindy_13_5 v1 v2 v3 v4 v5 i s))
def g_X0_goWindy_13 (v1 : Int32) (v2 : Int32) (v3 : Int32) (v4 : Int32) (v5 : Int32) (i : Nat) (s : Int32 × Int32 × Mem) : Int32 × Int32 × Mem := ((s.1 + (VX0_goWindy_13_2 v1 v2 v3 v4 v5 i s)), ((s.2.1 * 1103515245) + 12345), (VX0_goWindy_13_6 v1 v2 v3 v4 v5 i s))
def Pb_X0_goWindy_13 (v1 : Int32) (v2 : Int32) (v3 : Int32) (v4 : Int32) (v5 : Int32) (i : Nat) (s : Int32 × Int32 × Mem) : Prop := ((v2 ≤ (nI i) → False) ∧ ((nI i) < v2 → (P_X7_heightOf (F_X5_tideToCome 52 s.2.2) s.2.2) ∧ (P_X5_pass 52 ((F_X7_heightOf (F_X5_tideToCome 52 s.2.2) s.2.2) + (VX0_goWindy_13_3 v1 v2 v3 v4 v5 i s)) s.2.2) ∧ ((v5 = 0 → True) ∧ (¬ v5 = 0 → P_X5_payDues 52 ((muX0_goWindy_13_4 v1 v2 v3 v4 v5 i s) 3 12) (muX0_goWindy_13_4 v1 v2 v3 v4 v5 i s)))))
set_option maxRecDepth 20000 in
set_option maxHeartbeats 2000000 in
theorem lp_X0_goWindy_13 {G : SG} (hG : GK 57 G)  (v1 : Int32) (v2 : Int32) (v3 : Int32) (v4 : Int32) (v5 : Int32) (s0 : Int32 × Int32 × Mem) (N : Nat) (sN : Int32 × Int32 × Mem) (eN : sN = fo N (g_X0_goWindy_13 v1 v2 v3 v4 v5) s0) (hN : ∀ i, i < N → Pb_X0_goWindy_13 v1 v2 v3 v4 v5 i (fo i (g_X0_goWindy_13 v1 v2 v3 v4 v5) s0)) {t : Nat} {Q : PQ} {X : PX} (h : R G mX0_goWindy 13 [(0, .ref (ga G 51)), (1, .int v1), (2, .int v2), (3, .int v3), (4, .int v4), (5, .int v5), (6, .int (sN).1), (7, .int (sN).2.1), (8, .int (nI N))] [] (sN).2.2 t Q X) : R G mX0_goWindy 13 [(0, .ref (ga G 51)), (1, .int v1), (2, .int v2), (3, .int v3), (4, .int v4), (5, .int v5), (6, .int (s0).1), (7, .int (s0).2.1), (8, .int 0)] [] (s0).2.2 t Q X := by
  subst eN
  refine down_i N (fun i => R G mX0_goWindy 13 [(0, .ref (ga G 51)), (1, .int v1), (2, .int v2), (3, .int v3), (4, .int v4), (5, .int v5), (6, .int ((fo i (g_X0_goWindy_13 v1 v2 v3 v4 v5) s0)).1), (7, .int ((fo i (g_X0_goWindy_13 v1 v2 v3 v4 v5) s0)).2.1), (8, .int (nI i))] [] ((fo i (g_X0_goWindy_13 v1 v2 v3 v4 v5) s0)).2.2 t Q X) h (fun i hi hS => ?_)
  have hP := hN i hi
  rw [fo_succ] at hS
  rw [nI_succ] at hS
  generalize fo i (g_X0_goWindy_13 v1 v2 v3 v4 v5) s0 = s at hS hP ⊢
  unfold Pb_X0_goWindy_13 at hP
  refine r_iload dX0_goWindy_13 8 rfl ?_
  refine r_iload_n dX0_goWindy_15 2 rfl ?_
  refine r_icmp_ge 134 dX0_goWindy_16 (by decide) (fun c1 => ?_) (fun c1 => ?_)
  · replace hP := hP.1 c1
    exact hP.elim
  · replace hP := hP.2 c1
    refine r_iload dX0_goWindy_19 7 rfl ?_
    refine r_ldcI 1103515245 (bc6 101 (by decide +kernel) (by decide +kernel)) dX0_goWindy_21 ?_
    refine r_imul dX0_goWindy_23 ?_
    refine r_sipush 12345 dX0_goWindy_24 rfl ?_
    refine r_iadd dX0_goWindy_27 ?_
    refine r_istore [(7, _), (0, _), (1, _), (2, _), (3, _), (4, _), (5, _), (6, _), (8, _)] dX0_goWindy_28 (Nat.le_of_ble_eq_true rfl) rfl ?_
    refine r_iload dX0_goWindy_30 0 rfl ?_
    refine r_bipush 16 dX0_goWindy_32 rfl ?_
    refine r_ishr (z := 16) dX0_goWindy_34 (by decide) ?_
    refine r_bipush 15 dX0_goWindy_35 rfl ?_
    refine r_iand dX0_goWindy_37 ?_
    refine r_iload_n dX0_goWindy_38 4 rfl ?_
    refine r_join 47 [(7, .int ((s.2.1 * 1103515245) + 12345)), (0, .ref (ga G 51)), (1, .int v1), (2, .int v2), (3, .int v3), (4, .int v4), (5, .int v5), (6, .int s.1), (8, .int (nI i))] [.int (VX0_goWindy_13_1 v1 v2 v3 v4 v5 i s)] s.2.2 ?_ (fun hJ => ?_)
    · refine r_istore [(9, _), (7, _), (0, _), (1, _), (2, _), (3, _), (4, _), (5, _), (6, _), (8, _)] dX0_goWindy_47 (Nat.le_of_ble_eq_true rfl) rfl ?_
      refine r_iload dX0_goWindy_49 8 rfl ?_
      refine r_iload dX0_goWindy_51 0 rfl ?_
      refine r_join 61 [(9, .int (VX0_goWindy_13_1 v1 v2 v3 v4 v5 i s)), (7, .int ((s.2.1 * 1103515245) + 12345)), (0, .ref (ga G 51)), (1, .int v1), (2, .int v2), (3, .int v3), (4, .int v4), (5, .int v5), (6, .int s.1), (8, .int (nI i))] [.int (VX0_goWindy_13_2 v1 v2 v3 v4 v5 i s), .int s.1] s.2.2 ?_ (fun hJ => ?_)
      · refine r_iadd dX0_goWindy_61 ?_
        refine r_istore [(6, _), (9, _), (7, _), (0, _), (1, _), (2, _), (3, _), (4, _), (5, _), (8, _)] dX0_goWindy_62 (Nat.le_of_ble_eq_true rfl) rfl ?_
        refine r_aload_n dX0_goWindy_64 3 rfl ?_
        refine r_getR 52 fX0_12 (hG.lt (by decide)) sh51 fs51_3 dX0_goWindy_65 ?_
        refine r_aload_n dX0_goWindy_68 3 rfl ?_
        refine r_getR 3 fX0_18 (hG.lt (by decide)) sh51 fs51_0 dX0_goWindy_69 ?_
        refine r_aload_n dX0_goWindy_72 3 rfl ?_
        refine r_getR 3 fX0_18 (hG.lt (by decide)) sh51 fs51_0 dX0_goWindy_73 ?_
        refine r_aload_n dX0_goWindy_76 3 rfl ?_
        refine r_getR 52 fX0_12 (hG.lt (by decide)) sh51 fs51_3 dX0_goWindy_77 ?_
        refine r_cvI (ok_X5_tideToCome hG (IsSt.of52) s.2.2) lX0_37 (hG.lt (by decide)) sh52 ⟨_, _, rfl⟩ dX0_goWindy_80 (by decide) (Nat.le_of_ble_eq_true rfl) rfl (Nat.le_of_ble_eq_true rfl) ?_
        have hs1 := hP.1
        replace hP := hP.2
        refine r_cvI (ok_X7_heightOf hG (F_X5_tideToCome 52 s.2.2) s.2.2 hs1) lX0_41 (hG.lt (by decide)) sh3 ⟨_, _, rfl⟩ dX0_goWindy_83 (by decide) (Nat.le_of_ble_eq_true rfl) rfl (Nat.le_of_ble_eq_true rfl) ?_
        refine r_iload dX0_goWindy_86 1 rfl ?_
        refine r_join 97 [(6, .int (s.1 + (VX0_goWindy_13_2 v1 v2 v3 v4 v5 i s))), (9, .int (VX0_goWindy_13_1 v1 v2 v3 v4 v5 i s)), (7, .int ((s.2.1 * 1103515245) + 12345)), (0, .ref (ga G 51)), (1, .int v1), (2, .int v2), (3, .int v3), (4, .int v4), (5, .int v5), (8, .int (nI i))] [.int (VX0_goWindy_13_3 v1 v2 v3 v4 v5 i s), .int (F_X7_heightOf (F_X5_tideToCome 52 s.2.2) s.2.2), .ref (ga G 3), .ref (ga G 52)] s.2.2 ?_ (fun hJ => ?_)
        · refine r_iadd dX0_goWindy_97 ?_
          have hs2 := hP.1
          replace hP := hP.2
          refine r_cvV (ok_X5_pass hG (IsSt.of52) ((F_X7_heightOf (F_X5_tideToCome 52 s.2.2) s.2.2) + (VX0_goWindy_13_3 v1 v2 v3 v4 v5 i s)) s.2.2 hs2) lX0_61 (hG.lt (by decide)) sh52 ⟨_, _, rfl⟩ dX0_goWindy_98 (by decide) (Nat.le_of_ble_eq_true rfl) rfl (Nat.le_of_ble_eq_true rfl) ?_
          refine r_mu (muX0_goWindy_13_4 v1 v2 v3 v4 v5 i s) rfl ?_
          refine r_iload dX0_goWindy_101 8 rfl ?_
          refine r_join 128 [(6, .int (s.1 + (VX0_goWindy_13_2 v1 v2 v3 v4 v5 i s))), (9, .int (VX0_goWindy_13_1 v1 v2 v3 v4 v5 i s)), (7, .int ((s.2.1 * 1103515245) + 12345)), (0, .ref (ga G 51)), (1, .int v1), (2, .int v2), (3, .int v3), (4, .int v4), (5, .int v5), (8, .int (nI i))] [] (VX0_goWindy_13_6 v1 v2 v3 v4 v5 i s) ?_ (fun hJ => ?_)
          · refine r_iinc ((nI i) + 1) [(8, _), (6, _), (9, _), (7, _), (0, _), (1, _), (2, _), (3, _), (4, _), (5, _)] dX0_goWindy_128 9 rfl rfl (Nat.le_of_ble_eq_true rfl) rfl ?_
            refine r_goto 13 dX0_goWindy_131 (by decide) ?_
            have e : g_X0_goWindy_13 v1 v2 v3 v4 v5 i s = ((s.1 + (VX0_goWindy_13_2 v1 v2 v3 v4 v5 i s)), ((s.2.1 * 1103515245) + 12345), (VX0_goWindy_13_6 v1 v2 v3 v4 v5 i s)) := by unfold g_X0_goWindy_13; rfl
            rw [e] at hS
            dsimp only at hS
            exact r_sub [4, 5, 6, 7, 8, 9, 1, 3, 0] rfl hS
          · refine r_if_eq 128 dX0_goWindy_103 (by decide) (fun c2 => ?_) (fun c2 => ?_)
            · replace hP := hP.1 c2
              have e : (VX0_goWindy_13_6 v1 v2 v3 v4 v5 i s) = (muX0_goWindy_13_4 v1 v2 v3 v4 v5 i s) := by unfold VX0_goWindy_13_6; rw [if_pos c2]
              rw [e] at hJ
              exact r_sub [0, 1, 2, 3, 4, 5, 6, 7, 8, 9] rfl hJ
            · replace hP := hP.2 c2
              refine r_aload_n dX0_goWindy_106 3 rfl ?_
              refine r_getR 52 fX0_12 (hG.lt (by decide)) sh51 fs51_3 dX0_goWindy_107 ?_
              refine r_aload_n dX0_goWindy_110 3 rfl ?_
              refine r_getR 3 fX0_18 (hG.lt (by decide)) sh51 fs51_0 dX0_goWindy_111 ?_
              refine r_aload_n dX0_goWindy_114 3 rfl ?_
              refine r_getR 21 fX0_22 (hG.lt (by decide)) sh51 fs51_1 dX0_goWindy_115 ?_
              refine r_aload_n dX0_goWindy_118 3 rfl ?_
              refine r_getR 3 fX0_18 (hG.lt (by decide)) sh51 fs51_0 dX0_goWindy_119 ?_
              refine r_getI fX0_86 (hG.lt (by decide)) sh3 fs3_12 dX0_goWindy_122 ?_
              have hs3 := hP
              refine r_cvV (ok_X5_payDues hG (IsSt.of52) ((muX0_goWindy_13_4 v1 v2 v3 v4 v5 i s) 3 12) (muX0_goWindy_13_4 v1 v2 v3 v4 v5 i s) hs3) lX0_71 (hG.lt (by decide)) sh52 ⟨_, _, rfl⟩ dX0_goWindy_125 (by decide) (Nat.le_of_ble_eq_true rfl) rfl (Nat.le_of_ble_eq_true rfl) ?_
              refine r_mu (muX0_goWindy_13_5 v1 v2 v3 v4 v5 i s) rfl ?_
              have e : (VX0_goWindy_13_6 v1 v2 v3 v4 v5 i s) = (muX0_goWindy_13_5 v1 v2 v3 v4 v5 i s) := by unfold VX0_goWindy_13_6; rw [if_neg c2]
              rw [e] at hJ
              exact r_sub [0, 1, 2, 3, 4, 5, 6, 7, 8, 9] rfl hJ
        · refine r_if_eq 96 dX0_goWindy_88 (by decide) (fun c2 => ?_) (fun c2 => ?_)
          · refine r_iconst 0 dX0_goWindy_96 rfl ?_
            have e : (VX0_goWindy_13_3 v1 v2 v3 v4 v5 i s) = 0 := by unfold VX0_goWindy_13_3; rw [if_pos c2]
            rw [e] at hJ
            exact r_sub [0, 1, 2, 3, 4, 5, 6, 7, 8, 9] rfl hJ
          · refine r_iload dX0_goWindy_91 7 rfl ?_
            refine r_goto 97 dX0_goWindy_93 (by decide) ?_
            have e : (VX0_goWindy_13_3 v1 v2 v3 v4 v5 i s) = v4 := by unfold VX0_goWindy_13_3; rw [if_neg c2]
            rw [e] at hJ
            exact r_sub [0, 1, 2, 3, 4, 5, 6, 7, 8, 9] rfl hJ
      · refine r_if_eq 60 dX0_goWindy_53 (by decide) (fun c2 => ?_) (fun c2 => ?_)
        · refine r_iconst 0 dX0_goWindy_60 rfl ?_
          have e : (VX0_goWindy_13_2 v1 v2 v3 v4 v5 i s) = 0 := by unfold VX0_goWindy_13_2; rw [if_pos c2]
          rw [e] at hJ
          exact r_sub [0, 1, 2, 3, 4, 5, 6, 7, 8, 9] rfl hJ
        · refine r_iconst 1 dX0_goWindy_56 rfl ?_
          refine r_goto 61 dX0_goWindy_57 (by decide) ?_
          have e : (VX0_goWindy_13_2 v1 v2 v3 v4 v5 i s) = 1 := by unfold VX0_goWindy_13_2; rw [if_neg c2]
          rw [e] at hJ
          exact r_sub [0, 1, 2, 3, 4, 5, 6, 7, 8, 9] rfl hJ
    · refine r_icmp_ge 46 dX0_goWindy_39 (by decide) (fun c2 => ?_) (fun c2 => ?_)
      · refine r_iconst 0 dX0_goWindy_46 rfl ?_
        have e : (VX0_goWindy_13_1 v1 v2 v3 v4 v5 i s) = 0 := by unfold VX0_goWindy_13_1; rw [if_pos c2]
        rw [e] at hJ
        exact r_sub [0, 1, 2, 3, 4, 5, 6, 7, 8] rfl hJ
      · refine r_iconst 1 dX0_goWindy_42 rfl ?_
        refine r_goto 47 dX0_goWindy_43 (by decide) ?_
        have e : (VX0_goWindy_13_1 v1 v2 v3 v4 v5 i s) = 1 := by unfold VX0_goWindy_13_1; rw [if_neg (i32_ng c2)]
        rw [e] at hJ
        exact r_sub [0, 1, 2, 3, 4, 5, 6, 7, 8] rfl hJ
def NX0_goWindy_13 (p1 : Int32) (p2 : Int32) (p3 : Int32) (p4 : Int32) (p5 : Int32) (μ : Mem) : Nat := ix p2
def SX0_goWindy_13 (p1 : Int32) (p2 : Int32) (p3 : Int32) (p4 : Int32) (p5 : Int32) (μ : Mem) : Int32 × Int32 × Mem := fo (NX0_goWindy_13 p1 p2 p3 p4 p5 μ) (g_X0_goWindy_13 p1 p2 p3 p4 p5) (0, p1, (muX0_goWindy_1 p1 p2 p3 p4 p5 μ))
def VX0_goWindy_2 (p1 : Int32) (p2 : Int32) (p3 : Int32) (p4 : Int32) (p5 : Int32) (μ : Mem) : Int32 := (if p3 ≤ (((((SX0_goWindy_13 p1 p2 p3 p4 p5 μ).2.1 * 1103515245) + 12345) >>> 16) &&& 15) then 0 else 1)
theorem bo_VX0_goWindy_2 (p1 : Int32) (p2 : Int32) (p3 : Int32) (p4 : Int32) (p5 : Int32) (μ : Mem) : (VX0_goWindy_2 p1 p2 p3 p4 p5 μ) = 0 ∨ (VX0_goWindy_2 p1 p2 p3 p4 p5 μ) = 1 := by
  unfold VX0_goWindy_2
  split
  · exact Or.inl rfl
  · exact Or.inr rfl
def VX0_goWindy_3 (p1 : Int32) (p2 : Int32) (p3 : Int32) (p4 : Int32) (p5 : Int32) (μ : Mem) : Int32 := (if (VX0_goWindy_2 p1 p2 p3 p4 p5 μ) = 0 then 0 else 1)
theorem bo_VX0_goWindy_3 (p1 : Int32) (p2 : Int32) (p3 : Int32) (p4 : Int32) (p5 : Int32) (μ : Mem) : (VX0_goWindy_3 p1 p2 p3 p4 p5 μ) = 0 ∨ (VX0_goWindy_3 p1 p2 p3 p4 p5 μ) = 1 := by
  unfold VX0_goWindy_3
  split
  · exact Or.inl rfl
  · exact Or.inr rfl
def VX0_goWindy_4 (p1 : Int32) (p2 : Int32) (p3 : Int32) (p4 : Int32) (p5 : Int32) (μ : Mem) : Int32 := (if (VX0_goWindy_2 p1 p2 p3 p4 p5 μ) = 0 then 0 else p4)
def muX0_goWindy_5 (p1 : Int32) (p2 : Int32) (p3 : Int32) (p4 : Int32) (p5 : Int32) (μ : Mem) : Mem := (M_X5_pass 52 ((F_X7_heightOf (F_X5_tideToCome 52 (SX0_goWindy_13 p1 p2 p3 p4 p5 μ).2.2) (SX0_goWindy_13 p1 p2 p3 p4 p5 μ).2.2) + (VX0_goWindy_4 p1 p2 p3 p4 p5 μ)) (SX0_goWindy_13 p1 p2 p3 p4 p5 μ).2.2)
def muX0_goWindy_6 (p1 : Int32) (p2 : Int32) (p3 : Int32) (p4 : Int32) (p5 : Int32) (μ : Mem) : Mem := (M_X5_payDues 52 ((muX0_goWindy_5 p1 p2 p3 p4 p5 μ) 3 12) (muX0_goWindy_5 p1 p2 p3 p4 p5 μ))
def VX0_goWindy_7 (p1 : Int32) (p2 : Int32) (p3 : Int32) (p4 : Int32) (p5 : Int32) (μ : Mem) : Mem := (if p5 = 0 then (muX0_goWindy_5 p1 p2 p3 p4 p5 μ) else (muX0_goWindy_6 p1 p2 p3 p4 p5 μ))
def F_X0_goWindy (p1 : Int32) (p2 : Int32) (p3 : Int32) (p4 : Int32) (p5 : Int32) (μ : Mem) : Int32 := (SX0_goWindy_13 p1 p2 p3 p4 p5 μ).1
def M_X0_goWindy (p1 : Int32) (p2 : Int32) (p3 : Int32) (p4 : Int32) (p5 : Int32) (μ : Mem) : Mem := (SX0_goWindy_13 p1 p2 p3 p4 p5 μ).2.2
def P_X0_goWindy (p1 : Int32) (p2 : Int32) (p3 : Int32) (p4 : Int32) (p5 : Int32) (μ : Mem) : Prop := ((P_X0_begin  μ) ∧ ((∀ j9, j9 < (NX0_goWindy_13 p1 p2 p3 p4 p5 μ) → Pb_X0_goWindy_13 p1 p2 p3 p4 p5 j9 (fo j9 (g_X0_goWindy_13 p1 p2 p3 p4 p5) (0, p1, (muX0_goWindy_1 p1 p2 p3 p4 p5 μ)))) ∧ ((p2 ≤ (nI (NX0_goWindy_13 p1 p2 p3 p4 p5 μ)) → True) ∧ ((nI (NX0_goWindy_13 p1 p2 p3 p4 p5 μ)) < p2 → ((P_X7_heightOf (F_X5_tideToCome 52 (SX0_goWindy_13 p1 p2 p3 p4 p5 μ).2.2) (SX0_goWindy_13 p1 p2 p3 p4 p5 μ).2.2) ∧ ((P_X5_pass 52 ((F_X7_heightOf (F_X5_tideToCome 52 (SX0_goWindy_13 p1 p2 p3 p4 p5 μ).2.2) (SX0_goWindy_13 p1 p2 p3 p4 p5 μ).2.2) + (VX0_goWindy_4 p1 p2 p3 p4 p5 μ)) (SX0_goWindy_13 p1 p2 p3 p4 p5 μ).2.2) ∧ (((p5 = 0 → True) ∧ (¬ p5 = 0 → (P_X5_payDues 52 ((muX0_goWindy_5 p1 p2 p3 p4 p5 μ) 3 12) (muX0_goWindy_5 p1 p2 p3 p4 p5 μ)))) ∧ False)))))))
set_option maxRecDepth 20000 in
set_option maxHeartbeats 2000000 in
theorem ok_X0_goWindy {G : SG} (hG : GK 57 G) (p1 : Int32) (p2 : Int32) (p3 : Int32) (p4 : Int32) (p5 : Int32) (μ : Mem) (hP : P_X0_goWindy p1 p2 p3 p4 p5 μ) : OkF G mX0_goWindy [.ref (ga G 51), .int p1, .int p2, .int p3, .int p4, .int p5] μ (some (.int (F_X0_goWindy p1 p2 p3 p4 p5 μ))) (M_X0_goWindy p1 p2 p3 p4 p5 μ) := by
  refine okF_of hG rfl rfl (Nat.le_of_ble_eq_true rfl) ?_
  unfold P_X0_goWindy at hP
  refine r_aload_n dX0_goWindy_0 0 rfl ?_
  have hs1 := hP.1
  replace hP := hP.2
  refine r_cvV (ok_X0_begin hG  μ hs1) lX0_65 (hG.lt (by decide)) sh51 ⟨_, _, rfl⟩ dX0_goWindy_1 (by decide) (Nat.le_of_ble_eq_true rfl) rfl (Nat.le_of_ble_eq_true rfl) ?_
  refine r_mu (muX0_goWindy_1 p1 p2 p3 p4 p5 μ) rfl ?_
  refine r_iconst 0 dX0_goWindy_4 rfl ?_
  refine r_istore [(6, _), (0, _), (1, _), (2, _), (3, _), (4, _), (5, _)] dX0_goWindy_5 (Nat.le_of_ble_eq_true rfl) rfl ?_
  refine r_iload_n dX0_goWindy_7 2 rfl ?_
  refine r_istore [(7, _), (6, _), (0, _), (1, _), (2, _), (3, _), (4, _), (5, _)] dX0_goWindy_8 (Nat.le_of_ble_eq_true rfl) rfl ?_
  refine r_iconst 0 dX0_goWindy_10 rfl ?_
  refine r_istore [(8, _), (7, _), (6, _), (0, _), (1, _), (2, _), (3, _), (4, _), (5, _)] dX0_goWindy_11 (Nat.le_of_ble_eq_true rfl) rfl ?_
  have hs2 := hP.1
  replace hP := hP.2
  refine r_sub [3, 4, 5, 6, 7, 8, 2, 1, 0] rfl ?_
  refine lp_X0_goWindy_13 hG p1 p2 p3 p4 p5 (0, p1, (muX0_goWindy_1 p1 p2 p3 p4 p5 μ)) ((NX0_goWindy_13 p1 p2 p3 p4 p5 μ)) (SX0_goWindy_13 p1 p2 p3 p4 p5 μ) rfl hs2 ?_
  refine r_iload dX0_goWindy_13 8 rfl ?_
  refine r_iload_n dX0_goWindy_15 2 rfl ?_
  refine r_icmp_ge 134 dX0_goWindy_16 (by decide) (fun c1 => ?_) (fun c1 => ?_)
  · replace hP := hP.1 c1
    refine r_iload dX0_goWindy_134 6 rfl ?_
    exact r_ireturn _ dX0_goWindy_136 rfl rfl ⟨congrArg (fun z => some (Value.int z)) (rfl), rfl⟩
  · replace hP := hP.2 c1
    refine r_iload dX0_goWindy_19 7 rfl ?_
    refine r_ldcI 1103515245 (bc6 101 (by decide +kernel) (by decide +kernel)) dX0_goWindy_21 ?_
    refine r_imul dX0_goWindy_23 ?_
    refine r_sipush 12345 dX0_goWindy_24 rfl ?_
    refine r_iadd dX0_goWindy_27 ?_
    refine r_istore [(7, _), (0, _), (1, _), (2, _), (3, _), (4, _), (5, _), (6, _), (8, _)] dX0_goWindy_28 (Nat.le_of_ble_eq_true rfl) rfl ?_
    refine r_iload dX0_goWindy_30 0 rfl ?_
    refine r_bipush 16 dX0_goWindy_32 rfl ?_
    refine r_ishr (z := 16) dX0_goWindy_34 (by decide) ?_
    refine r_bipush 15 dX0_goWindy_35 rfl ?_
    refine r_iand dX0_goWindy_37 ?_
    refine r_iload_n dX0_goWindy_38 4 rfl ?_
    refine r_join 47 [(7, .int (((SX0_goWindy_13 p1 p2 p3 p4 p5 μ).2.1 * 1103515245) + 12345)), (0, .ref (ga G 51)), (1, .int p1), (2, .int p2), (3, .int p3), (4, .int p4), (5, .int p5), (6, .int (SX0_goWindy_13 p1 p2 p3 p4 p5 μ).1), (8, .int (nI (NX0_goWindy_13 p1 p2 p3 p4 p5 μ)))] [.int (VX0_goWindy_2 p1 p2 p3 p4 p5 μ)] (SX0_goWindy_13 p1 p2 p3 p4 p5 μ).2.2 ?_ (fun hJ => ?_)
    · refine r_istore [(9, _), (7, _), (0, _), (1, _), (2, _), (3, _), (4, _), (5, _), (6, _), (8, _)] dX0_goWindy_47 (Nat.le_of_ble_eq_true rfl) rfl ?_
      refine r_iload dX0_goWindy_49 8 rfl ?_
      refine r_iload dX0_goWindy_51 0 rfl ?_
      refine r_join 61 [(9, .int (VX0_goWindy_2 p1 p2 p3 p4 p5 μ)), (7, .int (((SX0_goWindy_13 p1 p2 p3 p4 p5 μ).2.1 * 1103515245) + 12345)), (0, .ref (ga G 51)), (1, .int p1), (2, .int p2), (3, .int p3), (4, .int p4), (5, .int p5), (6, .int (SX0_goWindy_13 p1 p2 p3 p4 p5 μ).1), (8, .int (nI (NX0_goWindy_13 p1 p2 p3 p4 p5 μ)))] [.int (VX0_goWindy_3 p1 p2 p3 p4 p5 μ), .int (SX0_goWindy_13 p1 p2 p3 p4 p5 μ).1] (SX0_goWindy_13 p1 p2 p3 p4 p5 μ).2.2 ?_ (fun hJ => ?_)
      · refine r_iadd dX0_goWindy_61 ?_
        refine r_istore [(6, _), (9, _), (7, _), (0, _), (1, _), (2, _), (3, _), (4, _), (5, _), (8, _)] dX0_goWindy_62 (Nat.le_of_ble_eq_true rfl) rfl ?_
        refine r_aload_n dX0_goWindy_64 3 rfl ?_
        refine r_getR 52 fX0_12 (hG.lt (by decide)) sh51 fs51_3 dX0_goWindy_65 ?_
        refine r_aload_n dX0_goWindy_68 3 rfl ?_
        refine r_getR 3 fX0_18 (hG.lt (by decide)) sh51 fs51_0 dX0_goWindy_69 ?_
        refine r_aload_n dX0_goWindy_72 3 rfl ?_
        refine r_getR 3 fX0_18 (hG.lt (by decide)) sh51 fs51_0 dX0_goWindy_73 ?_
        refine r_aload_n dX0_goWindy_76 3 rfl ?_
        refine r_getR 52 fX0_12 (hG.lt (by decide)) sh51 fs51_3 dX0_goWindy_77 ?_
        refine r_cvI (ok_X5_tideToCome hG (IsSt.of52) (SX0_goWindy_13 p1 p2 p3 p4 p5 μ).2.2) lX0_37 (hG.lt (by decide)) sh52 ⟨_, _, rfl⟩ dX0_goWindy_80 (by decide) (Nat.le_of_ble_eq_true rfl) rfl (Nat.le_of_ble_eq_true rfl) ?_
        have hs6 := hP.1
        replace hP := hP.2
        refine r_cvI (ok_X7_heightOf hG (F_X5_tideToCome 52 (SX0_goWindy_13 p1 p2 p3 p4 p5 μ).2.2) (SX0_goWindy_13 p1 p2 p3 p4 p5 μ).2.2 hs6) lX0_41 (hG.lt (by decide)) sh3 ⟨_, _, rfl⟩ dX0_goWindy_83 (by decide) (Nat.le_of_ble_eq_true rfl) rfl (Nat.le_of_ble_eq_true rfl) ?_
        refine r_iload dX0_goWindy_86 1 rfl ?_
        refine r_join 97 [(6, .int ((SX0_goWindy_13 p1 p2 p3 p4 p5 μ).1 + (VX0_goWindy_3 p1 p2 p3 p4 p5 μ))), (9, .int (VX0_goWindy_2 p1 p2 p3 p4 p5 μ)), (7, .int (((SX0_goWindy_13 p1 p2 p3 p4 p5 μ).2.1 * 1103515245) + 12345)), (0, .ref (ga G 51)), (1, .int p1), (2, .int p2), (3, .int p3), (4, .int p4), (5, .int p5), (8, .int (nI (NX0_goWindy_13 p1 p2 p3 p4 p5 μ)))] [.int (VX0_goWindy_4 p1 p2 p3 p4 p5 μ), .int (F_X7_heightOf (F_X5_tideToCome 52 (SX0_goWindy_13 p1 p2 p3 p4 p5 μ).2.2) (SX0_goWindy_13 p1 p2 p3 p4 p5 μ).2.2), .ref (ga G 3), .ref (ga G 52)] (SX0_goWindy_13 p1 p2 p3 p4 p5 μ).2.2 ?_ (fun hJ => ?_)
        · refine r_iadd dX0_goWindy_97 ?_
          have hs7 := hP.1
          replace hP := hP.2
          refine r_cvV (ok_X5_pass hG (IsSt.of52) ((F_X7_heightOf (F_X5_tideToCome 52 (SX0_goWindy_13 p1 p2 p3 p4 p5 μ).2.2) (SX0_goWindy_13 p1 p2 p3 p4 p5 μ).2.2) + (VX0_goWindy_4 p1 p2 p3 p4 p5 μ)) (SX0_goWindy_13 p1 p2 p3 p4 p5 μ).2.2 hs7) lX0_61 (hG.lt (by decide)) sh52 ⟨_, _, rfl⟩ dX0_goWindy_98 (by decide) (Nat.le_of_ble_eq_true rfl) rfl (Nat.le_of_ble_eq_true rfl) ?_
          refine r_mu (muX0_goWindy_5 p1 p2 p3 p4 p5 μ) rfl ?_
          refine r_iload dX0_goWindy_101 8 rfl ?_
          refine r_join 128 [(6, .int ((SX0_goWindy_13 p1 p2 p3 p4 p5 μ).1 + (VX0_goWindy_3 p1 p2 p3 p4 p5 μ))), (9, .int (VX0_goWindy_2 p1 p2 p3 p4 p5 μ)), (7, .int (((SX0_goWindy_13 p1 p2 p3 p4 p5 μ).2.1 * 1103515245) + 12345)), (0, .ref (ga G 51)), (1, .int p1), (2, .int p2), (3, .int p3), (4, .int p4), (5, .int p5), (8, .int (nI (NX0_goWindy_13 p1 p2 p3 p4 p5 μ)))] [] (VX0_goWindy_7 p1 p2 p3 p4 p5 μ) ?_ (fun hJ => ?_)
          · replace hP := hP.2
            refine r_iinc ((nI (NX0_goWindy_13 p1 p2 p3 p4 p5 μ)) + 1) [(8, _), (6, _), (9, _), (7, _), (0, _), (1, _), (2, _), (3, _), (4, _), (5, _)] dX0_goWindy_128 9 rfl rfl (Nat.le_of_ble_eq_true rfl) rfl ?_
            refine r_goto 13 dX0_goWindy_131 (by decide) ?_
            exact hP.elim
          · replace hP := hP.1
            refine r_if_eq 128 dX0_goWindy_103 (by decide) (fun c2 => ?_) (fun c2 => ?_)
            · replace hP := hP.1 c2
              have e : (VX0_goWindy_7 p1 p2 p3 p4 p5 μ) = (muX0_goWindy_5 p1 p2 p3 p4 p5 μ) := by unfold VX0_goWindy_7; rw [if_pos c2]
              rw [e] at hJ
              exact r_sub [0, 1, 2, 3, 4, 5, 6, 7, 8, 9] rfl hJ
            · replace hP := hP.2 c2
              refine r_aload_n dX0_goWindy_106 3 rfl ?_
              refine r_getR 52 fX0_12 (hG.lt (by decide)) sh51 fs51_3 dX0_goWindy_107 ?_
              refine r_aload_n dX0_goWindy_110 3 rfl ?_
              refine r_getR 3 fX0_18 (hG.lt (by decide)) sh51 fs51_0 dX0_goWindy_111 ?_
              refine r_aload_n dX0_goWindy_114 3 rfl ?_
              refine r_getR 21 fX0_22 (hG.lt (by decide)) sh51 fs51_1 dX0_goWindy_115 ?_
              refine r_aload_n dX0_goWindy_118 3 rfl ?_
              refine r_getR 3 fX0_18 (hG.lt (by decide)) sh51 fs51_0 dX0_goWindy_119 ?_
              refine r_getI fX0_86 (hG.lt (by decide)) sh3 fs3_12 dX0_goWindy_122 ?_
              have hs8 := hP
              refine r_cvV (ok_X5_payDues hG (IsSt.of52) ((muX0_goWindy_5 p1 p2 p3 p4 p5 μ) 3 12) (muX0_goWindy_5 p1 p2 p3 p4 p5 μ) hs8) lX0_71 (hG.lt (by decide)) sh52 ⟨_, _, rfl⟩ dX0_goWindy_125 (by decide) (Nat.le_of_ble_eq_true rfl) rfl (Nat.le_of_ble_eq_true rfl) ?_
              refine r_mu (muX0_goWindy_6 p1 p2 p3 p4 p5 μ) rfl ?_
              have e : (VX0_goWindy_7 p1 p2 p3 p4 p5 μ) = (muX0_goWindy_6 p1 p2 p3 p4 p5 μ) := by unfold VX0_goWindy_7; rw [if_neg c2]
              rw [e] at hJ
              exact r_sub [0, 1, 2, 3, 4, 5, 6, 7, 8, 9] rfl hJ
        · refine r_if_eq 96 dX0_goWindy_88 (by decide) (fun c2 => ?_) (fun c2 => ?_)
          · refine r_iconst 0 dX0_goWindy_96 rfl ?_
            have e : (VX0_goWindy_4 p1 p2 p3 p4 p5 μ) = 0 := by unfold VX0_goWindy_4; rw [if_pos c2]
            rw [e] at hJ
            exact r_sub [0, 1, 2, 3, 4, 5, 6, 7, 8, 9] rfl hJ
          · refine r_iload dX0_goWindy_91 7 rfl ?_
            refine r_goto 97 dX0_goWindy_93 (by decide) ?_
            have e : (VX0_goWindy_4 p1 p2 p3 p4 p5 μ) = p4 := by unfold VX0_goWindy_4; rw [if_neg c2]
            rw [e] at hJ
            exact r_sub [0, 1, 2, 3, 4, 5, 6, 7, 8, 9] rfl hJ
      · refine r_if_eq 60 dX0_goWindy_53 (by decide) (fun c2 => ?_) (fun c2 => ?_)
        · refine r_iconst 0 dX0_goWindy_60 rfl ?_
          have e : (VX0_goWindy_3 p1 p2 p3 p4 p5 μ) = 0 := by unfold VX0_goWindy_3; rw [if_pos c2]
          rw [e] at hJ
          exact r_sub [0, 1, 2, 3, 4, 5, 6, 7, 8, 9] rfl hJ
        · refine r_iconst 1 dX0_goWindy_56 rfl ?_
          refine r_goto 61 dX0_goWindy_57 (by decide) ?_
          have e : (VX0_goWindy_3 p1 p2 p3 p4 p5 μ) = 1 := by unfold VX0_goWindy_3; rw [if_neg c2]
          rw [e] at hJ
          exact r_sub [0, 1, 2, 3, 4, 5, 6, 7, 8, 9] rfl hJ
    · refine r_icmp_ge 46 dX0_goWindy_39 (by decide) (fun c2 => ?_) (fun c2 => ?_)
      · refine r_iconst 0 dX0_goWindy_46 rfl ?_
        have e : (VX0_goWindy_2 p1 p2 p3 p4 p5 μ) = 0 := by unfold VX0_goWindy_2; rw [if_pos c2]
        rw [e] at hJ
        exact r_sub [0, 1, 2, 3, 4, 5, 6, 7, 8] rfl hJ
      · refine r_iconst 1 dX0_goWindy_42 rfl ?_
        refine r_goto 47 dX0_goWindy_43 (by decide) ?_
        have e : (VX0_goWindy_2 p1 p2 p3 p4 p5 μ) = 1 := by unfold VX0_goWindy_2; rw [if_neg (i32_ng c2)]
        rw [e] at hJ
        exact r_sub [0, 1, 2, 3, 4, 5, 6, 7, 8] rfl hJ
