def g_X2_fits_3 (v3 : Int32) (μ : Mem) (i : Nat) (s : Unit) : Unit := ()
def Pb_X2_fits_3 (v3 : Int32) (μ : Mem) (i : Nat) (s : Unit) : Prop := (((μ 3 8) ≤ (nI i) → False) ∧ ((nI i) < (μ 3 8) → (((F_X9_at 38 6 (nI i) μ) = (-1) → True) ∧ (¬ (F_X9_at 38 6 (nI i) μ) = (-1) → (((F_X9_at 38 6 (nI i) μ) = (F_X5_waterIn 43 (nI i) v3 μ) → True) ∧ (¬ (F_X9_at 38 6 (nI i) μ) = (F_X5_waterIn 43 (nI i) v3 μ) → False))))))
def Cb_X2_fits_3 (v3 : Int32) (μ : Mem) (i : Nat) (s : Unit) : Bool := (if (μ 3 8) ≤ (nI i) then false else (if (F_X9_at 38 6 (nI i) μ) = (-1) then true else (if (F_X9_at 38 6 (nI i) μ) = (F_X5_waterIn 43 (nI i) v3 μ) then true else false)))
set_option maxRecDepth 20000 in
set_option maxHeartbeats 2000000 in
theorem lp_X2_fits_3 {G : SG} (hG : GK 57 G)  (v3 : Int32) (μ : Mem) (s0 : Unit) (N : Nat) (sN : Unit) (eN : sN = fo N (g_X2_fits_3 v3 μ) s0) (hN : ∀ i, i < N → Pb_X2_fits_3 v3 μ i (fo i (g_X2_fits_3 v3 μ) s0)) {t : Nat} {Q : PQ} {X : PX} (h : R G mX2_fits 3 [(0, .ref (ga G 37)), (1, .ref (ga G 3)), (2, .ref (ga G 43)), (3, .int v3), (4, .int (nI N))] [] μ t Q X) : R G mX2_fits 3 [(0, .ref (ga G 37)), (1, .ref (ga G 3)), (2, .ref (ga G 43)), (3, .int v3), (4, .int 0)] [] μ t Q X := by
  subst eN
  refine down_i N (fun i => R G mX2_fits 3 [(0, .ref (ga G 37)), (1, .ref (ga G 3)), (2, .ref (ga G 43)), (3, .int v3), (4, .int (nI i))] [] μ t Q X) h (fun i hi hS => ?_)
  have hP := hN i hi
  rw [nI_succ] at hS
  generalize fo i (g_X2_fits_3 v3 μ) s0 = s at hS hP ⊢
  unfold Pb_X2_fits_3 at hP
  refine r_iload dX2_fits_3 4 rfl ?_
  refine r_aload_n dX2_fits_5 1 rfl ?_
  refine r_getI fX2_58 (hG.lt (by decide)) sh3 fs3_8 dX2_fits_6 ?_
  refine r_icmp_ge 49 dX2_fits_9 (by decide) (fun c1 => ?_) (fun c1 => ?_)
  · replace hP := hP.1 c1
    exact hP.elim
  · replace hP := hP.2 c1
    refine r_aload_n dX2_fits_12 0 rfl ?_
    refine r_getR 38 fX2_9 (hG.lt (by decide)) sh37 fs37_0 dX2_fits_13 ?_
    refine r_iload dX2_fits_16 4 rfl ?_
    refine r_csI (ok_X9_at hG (hG.lt (by decide)) sh38 (nI i) μ) lX2_47 dX2_fits_18 (by decide) (Nat.le_of_ble_eq_true rfl) rfl (Nat.le_of_ble_eq_true rfl) ?_
    refine r_istore [(5, _), (0, _), (1, _), (2, _), (3, _), (4, _)] dX2_fits_21 (Nat.le_of_ble_eq_true rfl) rfl ?_
    refine r_iload dX2_fits_23 0 rfl ?_
    refine r_iconst (-1) dX2_fits_25 rfl ?_
    refine r_icmp_eq 43 dX2_fits_26 (by decide) (fun c2 => ?_) (fun c2 => ?_)
    · replace hP := hP.1 c2
      refine r_iinc ((nI i) + 1) [(4, _), (5, _), (0, _), (1, _), (2, _), (3, _)] dX2_fits_43 5 rfl rfl (Nat.le_of_ble_eq_true rfl) rfl ?_
      refine r_goto 3 dX2_fits_46 (by decide) ?_
      exact r_sub [2, 3, 4, 5, 0] rfl hS
    · replace hP := hP.2 c2
      refine r_iload dX2_fits_29 0 rfl ?_
      refine r_aload_n dX2_fits_31 3 rfl ?_
      refine r_iload dX2_fits_32 5 rfl ?_
      refine r_iload_n dX2_fits_34 4 rfl ?_
      refine r_cvI (ok_X5_waterIn hG (IsSt.of43) (nI i) v3 μ) lX2_63 (hG.lt (by decide)) sh43 ⟨_, _, rfl⟩ dX2_fits_35 (by decide) (Nat.le_of_ble_eq_true rfl) rfl (Nat.le_of_ble_eq_true rfl) ?_
      refine r_icmp_eq 43 dX2_fits_38 (by decide) (fun c3 => ?_) (fun c3 => ?_)
      · replace hP := hP.1 c3
        refine r_iinc ((nI i) + 1) [(4, _), (5, _), (0, _), (1, _), (2, _), (3, _)] dX2_fits_43 5 rfl rfl (Nat.le_of_ble_eq_true rfl) rfl ?_
        refine r_goto 3 dX2_fits_46 (by decide) ?_
        exact r_sub [2, 3, 4, 5, 0] rfl hS
      · replace hP := hP.2 c3
        refine r_iconst 0 dX2_fits_41 rfl ?_
        exact hP.elim
def NX2_fits_3 (p3 : Int32) (μ : Mem) : Nat := (fst 7 (fun j9 => !Cb_X2_fits_3 p3 μ j9 (fo j9 (g_X2_fits_3 p3 μ) ())))
def SX2_fits_3 (p3 : Int32) (μ : Mem) : Unit := fo (NX2_fits_3 p3 μ) (g_X2_fits_3 p3 μ) ()
def F_X2_fits (p3 : Int32) (μ : Mem) : Int32 := (if (μ 3 8) ≤ (nI (NX2_fits_3 p3 μ)) then 1 else 0)
def P_X2_fits (p3 : Int32) (μ : Mem) : Prop := ((∀ j9, j9 < (NX2_fits_3 p3 μ) → Pb_X2_fits_3 p3 μ j9 (fo j9 (g_X2_fits_3 p3 μ) ())) ∧ (((μ 3 8) ≤ (nI (NX2_fits_3 p3 μ)) → True) ∧ ((nI (NX2_fits_3 p3 μ)) < (μ 3 8) → (((F_X9_at 38 6 (nI (NX2_fits_3 p3 μ)) μ) = (-1) → False) ∧ (¬ (F_X9_at 38 6 (nI (NX2_fits_3 p3 μ)) μ) = (-1) → (((F_X9_at 38 6 (nI (NX2_fits_3 p3 μ)) μ) = (F_X5_waterIn 43 (nI (NX2_fits_3 p3 μ)) p3 μ) → False) ∧ (¬ (F_X9_at 38 6 (nI (NX2_fits_3 p3 μ)) μ) = (F_X5_waterIn 43 (nI (NX2_fits_3 p3 μ)) p3 μ) → True)))))))
theorem bo_X2_fits (p3 : Int32) (μ : Mem) : F_X2_fits p3 μ = 0 ∨ F_X2_fits p3 μ = 1 := by
  unfold F_X2_fits
  split
  · exact Or.inr rfl
  · exact Or.inl rfl
set_option maxRecDepth 20000 in
set_option maxHeartbeats 2000000 in
theorem ok_X2_fits {G : SG} (hG : GK 57 G) (p3 : Int32) (μ : Mem) (hP : P_X2_fits p3 μ) : OkF G mX2_fits [.ref (ga G 37), .ref (ga G 3), .ref (ga G 43), .int p3] μ (some (.int (F_X2_fits p3 μ))) μ := by
  refine okF_of hG rfl rfl (Nat.le_of_ble_eq_true rfl) ?_
  unfold P_X2_fits at hP
  refine r_iconst 0 dX2_fits_0 rfl ?_
  refine r_istore [(4, _), (0, _), (1, _), (2, _), (3, _)] dX2_fits_1 (Nat.le_of_ble_eq_true rfl) rfl ?_
  have hs1 := hP.1
  replace hP := hP.2
  refine r_sub [1, 2, 3, 4, 0] rfl ?_
  refine lp_X2_fits_3 hG p3 μ () ((NX2_fits_3 p3 μ)) (SX2_fits_3 p3 μ) rfl hs1 ?_
  refine r_iload dX2_fits_3 4 rfl ?_
  refine r_aload_n dX2_fits_5 1 rfl ?_
  refine r_getI fX2_58 (hG.lt (by decide)) sh3 fs3_8 dX2_fits_6 ?_
  refine r_icmp_ge 49 dX2_fits_9 (by decide) (fun c1 => ?_) (fun c1 => ?_)
  · replace hP := hP.1 c1
    refine r_iconst 1 dX2_fits_49 rfl ?_
    exact r_ireturn _ dX2_fits_50 rfl rfl ⟨congrArg (fun z => some (Value.int z)) (by unfold F_X2_fits; rw [if_pos c1]), rfl⟩
  · replace hP := hP.2 c1
    refine r_aload_n dX2_fits_12 0 rfl ?_
    refine r_getR 38 fX2_9 (hG.lt (by decide)) sh37 fs37_0 dX2_fits_13 ?_
    refine r_iload dX2_fits_16 4 rfl ?_
    refine r_csI (ok_X9_at hG (hG.lt (by decide)) sh38 (nI (NX2_fits_3 p3 μ)) μ) lX2_47 dX2_fits_18 (by decide) (Nat.le_of_ble_eq_true rfl) rfl (Nat.le_of_ble_eq_true rfl) ?_
    refine r_istore [(5, _), (0, _), (1, _), (2, _), (3, _), (4, _)] dX2_fits_21 (Nat.le_of_ble_eq_true rfl) rfl ?_
    refine r_iload dX2_fits_23 0 rfl ?_
    refine r_iconst (-1) dX2_fits_25 rfl ?_
    refine r_icmp_eq 43 dX2_fits_26 (by decide) (fun c2 => ?_) (fun c2 => ?_)
    · replace hP := hP.1 c2
      refine r_iinc ((nI (NX2_fits_3 p3 μ)) + 1) [(4, _), (5, _), (0, _), (1, _), (2, _), (3, _)] dX2_fits_43 5 rfl rfl (Nat.le_of_ble_eq_true rfl) rfl ?_
      refine r_goto 3 dX2_fits_46 (by decide) ?_
      exact hP.elim
    · replace hP := hP.2 c2
      refine r_iload dX2_fits_29 0 rfl ?_
      refine r_aload_n dX2_fits_31 3 rfl ?_
      refine r_iload dX2_fits_32 5 rfl ?_
      refine r_iload_n dX2_fits_34 4 rfl ?_
      refine r_cvI (ok_X5_waterIn hG (IsSt.of43) (nI (NX2_fits_3 p3 μ)) p3 μ) lX2_63 (hG.lt (by decide)) sh43 ⟨_, _, rfl⟩ dX2_fits_35 (by decide) (Nat.le_of_ble_eq_true rfl) rfl (Nat.le_of_ble_eq_true rfl) ?_
      refine r_icmp_eq 43 dX2_fits_38 (by decide) (fun c3 => ?_) (fun c3 => ?_)
      · replace hP := hP.1 c3
        refine r_iinc ((nI (NX2_fits_3 p3 μ)) + 1) [(4, _), (5, _), (0, _), (1, _), (2, _), (3, _)] dX2_fits_43 5 rfl rfl (Nat.le_of_ble_eq_true rfl) rfl ?_
        refine r_goto 3 dX2_fits_46 (by decide) ?_
        exact hP.elim
      · replace hP := hP.2 c3
        refine r_iconst 0 dX2_fits_41 rfl ?_
        exact r_ireturn _ dX2_fits_42 rfl rfl ⟨congrArg (fun z => some (Value.int z)) (by unfold F_X2_fits; rw [if_neg (i32_ng c1)]), rfl⟩
def VX2_fittingTides_5_1 (μ : Mem) (i : Nat) (s : Int32) : Int32 := (if (F_X2_fits (F_X7_heightOf (nI i) μ) μ) = 0 then s else (s ||| ((1 : Int32) <<< ((nI i) &&& 31))))
def g_X2_fittingTides_5 (μ : Mem) (i : Nat) (s : Int32) : Int32 := (VX2_fittingTides_5_1 μ i s)
def Pb_X2_fittingTides_5 (μ : Mem) (i : Nat) (s : Int32) : Prop := (((μ 3 10) ≤ (nI i) → False) ∧ ((nI i) < (μ 3 10) → (P_X7_heightOf (nI i) μ) ∧ P_X2_fits (F_X7_heightOf (nI i) μ) μ))
set_option maxRecDepth 20000 in
set_option maxHeartbeats 2000000 in
theorem lp_X2_fittingTides_5 {G : SG} (hG : GK 57 G)  (μ : Mem) (s0 : Int32) (N : Nat) (sN : Int32) (eN : sN = fo N (g_X2_fittingTides_5 μ) s0) (hN : ∀ i, i < N → Pb_X2_fittingTides_5 μ i (fo i (g_X2_fittingTides_5 μ) s0)) {t : Nat} {Q : PQ} {X : PX} (h : R G mX2_fittingTides 5 [(0, .ref (ga G 37)), (1, .ref (ga G 3)), (2, .ref (ga G 43)), (3, .int sN), (4, .int (nI N))] [] μ t Q X) : R G mX2_fittingTides 5 [(0, .ref (ga G 37)), (1, .ref (ga G 3)), (2, .ref (ga G 43)), (3, .int s0), (4, .int 0)] [] μ t Q X := by
  subst eN
  refine down_i N (fun i => R G mX2_fittingTides 5 [(0, .ref (ga G 37)), (1, .ref (ga G 3)), (2, .ref (ga G 43)), (3, .int (fo i (g_X2_fittingTides_5 μ) s0)), (4, .int (nI i))] [] μ t Q X) h (fun i hi hS => ?_)
  have hP := hN i hi
  rw [fo_succ] at hS
  rw [nI_succ] at hS
  generalize fo i (g_X2_fittingTides_5 μ) s0 = s at hS hP ⊢
  unfold Pb_X2_fittingTides_5 at hP
  refine r_iload dX2_fittingTides_5 4 rfl ?_
  refine r_aload_n dX2_fittingTides_7 1 rfl ?_
  refine r_getI fX2_68 (hG.lt (by decide)) sh3 fs3_10 dX2_fittingTides_8 ?_
  refine r_icmp_ge 42 dX2_fittingTides_11 (by decide) (fun c1 => ?_) (fun c1 => ?_)
  · replace hP := hP.1 c1
    exact hP.elim
  · replace hP := hP.2 c1
    refine r_aload_n dX2_fittingTides_14 0 rfl ?_
    refine r_aload_n dX2_fittingTides_15 1 rfl ?_
    refine r_aload_n dX2_fittingTides_16 2 rfl ?_
    refine r_aload_n dX2_fittingTides_17 1 rfl ?_
    refine r_iload dX2_fittingTides_18 4 rfl ?_
    have hs1 := hP.1
    replace hP := hP.2
    refine r_cvI (ok_X7_heightOf hG (nI i) μ hs1) lX2_71 (hG.lt (by decide)) sh3 ⟨_, _, rfl⟩ dX2_fittingTides_20 (by decide) (Nat.le_of_ble_eq_true rfl) rfl (Nat.le_of_ble_eq_true rfl) ?_
    have hs2 := hP
    refine r_cvI (ok_X2_fits hG (F_X7_heightOf (nI i) μ) μ hs2) lX2_75 (hG.lt (by decide)) sh37 ⟨_, _, rfl⟩ dX2_fittingTides_23 (by decide) (Nat.le_of_ble_eq_true rfl) rfl (Nat.le_of_ble_eq_true rfl) ?_
    refine r_join 36 [(0, .ref (ga G 37)), (1, .ref (ga G 3)), (2, .ref (ga G 43)), (3, .int (VX2_fittingTides_5_1 μ i s)), (4, .int (nI i))] [] μ ?_ (fun hJ => ?_)
    · refine r_iinc ((nI i) + 1) [(4, _), (0, _), (1, _), (2, _), (3, _)] dX2_fittingTides_36 4 rfl rfl (Nat.le_of_ble_eq_true rfl) rfl ?_
      refine r_goto 5 dX2_fittingTides_39 (by decide) ?_
      have e : g_X2_fittingTides_5 μ i s = (VX2_fittingTides_5_1 μ i s) := by unfold g_X2_fittingTides_5; rfl
      rw [e] at hS
      exact r_sub [1, 2, 3, 4, 0] rfl hS
    · refine r_if_eq 36 dX2_fittingTides_26 (by decide) (fun c2 => ?_) (fun c2 => ?_)
      · have e : (VX2_fittingTides_5_1 μ i s) = s := by unfold VX2_fittingTides_5_1; rw [if_pos c2]
        rw [e] at hJ
        exact r_sub [0, 1, 2, 3, 4] rfl hJ
      · refine r_iload_n dX2_fittingTides_29 3 rfl ?_
        refine r_iconst 1 dX2_fittingTides_30 rfl ?_
        refine r_iload dX2_fittingTides_31 4 rfl ?_
        refine r_ishl dX2_fittingTides_33 rfl ?_
        refine r_ior dX2_fittingTides_34 ?_
        refine r_istore_n [(3, _), (0, _), (1, _), (2, _), (4, _)] dX2_fittingTides_35 (Nat.le_of_ble_eq_true rfl) rfl ?_
        have e : (VX2_fittingTides_5_1 μ i s) = (s ||| ((1 : Int32) <<< ((nI i) &&& 31))) := by unfold VX2_fittingTides_5_1; rw [if_neg c2]
        rw [e] at hJ
        exact r_sub [1, 2, 3, 0, 4] rfl hJ
def NX2_fittingTides_5 (μ : Mem) : Nat := ix (μ 3 10)
def SX2_fittingTides_5 (μ : Mem) : Int32 := fo (NX2_fittingTides_5 μ) (g_X2_fittingTides_5 μ) 0
def VX2_fittingTides_1 (μ : Mem) : Int32 := (if (F_X2_fits (F_X7_heightOf (nI (NX2_fittingTides_5 μ)) μ) μ) = 0 then (SX2_fittingTides_5 μ) else ((SX2_fittingTides_5 μ) ||| ((1 : Int32) <<< ((nI (NX2_fittingTides_5 μ)) &&& 31))))
def F_X2_fittingTides  (μ : Mem) : Int32 := (SX2_fittingTides_5 μ)
def P_X2_fittingTides  (μ : Mem) : Prop := ((∀ j9, j9 < (NX2_fittingTides_5 μ) → Pb_X2_fittingTides_5 μ j9 (fo j9 (g_X2_fittingTides_5 μ) 0)) ∧ (((μ 3 10) ≤ (nI (NX2_fittingTides_5 μ)) → True) ∧ ((nI (NX2_fittingTides_5 μ)) < (μ 3 10) → ((P_X7_heightOf (nI (NX2_fittingTides_5 μ)) μ) ∧ ((P_X2_fits (F_X7_heightOf (nI (NX2_fittingTides_5 μ)) μ) μ) ∧ False)))))
set_option maxRecDepth 20000 in
set_option maxHeartbeats 2000000 in
theorem ok_X2_fittingTides {G : SG} (hG : GK 57 G)  (μ : Mem) (hP : P_X2_fittingTides  μ) : OkF G mX2_fittingTides [.ref (ga G 37), .ref (ga G 3), .ref (ga G 43)] μ (some (.int (F_X2_fittingTides  μ))) μ := by
  refine okF_of hG rfl rfl (Nat.le_of_ble_eq_true rfl) ?_
  unfold P_X2_fittingTides at hP
  refine r_iconst 0 dX2_fittingTides_0 rfl ?_
  refine r_istore_n [(3, _), (0, _), (1, _), (2, _)] dX2_fittingTides_1 (Nat.le_of_ble_eq_true rfl) rfl ?_
  refine r_iconst 0 dX2_fittingTides_2 rfl ?_
  refine r_istore [(4, _), (3, _), (0, _), (1, _), (2, _)] dX2_fittingTides_3 (Nat.le_of_ble_eq_true rfl) rfl ?_
  have hs1 := hP.1
  replace hP := hP.2
  refine r_sub [2, 3, 4, 1, 0] rfl ?_
  refine lp_X2_fittingTides_5 hG μ 0 ((NX2_fittingTides_5 μ)) (SX2_fittingTides_5 μ) rfl hs1 ?_
  refine r_iload dX2_fittingTides_5 4 rfl ?_
  refine r_aload_n dX2_fittingTides_7 1 rfl ?_
  refine r_getI fX2_68 (hG.lt (by decide)) sh3 fs3_10 dX2_fittingTides_8 ?_
  refine r_icmp_ge 42 dX2_fittingTides_11 (by decide) (fun c1 => ?_) (fun c1 => ?_)
  · replace hP := hP.1 c1
    refine r_iload_n dX2_fittingTides_42 3 rfl ?_
    exact r_ireturn _ dX2_fittingTides_43 rfl rfl ⟨congrArg (fun z => some (Value.int z)) (rfl), rfl⟩
  · replace hP := hP.2 c1
    refine r_aload_n dX2_fittingTides_14 0 rfl ?_
    refine r_aload_n dX2_fittingTides_15 1 rfl ?_
    refine r_aload_n dX2_fittingTides_16 2 rfl ?_
    refine r_aload_n dX2_fittingTides_17 1 rfl ?_
    refine r_iload dX2_fittingTides_18 4 rfl ?_
    have hs4 := hP.1
    replace hP := hP.2
    refine r_cvI (ok_X7_heightOf hG (nI (NX2_fittingTides_5 μ)) μ hs4) lX2_71 (hG.lt (by decide)) sh3 ⟨_, _, rfl⟩ dX2_fittingTides_20 (by decide) (Nat.le_of_ble_eq_true rfl) rfl (Nat.le_of_ble_eq_true rfl) ?_
    have hs5 := hP.1
    replace hP := hP.2
    refine r_cvI (ok_X2_fits hG (F_X7_heightOf (nI (NX2_fittingTides_5 μ)) μ) μ hs5) lX2_75 (hG.lt (by decide)) sh37 ⟨_, _, rfl⟩ dX2_fittingTides_23 (by decide) (Nat.le_of_ble_eq_true rfl) rfl (Nat.le_of_ble_eq_true rfl) ?_
    refine r_join 36 [(0, .ref (ga G 37)), (1, .ref (ga G 3)), (2, .ref (ga G 43)), (3, .int (VX2_fittingTides_1 μ)), (4, .int (nI (NX2_fittingTides_5 μ)))] [] μ ?_ (fun hJ => ?_)
    · refine r_iinc ((nI (NX2_fittingTides_5 μ)) + 1) [(4, _), (0, _), (1, _), (2, _), (3, _)] dX2_fittingTides_36 4 rfl rfl (Nat.le_of_ble_eq_true rfl) rfl ?_
      refine r_goto 5 dX2_fittingTides_39 (by decide) ?_
      exact hP.elim
    · refine r_if_eq 36 dX2_fittingTides_26 (by decide) (fun c2 => ?_) (fun c2 => ?_)
      · have e : (VX2_fittingTides_1 μ) = (SX2_fittingTides_5 μ) := by unfold VX2_fittingTides_1; rw [if_pos c2]
        rw [e] at hJ
        exact r_sub [0, 1, 2, 3, 4] rfl hJ
      · refine r_iload_n dX2_fittingTides_29 3 rfl ?_
        refine r_iconst 1 dX2_fittingTides_30 rfl ?_
        refine r_iload dX2_fittingTides_31 4 rfl ?_
        refine r_ishl dX2_fittingTides_33 rfl ?_
        refine r_ior dX2_fittingTides_34 ?_
        refine r_istore_n [(3, _), (0, _), (1, _), (2, _), (4, _)] dX2_fittingTides_35 (Nat.le_of_ble_eq_true rfl) rfl ?_
        have e : (VX2_fittingTides_1 μ) = ((SX2_fittingTides_5 μ) ||| ((1 : Int32) <<< ((nI (NX2_fittingTides_5 μ)) &&& 31))) := by unfold VX2_fittingTides_1; rw [if_neg c2]
        rw [e] at hJ
        exact r_sub [1, 2, 3, 0, 4] rfl hJ
def VX2_setsUnder_7_1 (v1 : Int32) (μ : Mem) (i : Nat) (s : Int32 × Int32) : Int32 := (if v1 ≤ (F_X7_heightOf (nI i) μ) then 0 else 1)
theorem bo_VX2_setsUnder_7_1 (v1 : Int32) (μ : Mem) (i : Nat) (s : Int32 × Int32) : (VX2_setsUnder_7_1 v1 μ i s) = 0 ∨ (VX2_setsUnder_7_1 v1 μ i s) = 1 := by
  unfold VX2_setsUnder_7_1
  split
  · exact Or.inl rfl
  · exact Or.inr rfl
def VX2_setsUnder_7_2 (v1 : Int32) (μ : Mem) (i : Nat) (s : Int32 × Int32) : Int32 := (if (F_X7_heightOf (nI i) μ) ≠ v1 then 0 else 1)
theorem bo_VX2_setsUnder_7_2 (v1 : Int32) (μ : Mem) (i : Nat) (s : Int32 × Int32) : (VX2_setsUnder_7_2 v1 μ i s) = 0 ∨ (VX2_setsUnder_7_2 v1 μ i s) = 1 := by
  unfold VX2_setsUnder_7_2
  split
  · exact Or.inl rfl
  · exact Or.inr rfl
def g_X2_setsUnder_7 (v1 : Int32) (μ : Mem) (i : Nat) (s : Int32 × Int32) : Int32 × Int32 := ((s.1 + (VX2_setsUnder_7_1 v1 μ i s)), (s.2 + (VX2_setsUnder_7_2 v1 μ i s)))
def Pb_X2_setsUnder_7 (v1 : Int32) (μ : Mem) (i : Nat) (s : Int32 × Int32) : Prop := (((μ 3 10) ≤ (nI i) → False) ∧ ((nI i) < (μ 3 10) → (P_X7_heightOf (nI i) μ) ∧ P_X7_heightOf (nI i) μ))
set_option maxRecDepth 20000 in
set_option maxHeartbeats 2000000 in
theorem lp_X2_setsUnder_7 {G : SG} (hG : GK 57 G)  (v1 : Int32) (μ : Mem) (s0 : Int32 × Int32) (N : Nat) (sN : Int32 × Int32) (eN : sN = fo N (g_X2_setsUnder_7 v1 μ) s0) (hN : ∀ i, i < N → Pb_X2_setsUnder_7 v1 μ i (fo i (g_X2_setsUnder_7 v1 μ) s0)) {t : Nat} {Q : PQ} {X : PX} (h : R G mX2_setsUnder 7 [(0, .ref (ga G 3)), (1, .int v1), (2, .int (sN).1), (3, .int (sN).2), (4, .int (nI N))] [] μ t Q X) : R G mX2_setsUnder 7 [(0, .ref (ga G 3)), (1, .int v1), (2, .int (s0).1), (3, .int (s0).2), (4, .int 0)] [] μ t Q X := by
  subst eN
  refine down_i N (fun i => R G mX2_setsUnder 7 [(0, .ref (ga G 3)), (1, .int v1), (2, .int ((fo i (g_X2_setsUnder_7 v1 μ) s0)).1), (3, .int ((fo i (g_X2_setsUnder_7 v1 μ) s0)).2), (4, .int (nI i))] [] μ t Q X) h (fun i hi hS => ?_)
  have hP := hN i hi
  rw [fo_succ] at hS
  rw [nI_succ] at hS
  generalize fo i (g_X2_setsUnder_7 v1 μ) s0 = s at hS hP ⊢
  unfold Pb_X2_setsUnder_7 at hP
  refine r_iload dX2_setsUnder_7 4 rfl ?_
  refine r_aload_n dX2_setsUnder_9 0 rfl ?_
  refine r_getI fX2_68 (hG.lt (by decide)) sh3 fs3_10 dX2_setsUnder_10 ?_
  refine r_icmp_ge 58 dX2_setsUnder_13 (by decide) (fun c1 => ?_) (fun c1 => ?_)
  · replace hP := hP.1 c1
    exact hP.elim
  · replace hP := hP.2 c1
    refine r_iload_n dX2_setsUnder_16 2 rfl ?_
    refine r_aload_n dX2_setsUnder_17 0 rfl ?_
    refine r_iload dX2_setsUnder_18 4 rfl ?_
    have hs1 := hP.1
    replace hP := hP.2
    refine r_cvI (ok_X7_heightOf hG (nI i) μ hs1) lX2_71 (hG.lt (by decide)) sh3 ⟨_, _, rfl⟩ dX2_setsUnder_20 (by decide) (Nat.le_of_ble_eq_true rfl) rfl (Nat.le_of_ble_eq_true rfl) ?_
    refine r_iload_n dX2_setsUnder_23 1 rfl ?_
    refine r_join 32 [(0, .ref (ga G 3)), (1, .int v1), (2, .int s.1), (3, .int s.2), (4, .int (nI i))] [.int (VX2_setsUnder_7_1 v1 μ i s), .int s.1] μ ?_ (fun hJ => ?_)
    · refine r_iadd dX2_setsUnder_32 ?_
      refine r_istore_n [(2, _), (0, _), (1, _), (3, _), (4, _)] dX2_setsUnder_33 (Nat.le_of_ble_eq_true rfl) rfl ?_
      refine r_iload_n dX2_setsUnder_34 3 rfl ?_
      refine r_aload_n dX2_setsUnder_35 1 rfl ?_
      refine r_iload dX2_setsUnder_36 4 rfl ?_
      have hs2 := hP
      refine r_cvI (ok_X7_heightOf hG (nI i) μ hs2) lX2_71 (hG.lt (by decide)) sh3 ⟨_, _, rfl⟩ dX2_setsUnder_38 (by decide) (Nat.le_of_ble_eq_true rfl) rfl (Nat.le_of_ble_eq_true rfl) ?_
      refine r_iload_n dX2_setsUnder_41 2 rfl ?_
      refine r_join 50 [(2, .int (s.1 + (VX2_setsUnder_7_1 v1 μ i s))), (0, .ref (ga G 3)), (1, .int v1), (3, .int s.2), (4, .int (nI i))] [.int (VX2_setsUnder_7_2 v1 μ i s), .int s.2] μ ?_ (fun hJ => ?_)
      · refine r_iadd dX2_setsUnder_50 ?_
        refine r_istore_n [(3, _), (2, _), (0, _), (1, _), (4, _)] dX2_setsUnder_51 (Nat.le_of_ble_eq_true rfl) rfl ?_
        refine r_iinc ((nI i) + 1) [(4, _), (3, _), (2, _), (0, _), (1, _)] dX2_setsUnder_52 4 rfl rfl (Nat.le_of_ble_eq_true rfl) rfl ?_
        refine r_goto 7 dX2_setsUnder_55 (by decide) ?_
        have e : g_X2_setsUnder_7 v1 μ i s = ((s.1 + (VX2_setsUnder_7_1 v1 μ i s)), (s.2 + (VX2_setsUnder_7_2 v1 μ i s))) := by unfold g_X2_setsUnder_7; rfl
        rw [e] at hS
        dsimp only at hS
        exact r_sub [3, 4, 2, 1, 0] rfl hS
      · refine r_icmp_ne 49 dX2_setsUnder_42 (by decide) (fun c2 => ?_) (fun c2 => ?_)
        · refine r_iconst 0 dX2_setsUnder_49 rfl ?_
          have e : (VX2_setsUnder_7_2 v1 μ i s) = 0 := by unfold VX2_setsUnder_7_2; rw [if_pos c2]
          rw [e] at hJ
          exact r_sub [0, 1, 2, 3, 4] rfl hJ
        · refine r_iconst 1 dX2_setsUnder_45 rfl ?_
          refine r_goto 50 dX2_setsUnder_46 (by decide) ?_
          have e : (VX2_setsUnder_7_2 v1 μ i s) = 1 := by unfold VX2_setsUnder_7_2; rw [if_neg (not_not_intro c2)]
          rw [e] at hJ
          exact r_sub [0, 1, 2, 3, 4] rfl hJ
    · refine r_icmp_ge 31 dX2_setsUnder_24 (by decide) (fun c2 => ?_) (fun c2 => ?_)
      · refine r_iconst 0 dX2_setsUnder_31 rfl ?_
        have e : (VX2_setsUnder_7_1 v1 μ i s) = 0 := by unfold VX2_setsUnder_7_1; rw [if_pos c2]
        rw [e] at hJ
        exact r_sub [0, 1, 2, 3, 4] rfl hJ
      · refine r_iconst 1 dX2_setsUnder_27 rfl ?_
        refine r_goto 32 dX2_setsUnder_28 (by decide) ?_
        have e : (VX2_setsUnder_7_1 v1 μ i s) = 1 := by unfold VX2_setsUnder_7_1; rw [if_neg (i32_ng c2)]
        rw [e] at hJ
        exact r_sub [0, 1, 2, 3, 4] rfl hJ
def NX2_setsUnder_7 (p1 : Int32) (μ : Mem) : Nat := ix (μ 3 10)
def SX2_setsUnder_7 (p1 : Int32) (μ : Mem) : Int32 × Int32 := fo (NX2_setsUnder_7 p1 μ) (g_X2_setsUnder_7 p1 μ) (0, 0)
def VX2_setsUnder_1 (p1 : Int32) (μ : Mem) : Int32 := (if p1 ≤ (F_X7_heightOf (nI (NX2_setsUnder_7 p1 μ)) μ) then 0 else 1)
theorem bo_VX2_setsUnder_1 (p1 : Int32) (μ : Mem) : (VX2_setsUnder_1 p1 μ) = 0 ∨ (VX2_setsUnder_1 p1 μ) = 1 := by
  unfold VX2_setsUnder_1
  split
  · exact Or.inl rfl
  · exact Or.inr rfl
def VX2_setsUnder_2 (p1 : Int32) (μ : Mem) : Int32 := (if (F_X7_heightOf (nI (NX2_setsUnder_7 p1 μ)) μ) ≠ p1 then 0 else 1)
theorem bo_VX2_setsUnder_2 (p1 : Int32) (μ : Mem) : (VX2_setsUnder_2 p1 μ) = 0 ∨ (VX2_setsUnder_2 p1 μ) = 1 := by
  unfold VX2_setsUnder_2
  split
  · exact Or.inl rfl
  · exact Or.inr rfl
def F_X2_setsUnder (p1 : Int32) (μ : Mem) : Int32 := ((((1 : Int32) <<< ((SX2_setsUnder_7 p1 μ).2 &&& 31)) - 1) * ((1 : Int32) <<< ((SX2_setsUnder_7 p1 μ).1 &&& 31)))
def P_X2_setsUnder (p1 : Int32) (μ : Mem) : Prop := ((∀ j9, j9 < (NX2_setsUnder_7 p1 μ) → Pb_X2_setsUnder_7 p1 μ j9 (fo j9 (g_X2_setsUnder_7 p1 μ) (0, 0))) ∧ (((μ 3 10) ≤ (nI (NX2_setsUnder_7 p1 μ)) → True) ∧ ((nI (NX2_setsUnder_7 p1 μ)) < (μ 3 10) → ((P_X7_heightOf (nI (NX2_setsUnder_7 p1 μ)) μ) ∧ ((P_X7_heightOf (nI (NX2_setsUnder_7 p1 μ)) μ) ∧ False)))))
set_option maxRecDepth 20000 in
set_option maxHeartbeats 2000000 in
theorem ok_X2_setsUnder {G : SG} (hG : GK 57 G) (p1 : Int32) (μ : Mem) (hP : P_X2_setsUnder p1 μ) : OkF G mX2_setsUnder [.ref (ga G 3), .int p1] μ (some (.int (F_X2_setsUnder p1 μ))) μ := by
  refine okF_of hG rfl rfl (Nat.le_of_ble_eq_true rfl) ?_
  unfold P_X2_setsUnder at hP
  refine r_iconst 0 dX2_setsUnder_0 rfl ?_
  refine r_istore_n [(2, _), (0, _), (1, _)] dX2_setsUnder_1 (Nat.le_of_ble_eq_true rfl) rfl ?_
  refine r_iconst 0 dX2_setsUnder_2 rfl ?_
  refine r_istore_n [(3, _), (2, _), (0, _), (1, _)] dX2_setsUnder_3 (Nat.le_of_ble_eq_true rfl) rfl ?_
  refine r_iconst 0 dX2_setsUnder_4 rfl ?_
  refine r_istore [(4, _), (3, _), (2, _), (0, _), (1, _)] dX2_setsUnder_5 (Nat.le_of_ble_eq_true rfl) rfl ?_
  have hs1 := hP.1
  replace hP := hP.2
  refine r_sub [3, 4, 2, 1, 0] rfl ?_
  refine lp_X2_setsUnder_7 hG p1 μ (0, 0) ((NX2_setsUnder_7 p1 μ)) (SX2_setsUnder_7 p1 μ) rfl hs1 ?_
  refine r_iload dX2_setsUnder_7 4 rfl ?_
  refine r_aload_n dX2_setsUnder_9 0 rfl ?_
  refine r_getI fX2_68 (hG.lt (by decide)) sh3 fs3_10 dX2_setsUnder_10 ?_
  refine r_icmp_ge 58 dX2_setsUnder_13 (by decide) (fun c1 => ?_) (fun c1 => ?_)
  · replace hP := hP.1 c1
    refine r_iconst 1 dX2_setsUnder_58 rfl ?_
    refine r_iload_n dX2_setsUnder_59 3 rfl ?_
    refine r_ishl dX2_setsUnder_60 rfl ?_
    refine r_iconst 1 dX2_setsUnder_61 rfl ?_
    refine r_isub dX2_setsUnder_62 ?_
    refine r_iconst 1 dX2_setsUnder_63 rfl ?_
    refine r_iload_n dX2_setsUnder_64 2 rfl ?_
    refine r_ishl dX2_setsUnder_65 rfl ?_
    refine r_imul dX2_setsUnder_66 ?_
    exact r_ireturn _ dX2_setsUnder_67 rfl rfl ⟨congrArg (fun z => some (Value.int z)) (rfl), rfl⟩
  · replace hP := hP.2 c1
    refine r_iload_n dX2_setsUnder_16 2 rfl ?_
    refine r_aload_n dX2_setsUnder_17 0 rfl ?_
    refine r_iload dX2_setsUnder_18 4 rfl ?_
    have hs4 := hP.1
    replace hP := hP.2
    refine r_cvI (ok_X7_heightOf hG (nI (NX2_setsUnder_7 p1 μ)) μ hs4) lX2_71 (hG.lt (by decide)) sh3 ⟨_, _, rfl⟩ dX2_setsUnder_20 (by decide) (Nat.le_of_ble_eq_true rfl) rfl (Nat.le_of_ble_eq_true rfl) ?_
    refine r_iload_n dX2_setsUnder_23 1 rfl ?_
    refine r_join 32 [(0, .ref (ga G 3)), (1, .int p1), (2, .int (SX2_setsUnder_7 p1 μ).1), (3, .int (SX2_setsUnder_7 p1 μ).2), (4, .int (nI (NX2_setsUnder_7 p1 μ)))] [.int (VX2_setsUnder_1 p1 μ), .int (SX2_setsUnder_7 p1 μ).1] μ ?_ (fun hJ => ?_)
    · refine r_iadd dX2_setsUnder_32 ?_
      refine r_istore_n [(2, _), (0, _), (1, _), (3, _), (4, _)] dX2_setsUnder_33 (Nat.le_of_ble_eq_true rfl) rfl ?_
      refine r_iload_n dX2_setsUnder_34 3 rfl ?_
      refine r_aload_n dX2_setsUnder_35 1 rfl ?_
      refine r_iload dX2_setsUnder_36 4 rfl ?_
      have hs5 := hP.1
      replace hP := hP.2
      refine r_cvI (ok_X7_heightOf hG (nI (NX2_setsUnder_7 p1 μ)) μ hs5) lX2_71 (hG.lt (by decide)) sh3 ⟨_, _, rfl⟩ dX2_setsUnder_38 (by decide) (Nat.le_of_ble_eq_true rfl) rfl (Nat.le_of_ble_eq_true rfl) ?_
      refine r_iload_n dX2_setsUnder_41 2 rfl ?_
      refine r_join 50 [(2, .int ((SX2_setsUnder_7 p1 μ).1 + (VX2_setsUnder_1 p1 μ))), (0, .ref (ga G 3)), (1, .int p1), (3, .int (SX2_setsUnder_7 p1 μ).2), (4, .int (nI (NX2_setsUnder_7 p1 μ)))] [.int (VX2_setsUnder_2 p1 μ), .int (SX2_setsUnder_7 p1 μ).2] μ ?_ (fun hJ => ?_)
      · refine r_iadd dX2_setsUnder_50 ?_
        refine r_istore_n [(3, _), (2, _), (0, _), (1, _), (4, _)] dX2_setsUnder_51 (Nat.le_of_ble_eq_true rfl) rfl ?_
        refine r_iinc ((nI (NX2_setsUnder_7 p1 μ)) + 1) [(4, _), (3, _), (2, _), (0, _), (1, _)] dX2_setsUnder_52 4 rfl rfl (Nat.le_of_ble_eq_true rfl) rfl ?_
        refine r_goto 7 dX2_setsUnder_55 (by decide) ?_
        exact hP.elim
      · refine r_icmp_ne 49 dX2_setsUnder_42 (by decide) (fun c2 => ?_) (fun c2 => ?_)
        · refine r_iconst 0 dX2_setsUnder_49 rfl ?_
          have e : (VX2_setsUnder_2 p1 μ) = 0 := by unfold VX2_setsUnder_2; rw [if_pos c2]
          rw [e] at hJ
          exact r_sub [0, 1, 2, 3, 4] rfl hJ
        · refine r_iconst 1 dX2_setsUnder_45 rfl ?_
          refine r_goto 50 dX2_setsUnder_46 (by decide) ?_
          have e : (VX2_setsUnder_2 p1 μ) = 1 := by unfold VX2_setsUnder_2; rw [if_neg (not_not_intro c2)]
          rw [e] at hJ
          exact r_sub [0, 1, 2, 3, 4] rfl hJ
    · refine r_icmp_ge 31 dX2_setsUnder_24 (by decide) (fun c2 => ?_) (fun c2 => ?_)
      · refine r_iconst 0 dX2_setsUnder_31 rfl ?_
        have e : (VX2_setsUnder_1 p1 μ) = 0 := by unfold VX2_setsUnder_1; rw [if_pos c2]
        rw [e] at hJ
        exact r_sub [0, 1, 2, 3, 4] rfl hJ
      · refine r_iconst 1 dX2_setsUnder_27 rfl ?_
        refine r_goto 32 dX2_setsUnder_28 (by decide) ?_
        have e : (VX2_setsUnder_1 p1 μ) = 1 := by unfold VX2_setsUnder_1; rw [if_neg (i32_ng c2)]
        rw [e] at hJ
        exact r_sub [0, 1, 2, 3, 4] rfl hJ
def VX2_setsLeft_5_1 (μ : Mem) (i : Nat) (s : Int32) : Int32 := (if (F_X2_fits (nI i) μ) = 0 then 0 else (F_X2_setsUnder (nI i) μ))
def g_X2_setsLeft_5 (μ : Mem) (i : Nat) (s : Int32) : Int32 := (s + (VX2_setsLeft_5_1 μ i s))
def Pb_X2_setsLeft_5 (μ : Mem) (i : Nat) (s : Int32) : Prop := ((60 < (nI i) → False) ∧ ((nI i) ≤ 60 → (P_X2_fits (nI i) μ) ∧ (((F_X2_fits (nI i) μ) = 0 → True) ∧ (¬ (F_X2_fits (nI i) μ) = 0 → P_X2_setsUnder (nI i) μ))))
set_option maxRecDepth 20000 in
set_option maxHeartbeats 2000000 in
theorem lp_X2_setsLeft_5 {G : SG} (hG : GK 57 G)  (μ : Mem) (s0 : Int32) (N : Nat) (sN : Int32) (eN : sN = fo N (g_X2_setsLeft_5 μ) s0) (hN : ∀ i, i < N → Pb_X2_setsLeft_5 μ i (fo i (g_X2_setsLeft_5 μ) s0)) {t : Nat} {Q : PQ} {X : PX} (h : R G mX2_setsLeft 5 [(0, .ref (ga G 37)), (1, .ref (ga G 3)), (2, .ref (ga G 43)), (3, .int sN), (4, .int (nI N))] [] μ t Q X) : R G mX2_setsLeft 5 [(0, .ref (ga G 37)), (1, .ref (ga G 3)), (2, .ref (ga G 43)), (3, .int s0), (4, .int 0)] [] μ t Q X := by
  subst eN
  refine down_i N (fun i => R G mX2_setsLeft 5 [(0, .ref (ga G 37)), (1, .ref (ga G 3)), (2, .ref (ga G 43)), (3, .int (fo i (g_X2_setsLeft_5 μ) s0)), (4, .int (nI i))] [] μ t Q X) h (fun i hi hS => ?_)
  have hP := hN i hi
  rw [fo_succ] at hS
  rw [nI_succ] at hS
  generalize fo i (g_X2_setsLeft_5 μ) s0 = s at hS hP ⊢
  unfold Pb_X2_setsLeft_5 at hP
  refine r_iload dX2_setsLeft_5 4 rfl ?_
  refine r_bipush 60 dX2_setsLeft_7 rfl ?_
  refine r_icmp_gt 42 dX2_setsLeft_9 (by decide) (fun c1 => ?_) (fun c1 => ?_)
  · replace hP := hP.1 c1
    exact hP.elim
  · replace hP := hP.2 c1
    refine r_iload_n dX2_setsLeft_12 3 rfl ?_
    refine r_aload_n dX2_setsLeft_13 0 rfl ?_
    refine r_aload_n dX2_setsLeft_14 1 rfl ?_
    refine r_aload_n dX2_setsLeft_15 2 rfl ?_
    refine r_iload dX2_setsLeft_16 4 rfl ?_
    have hs1 := hP.1
    replace hP := hP.2
    refine r_cvI (ok_X2_fits hG (nI i) μ hs1) lX2_75 (hG.lt (by decide)) sh37 ⟨_, _, rfl⟩ dX2_setsLeft_18 (by decide) (Nat.le_of_ble_eq_true rfl) rfl (Nat.le_of_ble_eq_true rfl) ?_
    refine r_join 34 [(0, .ref (ga G 37)), (1, .ref (ga G 3)), (2, .ref (ga G 43)), (3, .int s), (4, .int (nI i))] [.int (VX2_setsLeft_5_1 μ i s), .int s] μ ?_ (fun hJ => ?_)
    · refine r_iadd dX2_setsLeft_34 ?_
      refine r_istore_n [(3, _), (0, _), (1, _), (2, _), (4, _)] dX2_setsLeft_35 (Nat.le_of_ble_eq_true rfl) rfl ?_
      refine r_iinc ((nI i) + 1) [(4, _), (3, _), (0, _), (1, _), (2, _)] dX2_setsLeft_36 4 rfl rfl (Nat.le_of_ble_eq_true rfl) rfl ?_
      refine r_goto 5 dX2_setsLeft_39 (by decide) ?_
      have e : g_X2_setsLeft_5 μ i s = (s + (VX2_setsLeft_5_1 μ i s)) := by unfold g_X2_setsLeft_5; rfl
      rw [e] at hS
      exact r_sub [2, 3, 4, 1, 0] rfl hS
    · refine r_if_eq 33 dX2_setsLeft_21 (by decide) (fun c2 => ?_) (fun c2 => ?_)
      · replace hP := hP.1 c2
        refine r_iconst 0 dX2_setsLeft_33 rfl ?_
        have e : (VX2_setsLeft_5_1 μ i s) = 0 := by unfold VX2_setsLeft_5_1; rw [if_pos c2]
        rw [e] at hJ
        exact r_sub [0, 1, 2, 3, 4] rfl hJ
      · replace hP := hP.2 c2
        refine r_aload_n dX2_setsLeft_24 1 rfl ?_
        refine r_iload dX2_setsLeft_25 4 rfl ?_
        have hs2 := hP
        refine r_csI (ok_X2_setsUnder hG (nI i) μ hs2) lX2_79 dX2_setsLeft_27 (by decide) (Nat.le_of_ble_eq_true rfl) rfl (Nat.le_of_ble_eq_true rfl) ?_
        refine r_goto 34 dX2_setsLeft_30 (by decide) ?_
        have e : (VX2_setsLeft_5_1 μ i s) = (F_X2_setsUnder (nI i) μ) := by unfold VX2_setsLeft_5_1; rw [if_neg c2]
        rw [e] at hJ
        exact r_sub [0, 1, 2, 3, 4] rfl hJ
def NX2_setsLeft_5 (μ : Mem) : Nat := 61
def SX2_setsLeft_5 (μ : Mem) : Int32 := fo (NX2_setsLeft_5 μ) (g_X2_setsLeft_5 μ) 0
def VX2_setsLeft_1 (μ : Mem) : Int32 := (if (F_X2_fits (nI (NX2_setsLeft_5 μ)) μ) = 0 then 0 else (F_X2_setsUnder (nI (NX2_setsLeft_5 μ)) μ))
def F_X2_setsLeft  (μ : Mem) : Int32 := (SX2_setsLeft_5 μ)
def P_X2_setsLeft  (μ : Mem) : Prop := ((∀ j9, j9 < (NX2_setsLeft_5 μ) → Pb_X2_setsLeft_5 μ j9 (fo j9 (g_X2_setsLeft_5 μ) 0)) ∧ ((60 < (nI (NX2_setsLeft_5 μ)) → True) ∧ ((nI (NX2_setsLeft_5 μ)) ≤ 60 → ((P_X2_fits (nI (NX2_setsLeft_5 μ)) μ) ∧ ((((F_X2_fits (nI (NX2_setsLeft_5 μ)) μ) = 0 → True) ∧ (¬ (F_X2_fits (nI (NX2_setsLeft_5 μ)) μ) = 0 → (P_X2_setsUnder (nI (NX2_setsLeft_5 μ)) μ))) ∧ False)))))
set_option maxRecDepth 20000 in
set_option maxHeartbeats 2000000 in
theorem ok_X2_setsLeft {G : SG} (hG : GK 57 G)  (μ : Mem) (hP : P_X2_setsLeft  μ) : OkF G mX2_setsLeft [.ref (ga G 37), .ref (ga G 3), .ref (ga G 43)] μ (some (.int (F_X2_setsLeft  μ))) μ := by
  refine okF_of hG rfl rfl (Nat.le_of_ble_eq_true rfl) ?_
  unfold P_X2_setsLeft at hP
  refine r_iconst 0 dX2_setsLeft_0 rfl ?_
  refine r_istore_n [(3, _), (0, _), (1, _), (2, _)] dX2_setsLeft_1 (Nat.le_of_ble_eq_true rfl) rfl ?_
  refine r_iconst 0 dX2_setsLeft_2 rfl ?_
  refine r_istore [(4, _), (3, _), (0, _), (1, _), (2, _)] dX2_setsLeft_3 (Nat.le_of_ble_eq_true rfl) rfl ?_
  have hs1 := hP.1
  replace hP := hP.2
  refine r_sub [2, 3, 4, 1, 0] rfl ?_
  refine lp_X2_setsLeft_5 hG μ 0 ((NX2_setsLeft_5 μ)) (SX2_setsLeft_5 μ) rfl hs1 ?_
  refine r_iload dX2_setsLeft_5 4 rfl ?_
  refine r_bipush 60 dX2_setsLeft_7 rfl ?_
  refine r_icmp_gt 42 dX2_setsLeft_9 (by decide) (fun c1 => ?_) (fun c1 => ?_)
  · replace hP := hP.1 c1
    refine r_iload_n dX2_setsLeft_42 3 rfl ?_
    exact r_ireturn _ dX2_setsLeft_43 rfl rfl ⟨congrArg (fun z => some (Value.int z)) (rfl), rfl⟩
  · replace hP := hP.2 c1
    refine r_iload_n dX2_setsLeft_12 3 rfl ?_
    refine r_aload_n dX2_setsLeft_13 0 rfl ?_
    refine r_aload_n dX2_setsLeft_14 1 rfl ?_
    refine r_aload_n dX2_setsLeft_15 2 rfl ?_
    refine r_iload dX2_setsLeft_16 4 rfl ?_
    have hs4 := hP.1
    replace hP := hP.2
    refine r_cvI (ok_X2_fits hG (nI (NX2_setsLeft_5 μ)) μ hs4) lX2_75 (hG.lt (by decide)) sh37 ⟨_, _, rfl⟩ dX2_setsLeft_18 (by decide) (Nat.le_of_ble_eq_true rfl) rfl (Nat.le_of_ble_eq_true rfl) ?_
    refine r_join 34 [(0, .ref (ga G 37)), (1, .ref (ga G 3)), (2, .ref (ga G 43)), (3, .int (SX2_setsLeft_5 μ)), (4, .int (nI (NX2_setsLeft_5 μ)))] [.int (VX2_setsLeft_1 μ), .int (SX2_setsLeft_5 μ)] μ ?_ (fun hJ => ?_)
    · replace hP := hP.2
      refine r_iadd dX2_setsLeft_34 ?_
      refine r_istore_n [(3, _), (0, _), (1, _), (2, _), (4, _)] dX2_setsLeft_35 (Nat.le_of_ble_eq_true rfl) rfl ?_
      refine r_iinc ((nI (NX2_setsLeft_5 μ)) + 1) [(4, _), (3, _), (0, _), (1, _), (2, _)] dX2_setsLeft_36 4 rfl rfl (Nat.le_of_ble_eq_true rfl) rfl ?_
      refine r_goto 5 dX2_setsLeft_39 (by decide) ?_
      exact hP.elim
    · replace hP := hP.1
      refine r_if_eq 33 dX2_setsLeft_21 (by decide) (fun c2 => ?_) (fun c2 => ?_)
      · replace hP := hP.1 c2
        refine r_iconst 0 dX2_setsLeft_33 rfl ?_
        have e : (VX2_setsLeft_1 μ) = 0 := by unfold VX2_setsLeft_1; rw [if_pos c2]
        rw [e] at hJ
        exact r_sub [0, 1, 2, 3, 4] rfl hJ
      · replace hP := hP.2 c2
        refine r_aload_n dX2_setsLeft_24 1 rfl ?_
        refine r_iload dX2_setsLeft_25 4 rfl ?_
        have hs5 := hP
        refine r_csI (ok_X2_setsUnder hG (nI (NX2_setsLeft_5 μ)) μ hs5) lX2_79 dX2_setsLeft_27 (by decide) (Nat.le_of_ble_eq_true rfl) rfl (Nat.le_of_ble_eq_true rfl) ?_
        refine r_goto 34 dX2_setsLeft_30 (by decide) ?_
        have e : (VX2_setsLeft_1 μ) = (F_X2_setsUnder (nI (NX2_setsLeft_5 μ)) μ) := by unfold VX2_setsLeft_1; rw [if_neg c2]
        rw [e] at hJ
        exact r_sub [0, 1, 2, 3, 4] rfl hJ
def muX2_worstLeft_3_1 (v3 : Int32) (i : Nat) (s : Mem) : Mem := (M_X9_put 39 61 (nI i) 0 s)
def g_X2_worstLeft_3 (v3 : Int32) (i : Nat) (s : Mem) : Mem := (muX2_worstLeft_3_1 v3 i s)
def Pb_X2_worstLeft_3 (v3 : Int32) (i : Nat) (s : Mem) : Prop := ((60 < (nI i) → False) ∧ ((nI i) ≤ 60 → True))
set_option maxRecDepth 20000 in
set_option maxHeartbeats 2000000 in
theorem lp_X2_worstLeft_3 {G : SG} (hG : GK 57 G)  (v3 : Int32) (s0 : Mem) (N : Nat) (sN : Mem) (eN : sN = fo N (g_X2_worstLeft_3 v3) s0) (hN : ∀ i, i < N → Pb_X2_worstLeft_3 v3 i (fo i (g_X2_worstLeft_3 v3) s0)) {t : Nat} {Q : PQ} {X : PX} (h : R G mX2_worstLeft 3 [(0, .ref (ga G 37)), (1, .ref (ga G 3)), (2, .ref (ga G 43)), (3, .int v3), (4, .int (nI N))] [] sN t Q X) : R G mX2_worstLeft 3 [(0, .ref (ga G 37)), (1, .ref (ga G 3)), (2, .ref (ga G 43)), (3, .int v3), (4, .int 0)] [] s0 t Q X := by
  subst eN
  refine down_i N (fun i => R G mX2_worstLeft 3 [(0, .ref (ga G 37)), (1, .ref (ga G 3)), (2, .ref (ga G 43)), (3, .int v3), (4, .int (nI i))] [] (fo i (g_X2_worstLeft_3 v3) s0) t Q X) h (fun i hi hS => ?_)
  have hP := hN i hi
  rw [fo_succ] at hS
  rw [nI_succ] at hS
  generalize fo i (g_X2_worstLeft_3 v3) s0 = s at hS hP ⊢
  unfold Pb_X2_worstLeft_3 at hP
  refine r_iload dX2_worstLeft_3 4 rfl ?_
  refine r_bipush 60 dX2_worstLeft_5 rfl ?_
  refine r_icmp_gt 26 dX2_worstLeft_7 (by decide) (fun c1 => ?_) (fun c1 => ?_)
  · replace hP := hP.1 c1
    exact hP.elim
  · replace hP := hP.2 c1
    refine r_aload_n dX2_worstLeft_10 0 rfl ?_
    refine r_getR 39 fX2_15 (hG.lt (by decide)) sh37 fs37_1 dX2_worstLeft_11 ?_
    refine r_iload dX2_worstLeft_14 4 rfl ?_
    refine r_iconst 0 dX2_worstLeft_16 rfl ?_
    refine r_csV (ok_X9_put hG (hG.lt (by decide)) sh39 (nI i) 0 s) lX2_22 dX2_worstLeft_17 (by decide) (Nat.le_of_ble_eq_true rfl) rfl (Nat.le_of_ble_eq_true rfl) ?_
    refine r_mu (muX2_worstLeft_3_1 v3 i s) rfl ?_
    refine r_iinc ((nI i) + 1) [(4, _), (0, _), (1, _), (2, _), (3, _)] dX2_worstLeft_20 4 rfl rfl (Nat.le_of_ble_eq_true rfl) rfl ?_
    refine r_goto 3 dX2_worstLeft_23 (by decide) ?_
    have e : g_X2_worstLeft_3 v3 i s = (muX2_worstLeft_3_1 v3 i s) := by unfold g_X2_worstLeft_3; rfl
    rw [e] at hS
    exact r_sub [1, 2, 3, 4, 0] rfl hS
def NX2_worstLeft_3 (p3 : Int32) (μ : Mem) : Nat := 61
def SX2_worstLeft_3 (p3 : Int32) (μ : Mem) : Mem := fo (NX2_worstLeft_3 p3 μ) (g_X2_worstLeft_3 p3) μ
def muX2_worstLeft_32_1 (v3 : Int32) (i : Nat) (s : Int32 × Mem) : Mem := (M_X9_put 39 61 (F_X5_waterIn 43 v3 (nI i) s.2) ((F_X9_at 39 61 (F_X5_waterIn 43 v3 (nI i) s.2) s.2) + (F_X2_setsUnder (nI i) s.2)) s.2)
def VX2_worstLeft_32_2 (v3 : Int32) (i : Nat) (s : Int32 × Mem) : Int32 := (if (F_X2_fits (nI i) s.2) = 0 then s.1 else (imax s.1 ((F_X9_at 39 61 (F_X5_waterIn 43 v3 (nI i) s.2) s.2) + (F_X2_setsUnder (nI i) s.2))))
def VX2_worstLeft_32_3 (v3 : Int32) (i : Nat) (s : Int32 × Mem) : Mem := (if (F_X2_fits (nI i) s.2) = 0 then s.2 else (muX2_worstLeft_32_1 v3 i s))
def g_X2_worstLeft_32 (v3 : Int32) (i : Nat) (s : Int32 × Mem) : Int32 × Mem := ((VX2_worstLeft_32_2 v3 i s), (VX2_worstLeft_32_3 v3 i s))
def Pb_X2_worstLeft_32 (v3 : Int32) (i : Nat) (s : Int32 × Mem) : Prop := ((60 < (nI i) → False) ∧ ((nI i) ≤ 60 → (P_X2_fits (nI i) s.2) ∧ (((F_X2_fits (nI i) s.2) = 0 → True) ∧ (¬ (F_X2_fits (nI i) s.2) = 0 → P_X2_setsUnder (nI i) s.2))))
set_option maxRecDepth 20000 in
set_option maxHeartbeats 2000000 in
theorem lp_X2_worstLeft_32 {G : SG} (hG : GK 57 G)  (v3 : Int32) (s0 : Int32 × Mem) (N : Nat) (sN : Int32 × Mem) (eN : sN = fo N (g_X2_worstLeft_32 v3) s0) (hN : ∀ i, i < N → Pb_X2_worstLeft_32 v3 i (fo i (g_X2_worstLeft_32 v3) s0)) {t : Nat} {Q : PQ} {X : PX} (h : R G mX2_worstLeft 32 [(0, .ref (ga G 37)), (1, .ref (ga G 3)), (2, .ref (ga G 43)), (3, .int v3), (4, .int (sN).1), (5, .int (nI N))] [] (sN).2 t Q X) : R G mX2_worstLeft 32 [(0, .ref (ga G 37)), (1, .ref (ga G 3)), (2, .ref (ga G 43)), (3, .int v3), (4, .int (s0).1), (5, .int 0)] [] (s0).2 t Q X := by
  subst eN
  refine down_i N (fun i => R G mX2_worstLeft 32 [(0, .ref (ga G 37)), (1, .ref (ga G 3)), (2, .ref (ga G 43)), (3, .int v3), (4, .int ((fo i (g_X2_worstLeft_32 v3) s0)).1), (5, .int (nI i))] [] ((fo i (g_X2_worstLeft_32 v3) s0)).2 t Q X) h (fun i hi hS => ?_)
  have hP := hN i hi
  rw [fo_succ] at hS
  rw [nI_succ] at hS
  generalize fo i (g_X2_worstLeft_32 v3) s0 = s at hS hP ⊢
  unfold Pb_X2_worstLeft_32 at hP
  refine r_iload dX2_worstLeft_32 5 rfl ?_
  refine r_bipush 60 dX2_worstLeft_34 rfl ?_
  refine r_icmp_gt 103 dX2_worstLeft_36 (by decide) (fun c1 => ?_) (fun c1 => ?_)
  · replace hP := hP.1 c1
    exact hP.elim
  · replace hP := hP.2 c1
    refine r_aload_n dX2_worstLeft_39 0 rfl ?_
    refine r_aload_n dX2_worstLeft_40 1 rfl ?_
    refine r_aload_n dX2_worstLeft_41 2 rfl ?_
    refine r_iload dX2_worstLeft_42 5 rfl ?_
    have hs1 := hP.1
    replace hP := hP.2
    refine r_cvI (ok_X2_fits hG (nI i) s.2 hs1) lX2_75 (hG.lt (by decide)) sh37 ⟨_, _, rfl⟩ dX2_worstLeft_44 (by decide) (Nat.le_of_ble_eq_true rfl) rfl (Nat.le_of_ble_eq_true rfl) ?_
    refine r_join 97 [(0, .ref (ga G 37)), (1, .ref (ga G 3)), (2, .ref (ga G 43)), (3, .int v3), (4, .int (VX2_worstLeft_32_2 v3 i s)), (5, .int (nI i))] [] (VX2_worstLeft_32_3 v3 i s) ?_ (fun hJ => ?_)
    · refine r_iinc ((nI i) + 1) [(5, _), (0, _), (1, _), (2, _), (3, _), (4, _)] dX2_worstLeft_97 5 rfl rfl (Nat.le_of_ble_eq_true rfl) rfl ?_
      refine r_goto 32 dX2_worstLeft_100 (by decide) ?_
      have e : g_X2_worstLeft_32 v3 i s = ((VX2_worstLeft_32_2 v3 i s), (VX2_worstLeft_32_3 v3 i s)) := by unfold g_X2_worstLeft_32; rfl
      rw [e] at hS
      dsimp only at hS
      exact r_sub [1, 2, 3, 4, 5, 0] rfl hS
    · refine r_if_eq 97 dX2_worstLeft_47 (by decide) (fun c2 => ?_) (fun c2 => ?_)
      · replace hP := hP.1 c2
        have e : (VX2_worstLeft_32_2 v3 i s) = s.1 := by unfold VX2_worstLeft_32_2; rw [if_pos c2]
        rw [e] at hJ
        clear e
        have e : (VX2_worstLeft_32_3 v3 i s) = s.2 := by unfold VX2_worstLeft_32_3; rw [if_pos c2]
        rw [e] at hJ
        exact r_sub [0, 1, 2, 3, 4, 5] rfl hJ
      · replace hP := hP.2 c2
        refine r_aload_n dX2_worstLeft_50 2 rfl ?_
        refine r_iload_n dX2_worstLeft_51 3 rfl ?_
        refine r_iload dX2_worstLeft_52 5 rfl ?_
        refine r_cvI (ok_X5_waterIn hG (IsSt.of43) v3 (nI i) s.2) lX2_63 (hG.lt (by decide)) sh43 ⟨_, _, rfl⟩ dX2_worstLeft_54 (by decide) (Nat.le_of_ble_eq_true rfl) rfl (Nat.le_of_ble_eq_true rfl) ?_
        refine r_istore [(6, _), (0, _), (1, _), (2, _), (3, _), (4, _), (5, _)] dX2_worstLeft_57 (Nat.le_of_ble_eq_true rfl) rfl ?_
        refine r_aload_n dX2_worstLeft_59 1 rfl ?_
        refine r_getR 39 fX2_15 (hG.lt (by decide)) sh37 fs37_1 dX2_worstLeft_60 ?_
        refine r_iload dX2_worstLeft_63 0 rfl ?_
        refine r_csI (ok_X9_at hG (hG.lt (by decide)) sh39 (F_X5_waterIn 43 v3 (nI i) s.2) s.2) lX2_47 dX2_worstLeft_65 (by decide) (Nat.le_of_ble_eq_true rfl) rfl (Nat.le_of_ble_eq_true rfl) ?_
        refine r_aload_n dX2_worstLeft_68 2 rfl ?_
        refine r_iload dX2_worstLeft_69 6 rfl ?_
        have hs2 := hP
        refine r_csI (ok_X2_setsUnder hG (nI i) s.2 hs2) lX2_79 dX2_worstLeft_71 (by decide) (Nat.le_of_ble_eq_true rfl) rfl (Nat.le_of_ble_eq_true rfl) ?_
        refine r_iadd dX2_worstLeft_74 ?_
        refine r_istore [(7, _), (6, _), (0, _), (1, _), (2, _), (3, _), (4, _), (5, _)] dX2_worstLeft_75 (Nat.le_of_ble_eq_true rfl) rfl ?_
        refine r_aload_n dX2_worstLeft_77 2 rfl ?_
        refine r_getR 39 fX2_15 (hG.lt (by decide)) sh37 fs37_1 dX2_worstLeft_78 ?_
        refine r_iload dX2_worstLeft_81 1 rfl ?_
        refine r_iload dX2_worstLeft_83 0 rfl ?_
        refine r_csV (ok_X9_put hG (hG.lt (by decide)) sh39 (F_X5_waterIn 43 v3 (nI i) s.2) ((F_X9_at 39 61 (F_X5_waterIn 43 v3 (nI i) s.2) s.2) + (F_X2_setsUnder (nI i) s.2)) s.2) lX2_22 dX2_worstLeft_85 (by decide) (Nat.le_of_ble_eq_true rfl) rfl (Nat.le_of_ble_eq_true rfl) ?_
        refine r_mu (muX2_worstLeft_32_1 v3 i s) rfl ?_
        refine r_iload dX2_worstLeft_88 6 rfl ?_
        refine r_iload dX2_worstLeft_90 0 rfl ?_
        refine r_mmax lX2_83 (Nat.le_of_ble_eq_true rfl) dX2_worstLeft_92 ?_
        refine r_istore [(4, _), (7, _), (6, _), (0, _), (1, _), (2, _), (3, _), (5, _)] dX2_worstLeft_95 (Nat.le_of_ble_eq_true rfl) rfl ?_
        have e : (VX2_worstLeft_32_2 v3 i s) = (imax s.1 ((F_X9_at 39 61 (F_X5_waterIn 43 v3 (nI i) s.2) s.2) + (F_X2_setsUnder (nI i) s.2))) := by unfold VX2_worstLeft_32_2; rw [if_neg c2]
        rw [e] at hJ
        clear e
        have e : (VX2_worstLeft_32_3 v3 i s) = (muX2_worstLeft_32_1 v3 i s) := by unfold VX2_worstLeft_32_3; rw [if_neg c2]
        rw [e] at hJ
        exact r_sub [3, 4, 5, 6, 0, 7] rfl hJ
def NX2_worstLeft_32 (p3 : Int32) (μ : Mem) : Nat := 61
def SX2_worstLeft_32 (p3 : Int32) (μ : Mem) : Int32 × Mem := fo (NX2_worstLeft_32 p3 μ) (g_X2_worstLeft_32 p3) (0, (SX2_worstLeft_3 p3 μ))
def muX2_worstLeft_1 (p3 : Int32) (μ : Mem) : Mem := (M_X9_put 39 61 (F_X5_waterIn 43 p3 (nI (NX2_worstLeft_32 p3 μ)) (SX2_worstLeft_32 p3 μ).2) ((F_X9_at 39 61 (F_X5_waterIn 43 p3 (nI (NX2_worstLeft_32 p3 μ)) (SX2_worstLeft_32 p3 μ).2) (SX2_worstLeft_32 p3 μ).2) + (F_X2_setsUnder (nI (NX2_worstLeft_32 p3 μ)) (SX2_worstLeft_32 p3 μ).2)) (SX2_worstLeft_32 p3 μ).2)
def VX2_worstLeft_2 (p3 : Int32) (μ : Mem) : Int32 := (if (F_X2_fits (nI (NX2_worstLeft_32 p3 μ)) (SX2_worstLeft_32 p3 μ).2) = 0 then (SX2_worstLeft_32 p3 μ).1 else (imax (SX2_worstLeft_32 p3 μ).1 ((F_X9_at 39 61 (F_X5_waterIn 43 p3 (nI (NX2_worstLeft_32 p3 μ)) (SX2_worstLeft_32 p3 μ).2) (SX2_worstLeft_32 p3 μ).2) + (F_X2_setsUnder (nI (NX2_worstLeft_32 p3 μ)) (SX2_worstLeft_32 p3 μ).2))))
def VX2_worstLeft_3 (p3 : Int32) (μ : Mem) : Mem := (if (F_X2_fits (nI (NX2_worstLeft_32 p3 μ)) (SX2_worstLeft_32 p3 μ).2) = 0 then (SX2_worstLeft_32 p3 μ).2 else (muX2_worstLeft_1 p3 μ))
def muX2_worstLeft_4 (p3 : Int32) (μ : Mem) : Mem := (M_X9_put 39 61 (nI (NX2_worstLeft_3 p3 μ)) 0 (SX2_worstLeft_3 p3 μ))
def F_X2_worstLeft (p3 : Int32) (μ : Mem) : Int32 := (SX2_worstLeft_32 p3 μ).1
def M_X2_worstLeft (p3 : Int32) (μ : Mem) : Mem := (SX2_worstLeft_32 p3 μ).2
def P_X2_worstLeft (p3 : Int32) (μ : Mem) : Prop := ((∀ j9, j9 < (NX2_worstLeft_3 p3 μ) → Pb_X2_worstLeft_3 p3 j9 (fo j9 (g_X2_worstLeft_3 p3) μ)) ∧ ((60 < (nI (NX2_worstLeft_3 p3 μ)) → ((∀ j9, j9 < (NX2_worstLeft_32 p3 μ) → Pb_X2_worstLeft_32 p3 j9 (fo j9 (g_X2_worstLeft_32 p3) (0, (SX2_worstLeft_3 p3 μ)))) ∧ ((60 < (nI (NX2_worstLeft_32 p3 μ)) → True) ∧ ((nI (NX2_worstLeft_32 p3 μ)) ≤ 60 → ((P_X2_fits (nI (NX2_worstLeft_32 p3 μ)) (SX2_worstLeft_32 p3 μ).2) ∧ ((((F_X2_fits (nI (NX2_worstLeft_32 p3 μ)) (SX2_worstLeft_32 p3 μ).2) = 0 → True) ∧ (¬ (F_X2_fits (nI (NX2_worstLeft_32 p3 μ)) (SX2_worstLeft_32 p3 μ).2) = 0 → (P_X2_setsUnder (nI (NX2_worstLeft_32 p3 μ)) (SX2_worstLeft_32 p3 μ).2))) ∧ False)))))) ∧ ((nI (NX2_worstLeft_3 p3 μ)) ≤ 60 → False)))
set_option maxRecDepth 20000 in
set_option maxHeartbeats 2000000 in
theorem ok_X2_worstLeft {G : SG} (hG : GK 57 G) (p3 : Int32) (μ : Mem) (hP : P_X2_worstLeft p3 μ) : OkF G mX2_worstLeft [.ref (ga G 37), .ref (ga G 3), .ref (ga G 43), .int p3] μ (some (.int (F_X2_worstLeft p3 μ))) (M_X2_worstLeft p3 μ) := by
  refine okF_of hG rfl rfl (Nat.le_of_ble_eq_true rfl) ?_
  unfold P_X2_worstLeft at hP
  refine r_iconst 0 dX2_worstLeft_0 rfl ?_
  refine r_istore [(4, _), (0, _), (1, _), (2, _), (3, _)] dX2_worstLeft_1 (Nat.le_of_ble_eq_true rfl) rfl ?_
  have hs1 := hP.1
  replace hP := hP.2
  refine r_sub [1, 2, 3, 4, 0] rfl ?_
  refine lp_X2_worstLeft_3 hG p3 μ ((NX2_worstLeft_3 p3 μ)) (SX2_worstLeft_3 p3 μ) rfl hs1 ?_
  refine r_iload dX2_worstLeft_3 4 rfl ?_
  refine r_bipush 60 dX2_worstLeft_5 rfl ?_
  refine r_icmp_gt 26 dX2_worstLeft_7 (by decide) (fun c1 => ?_) (fun c1 => ?_)
  · replace hP := hP.1 c1
    refine r_iconst 0 dX2_worstLeft_26 rfl ?_
    refine r_istore [(4, _), (0, _), (1, _), (2, _), (3, _)] dX2_worstLeft_27 (Nat.le_of_ble_eq_true rfl) rfl ?_
    refine r_iconst 0 dX2_worstLeft_29 rfl ?_
    refine r_istore [(5, _), (4, _), (0, _), (1, _), (2, _), (3, _)] dX2_worstLeft_30 (Nat.le_of_ble_eq_true rfl) rfl ?_
    have hs2 := hP.1
    replace hP := hP.2
    refine r_sub [2, 3, 4, 5, 1, 0] rfl ?_
    refine lp_X2_worstLeft_32 hG p3 (0, (SX2_worstLeft_3 p3 μ)) ((NX2_worstLeft_32 p3 μ)) (SX2_worstLeft_32 p3 μ) rfl hs2 ?_
    refine r_iload dX2_worstLeft_32 5 rfl ?_
    refine r_bipush 60 dX2_worstLeft_34 rfl ?_
    refine r_icmp_gt 103 dX2_worstLeft_36 (by decide) (fun c2 => ?_) (fun c2 => ?_)
    · replace hP := hP.1 c2
      refine r_iload dX2_worstLeft_103 4 rfl ?_
      exact r_ireturn _ dX2_worstLeft_105 rfl rfl ⟨congrArg (fun z => some (Value.int z)) (rfl), rfl⟩
    · replace hP := hP.2 c2
      refine r_aload_n dX2_worstLeft_39 0 rfl ?_
      refine r_aload_n dX2_worstLeft_40 1 rfl ?_
      refine r_aload_n dX2_worstLeft_41 2 rfl ?_
      refine r_iload dX2_worstLeft_42 5 rfl ?_
      have hs5 := hP.1
      replace hP := hP.2
      refine r_cvI (ok_X2_fits hG (nI (NX2_worstLeft_32 p3 μ)) (SX2_worstLeft_32 p3 μ).2 hs5) lX2_75 (hG.lt (by decide)) sh37 ⟨_, _, rfl⟩ dX2_worstLeft_44 (by decide) (Nat.le_of_ble_eq_true rfl) rfl (Nat.le_of_ble_eq_true rfl) ?_
      refine r_join 97 [(0, .ref (ga G 37)), (1, .ref (ga G 3)), (2, .ref (ga G 43)), (3, .int p3), (4, .int (VX2_worstLeft_2 p3 μ)), (5, .int (nI (NX2_worstLeft_32 p3 μ)))] [] (VX2_worstLeft_3 p3 μ) ?_ (fun hJ => ?_)
      · replace hP := hP.2
        refine r_iinc ((nI (NX2_worstLeft_32 p3 μ)) + 1) [(5, _), (0, _), (1, _), (2, _), (3, _), (4, _)] dX2_worstLeft_97 5 rfl rfl (Nat.le_of_ble_eq_true rfl) rfl ?_
        refine r_goto 32 dX2_worstLeft_100 (by decide) ?_
        exact hP.elim
      · replace hP := hP.1
        refine r_if_eq 97 dX2_worstLeft_47 (by decide) (fun c3 => ?_) (fun c3 => ?_)
        · replace hP := hP.1 c3
          have e : (VX2_worstLeft_2 p3 μ) = (SX2_worstLeft_32 p3 μ).1 := by unfold VX2_worstLeft_2; rw [if_pos c3]
          rw [e] at hJ
          clear e
          have e : (VX2_worstLeft_3 p3 μ) = (SX2_worstLeft_32 p3 μ).2 := by unfold VX2_worstLeft_3; rw [if_pos c3]
          rw [e] at hJ
          exact r_sub [0, 1, 2, 3, 4, 5] rfl hJ
        · replace hP := hP.2 c3
          refine r_aload_n dX2_worstLeft_50 2 rfl ?_
          refine r_iload_n dX2_worstLeft_51 3 rfl ?_
          refine r_iload dX2_worstLeft_52 5 rfl ?_
          refine r_cvI (ok_X5_waterIn hG (IsSt.of43) p3 (nI (NX2_worstLeft_32 p3 μ)) (SX2_worstLeft_32 p3 μ).2) lX2_63 (hG.lt (by decide)) sh43 ⟨_, _, rfl⟩ dX2_worstLeft_54 (by decide) (Nat.le_of_ble_eq_true rfl) rfl (Nat.le_of_ble_eq_true rfl) ?_
          refine r_istore [(6, _), (0, _), (1, _), (2, _), (3, _), (4, _), (5, _)] dX2_worstLeft_57 (Nat.le_of_ble_eq_true rfl) rfl ?_
          refine r_aload_n dX2_worstLeft_59 1 rfl ?_
          refine r_getR 39 fX2_15 (hG.lt (by decide)) sh37 fs37_1 dX2_worstLeft_60 ?_
          refine r_iload dX2_worstLeft_63 0 rfl ?_
          refine r_csI (ok_X9_at hG (hG.lt (by decide)) sh39 (F_X5_waterIn 43 p3 (nI (NX2_worstLeft_32 p3 μ)) (SX2_worstLeft_32 p3 μ).2) (SX2_worstLeft_32 p3 μ).2) lX2_47 dX2_worstLeft_65 (by decide) (Nat.le_of_ble_eq_true rfl) rfl (Nat.le_of_ble_eq_true rfl) ?_
          refine r_aload_n dX2_worstLeft_68 2 rfl ?_
          refine r_iload dX2_worstLeft_69 6 rfl ?_
          have hs6 := hP
          refine r_csI (ok_X2_setsUnder hG (nI (NX2_worstLeft_32 p3 μ)) (SX2_worstLeft_32 p3 μ).2 hs6) lX2_79 dX2_worstLeft_71 (by decide) (Nat.le_of_ble_eq_true rfl) rfl (Nat.le_of_ble_eq_true rfl) ?_
          refine r_iadd dX2_worstLeft_74 ?_
          refine r_istore [(7, _), (6, _), (0, _), (1, _), (2, _), (3, _), (4, _), (5, _)] dX2_worstLeft_75 (Nat.le_of_ble_eq_true rfl) rfl ?_
          refine r_aload_n dX2_worstLeft_77 2 rfl ?_
          refine r_getR 39 fX2_15 (hG.lt (by decide)) sh37 fs37_1 dX2_worstLeft_78 ?_
          refine r_iload dX2_worstLeft_81 1 rfl ?_
          refine r_iload dX2_worstLeft_83 0 rfl ?_
          refine r_csV (ok_X9_put hG (hG.lt (by decide)) sh39 (F_X5_waterIn 43 p3 (nI (NX2_worstLeft_32 p3 μ)) (SX2_worstLeft_32 p3 μ).2) ((F_X9_at 39 61 (F_X5_waterIn 43 p3 (nI (NX2_worstLeft_32 p3 μ)) (SX2_worstLeft_32 p3 μ).2) (SX2_worstLeft_32 p3 μ).2) + (F_X2_setsUnder (nI (NX2_worstLeft_32 p3 μ)) (SX2_worstLeft_32 p3 μ).2)) (SX2_worstLeft_32 p3 μ).2) lX2_22 dX2_worstLeft_85 (by decide) (Nat.le_of_ble_eq_true rfl) rfl (Nat.le_of_ble_eq_true rfl) ?_
          refine r_mu (muX2_worstLeft_1 p3 μ) rfl ?_
          refine r_iload dX2_worstLeft_88 6 rfl ?_
          refine r_iload dX2_worstLeft_90 0 rfl ?_
          refine r_mmax lX2_83 (Nat.le_of_ble_eq_true rfl) dX2_worstLeft_92 ?_
          refine r_istore [(4, _), (7, _), (6, _), (0, _), (1, _), (2, _), (3, _), (5, _)] dX2_worstLeft_95 (Nat.le_of_ble_eq_true rfl) rfl ?_
          have e : (VX2_worstLeft_2 p3 μ) = (imax (SX2_worstLeft_32 p3 μ).1 ((F_X9_at 39 61 (F_X5_waterIn 43 p3 (nI (NX2_worstLeft_32 p3 μ)) (SX2_worstLeft_32 p3 μ).2) (SX2_worstLeft_32 p3 μ).2) + (F_X2_setsUnder (nI (NX2_worstLeft_32 p3 μ)) (SX2_worstLeft_32 p3 μ).2))) := by unfold VX2_worstLeft_2; rw [if_neg c3]
          rw [e] at hJ
          clear e
          have e : (VX2_worstLeft_3 p3 μ) = (muX2_worstLeft_1 p3 μ) := by unfold VX2_worstLeft_3; rw [if_neg c3]
          rw [e] at hJ
          exact r_sub [3, 4, 5, 6, 0, 7] rfl hJ
  · replace hP := hP.2 c1
    refine r_aload_n dX2_worstLeft_10 0 rfl ?_
    refine r_getR 39 fX2_15 (hG.lt (by decide)) sh37 fs37_1 dX2_worstLeft_11 ?_
    refine r_iload dX2_worstLeft_14 4 rfl ?_
    refine r_iconst 0 dX2_worstLeft_16 rfl ?_
    refine r_csV (ok_X9_put hG (hG.lt (by decide)) sh39 (nI (NX2_worstLeft_3 p3 μ)) 0 (SX2_worstLeft_3 p3 μ)) lX2_22 dX2_worstLeft_17 (by decide) (Nat.le_of_ble_eq_true rfl) rfl (Nat.le_of_ble_eq_true rfl) ?_
    refine r_mu (muX2_worstLeft_4 p3 μ) rfl ?_
    refine r_iinc ((nI (NX2_worstLeft_3 p3 μ)) + 1) [(4, _), (0, _), (1, _), (2, _), (3, _)] dX2_worstLeft_20 4 rfl rfl (Nat.le_of_ble_eq_true rfl) rfl ?_
    refine r_goto 3 dX2_worstLeft_23 (by decide) ?_
    exact hP.elim
def muX2_nextBoard_8_1 (i : Nat) (s : Int32 × Int32 × Mem) : Mem := (M_X2_worstLeft (nI i) s.2.2)
def VX2_nextBoard_8_2 (i : Nat) (s : Int32 × Int32 × Mem) : Int32 := (if (F_X9_at 38 6 (nI i) s.2.2) = (-1) then (if s.1 = (-1) then (F_X2_worstLeft (nI i) s.2.2) else (if s.2.1 ≤ (F_X2_worstLeft (nI i) s.2.2) then s.2.1 else (F_X2_worstLeft (nI i) s.2.2))) else s.2.1)
def VX2_nextBoard_8_3 (i : Nat) (s : Int32 × Int32 × Mem) : Int32 := (if (F_X9_at 38 6 (nI i) s.2.2) = (-1) then (if s.1 = (-1) then (nI i) else (if s.2.1 ≤ (F_X2_worstLeft (nI i) s.2.2) then s.1 else (nI i))) else s.1)
def VX2_nextBoard_8_4 (i : Nat) (s : Int32 × Int32 × Mem) : Mem := (if (F_X9_at 38 6 (nI i) s.2.2) = (-1) then (muX2_nextBoard_8_1 i s) else s.2.2)
def g_X2_nextBoard_8  (i : Nat) (s : Int32 × Int32 × Mem) : Int32 × Int32 × Mem := ((VX2_nextBoard_8_3 i s), (VX2_nextBoard_8_2 i s), (VX2_nextBoard_8_4 i s))
def Pb_X2_nextBoard_8  (i : Nat) (s : Int32 × Int32 × Mem) : Prop := (((s.2.2 3 8) ≤ (nI i) → False) ∧ ((nI i) < (s.2.2 3 8) → (((F_X9_at 38 6 (nI i) s.2.2) = (-1) → P_X2_worstLeft (nI i) s.2.2) ∧ (¬ (F_X9_at 38 6 (nI i) s.2.2) = (-1) → True))))
set_option maxRecDepth 20000 in
set_option maxHeartbeats 2000000 in
theorem lp_X2_nextBoard_8 {G : SG} (hG : GK 57 G)   (s0 : Int32 × Int32 × Mem) (N : Nat) (sN : Int32 × Int32 × Mem) (eN : sN = fo N g_X2_nextBoard_8 s0) (hN : ∀ i, i < N → Pb_X2_nextBoard_8  i (fo i g_X2_nextBoard_8 s0)) {t : Nat} {Q : PQ} {X : PX} (h : R G mX2_nextBoard 8 [(0, .ref (ga G 37)), (1, .ref (ga G 3)), (2, .ref (ga G 43)), (3, .int (sN).1), (4, .int (sN).2.1), (5, .int (nI N))] [] (sN).2.2 t Q X) : R G mX2_nextBoard 8 [(0, .ref (ga G 37)), (1, .ref (ga G 3)), (2, .ref (ga G 43)), (3, .int (s0).1), (4, .int (s0).2.1), (5, .int 0)] [] (s0).2.2 t Q X := by
  subst eN
  refine down_i N (fun i => R G mX2_nextBoard 8 [(0, .ref (ga G 37)), (1, .ref (ga G 3)), (2, .ref (ga G 43)), (3, .int ((fo i g_X2_nextBoard_8 s0)).1), (4, .int ((fo i g_X2_nextBoard_8 s0)).2.1), (5, .int (nI i))] [] ((fo i g_X2_nextBoard_8 s0)).2.2 t Q X) h (fun i hi hS => ?_)
  have hP := hN i hi
  rw [fo_succ] at hS
  rw [nI_succ] at hS
  generalize fo i g_X2_nextBoard_8 s0 = s at hS hP ⊢
  unfold Pb_X2_nextBoard_8 at hP
  refine r_iload dX2_nextBoard_8 5 rfl ?_
  refine r_aload_n dX2_nextBoard_10 1 rfl ?_
  refine r_getI fX2_58 (hG.lt (by decide)) sh3 fs3_8 dX2_nextBoard_11 ?_
  refine r_icmp_ge 68 dX2_nextBoard_14 (by decide) (fun c1 => ?_) (fun c1 => ?_)
  · replace hP := hP.1 c1
    exact hP.elim
  · replace hP := hP.2 c1
    refine r_aload_n dX2_nextBoard_17 0 rfl ?_
    refine r_getR 38 fX2_9 (hG.lt (by decide)) sh37 fs37_0 dX2_nextBoard_18 ?_
    refine r_iload dX2_nextBoard_21 5 rfl ?_
    refine r_csI (ok_X9_at hG (hG.lt (by decide)) sh38 (nI i) s.2.2) lX2_47 dX2_nextBoard_23 (by decide) (Nat.le_of_ble_eq_true rfl) rfl (Nat.le_of_ble_eq_true rfl) ?_
    refine r_iconst (-1) dX2_nextBoard_26 rfl ?_
    refine r_join 62 [(4, .int (VX2_nextBoard_8_2 i s)), (3, .int (VX2_nextBoard_8_3 i s)), (0, .ref (ga G 37)), (1, .ref (ga G 3)), (2, .ref (ga G 43)), (5, .int (nI i))] [] (VX2_nextBoard_8_4 i s) ?_ (fun hJ => ?_)
    · refine r_iinc ((nI i) + 1) [(5, _), (4, _), (3, _), (0, _), (1, _), (2, _)] dX2_nextBoard_62 5 rfl rfl (Nat.le_of_ble_eq_true rfl) rfl ?_
      refine r_goto 8 dX2_nextBoard_65 (by decide) ?_
      have e : g_X2_nextBoard_8  i s = ((VX2_nextBoard_8_3 i s), (VX2_nextBoard_8_2 i s), (VX2_nextBoard_8_4 i s)) := by unfold g_X2_nextBoard_8; rfl
      rw [e] at hS
      dsimp only at hS
      exact r_sub [3, 4, 5, 2, 1, 0] rfl hS
    · refine r_icmp_eq 33 dX2_nextBoard_27 (by decide) (fun c2 => ?_) (fun c2 => ?_)
      · replace hP := hP.1 c2
        refine r_aload_n dX2_nextBoard_33 0 rfl ?_
        refine r_aload_n dX2_nextBoard_34 1 rfl ?_
        refine r_aload_n dX2_nextBoard_35 2 rfl ?_
        refine r_iload dX2_nextBoard_36 5 rfl ?_
        have hs1 := hP
        refine r_cvI (ok_X2_worstLeft hG (nI i) s.2.2 hs1) lX2_88 (hG.lt (by decide)) sh37 ⟨_, _, rfl⟩ dX2_nextBoard_38 (by decide) (Nat.le_of_ble_eq_true rfl) rfl (Nat.le_of_ble_eq_true rfl) ?_
        refine r_mu (muX2_nextBoard_8_1 i s) rfl ?_
        refine r_istore [(6, _), (0, _), (1, _), (2, _), (3, _), (4, _), (5, _)] dX2_nextBoard_41 (Nat.le_of_ble_eq_true rfl) rfl ?_
        refine r_iload_n dX2_nextBoard_43 4 rfl ?_
        refine r_iconst (-1) dX2_nextBoard_44 rfl ?_
        refine r_icmp_eq 55 dX2_nextBoard_45 (by decide) (fun c3 => ?_) (fun c3 => ?_)
        · refine r_iload dX2_nextBoard_55 6 rfl ?_
          refine r_istore_n [(3, _), (6, _), (0, _), (1, _), (2, _), (4, _), (5, _)] dX2_nextBoard_57 (Nat.le_of_ble_eq_true rfl) rfl ?_
          refine r_iload dX2_nextBoard_58 1 rfl ?_
          refine r_istore [(4, _), (3, _), (6, _), (0, _), (1, _), (2, _), (5, _)] dX2_nextBoard_60 (Nat.le_of_ble_eq_true rfl) rfl ?_
          have e : (VX2_nextBoard_8_2 i s) = (F_X2_worstLeft (nI i) s.2.2) := by unfold VX2_nextBoard_8_2; rw [if_pos c2, if_pos c3]
          rw [e] at hJ
          clear e
          have e : (VX2_nextBoard_8_3 i s) = (nI i) := by unfold VX2_nextBoard_8_3; rw [if_pos c2, if_pos c3]
          rw [e] at hJ
          clear e
          have e : (VX2_nextBoard_8_4 i s) = (muX2_nextBoard_8_1 i s) := by unfold VX2_nextBoard_8_4; rw [if_pos c2]
          rw [e] at hJ
          exact r_sub [0, 1, 3, 4, 5, 6] rfl hJ
        · refine r_iload dX2_nextBoard_48 0 rfl ?_
          refine r_iload dX2_nextBoard_50 5 rfl ?_
          refine r_icmp_ge 62 dX2_nextBoard_52 (by decide) (fun c4 => ?_) (fun c4 => ?_)
          · have e : (VX2_nextBoard_8_2 i s) = s.2.1 := by unfold VX2_nextBoard_8_2; rw [if_pos c2, if_neg c3, if_pos c4]
            rw [e] at hJ
            clear e
            have e : (VX2_nextBoard_8_3 i s) = s.1 := by unfold VX2_nextBoard_8_3; rw [if_pos c2, if_neg c3, if_pos c4]
            rw [e] at hJ
            clear e
            have e : (VX2_nextBoard_8_4 i s) = (muX2_nextBoard_8_1 i s) := by unfold VX2_nextBoard_8_4; rw [if_pos c2]
            rw [e] at hJ
            exact r_sub [5, 4, 1, 2, 3, 6] rfl hJ
          · refine r_iload dX2_nextBoard_55 6 rfl ?_
            refine r_istore_n [(3, _), (6, _), (0, _), (1, _), (2, _), (4, _), (5, _)] dX2_nextBoard_57 (Nat.le_of_ble_eq_true rfl) rfl ?_
            refine r_iload dX2_nextBoard_58 1 rfl ?_
            refine r_istore [(4, _), (3, _), (6, _), (0, _), (1, _), (2, _), (5, _)] dX2_nextBoard_60 (Nat.le_of_ble_eq_true rfl) rfl ?_
            have e : (VX2_nextBoard_8_2 i s) = (F_X2_worstLeft (nI i) s.2.2) := by unfold VX2_nextBoard_8_2; rw [if_pos c2, if_neg c3, if_neg (i32_ng c4)]
            rw [e] at hJ
            clear e
            have e : (VX2_nextBoard_8_3 i s) = (nI i) := by unfold VX2_nextBoard_8_3; rw [if_pos c2, if_neg c3, if_neg (i32_ng c4)]
            rw [e] at hJ
            clear e
            have e : (VX2_nextBoard_8_4 i s) = (muX2_nextBoard_8_1 i s) := by unfold VX2_nextBoard_8_4; rw [if_pos c2]
            rw [e] at hJ
            exact r_sub [0, 1, 3, 4, 5, 6] rfl hJ
      · replace hP := hP.2 c2
        refine r_goto 62 dX2_nextBoard_30 (by decide) ?_
        have e : (VX2_nextBoard_8_2 i s) = s.2.1 := by unfold VX2_nextBoard_8_2; rw [if_neg c2]
        rw [e] at hJ
        clear e
        have e : (VX2_nextBoard_8_3 i s) = s.1 := by unfold VX2_nextBoard_8_3; rw [if_neg c2]
        rw [e] at hJ
        clear e
        have e : (VX2_nextBoard_8_4 i s) = s.2.2 := by unfold VX2_nextBoard_8_4; rw [if_neg c2]
        rw [e] at hJ
        exact r_sub [4, 3, 0, 1, 2, 5] rfl hJ
def NX2_nextBoard_8 (μ : Mem) : Nat := ix (μ 3 8)
def SX2_nextBoard_8 (μ : Mem) : Int32 × Int32 × Mem := fo (NX2_nextBoard_8 μ) g_X2_nextBoard_8 ((-1), 0, μ)
def muX2_nextBoard_1 (μ : Mem) : Mem := (M_X2_worstLeft (nI (NX2_nextBoard_8 μ)) (SX2_nextBoard_8 μ).2.2)
def VX2_nextBoard_2 (μ : Mem) : Int32 := (if (F_X9_at 38 6 (nI (NX2_nextBoard_8 μ)) (SX2_nextBoard_8 μ).2.2) = (-1) then (if (SX2_nextBoard_8 μ).1 = (-1) then (F_X2_worstLeft (nI (NX2_nextBoard_8 μ)) (SX2_nextBoard_8 μ).2.2) else (if (SX2_nextBoard_8 μ).2.1 ≤ (F_X2_worstLeft (nI (NX2_nextBoard_8 μ)) (SX2_nextBoard_8 μ).2.2) then (SX2_nextBoard_8 μ).2.1 else (F_X2_worstLeft (nI (NX2_nextBoard_8 μ)) (SX2_nextBoard_8 μ).2.2))) else (SX2_nextBoard_8 μ).2.1)
def VX2_nextBoard_3 (μ : Mem) : Int32 := (if (F_X9_at 38 6 (nI (NX2_nextBoard_8 μ)) (SX2_nextBoard_8 μ).2.2) = (-1) then (if (SX2_nextBoard_8 μ).1 = (-1) then (nI (NX2_nextBoard_8 μ)) else (if (SX2_nextBoard_8 μ).2.1 ≤ (F_X2_worstLeft (nI (NX2_nextBoard_8 μ)) (SX2_nextBoard_8 μ).2.2) then (SX2_nextBoard_8 μ).1 else (nI (NX2_nextBoard_8 μ)))) else (SX2_nextBoard_8 μ).1)
def VX2_nextBoard_4 (μ : Mem) : Mem := (if (F_X9_at 38 6 (nI (NX2_nextBoard_8 μ)) (SX2_nextBoard_8 μ).2.2) = (-1) then (muX2_nextBoard_1 μ) else (SX2_nextBoard_8 μ).2.2)
def F_X2_nextBoard  (μ : Mem) : Int32 := (SX2_nextBoard_8 μ).1
def M_X2_nextBoard  (μ : Mem) : Mem := (SX2_nextBoard_8 μ).2.2
def P_X2_nextBoard  (μ : Mem) : Prop := ((∀ j9, j9 < (NX2_nextBoard_8 μ) → Pb_X2_nextBoard_8  j9 (fo j9 g_X2_nextBoard_8 ((-1), 0, μ))) ∧ ((((SX2_nextBoard_8 μ).2.2 3 8) ≤ (nI (NX2_nextBoard_8 μ)) → True) ∧ ((nI (NX2_nextBoard_8 μ)) < ((SX2_nextBoard_8 μ).2.2 3 8) → ((((F_X9_at 38 6 (nI (NX2_nextBoard_8 μ)) (SX2_nextBoard_8 μ).2.2) = (-1) → (P_X2_worstLeft (nI (NX2_nextBoard_8 μ)) (SX2_nextBoard_8 μ).2.2)) ∧ (¬ (F_X9_at 38 6 (nI (NX2_nextBoard_8 μ)) (SX2_nextBoard_8 μ).2.2) = (-1) → True)) ∧ False))))
set_option maxRecDepth 20000 in
set_option maxHeartbeats 2000000 in
theorem ok_X2_nextBoard {G : SG} (hG : GK 57 G)  (μ : Mem) (hP : P_X2_nextBoard  μ) : OkF G mX2_nextBoard [.ref (ga G 37), .ref (ga G 3), .ref (ga G 43)] μ (some (.int (F_X2_nextBoard  μ))) (M_X2_nextBoard  μ) := by
  refine okF_of hG rfl rfl (Nat.le_of_ble_eq_true rfl) ?_
  unfold P_X2_nextBoard at hP
  refine r_iconst (-1) dX2_nextBoard_0 rfl ?_
  refine r_istore_n [(3, _), (0, _), (1, _), (2, _)] dX2_nextBoard_1 (Nat.le_of_ble_eq_true rfl) rfl ?_
  refine r_iconst 0 dX2_nextBoard_2 rfl ?_
  refine r_istore [(4, _), (3, _), (0, _), (1, _), (2, _)] dX2_nextBoard_3 (Nat.le_of_ble_eq_true rfl) rfl ?_
  refine r_iconst 0 dX2_nextBoard_5 rfl ?_
  refine r_istore [(5, _), (4, _), (3, _), (0, _), (1, _), (2, _)] dX2_nextBoard_6 (Nat.le_of_ble_eq_true rfl) rfl ?_
  have hs1 := hP.1
  replace hP := hP.2
  refine r_sub [3, 4, 5, 2, 1, 0] rfl ?_
  refine lp_X2_nextBoard_8 hG ((-1), 0, μ) ((NX2_nextBoard_8 μ)) (SX2_nextBoard_8 μ) rfl hs1 ?_
  refine r_iload dX2_nextBoard_8 5 rfl ?_
  refine r_aload_n dX2_nextBoard_10 1 rfl ?_
  refine r_getI fX2_58 (hG.lt (by decide)) sh3 fs3_8 dX2_nextBoard_11 ?_
  refine r_icmp_ge 68 dX2_nextBoard_14 (by decide) (fun c1 => ?_) (fun c1 => ?_)
  · replace hP := hP.1 c1
    refine r_iload_n dX2_nextBoard_68 3 rfl ?_
    exact r_ireturn _ dX2_nextBoard_69 rfl rfl ⟨congrArg (fun z => some (Value.int z)) (rfl), rfl⟩
  · replace hP := hP.2 c1
    refine r_aload_n dX2_nextBoard_17 0 rfl ?_
    refine r_getR 38 fX2_9 (hG.lt (by decide)) sh37 fs37_0 dX2_nextBoard_18 ?_
    refine r_iload dX2_nextBoard_21 5 rfl ?_
    refine r_csI (ok_X9_at hG (hG.lt (by decide)) sh38 (nI (NX2_nextBoard_8 μ)) (SX2_nextBoard_8 μ).2.2) lX2_47 dX2_nextBoard_23 (by decide) (Nat.le_of_ble_eq_true rfl) rfl (Nat.le_of_ble_eq_true rfl) ?_
    refine r_iconst (-1) dX2_nextBoard_26 rfl ?_
    refine r_join 62 [(4, .int (VX2_nextBoard_2 μ)), (3, .int (VX2_nextBoard_3 μ)), (0, .ref (ga G 37)), (1, .ref (ga G 3)), (2, .ref (ga G 43)), (5, .int (nI (NX2_nextBoard_8 μ)))] [] (VX2_nextBoard_4 μ) ?_ (fun hJ => ?_)
    · replace hP := hP.2
      refine r_iinc ((nI (NX2_nextBoard_8 μ)) + 1) [(5, _), (4, _), (3, _), (0, _), (1, _), (2, _)] dX2_nextBoard_62 5 rfl rfl (Nat.le_of_ble_eq_true rfl) rfl ?_
      refine r_goto 8 dX2_nextBoard_65 (by decide) ?_
      exact hP.elim
    · replace hP := hP.1
      refine r_icmp_eq 33 dX2_nextBoard_27 (by decide) (fun c2 => ?_) (fun c2 => ?_)
      · replace hP := hP.1 c2
        refine r_aload_n dX2_nextBoard_33 0 rfl ?_
        refine r_aload_n dX2_nextBoard_34 1 rfl ?_
        refine r_aload_n dX2_nextBoard_35 2 rfl ?_
        refine r_iload dX2_nextBoard_36 5 rfl ?_
        have hs3 := hP
        refine r_cvI (ok_X2_worstLeft hG (nI (NX2_nextBoard_8 μ)) (SX2_nextBoard_8 μ).2.2 hs3) lX2_88 (hG.lt (by decide)) sh37 ⟨_, _, rfl⟩ dX2_nextBoard_38 (by decide) (Nat.le_of_ble_eq_true rfl) rfl (Nat.le_of_ble_eq_true rfl) ?_
        refine r_mu (muX2_nextBoard_1 μ) rfl ?_
        refine r_istore [(6, _), (0, _), (1, _), (2, _), (3, _), (4, _), (5, _)] dX2_nextBoard_41 (Nat.le_of_ble_eq_true rfl) rfl ?_
        refine r_iload_n dX2_nextBoard_43 4 rfl ?_
        refine r_iconst (-1) dX2_nextBoard_44 rfl ?_
        refine r_icmp_eq 55 dX2_nextBoard_45 (by decide) (fun c3 => ?_) (fun c3 => ?_)
        · refine r_iload dX2_nextBoard_55 6 rfl ?_
          refine r_istore_n [(3, _), (6, _), (0, _), (1, _), (2, _), (4, _), (5, _)] dX2_nextBoard_57 (Nat.le_of_ble_eq_true rfl) rfl ?_
          refine r_iload dX2_nextBoard_58 1 rfl ?_
          refine r_istore [(4, _), (3, _), (6, _), (0, _), (1, _), (2, _), (5, _)] dX2_nextBoard_60 (Nat.le_of_ble_eq_true rfl) rfl ?_
          have e : (VX2_nextBoard_2 μ) = (F_X2_worstLeft (nI (NX2_nextBoard_8 μ)) (SX2_nextBoard_8 μ).2.2) := by unfold VX2_nextBoard_2; rw [if_pos c2, if_pos c3]
          rw [e] at hJ
          clear e
          have e : (VX2_nextBoard_3 μ) = (nI (NX2_nextBoard_8 μ)) := by unfold VX2_nextBoard_3; rw [if_pos c2, if_pos c3]
          rw [e] at hJ
          clear e
          have e : (VX2_nextBoard_4 μ) = (muX2_nextBoard_1 μ) := by unfold VX2_nextBoard_4; rw [if_pos c2]
          rw [e] at hJ
          exact r_sub [0, 1, 3, 4, 5, 6] rfl hJ
        · refine r_iload dX2_nextBoard_48 0 rfl ?_
          refine r_iload dX2_nextBoard_50 5 rfl ?_
          refine r_icmp_ge 62 dX2_nextBoard_52 (by decide) (fun c4 => ?_) (fun c4 => ?_)
          · have e : (VX2_nextBoard_2 μ) = (SX2_nextBoard_8 μ).2.1 := by unfold VX2_nextBoard_2; rw [if_pos c2, if_neg c3, if_pos c4]
            rw [e] at hJ
            clear e
            have e : (VX2_nextBoard_3 μ) = (SX2_nextBoard_8 μ).1 := by unfold VX2_nextBoard_3; rw [if_pos c2, if_neg c3, if_pos c4]
            rw [e] at hJ
            clear e
            have e : (VX2_nextBoard_4 μ) = (muX2_nextBoard_1 μ) := by unfold VX2_nextBoard_4; rw [if_pos c2]
            rw [e] at hJ
            exact r_sub [5, 4, 1, 2, 3, 6] rfl hJ
          · refine r_iload dX2_nextBoard_55 6 rfl ?_
            refine r_istore_n [(3, _), (6, _), (0, _), (1, _), (2, _), (4, _), (5, _)] dX2_nextBoard_57 (Nat.le_of_ble_eq_true rfl) rfl ?_
            refine r_iload dX2_nextBoard_58 1 rfl ?_
            refine r_istore [(4, _), (3, _), (6, _), (0, _), (1, _), (2, _), (5, _)] dX2_nextBoard_60 (Nat.le_of_ble_eq_true rfl) rfl ?_
            have e : (VX2_nextBoard_2 μ) = (F_X2_worstLeft (nI (NX2_nextBoard_8 μ)) (SX2_nextBoard_8 μ).2.2) := by unfold VX2_nextBoard_2; rw [if_pos c2, if_neg c3, if_neg (i32_ng c4)]
            rw [e] at hJ
            clear e
            have e : (VX2_nextBoard_3 μ) = (nI (NX2_nextBoard_8 μ)) := by unfold VX2_nextBoard_3; rw [if_pos c2, if_neg c3, if_neg (i32_ng c4)]
            rw [e] at hJ
            clear e
            have e : (VX2_nextBoard_4 μ) = (muX2_nextBoard_1 μ) := by unfold VX2_nextBoard_4; rw [if_pos c2]
            rw [e] at hJ
            exact r_sub [0, 1, 3, 4, 5, 6] rfl hJ
      · replace hP := hP.2 c2
        refine r_goto 62 dX2_nextBoard_30 (by decide) ?_
        have e : (VX2_nextBoard_2 μ) = (SX2_nextBoard_8 μ).2.1 := by unfold VX2_nextBoard_2; rw [if_neg c2]
        rw [e] at hJ
        clear e
        have e : (VX2_nextBoard_3 μ) = (SX2_nextBoard_8 μ).1 := by unfold VX2_nextBoard_3; rw [if_neg c2]
        rw [e] at hJ
        clear e
        have e : (VX2_nextBoard_4 μ) = (SX2_nextBoard_8 μ).2.2 := by unfold VX2_nextBoard_4; rw [if_neg c2]
        rw [e] at hJ
        exact r_sub [4, 3, 0, 1, 2, 5] rfl hJ
def F_X3_seaHas (p0 : Int32) (p1 : Int32) (p2 : Int32) (p3 : Int32) (μ : Mem) : Int32 := (if p0 < (p2 + p3) then p1 else (16 * p2))
set_option maxRecDepth 20000 in
set_option maxHeartbeats 2000000 in
theorem ok_X3_seaHas {G : SG} (hG : GK 57 G) (p0 : Int32) (p1 : Int32) (p2 : Int32) (p3 : Int32) (μ : Mem) : OkF G mX3_seaHas [.int p0, .int p1, .int p2, .int p3] μ (some (.int (F_X3_seaHas p0 p1 p2 p3 μ))) μ := by
  refine okF_of hG rfl rfl (Nat.le_of_ble_eq_true rfl) ?_
  refine r_iload_n dX3_seaHas_0 2 rfl ?_
  refine r_iload_n dX3_seaHas_1 3 rfl ?_
  refine r_iadd dX3_seaHas_2 ?_
  refine r_iload_n dX3_seaHas_3 0 rfl ?_
  refine r_icmp_gt 14 dX3_seaHas_4 (by decide) (fun c1 => ?_) (fun c1 => ?_)
  · refine r_iload_n dX3_seaHas_14 1 rfl ?_
    exact r_ireturn _ dX3_seaHas_15 rfl rfl ⟨congrArg (fun z => some (Value.int z)) (by unfold F_X3_seaHas; rw [if_pos c1]), rfl⟩
  · refine r_bipush 16 dX3_seaHas_7 rfl ?_
    refine r_iload_n dX3_seaHas_9 2 rfl ?_
    refine r_imul dX3_seaHas_10 ?_
    refine r_goto 15 dX3_seaHas_11 (by decide) ?_
    exact r_ireturn _ dX3_seaHas_15 rfl rfl ⟨congrArg (fun z => some (Value.int z)) (by unfold F_X3_seaHas; rw [if_neg (i32_nl c1)]), rfl⟩
def F_X3_houseHas (p0 : Int32) (p1 : Int32) (p2 : Int32) (p3 : Int32) (μ : Mem) : Int32 := (if p0 < (p2 + p3) then (16 - p1) else (16 * p3))
set_option maxRecDepth 20000 in
set_option maxHeartbeats 2000000 in
theorem ok_X3_houseHas {G : SG} (hG : GK 57 G) (p0 : Int32) (p1 : Int32) (p2 : Int32) (p3 : Int32) (μ : Mem) : OkF G mX3_houseHas [.int p0, .int p1, .int p2, .int p3] μ (some (.int (F_X3_houseHas p0 p1 p2 p3 μ))) μ := by
  refine okF_of hG rfl rfl (Nat.le_of_ble_eq_true rfl) ?_
  refine r_iload_n dX3_houseHas_0 2 rfl ?_
  refine r_iload_n dX3_houseHas_1 3 rfl ?_
  refine r_iadd dX3_houseHas_2 ?_
  refine r_iload_n dX3_houseHas_3 0 rfl ?_
  refine r_icmp_gt 14 dX3_houseHas_4 (by decide) (fun c1 => ?_) (fun c1 => ?_)
  · refine r_bipush 16 dX3_houseHas_14 rfl ?_
    refine r_iload_n dX3_houseHas_16 1 rfl ?_
    refine r_isub dX3_houseHas_17 ?_
    exact r_ireturn _ dX3_houseHas_18 rfl rfl ⟨congrArg (fun z => some (Value.int z)) (by unfold F_X3_houseHas; rw [if_pos c1]), rfl⟩
  · refine r_bipush 16 dX3_houseHas_7 rfl ?_
    refine r_iload_n dX3_houseHas_9 3 rfl ?_
    refine r_imul dX3_houseHas_10 ?_
    refine r_goto 18 dX3_houseHas_11 (by decide) ?_
    exact r_ireturn _ dX3_houseHas_18 rfl rfl ⟨congrArg (fun z => some (Value.int z)) (by unfold F_X3_houseHas; rw [if_neg (i32_nl c1)]), rfl⟩
def g_X3_isRest_3 (v0 : Int32) (v1 : Int32) (v2 : Int32) (v3 : Int32) (μ : Mem) (i : Nat) (s : Unit) : Unit := ()
def Pb_X3_isRest_3 (v0 : Int32) (v1 : Int32) (v2 : Int32) (v3 : Int32) (μ : Mem) (i : Nat) (s : Unit) : Prop := ((v0 < (nI i) → False) ∧ ((nI i) ≤ v0 → (((F_X3_seaHas v0 v1 v2 v3 μ) < (F_X3_seaHas v0 v1 (nI i) v3 μ) → False) ∧ ((F_X3_seaHas v0 v1 (nI i) v3 μ) ≤ (F_X3_seaHas v0 v1 v2 v3 μ) → (((F_X3_houseHas v0 v1 v2 (nI i) μ) ≤ (F_X3_houseHas v0 v1 v2 v3 μ) → True) ∧ ((F_X3_houseHas v0 v1 v2 v3 μ) < (F_X3_houseHas v0 v1 v2 (nI i) μ) → False))))))
def Cb_X3_isRest_3 (v0 : Int32) (v1 : Int32) (v2 : Int32) (v3 : Int32) (μ : Mem) (i : Nat) (s : Unit) : Bool := (if v0 < (nI i) then false else (if (F_X3_seaHas v0 v1 v2 v3 μ) < (F_X3_seaHas v0 v1 (nI i) v3 μ) then false else (if (F_X3_houseHas v0 v1 v2 (nI i) μ) ≤ (F_X3_houseHas v0 v1 v2 v3 μ) then true else false)))
set_option maxRecDepth 20000 in
set_option maxHeartbeats 2000000 in
theorem lp_X3_isRest_3 {G : SG} (hG : GK 57 G)  (v0 : Int32) (v1 : Int32) (v2 : Int32) (v3 : Int32) (μ : Mem) (s0 : Unit) (N : Nat) (sN : Unit) (eN : sN = fo N (g_X3_isRest_3 v0 v1 v2 v3 μ) s0) (hN : ∀ i, i < N → Pb_X3_isRest_3 v0 v1 v2 v3 μ i (fo i (g_X3_isRest_3 v0 v1 v2 v3 μ) s0)) {t : Nat} {Q : PQ} {X : PX} (h : R G mX3_isRest 3 [(0, .int v0), (1, .int v1), (2, .int v2), (3, .int v3), (4, .int (nI N))] [] μ t Q X) : R G mX3_isRest 3 [(0, .int v0), (1, .int v1), (2, .int v2), (3, .int v3), (4, .int 0)] [] μ t Q X := by
  subst eN
  refine down_i N (fun i => R G mX3_isRest 3 [(0, .int v0), (1, .int v1), (2, .int v2), (3, .int v3), (4, .int (nI i))] [] μ t Q X) h (fun i hi hS => ?_)
  have hP := hN i hi
  rw [nI_succ] at hS
  generalize fo i (g_X3_isRest_3 v0 v1 v2 v3 μ) s0 = s at hS hP ⊢
  unfold Pb_X3_isRest_3 at hP
  refine r_iload dX3_isRest_3 4 rfl ?_
  refine r_iload_n dX3_isRest_5 0 rfl ?_
  refine r_icmp_gt 53 dX3_isRest_6 (by decide) (fun c1 => ?_) (fun c1 => ?_)
  · replace hP := hP.1 c1
    exact hP.elim
  · replace hP := hP.2 c1
    refine r_iload_n dX3_isRest_9 0 rfl ?_
    refine r_iload_n dX3_isRest_10 1 rfl ?_
    refine r_iload dX3_isRest_11 4 rfl ?_
    refine r_iload_n dX3_isRest_13 3 rfl ?_
    refine r_csI (ok_X3_seaHas hG v0 v1 (nI i) v3 μ) lX3_9 dX3_isRest_14 (by decide) (Nat.le_of_ble_eq_true rfl) rfl (Nat.le_of_ble_eq_true rfl) ?_
    refine r_iload_n dX3_isRest_17 0 rfl ?_
    refine r_iload_n dX3_isRest_18 1 rfl ?_
    refine r_iload_n dX3_isRest_19 2 rfl ?_
    refine r_iload_n dX3_isRest_20 3 rfl ?_
    refine r_csI (ok_X3_seaHas hG v0 v1 v2 v3 μ) lX3_9 dX3_isRest_21 (by decide) (Nat.le_of_ble_eq_true rfl) rfl (Nat.le_of_ble_eq_true rfl) ?_
    refine r_icmp_gt 45 dX3_isRest_24 (by decide) (fun c2 => ?_) (fun c2 => ?_)
    · replace hP := hP.1 c2
      refine r_iconst 0 dX3_isRest_45 rfl ?_
      exact hP.elim
    · replace hP := hP.2 c2
      refine r_iload_n dX3_isRest_27 0 rfl ?_
      refine r_iload_n dX3_isRest_28 1 rfl ?_
      refine r_iload_n dX3_isRest_29 2 rfl ?_
      refine r_iload dX3_isRest_30 4 rfl ?_
      refine r_csI (ok_X3_houseHas hG v0 v1 v2 (nI i) μ) lX3_15 dX3_isRest_32 (by decide) (Nat.le_of_ble_eq_true rfl) rfl (Nat.le_of_ble_eq_true rfl) ?_
      refine r_iload_n dX3_isRest_35 0 rfl ?_
      refine r_iload_n dX3_isRest_36 1 rfl ?_
      refine r_iload_n dX3_isRest_37 2 rfl ?_
      refine r_iload_n dX3_isRest_38 3 rfl ?_
      refine r_csI (ok_X3_houseHas hG v0 v1 v2 v3 μ) lX3_15 dX3_isRest_39 (by decide) (Nat.le_of_ble_eq_true rfl) rfl (Nat.le_of_ble_eq_true rfl) ?_
      refine r_icmp_le 47 dX3_isRest_42 (by decide) (fun c3 => ?_) (fun c3 => ?_)
      · replace hP := hP.1 c3
        refine r_iinc ((nI i) + 1) [(4, _), (0, _), (1, _), (2, _), (3, _)] dX3_isRest_47 4 rfl rfl (Nat.le_of_ble_eq_true rfl) rfl ?_
        refine r_goto 3 dX3_isRest_50 (by decide) ?_
        exact r_sub [1, 2, 3, 4, 0] rfl hS
      · replace hP := hP.2 c3
        refine r_iconst 0 dX3_isRest_45 rfl ?_
        exact hP.elim
def NX3_isRest_3 (p0 : Int32) (p1 : Int32) (p2 : Int32) (p3 : Int32) (μ : Mem) : Nat := (fst 14 (fun j9 => !Cb_X3_isRest_3 p0 p1 p2 p3 μ j9 (fo j9 (g_X3_isRest_3 p0 p1 p2 p3 μ) ())))
def SX3_isRest_3 (p0 : Int32) (p1 : Int32) (p2 : Int32) (p3 : Int32) (μ : Mem) : Unit := fo (NX3_isRest_3 p0 p1 p2 p3 μ) (g_X3_isRest_3 p0 p1 p2 p3 μ) ()
def F_X3_isRest (p0 : Int32) (p1 : Int32) (p2 : Int32) (p3 : Int32) (μ : Mem) : Int32 := (if p0 < (nI (NX3_isRest_3 p0 p1 p2 p3 μ)) then 1 else 0)
def P_X3_isRest (p0 : Int32) (p1 : Int32) (p2 : Int32) (p3 : Int32) (μ : Mem) : Prop := ((∀ j9, j9 < (NX3_isRest_3 p0 p1 p2 p3 μ) → Pb_X3_isRest_3 p0 p1 p2 p3 μ j9 (fo j9 (g_X3_isRest_3 p0 p1 p2 p3 μ) ())) ∧ ((p0 < (nI (NX3_isRest_3 p0 p1 p2 p3 μ)) → True) ∧ ((nI (NX3_isRest_3 p0 p1 p2 p3 μ)) ≤ p0 → (((F_X3_seaHas p0 p1 p2 p3 μ) < (F_X3_seaHas p0 p1 (nI (NX3_isRest_3 p0 p1 p2 p3 μ)) p3 μ) → True) ∧ ((F_X3_seaHas p0 p1 (nI (NX3_isRest_3 p0 p1 p2 p3 μ)) p3 μ) ≤ (F_X3_seaHas p0 p1 p2 p3 μ) → (((F_X3_houseHas p0 p1 p2 (nI (NX3_isRest_3 p0 p1 p2 p3 μ)) μ) ≤ (F_X3_houseHas p0 p1 p2 p3 μ) → False) ∧ ((F_X3_houseHas p0 p1 p2 p3 μ) < (F_X3_houseHas p0 p1 p2 (nI (NX3_isRest_3 p0 p1 p2 p3 μ)) μ) → True)))))))
theorem bo_X3_isRest (p0 : Int32) (p1 : Int32) (p2 : Int32) (p3 : Int32) (μ : Mem) : F_X3_isRest p0 p1 p2 p3 μ = 0 ∨ F_X3_isRest p0 p1 p2 p3 μ = 1 := by
  unfold F_X3_isRest
  split
  · exact Or.inr rfl
  · exact Or.inl rfl
set_option maxRecDepth 20000 in
set_option maxHeartbeats 2000000 in
theorem ok_X3_isRest {G : SG} (hG : GK 57 G) (p0 : Int32) (p1 : Int32) (p2 : Int32) (p3 : Int32) (μ : Mem) (hP : P_X3_isRest p0 p1 p2 p3 μ) : OkF G mX3_isRest [.int p0, .int p1, .int p2, .int p3] μ (some (.int (F_X3_isRest p0 p1 p2 p3 μ))) μ := by
  refine okF_of hG rfl rfl (Nat.le_of_ble_eq_true rfl) ?_
  unfold P_X3_isRest at hP
  refine r_iconst 0 dX3_isRest_0 rfl ?_
  refine r_istore [(4, _), (0, _), (1, _), (2, _), (3, _)] dX3_isRest_1 (Nat.le_of_ble_eq_true rfl) rfl ?_
  have hs1 := hP.1
  replace hP := hP.2
  refine r_sub [1, 2, 3, 4, 0] rfl ?_
  refine lp_X3_isRest_3 hG p0 p1 p2 p3 μ () ((NX3_isRest_3 p0 p1 p2 p3 μ)) (SX3_isRest_3 p0 p1 p2 p3 μ) rfl hs1 ?_
  refine r_iload dX3_isRest_3 4 rfl ?_
  refine r_iload_n dX3_isRest_5 0 rfl ?_
  refine r_icmp_gt 53 dX3_isRest_6 (by decide) (fun c1 => ?_) (fun c1 => ?_)
  · replace hP := hP.1 c1
    refine r_iconst 1 dX3_isRest_53 rfl ?_
    exact r_ireturn _ dX3_isRest_54 rfl rfl ⟨congrArg (fun z => some (Value.int z)) (by unfold F_X3_isRest; rw [if_pos c1]), rfl⟩
  · replace hP := hP.2 c1
    refine r_iload_n dX3_isRest_9 0 rfl ?_
    refine r_iload_n dX3_isRest_10 1 rfl ?_
    refine r_iload dX3_isRest_11 4 rfl ?_
    refine r_iload_n dX3_isRest_13 3 rfl ?_
    refine r_csI (ok_X3_seaHas hG p0 p1 (nI (NX3_isRest_3 p0 p1 p2 p3 μ)) p3 μ) lX3_9 dX3_isRest_14 (by decide) (Nat.le_of_ble_eq_true rfl) rfl (Nat.le_of_ble_eq_true rfl) ?_
    refine r_iload_n dX3_isRest_17 0 rfl ?_
    refine r_iload_n dX3_isRest_18 1 rfl ?_
    refine r_iload_n dX3_isRest_19 2 rfl ?_
    refine r_iload_n dX3_isRest_20 3 rfl ?_
    refine r_csI (ok_X3_seaHas hG p0 p1 p2 p3 μ) lX3_9 dX3_isRest_21 (by decide) (Nat.le_of_ble_eq_true rfl) rfl (Nat.le_of_ble_eq_true rfl) ?_
    refine r_icmp_gt 45 dX3_isRest_24 (by decide) (fun c2 => ?_) (fun c2 => ?_)
    · replace hP := hP.1 c2
      refine r_iconst 0 dX3_isRest_45 rfl ?_
      exact r_ireturn _ dX3_isRest_46 rfl rfl ⟨congrArg (fun z => some (Value.int z)) (by unfold F_X3_isRest; rw [if_neg (i32_nl c1)]), rfl⟩
    · replace hP := hP.2 c2
      refine r_iload_n dX3_isRest_27 0 rfl ?_
      refine r_iload_n dX3_isRest_28 1 rfl ?_
      refine r_iload_n dX3_isRest_29 2 rfl ?_
      refine r_iload dX3_isRest_30 4 rfl ?_
      refine r_csI (ok_X3_houseHas hG p0 p1 p2 (nI (NX3_isRest_3 p0 p1 p2 p3 μ)) μ) lX3_15 dX3_isRest_32 (by decide) (Nat.le_of_ble_eq_true rfl) rfl (Nat.le_of_ble_eq_true rfl) ?_
      refine r_iload_n dX3_isRest_35 0 rfl ?_
      refine r_iload_n dX3_isRest_36 1 rfl ?_
      refine r_iload_n dX3_isRest_37 2 rfl ?_
      refine r_iload_n dX3_isRest_38 3 rfl ?_
      refine r_csI (ok_X3_houseHas hG p0 p1 p2 p3 μ) lX3_15 dX3_isRest_39 (by decide) (Nat.le_of_ble_eq_true rfl) rfl (Nat.le_of_ble_eq_true rfl) ?_
      refine r_icmp_le 47 dX3_isRest_42 (by decide) (fun c3 => ?_) (fun c3 => ?_)
      · replace hP := hP.1 c3
        refine r_iinc ((nI (NX3_isRest_3 p0 p1 p2 p3 μ)) + 1) [(4, _), (0, _), (1, _), (2, _), (3, _)] dX3_isRest_47 4 rfl rfl (Nat.le_of_ble_eq_true rfl) rfl ?_
        refine r_goto 3 dX3_isRest_50 (by decide) ?_
        exact hP.elim
      · replace hP := hP.2 c3
        refine r_iconst 0 dX3_isRest_45 rfl ?_
        exact r_ireturn _ dX3_isRest_46 rfl rfl ⟨congrArg (fun z => some (Value.int z)) (by unfold F_X3_isRest; rw [if_neg (i32_nl c1)]), rfl⟩
def VX3_rests_20_1 (v0 : Int32) (v1 : Int32) (v2 : Int32) (v6 : Int32) (μ : Mem) (i : Nat) (s : Int32 × Int32 × Int32) : Int32 := (if (F_X3_isRest v0 v1 v6 (nI i) μ) = 0 then s.1 else (s.1 + 1))
def VX3_rests_20_2 (v0 : Int32) (v1 : Int32) (v2 : Int32) (v6 : Int32) (μ : Mem) (i : Nat) (s : Int32 × Int32 × Int32) : Int32 := (if (F_X3_isRest v0 v1 v6 (nI i) μ) = 0 then s.2.1 else (if s.2.1 ≠ (-1) then s.2.1 else ((100 * v6) + (nI i))))
def VX3_rests_20_3 (v0 : Int32) (v1 : Int32) (v2 : Int32) (v6 : Int32) (μ : Mem) (i : Nat) (s : Int32 × Int32 × Int32) : Int32 := (if (F_X3_isRest v0 v1 v6 (nI i) μ) = 0 then s.2.2 else (if s.2.1 ≠ (-1) then s.2.2 else ((F_X3_seaHas v0 v1 v6 (nI i) μ) + (F_X3_houseHas v0 v1 v6 (nI i) μ))))
def g_X3_rests_20 (v0 : Int32) (v1 : Int32) (v2 : Int32) (v6 : Int32) (μ : Mem) (i : Nat) (s : Int32 × Int32 × Int32) : Int32 × Int32 × Int32 := ((VX3_rests_20_1 v0 v1 v2 v6 μ i s), (VX3_rests_20_2 v0 v1 v2 v6 μ i s), (VX3_rests_20_3 v0 v1 v2 v6 μ i s))
def Pb_X3_rests_20 (v0 : Int32) (v1 : Int32) (v2 : Int32) (v6 : Int32) (μ : Mem) (i : Nat) (s : Int32 × Int32 × Int32) : Prop := ((v0 < (nI i) → False) ∧ ((nI i) ≤ v0 → P_X3_isRest v0 v1 v6 (nI i) μ))
set_option maxRecDepth 20000 in
set_option maxHeartbeats 2000000 in
theorem lp_X3_rests_20 {G : SG} (hG : GK 57 G)  (v0 : Int32) (v1 : Int32) (v2 : Int32) (v6 : Int32) (μ : Mem) (s0 : Int32 × Int32 × Int32) (N : Nat) (sN : Int32 × Int32 × Int32) (eN : sN = fo N (g_X3_rests_20 v0 v1 v2 v6 μ) s0) (hN : ∀ i, i < N → Pb_X3_rests_20 v0 v1 v2 v6 μ i (fo i (g_X3_rests_20 v0 v1 v2 v6 μ) s0)) {t : Nat} {Q : PQ} {X : PX} (h : R G mX3_rests 20 [(0, .int v0), (1, .int v1), (2, .int v2), (3, .int (sN).1), (4, .int (sN).2.1), (5, .int (sN).2.2), (6, .int v6), (7, .int (nI N))] [] μ t Q X) : R G mX3_rests 20 [(0, .int v0), (1, .int v1), (2, .int v2), (3, .int (s0).1), (4, .int (s0).2.1), (5, .int (s0).2.2), (6, .int v6), (7, .int 0)] [] μ t Q X := by
  subst eN
  refine down_i N (fun i => R G mX3_rests 20 [(0, .int v0), (1, .int v1), (2, .int v2), (3, .int ((fo i (g_X3_rests_20 v0 v1 v2 v6 μ) s0)).1), (4, .int ((fo i (g_X3_rests_20 v0 v1 v2 v6 μ) s0)).2.1), (5, .int ((fo i (g_X3_rests_20 v0 v1 v2 v6 μ) s0)).2.2), (6, .int v6), (7, .int (nI i))] [] μ t Q X) h (fun i hi hS => ?_)
  have hP := hN i hi
  rw [fo_succ] at hS
  rw [nI_succ] at hS
  generalize fo i (g_X3_rests_20 v0 v1 v2 v6 μ) s0 = s at hS hP ⊢
  unfold Pb_X3_rests_20 at hP
  refine r_iload dX3_rests_20 7 rfl ?_
  refine r_iload_n dX3_rests_22 0 rfl ?_
  refine r_icmp_gt 84 dX3_rests_23 (by decide) (fun c1 => ?_) (fun c1 => ?_)
  · replace hP := hP.1 c1
    exact hP.elim
  · replace hP := hP.2 c1
    refine r_iload_n dX3_rests_26 0 rfl ?_
    refine r_iload_n dX3_rests_27 1 rfl ?_
    refine r_iload dX3_rests_28 6 rfl ?_
    refine r_iload dX3_rests_30 7 rfl ?_
    have hs1 := hP
    refine r_csI (ok_X3_isRest hG v0 v1 v6 (nI i) μ hs1) lX3_18 dX3_rests_32 (by decide) (Nat.le_of_ble_eq_true rfl) rfl (Nat.le_of_ble_eq_true rfl) ?_
    refine r_join 78 [(0, .int v0), (1, .int v1), (2, .int v2), (3, .int (VX3_rests_20_1 v0 v1 v2 v6 μ i s)), (4, .int (VX3_rests_20_2 v0 v1 v2 v6 μ i s)), (5, .int (VX3_rests_20_3 v0 v1 v2 v6 μ i s)), (6, .int v6), (7, .int (nI i))] [] μ ?_ (fun hJ => ?_)
    · refine r_iinc ((nI i) + 1) [(7, _), (0, _), (1, _), (2, _), (3, _), (4, _), (5, _), (6, _)] dX3_rests_78 7 rfl rfl (Nat.le_of_ble_eq_true rfl) rfl ?_
      refine r_goto 20 dX3_rests_81 (by decide) ?_
      have e : g_X3_rests_20 v0 v1 v2 v6 μ i s = ((VX3_rests_20_1 v0 v1 v2 v6 μ i s), (VX3_rests_20_2 v0 v1 v2 v6 μ i s), (VX3_rests_20_3 v0 v1 v2 v6 μ i s)) := by unfold g_X3_rests_20; rfl
      rw [e] at hS
      dsimp only at hS
      exact r_sub [1, 2, 3, 4, 5, 6, 7, 0] rfl hS
    · refine r_if_eq 78 dX3_rests_35 (by decide) (fun c2 => ?_) (fun c2 => ?_)
      · have e : (VX3_rests_20_1 v0 v1 v2 v6 μ i s) = s.1 := by unfold VX3_rests_20_1; rw [if_pos c2]
        rw [e] at hJ
        clear e
        have e : (VX3_rests_20_2 v0 v1 v2 v6 μ i s) = s.2.1 := by unfold VX3_rests_20_2; rw [if_pos c2]
        rw [e] at hJ
        clear e
        have e : (VX3_rests_20_3 v0 v1 v2 v6 μ i s) = s.2.2 := by unfold VX3_rests_20_3; rw [if_pos c2]
        rw [e] at hJ
        exact r_sub [0, 1, 2, 3, 4, 5, 6, 7] rfl hJ
      · refine r_iinc (s.1 + 1) [(3, _), (0, _), (1, _), (2, _), (4, _), (5, _), (6, _), (7, _)] dX3_rests_38 3 rfl rfl (Nat.le_of_ble_eq_true rfl) rfl ?_
        refine r_iload dX3_rests_41 4 rfl ?_
        refine r_iconst (-1) dX3_rests_43 rfl ?_
        refine r_icmp_ne 78 dX3_rests_44 (by decide) (fun c3 => ?_) (fun c3 => ?_)
        · have e : (VX3_rests_20_1 v0 v1 v2 v6 μ i s) = (s.1 + 1) := by unfold VX3_rests_20_1; rw [if_neg c2]
          rw [e] at hJ
          clear e
          have e : (VX3_rests_20_2 v0 v1 v2 v6 μ i s) = s.2.1 := by unfold VX3_rests_20_2; rw [if_neg c2, if_pos c3]
          rw [e] at hJ
          clear e
          have e : (VX3_rests_20_3 v0 v1 v2 v6 μ i s) = s.2.2 := by unfold VX3_rests_20_3; rw [if_neg c2, if_pos c3]
          rw [e] at hJ
          exact r_sub [1, 2, 3, 0, 4, 5, 6, 7] rfl hJ
        · refine r_bipush 100 dX3_rests_47 rfl ?_
          refine r_iload dX3_rests_49 6 rfl ?_
          refine r_imul dX3_rests_51 ?_
          refine r_iload dX3_rests_52 7 rfl ?_
          refine r_iadd dX3_rests_54 ?_
          refine r_istore [(4, _), (3, _), (0, _), (1, _), (2, _), (5, _), (6, _), (7, _)] dX3_rests_55 (Nat.le_of_ble_eq_true rfl) rfl ?_
          refine r_iload_n dX3_rests_57 2 rfl ?_
          refine r_iload_n dX3_rests_58 3 rfl ?_
          refine r_iload dX3_rests_59 6 rfl ?_
          refine r_iload dX3_rests_61 7 rfl ?_
          refine r_csI (ok_X3_seaHas hG v0 v1 v6 (nI i) μ) lX3_9 dX3_rests_63 (by decide) (Nat.le_of_ble_eq_true rfl) rfl (Nat.le_of_ble_eq_true rfl) ?_
          refine r_iload_n dX3_rests_66 2 rfl ?_
          refine r_iload_n dX3_rests_67 3 rfl ?_
          refine r_iload dX3_rests_68 6 rfl ?_
          refine r_iload dX3_rests_70 7 rfl ?_
          refine r_csI (ok_X3_houseHas hG v0 v1 v6 (nI i) μ) lX3_15 dX3_rests_72 (by decide) (Nat.le_of_ble_eq_true rfl) rfl (Nat.le_of_ble_eq_true rfl) ?_
          refine r_iadd dX3_rests_75 ?_
          refine r_istore [(5, _), (4, _), (3, _), (0, _), (1, _), (2, _), (6, _), (7, _)] dX3_rests_76 (Nat.le_of_ble_eq_true rfl) rfl ?_
          have e : (VX3_rests_20_1 v0 v1 v2 v6 μ i s) = (s.1 + 1) := by unfold VX3_rests_20_1; rw [if_neg c2]
          rw [e] at hJ
          clear e
          have e : (VX3_rests_20_2 v0 v1 v2 v6 μ i s) = ((100 * v6) + (nI i)) := by unfold VX3_rests_20_2; rw [if_neg c2, if_neg (not_not_intro c3)]
          rw [e] at hJ
          clear e
          have e : (VX3_rests_20_3 v0 v1 v2 v6 μ i s) = ((F_X3_seaHas v0 v1 v6 (nI i) μ) + (F_X3_houseHas v0 v1 v6 (nI i) μ)) := by unfold VX3_rests_20_3; rw [if_neg c2, if_neg (not_not_intro c3)]
          rw [e] at hJ
          exact r_sub [3, 4, 5, 2, 1, 0, 6, 7] rfl hJ
def NX3_rests_11_20 (v0 : Int32) (v1 : Int32) (v2 : Int32) (μ : Mem) (i : Nat) (s : Int32 × Int32 × Int32) : Nat := ix v0 + 1
def SX3_rests_11_20 (v0 : Int32) (v1 : Int32) (v2 : Int32) (μ : Mem) (i : Nat) (s : Int32 × Int32 × Int32) : Int32 × Int32 × Int32 := fo (NX3_rests_11_20 v0 v1 v2 μ i s) (g_X3_rests_20 v0 v1 v2 (nI i) μ) (s.1, s.2.1, s.2.2)
def VX3_rests_11_1 (v0 : Int32) (v1 : Int32) (v2 : Int32) (μ : Mem) (i : Nat) (s : Int32 × Int32 × Int32) : Int32 := (if (F_X3_isRest v0 v1 (nI i) (nI (NX3_rests_11_20 v0 v1 v2 μ i s)) μ) = 0 then (SX3_rests_11_20 v0 v1 v2 μ i s).1 else ((SX3_rests_11_20 v0 v1 v2 μ i s).1 + 1))
def VX3_rests_11_2 (v0 : Int32) (v1 : Int32) (v2 : Int32) (μ : Mem) (i : Nat) (s : Int32 × Int32 × Int32) : Int32 := (if (F_X3_isRest v0 v1 (nI i) (nI (NX3_rests_11_20 v0 v1 v2 μ i s)) μ) = 0 then (SX3_rests_11_20 v0 v1 v2 μ i s).2.1 else (if (SX3_rests_11_20 v0 v1 v2 μ i s).2.1 ≠ (-1) then (SX3_rests_11_20 v0 v1 v2 μ i s).2.1 else ((100 * (nI i)) + (nI (NX3_rests_11_20 v0 v1 v2 μ i s)))))
def VX3_rests_11_3 (v0 : Int32) (v1 : Int32) (v2 : Int32) (μ : Mem) (i : Nat) (s : Int32 × Int32 × Int32) : Int32 := (if (F_X3_isRest v0 v1 (nI i) (nI (NX3_rests_11_20 v0 v1 v2 μ i s)) μ) = 0 then (SX3_rests_11_20 v0 v1 v2 μ i s).2.2 else (if (SX3_rests_11_20 v0 v1 v2 μ i s).2.1 ≠ (-1) then (SX3_rests_11_20 v0 v1 v2 μ i s).2.2 else ((F_X3_seaHas v0 v1 (nI i) (nI (NX3_rests_11_20 v0 v1 v2 μ i s)) μ) + (F_X3_houseHas v0 v1 (nI i) (nI (NX3_rests_11_20 v0 v1 v2 μ i s)) μ))))
def g_X3_rests_11 (v0 : Int32) (v1 : Int32) (v2 : Int32) (μ : Mem) (i : Nat) (s : Int32 × Int32 × Int32) : Int32 × Int32 × Int32 := ((SX3_rests_11_20 v0 v1 v2 μ i s).1, (SX3_rests_11_20 v0 v1 v2 μ i s).2.1, (SX3_rests_11_20 v0 v1 v2 μ i s).2.2)
def Pb_X3_rests_11 (v0 : Int32) (v1 : Int32) (v2 : Int32) (μ : Mem) (i : Nat) (s : Int32 × Int32 × Int32) : Prop := ((v0 < (nI i) → False) ∧ ((nI i) ≤ v0 → (∀ j9, j9 < (NX3_rests_11_20 v0 v1 v2 μ i s) → Pb_X3_rests_20 v0 v1 v2 (nI i) μ j9 (fo j9 (g_X3_rests_20 v0 v1 v2 (nI i) μ) (s.1, s.2.1, s.2.2))) ∧ ((v0 < (nI (NX3_rests_11_20 v0 v1 v2 μ i s)) → True) ∧ ((nI (NX3_rests_11_20 v0 v1 v2 μ i s)) ≤ v0 → (P_X3_isRest v0 v1 (nI i) (nI (NX3_rests_11_20 v0 v1 v2 μ i s)) μ) ∧ False))))
set_option maxRecDepth 20000 in
set_option maxHeartbeats 2000000 in
theorem lp_X3_rests_11 {G : SG} (hG : GK 57 G)  (v0 : Int32) (v1 : Int32) (v2 : Int32) (μ : Mem) (s0 : Int32 × Int32 × Int32) (N : Nat) (sN : Int32 × Int32 × Int32) (eN : sN = fo N (g_X3_rests_11 v0 v1 v2 μ) s0) (hN : ∀ i, i < N → Pb_X3_rests_11 v0 v1 v2 μ i (fo i (g_X3_rests_11 v0 v1 v2 μ) s0)) {t : Nat} {Q : PQ} {X : PX} (h : R G mX3_rests 11 [(0, .int v0), (1, .int v1), (2, .int v2), (3, .int (sN).1), (4, .int (sN).2.1), (5, .int (sN).2.2), (6, .int (nI N))] [] μ t Q X) : R G mX3_rests 11 [(0, .int v0), (1, .int v1), (2, .int v2), (3, .int (s0).1), (4, .int (s0).2.1), (5, .int (s0).2.2), (6, .int 0)] [] μ t Q X := by
  subst eN
  refine down_i N (fun i => R G mX3_rests 11 [(0, .int v0), (1, .int v1), (2, .int v2), (3, .int ((fo i (g_X3_rests_11 v0 v1 v2 μ) s0)).1), (4, .int ((fo i (g_X3_rests_11 v0 v1 v2 μ) s0)).2.1), (5, .int ((fo i (g_X3_rests_11 v0 v1 v2 μ) s0)).2.2), (6, .int (nI i))] [] μ t Q X) h (fun i hi hS => ?_)
  have hP := hN i hi
  rw [fo_succ] at hS
  rw [nI_succ] at hS
  generalize fo i (g_X3_rests_11 v0 v1 v2 μ) s0 = s at hS hP ⊢
  unfold Pb_X3_rests_11 at hP
  refine r_iload dX3_rests_11 6 rfl ?_
  refine r_iload_n dX3_rests_13 0 rfl ?_
  refine r_icmp_gt 90 dX3_rests_14 (by decide) (fun c1 => ?_) (fun c1 => ?_)
  · replace hP := hP.1 c1
    exact hP.elim
  · replace hP := hP.2 c1
    refine r_iconst 0 dX3_rests_17 rfl ?_
    refine r_istore [(7, _), (0, _), (1, _), (2, _), (3, _), (4, _), (5, _), (6, _)] dX3_rests_18 (Nat.le_of_ble_eq_true rfl) rfl ?_
    have hs1 := hP.1
    replace hP := hP.2
    refine r_sub [1, 2, 3, 4, 5, 6, 7, 0] rfl ?_
    refine lp_X3_rests_20 hG v0 v1 v2 (nI i) μ (s.1, s.2.1, s.2.2) ((NX3_rests_11_20 v0 v1 v2 μ i s)) (SX3_rests_11_20 v0 v1 v2 μ i s) rfl hs1 ?_
    refine r_iload dX3_rests_20 7 rfl ?_
    refine r_iload_n dX3_rests_22 0 rfl ?_
    refine r_icmp_gt 84 dX3_rests_23 (by decide) (fun c2 => ?_) (fun c2 => ?_)
    · replace hP := hP.1 c2
      refine r_iinc ((nI i) + 1) [(6, _), (0, _), (1, _), (2, _), (3, _), (4, _), (5, _), (7, _)] dX3_rests_84 6 rfl rfl (Nat.le_of_ble_eq_true rfl) rfl ?_
      refine r_goto 11 dX3_rests_87 (by decide) ?_
      have e : g_X3_rests_11 v0 v1 v2 μ i s = ((SX3_rests_11_20 v0 v1 v2 μ i s).1, (SX3_rests_11_20 v0 v1 v2 μ i s).2.1, (SX3_rests_11_20 v0 v1 v2 μ i s).2.2) := by unfold g_X3_rests_11; rfl
      rw [e] at hS
      dsimp only at hS
      exact r_sub [1, 2, 3, 4, 5, 6, 0] rfl hS
    · replace hP := hP.2 c2
      refine r_iload_n dX3_rests_26 0 rfl ?_
      refine r_iload_n dX3_rests_27 1 rfl ?_
      refine r_iload dX3_rests_28 6 rfl ?_
      refine r_iload dX3_rests_30 7 rfl ?_
      have hs3 := hP.1
      replace hP := hP.2
      refine r_csI (ok_X3_isRest hG v0 v1 (nI i) (nI (NX3_rests_11_20 v0 v1 v2 μ i s)) μ hs3) lX3_18 dX3_rests_32 (by decide) (Nat.le_of_ble_eq_true rfl) rfl (Nat.le_of_ble_eq_true rfl) ?_
      refine r_join 78 [(0, .int v0), (1, .int v1), (2, .int v2), (3, .int (VX3_rests_11_1 v0 v1 v2 μ i s)), (4, .int (VX3_rests_11_2 v0 v1 v2 μ i s)), (5, .int (VX3_rests_11_3 v0 v1 v2 μ i s)), (6, .int (nI i)), (7, .int (nI (NX3_rests_11_20 v0 v1 v2 μ i s)))] [] μ ?_ (fun hJ => ?_)
      · refine r_iinc ((nI (NX3_rests_11_20 v0 v1 v2 μ i s)) + 1) [(7, _), (0, _), (1, _), (2, _), (3, _), (4, _), (5, _), (6, _)] dX3_rests_78 7 rfl rfl (Nat.le_of_ble_eq_true rfl) rfl ?_
        refine r_goto 20 dX3_rests_81 (by decide) ?_
        exact hP.elim
      · refine r_if_eq 78 dX3_rests_35 (by decide) (fun c3 => ?_) (fun c3 => ?_)
        · have e : (VX3_rests_11_1 v0 v1 v2 μ i s) = (SX3_rests_11_20 v0 v1 v2 μ i s).1 := by unfold VX3_rests_11_1; rw [if_pos c3]
          rw [e] at hJ
          clear e
          have e : (VX3_rests_11_2 v0 v1 v2 μ i s) = (SX3_rests_11_20 v0 v1 v2 μ i s).2.1 := by unfold VX3_rests_11_2; rw [if_pos c3]
          rw [e] at hJ
          clear e
          have e : (VX3_rests_11_3 v0 v1 v2 μ i s) = (SX3_rests_11_20 v0 v1 v2 μ i s).2.2 := by unfold VX3_rests_11_3; rw [if_pos c3]
          rw [e] at hJ
          exact r_sub [0, 1, 2, 3, 4, 5, 6, 7] rfl hJ
        · refine r_iinc ((SX3_rests_11_20 v0 v1 v2 μ i s).1 + 1) [(3, _), (0, _), (1, _), (2, _), (4, _), (5, _), (6, _), (7, _)] dX3_rests_38 3 rfl rfl (Nat.le_of_ble_eq_true rfl) rfl ?_
          refine r_iload dX3_rests_41 4 rfl ?_
          refine r_iconst (-1) dX3_rests_43 rfl ?_
          refine r_icmp_ne 78 dX3_rests_44 (by decide) (fun c4 => ?_) (fun c4 => ?_)
          · have e : (VX3_rests_11_1 v0 v1 v2 μ i s) = ((SX3_rests_11_20 v0 v1 v2 μ i s).1 + 1) := by unfold VX3_rests_11_1; rw [if_neg c3]
            rw [e] at hJ
            clear e
            have e : (VX3_rests_11_2 v0 v1 v2 μ i s) = (SX3_rests_11_20 v0 v1 v2 μ i s).2.1 := by unfold VX3_rests_11_2; rw [if_neg c3, if_pos c4]
            rw [e] at hJ
            clear e
            have e : (VX3_rests_11_3 v0 v1 v2 μ i s) = (SX3_rests_11_20 v0 v1 v2 μ i s).2.2 := by unfold VX3_rests_11_3; rw [if_neg c3, if_pos c4]
            rw [e] at hJ
            exact r_sub [1, 2, 3, 0, 4, 5, 6, 7] rfl hJ
          · refine r_bipush 100 dX3_rests_47 rfl ?_
            refine r_iload dX3_rests_49 6 rfl ?_
            refine r_imul dX3_rests_51 ?_
            refine r_iload dX3_rests_52 7 rfl ?_
            refine r_iadd dX3_rests_54 ?_
            refine r_istore [(4, _), (3, _), (0, _), (1, _), (2, _), (5, _), (6, _), (7, _)] dX3_rests_55 (Nat.le_of_ble_eq_true rfl) rfl ?_
            refine r_iload_n dX3_rests_57 2 rfl ?_
            refine r_iload_n dX3_rests_58 3 rfl ?_
            refine r_iload dX3_rests_59 6 rfl ?_
            refine r_iload dX3_rests_61 7 rfl ?_
            refine r_csI (ok_X3_seaHas hG v0 v1 (nI i) (nI (NX3_rests_11_20 v0 v1 v2 μ i s)) μ) lX3_9 dX3_rests_63 (by decide) (Nat.le_of_ble_eq_true rfl) rfl (Nat.le_of_ble_eq_true rfl) ?_
            refine r_iload_n dX3_rests_66 2 rfl ?_
            refine r_iload_n dX3_rests_67 3 rfl ?_
            refine r_iload dX3_rests_68 6 rfl ?_
            refine r_iload dX3_rests_70 7 rfl ?_
            refine r_csI (ok_X3_houseHas hG v0 v1 (nI i) (nI (NX3_rests_11_20 v0 v1 v2 μ i s)) μ) lX3_15 dX3_rests_72 (by decide) (Nat.le_of_ble_eq_true rfl) rfl (Nat.le_of_ble_eq_true rfl) ?_
            refine r_iadd dX3_rests_75 ?_
            refine r_istore [(5, _), (4, _), (3, _), (0, _), (1, _), (2, _), (6, _), (7, _)] dX3_rests_76 (Nat.le_of_ble_eq_true rfl) rfl ?_
            have e : (VX3_rests_11_1 v0 v1 v2 μ i s) = ((SX3_rests_11_20 v0 v1 v2 μ i s).1 + 1) := by unfold VX3_rests_11_1; rw [if_neg c3]
            rw [e] at hJ
            clear e
            have e : (VX3_rests_11_2 v0 v1 v2 μ i s) = ((100 * (nI i)) + (nI (NX3_rests_11_20 v0 v1 v2 μ i s))) := by unfold VX3_rests_11_2; rw [if_neg c3, if_neg (not_not_intro c4)]
            rw [e] at hJ
            clear e
            have e : (VX3_rests_11_3 v0 v1 v2 μ i s) = ((F_X3_seaHas v0 v1 (nI i) (nI (NX3_rests_11_20 v0 v1 v2 μ i s)) μ) + (F_X3_houseHas v0 v1 (nI i) (nI (NX3_rests_11_20 v0 v1 v2 μ i s)) μ)) := by unfold VX3_rests_11_3; rw [if_neg c3, if_neg (not_not_intro c4)]
            rw [e] at hJ
            exact r_sub [3, 4, 5, 2, 1, 0, 6, 7] rfl hJ
def NX3_rests_11 (p0 : Int32) (p1 : Int32) (p2 : Int32) (μ : Mem) : Nat := ix p0 + 1
def SX3_rests_11 (p0 : Int32) (p1 : Int32) (p2 : Int32) (μ : Mem) : Int32 × Int32 × Int32 := fo (NX3_rests_11 p0 p1 p2 μ) (g_X3_rests_11 p0 p1 p2 μ) (0, (-1), 0)
def NX3_rests_20 (p0 : Int32) (p1 : Int32) (p2 : Int32) (μ : Mem) : Nat := ix p0 + 1
def SX3_rests_20 (p0 : Int32) (p1 : Int32) (p2 : Int32) (μ : Mem) : Int32 × Int32 × Int32 := fo (NX3_rests_20 p0 p1 p2 μ) (g_X3_rests_20 p0 p1 p2 (nI (NX3_rests_11 p0 p1 p2 μ)) μ) ((SX3_rests_11 p0 p1 p2 μ).1, (SX3_rests_11 p0 p1 p2 μ).2.1, (SX3_rests_11 p0 p1 p2 μ).2.2)
def VX3_rests_1 (p0 : Int32) (p1 : Int32) (p2 : Int32) (μ : Mem) : Int32 := (if (F_X3_isRest p0 p1 (nI (NX3_rests_11 p0 p1 p2 μ)) (nI (NX3_rests_20 p0 p1 p2 μ)) μ) = 0 then (SX3_rests_20 p0 p1 p2 μ).1 else ((SX3_rests_20 p0 p1 p2 μ).1 + 1))
def VX3_rests_2 (p0 : Int32) (p1 : Int32) (p2 : Int32) (μ : Mem) : Int32 := (if (F_X3_isRest p0 p1 (nI (NX3_rests_11 p0 p1 p2 μ)) (nI (NX3_rests_20 p0 p1 p2 μ)) μ) = 0 then (SX3_rests_20 p0 p1 p2 μ).2.1 else (if (SX3_rests_20 p0 p1 p2 μ).2.1 ≠ (-1) then (SX3_rests_20 p0 p1 p2 μ).2.1 else ((100 * (nI (NX3_rests_11 p0 p1 p2 μ))) + (nI (NX3_rests_20 p0 p1 p2 μ)))))
def VX3_rests_3 (p0 : Int32) (p1 : Int32) (p2 : Int32) (μ : Mem) : Int32 := (if (F_X3_isRest p0 p1 (nI (NX3_rests_11 p0 p1 p2 μ)) (nI (NX3_rests_20 p0 p1 p2 μ)) μ) = 0 then (SX3_rests_20 p0 p1 p2 μ).2.2 else (if (SX3_rests_20 p0 p1 p2 μ).2.1 ≠ (-1) then (SX3_rests_20 p0 p1 p2 μ).2.2 else ((F_X3_seaHas p0 p1 (nI (NX3_rests_11 p0 p1 p2 μ)) (nI (NX3_rests_20 p0 p1 p2 μ)) μ) + (F_X3_houseHas p0 p1 (nI (NX3_rests_11 p0 p1 p2 μ)) (nI (NX3_rests_20 p0 p1 p2 μ)) μ))))
def F_X3_rests (p0 : Int32) (p1 : Int32) (p2 : Int32) (μ : Mem) : Int32 := (if p2 ≠ 0 then (if p2 ≠ 1 then (SX3_rests_11 p0 p1 p2 μ).2.2 else (SX3_rests_11 p0 p1 p2 μ).2.1) else (SX3_rests_11 p0 p1 p2 μ).1)
def P_X3_rests (p0 : Int32) (p1 : Int32) (p2 : Int32) (μ : Mem) : Prop := ((∀ j9, j9 < (NX3_rests_11 p0 p1 p2 μ) → Pb_X3_rests_11 p0 p1 p2 μ j9 (fo j9 (g_X3_rests_11 p0 p1 p2 μ) (0, (-1), 0))) ∧ ((p0 < (nI (NX3_rests_11 p0 p1 p2 μ)) → True) ∧ ((nI (NX3_rests_11 p0 p1 p2 μ)) ≤ p0 → ((∀ j9, j9 < (NX3_rests_20 p0 p1 p2 μ) → Pb_X3_rests_20 p0 p1 p2 (nI (NX3_rests_11 p0 p1 p2 μ)) μ j9 (fo j9 (g_X3_rests_20 p0 p1 p2 (nI (NX3_rests_11 p0 p1 p2 μ)) μ) ((SX3_rests_11 p0 p1 p2 μ).1, (SX3_rests_11 p0 p1 p2 μ).2.1, (SX3_rests_11 p0 p1 p2 μ).2.2))) ∧ ((p0 < (nI (NX3_rests_20 p0 p1 p2 μ)) → False) ∧ ((nI (NX3_rests_20 p0 p1 p2 μ)) ≤ p0 → ((P_X3_isRest p0 p1 (nI (NX3_rests_11 p0 p1 p2 μ)) (nI (NX3_rests_20 p0 p1 p2 μ)) μ) ∧ False)))))))
set_option maxRecDepth 20000 in
set_option maxHeartbeats 2000000 in
theorem ok_X3_rests {G : SG} (hG : GK 57 G) (p0 : Int32) (p1 : Int32) (p2 : Int32) (μ : Mem) (hP : P_X3_rests p0 p1 p2 μ) : OkF G mX3_rests [.int p0, .int p1, .int p2] μ (some (.int (F_X3_rests p0 p1 p2 μ))) μ := by
  refine okF_of hG rfl rfl (Nat.le_of_ble_eq_true rfl) ?_
  unfold P_X3_rests at hP
  refine r_iconst 0 dX3_rests_0 rfl ?_
  refine r_istore_n [(3, _), (0, _), (1, _), (2, _)] dX3_rests_1 (Nat.le_of_ble_eq_true rfl) rfl ?_
  refine r_iconst (-1) dX3_rests_2 rfl ?_
  refine r_istore [(4, _), (3, _), (0, _), (1, _), (2, _)] dX3_rests_3 (Nat.le_of_ble_eq_true rfl) rfl ?_
  refine r_iconst 0 dX3_rests_5 rfl ?_
  refine r_istore [(5, _), (4, _), (3, _), (0, _), (1, _), (2, _)] dX3_rests_6 (Nat.le_of_ble_eq_true rfl) rfl ?_
  refine r_iconst 0 dX3_rests_8 rfl ?_
  refine r_istore [(6, _), (5, _), (4, _), (3, _), (0, _), (1, _), (2, _)] dX3_rests_9 (Nat.le_of_ble_eq_true rfl) rfl ?_
  have hs1 := hP.1
  replace hP := hP.2
  refine r_sub [4, 5, 6, 3, 2, 1, 0] rfl ?_
  refine lp_X3_rests_11 hG p0 p1 p2 μ (0, (-1), 0) ((NX3_rests_11 p0 p1 p2 μ)) (SX3_rests_11 p0 p1 p2 μ) rfl hs1 ?_
  refine r_iload dX3_rests_11 6 rfl ?_
  refine r_iload_n dX3_rests_13 0 rfl ?_
  refine r_icmp_gt 90 dX3_rests_14 (by decide) (fun c1 => ?_) (fun c1 => ?_)
  · replace hP := hP.1 c1
    refine r_iload_n dX3_rests_90 2 rfl ?_
    refine r_if_ne 98 dX3_rests_91 (by decide) (fun c2 => ?_) (fun c2 => ?_)
    · refine r_iload_n dX3_rests_98 2 rfl ?_
      refine r_iconst 1 dX3_rests_99 rfl ?_
      refine r_icmp_ne 108 dX3_rests_100 (by decide) (fun c3 => ?_) (fun c3 => ?_)
      · refine r_iload dX3_rests_108 5 rfl ?_
        exact r_ireturn _ dX3_rests_110 rfl rfl ⟨congrArg (fun z => some (Value.int z)) (by unfold F_X3_rests; rw [if_pos c2, if_pos c3]), rfl⟩
      · refine r_iload dX3_rests_103 4 rfl ?_
        refine r_goto 110 dX3_rests_105 (by decide) ?_
        exact r_ireturn _ dX3_rests_110 rfl rfl ⟨congrArg (fun z => some (Value.int z)) (by unfold F_X3_rests; rw [if_pos c2, if_neg (not_not_intro c3)]), rfl⟩
    · refine r_iload_n dX3_rests_94 3 rfl ?_
      refine r_goto 110 dX3_rests_95 (by decide) ?_
      exact r_ireturn _ dX3_rests_110 rfl rfl ⟨congrArg (fun z => some (Value.int z)) (by unfold F_X3_rests; rw [if_neg (not_not_intro c2)]), rfl⟩
  · replace hP := hP.2 c1
    refine r_iconst 0 dX3_rests_17 rfl ?_
    refine r_istore [(7, _), (0, _), (1, _), (2, _), (3, _), (4, _), (5, _), (6, _)] dX3_rests_18 (Nat.le_of_ble_eq_true rfl) rfl ?_
    have hs5 := hP.1
    replace hP := hP.2
    refine r_sub [1, 2, 3, 4, 5, 6, 7, 0] rfl ?_
    refine lp_X3_rests_20 hG p0 p1 p2 (nI (NX3_rests_11 p0 p1 p2 μ)) μ ((SX3_rests_11 p0 p1 p2 μ).1, (SX3_rests_11 p0 p1 p2 μ).2.1, (SX3_rests_11 p0 p1 p2 μ).2.2) ((NX3_rests_20 p0 p1 p2 μ)) (SX3_rests_20 p0 p1 p2 μ) rfl hs5 ?_
    refine r_iload dX3_rests_20 7 rfl ?_
    refine r_iload_n dX3_rests_22 0 rfl ?_
    refine r_icmp_gt 84 dX3_rests_23 (by decide) (fun c2 => ?_) (fun c2 => ?_)
    · replace hP := hP.1 c2
      refine r_iinc ((nI (NX3_rests_11 p0 p1 p2 μ)) + 1) [(6, _), (0, _), (1, _), (2, _), (3, _), (4, _), (5, _), (7, _)] dX3_rests_84 6 rfl rfl (Nat.le_of_ble_eq_true rfl) rfl ?_
      refine r_goto 11 dX3_rests_87 (by decide) ?_
      exact hP.elim
    · replace hP := hP.2 c2
      refine r_iload_n dX3_rests_26 0 rfl ?_
      refine r_iload_n dX3_rests_27 1 rfl ?_
      refine r_iload dX3_rests_28 6 rfl ?_
      refine r_iload dX3_rests_30 7 rfl ?_
      have hs7 := hP.1
      replace hP := hP.2
      refine r_csI (ok_X3_isRest hG p0 p1 (nI (NX3_rests_11 p0 p1 p2 μ)) (nI (NX3_rests_20 p0 p1 p2 μ)) μ hs7) lX3_18 dX3_rests_32 (by decide) (Nat.le_of_ble_eq_true rfl) rfl (Nat.le_of_ble_eq_true rfl) ?_
      refine r_join 78 [(0, .int p0), (1, .int p1), (2, .int p2), (3, .int (VX3_rests_1 p0 p1 p2 μ)), (4, .int (VX3_rests_2 p0 p1 p2 μ)), (5, .int (VX3_rests_3 p0 p1 p2 μ)), (6, .int (nI (NX3_rests_11 p0 p1 p2 μ))), (7, .int (nI (NX3_rests_20 p0 p1 p2 μ)))] [] μ ?_ (fun hJ => ?_)
      · refine r_iinc ((nI (NX3_rests_20 p0 p1 p2 μ)) + 1) [(7, _), (0, _), (1, _), (2, _), (3, _), (4, _), (5, _), (6, _)] dX3_rests_78 7 rfl rfl (Nat.le_of_ble_eq_true rfl) rfl ?_
        refine r_goto 20 dX3_rests_81 (by decide) ?_
        exact hP.elim
      · refine r_if_eq 78 dX3_rests_35 (by decide) (fun c3 => ?_) (fun c3 => ?_)
        · have e : (VX3_rests_1 p0 p1 p2 μ) = (SX3_rests_20 p0 p1 p2 μ).1 := by unfold VX3_rests_1; rw [if_pos c3]
          rw [e] at hJ
          clear e
          have e : (VX3_rests_2 p0 p1 p2 μ) = (SX3_rests_20 p0 p1 p2 μ).2.1 := by unfold VX3_rests_2; rw [if_pos c3]
          rw [e] at hJ
          clear e
          have e : (VX3_rests_3 p0 p1 p2 μ) = (SX3_rests_20 p0 p1 p2 μ).2.2 := by unfold VX3_rests_3; rw [if_pos c3]
          rw [e] at hJ
          exact r_sub [0, 1, 2, 3, 4, 5, 6, 7] rfl hJ
        · refine r_iinc ((SX3_rests_20 p0 p1 p2 μ).1 + 1) [(3, _), (0, _), (1, _), (2, _), (4, _), (5, _), (6, _), (7, _)] dX3_rests_38 3 rfl rfl (Nat.le_of_ble_eq_true rfl) rfl ?_
          refine r_iload dX3_rests_41 4 rfl ?_
          refine r_iconst (-1) dX3_rests_43 rfl ?_
          refine r_icmp_ne 78 dX3_rests_44 (by decide) (fun c4 => ?_) (fun c4 => ?_)
          · have e : (VX3_rests_1 p0 p1 p2 μ) = ((SX3_rests_20 p0 p1 p2 μ).1 + 1) := by unfold VX3_rests_1; rw [if_neg c3]
            rw [e] at hJ
            clear e
            have e : (VX3_rests_2 p0 p1 p2 μ) = (SX3_rests_20 p0 p1 p2 μ).2.1 := by unfold VX3_rests_2; rw [if_neg c3, if_pos c4]
            rw [e] at hJ
            clear e
            have e : (VX3_rests_3 p0 p1 p2 μ) = (SX3_rests_20 p0 p1 p2 μ).2.2 := by unfold VX3_rests_3; rw [if_neg c3, if_pos c4]
            rw [e] at hJ
            exact r_sub [1, 2, 3, 0, 4, 5, 6, 7] rfl hJ
          · refine r_bipush 100 dX3_rests_47 rfl ?_
            refine r_iload dX3_rests_49 6 rfl ?_
            refine r_imul dX3_rests_51 ?_
            refine r_iload dX3_rests_52 7 rfl ?_
            refine r_iadd dX3_rests_54 ?_
            refine r_istore [(4, _), (3, _), (0, _), (1, _), (2, _), (5, _), (6, _), (7, _)] dX3_rests_55 (Nat.le_of_ble_eq_true rfl) rfl ?_
            refine r_iload_n dX3_rests_57 2 rfl ?_
            refine r_iload_n dX3_rests_58 3 rfl ?_
            refine r_iload dX3_rests_59 6 rfl ?_
            refine r_iload dX3_rests_61 7 rfl ?_
            refine r_csI (ok_X3_seaHas hG p0 p1 (nI (NX3_rests_11 p0 p1 p2 μ)) (nI (NX3_rests_20 p0 p1 p2 μ)) μ) lX3_9 dX3_rests_63 (by decide) (Nat.le_of_ble_eq_true rfl) rfl (Nat.le_of_ble_eq_true rfl) ?_
            refine r_iload_n dX3_rests_66 2 rfl ?_
            refine r_iload_n dX3_rests_67 3 rfl ?_
            refine r_iload dX3_rests_68 6 rfl ?_
            refine r_iload dX3_rests_70 7 rfl ?_
            refine r_csI (ok_X3_houseHas hG p0 p1 (nI (NX3_rests_11 p0 p1 p2 μ)) (nI (NX3_rests_20 p0 p1 p2 μ)) μ) lX3_15 dX3_rests_72 (by decide) (Nat.le_of_ble_eq_true rfl) rfl (Nat.le_of_ble_eq_true rfl) ?_
            refine r_iadd dX3_rests_75 ?_
            refine r_istore [(5, _), (4, _), (3, _), (0, _), (1, _), (2, _), (6, _), (7, _)] dX3_rests_76 (Nat.le_of_ble_eq_true rfl) rfl ?_
            have e : (VX3_rests_1 p0 p1 p2 μ) = ((SX3_rests_20 p0 p1 p2 μ).1 + 1) := by unfold VX3_rests_1; rw [if_neg c3]
            rw [e] at hJ
            clear e
            have e : (VX3_rests_2 p0 p1 p2 μ) = ((100 * (nI (NX3_rests_11 p0 p1 p2 μ))) + (nI (NX3_rests_20 p0 p1 p2 μ))) := by unfold VX3_rests_2; rw [if_neg c3, if_neg (not_not_intro c4)]
            rw [e] at hJ
            clear e
            have e : (VX3_rests_3 p0 p1 p2 μ) = ((F_X3_seaHas p0 p1 (nI (NX3_rests_11 p0 p1 p2 μ)) (nI (NX3_rests_20 p0 p1 p2 μ)) μ) + (F_X3_houseHas p0 p1 (nI (NX3_rests_11 p0 p1 p2 μ)) (nI (NX3_rests_20 p0 p1 p2 μ)) μ)) := by unfold VX3_rests_3; rw [if_neg c3, if_neg (not_not_intro c4)]
            rw [e] at hJ
            exact r_sub [3, 4, 5, 2, 1, 0, 6, 7] rfl hJ
