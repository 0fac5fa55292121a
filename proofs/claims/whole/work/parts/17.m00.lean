def muX10_lays_T_10_1 (v2 : Int32) (v3 : Int32) (i : Nat) (s : Mem) : Mem := (upm s (78 + (ix v3)) (ix (nI i)) (s (67 + (ix v3)) (ix (nI i))))
def g_X10_lays_T_10 (v2 : Int32) (v3 : Int32) (i : Nat) (s : Mem) : Mem := (muX10_lays_T_10_1 v2 v3 i s)
def Pb_X10_lays_T_10 (v2 : Int32) (v3 : Int32) (i : Nat) (s : Mem) : Prop := (vp_in v3 10) ∧ ((4 ≤ (nI i) → False) ∧ ((nI i) < 4 → (vp_in v3 10) ∧ (vp_in v3 10) ∧ (vp_in (nI i) 4) ∧ vp_in (nI i) 4))
set_option maxRecDepth 20000 in
set_option maxHeartbeats 2000000 in
theorem lp_X10_lays_T_10 {G : SG} (hG : GK 548 G)  (v2 : Int32) (v3 : Int32) (s0 : Mem) (N : Nat) (sN : Mem) (eN : sN = fo N (g_X10_lays_T_10 v2 v3) s0) (hN : ∀ i, i < N → Pb_X10_lays_T_10 v2 v3 i (fo i (g_X10_lays_T_10 v2 v3) s0)) {t : Nat} {Q : PQ} {X : PX} (h : R G mX10_lays 10 [(0, .ref (ga G 66)), (1, .ref (ga G 77)), (2, .int v2), (3, .int v3), (4, .int (nI N))] [] sN t Q X) : R G mX10_lays 10 [(0, .ref (ga G 66)), (1, .ref (ga G 77)), (2, .int v2), (3, .int v3), (4, .int 0)] [] s0 t Q X := by
  subst eN
  refine down_i N (fun i => R G mX10_lays 10 [(0, .ref (ga G 66)), (1, .ref (ga G 77)), (2, .int v2), (3, .int v3), (4, .int (nI i))] [] (fo i (g_X10_lays_T_10 v2 v3) s0) t Q X) h (fun i hi hS => ?_)
  have hP := hN i hi
  rw [fo_succ] at hS
  rw [nI_succ] at hS
  generalize fo i (g_X10_lays_T_10 v2 v3) s0 = s at hS hP ⊢
  unfold Pb_X10_lays_T_10 at hP
  refine r_iload dX10_lays_10 4 rfl ?_
  refine r_aload_n dX10_lays_12 1 rfl ?_
  refine r_iload_n dX10_lays_13 3 rfl ?_
  have hs1 := hP.1
  replace hP := hP.2
  refine r_aald (hG.lt (by decide)) sh77 hs1 dX10_lays_14 ?_
  refine r_alen 4 (ltR (vp_ix hs1) (by decide) hG) (shr77 _ (vp_ix hs1)) rfl dX10_lays_15 ?_
  refine r_icmp_ge 37 dX10_lays_16 (by decide) (fun c1 => ?_) (fun c1 => ?_)
  · replace hP := hP.1 c1
    exact hP.elim
  · replace hP := hP.2 c1
    refine r_aload_n dX10_lays_19 1 rfl ?_
    refine r_iload_n dX10_lays_20 3 rfl ?_
    have hs2 := hP.1
    replace hP := hP.2
    refine r_aald (hG.lt (by decide)) sh77 hs2 dX10_lays_21 ?_
    refine r_iload dX10_lays_22 4 rfl ?_
    refine r_aload_n dX10_lays_24 0 rfl ?_
    refine r_iload_n dX10_lays_25 3 rfl ?_
    have hs3 := hP.1
    replace hP := hP.2
    refine r_aald (hG.lt (by decide)) sh66 hs3 dX10_lays_26 ?_
    refine r_iload dX10_lays_27 4 rfl ?_
    have hs4 := hP.1
    replace hP := hP.2
    refine r_iald (ltR (vp_ix hs3) (by decide) hG) (shr66 _ (vp_ix hs3)) hs4 dX10_lays_29 ?_
    have hs5 := hP
    refine r_iast (ltR (vp_ix hs2) (by decide) hG) (shr77 _ (vp_ix hs2)) hs5 dX10_lays_30 ?_
    refine r_mu (muX10_lays_T_10_1 v2 v3 i s) rfl ?_
    refine r_iinc ((nI i) + 1) [(4, _), (0, _), (1, _), (2, _), (3, _)] dX10_lays_31 4 rfl rfl (Nat.le_of_ble_eq_true rfl) rfl ?_
    refine r_goto 10 dX10_lays_34 (by decide) ?_
    have e : g_X10_lays_T_10 v2 v3 i s = (muX10_lays_T_10_1 v2 v3 i s) := by unfold g_X10_lays_T_10; rfl
    rw [e] at hS
    exact r_sub [1, 2, 3, 4, 0] rfl hS
def NX10_lays_T_2_10 (v2 : Int32) (i : Nat) (s : Mem) : Nat := 4
def SX10_lays_T_2_10 (v2 : Int32) (i : Nat) (s : Mem) : Mem := fo (NX10_lays_T_2_10 v2 i s) (g_X10_lays_T_10 v2 (nI i)) s
def muX10_lays_T_2_1 (v2 : Int32) (i : Nat) (s : Mem) : Mem := (upm (SX10_lays_T_2_10 v2 i s) (78 + (ix (nI i))) (ix (nI (NX10_lays_T_2_10 v2 i s))) ((SX10_lays_T_2_10 v2 i s) (67 + (ix (nI i))) (ix (nI (NX10_lays_T_2_10 v2 i s)))))
def g_X10_lays_T_2 (v2 : Int32) (i : Nat) (s : Mem) : Mem := (SX10_lays_T_2_10 v2 i s)
def Pb_X10_lays_T_2 (v2 : Int32) (i : Nat) (s : Mem) : Prop := ((v2 ≤ (nI i) → False) ∧ ((nI i) < v2 → (∀ j9, j9 < (NX10_lays_T_2_10 v2 i s) → Pb_X10_lays_T_10 v2 (nI i) j9 (fo j9 (g_X10_lays_T_10 v2 (nI i)) s)) ∧ (vp_in (nI i) 10) ∧ ((4 ≤ (nI (NX10_lays_T_2_10 v2 i s)) → True) ∧ ((nI (NX10_lays_T_2_10 v2 i s)) < 4 → (vp_in (nI i) 10) ∧ (vp_in (nI i) 10) ∧ (vp_in (nI (NX10_lays_T_2_10 v2 i s)) 4) ∧ (vp_in (nI (NX10_lays_T_2_10 v2 i s)) 4) ∧ False))))
set_option maxRecDepth 20000 in
set_option maxHeartbeats 2000000 in
theorem lp_X10_lays_T_2 {G : SG} (hG : GK 548 G)  (v2 : Int32) (s0 : Mem) (N : Nat) (sN : Mem) (eN : sN = fo N (g_X10_lays_T_2 v2) s0) (hN : ∀ i, i < N → Pb_X10_lays_T_2 v2 i (fo i (g_X10_lays_T_2 v2) s0)) {t : Nat} {Q : PQ} {X : PX} (h : R G mX10_lays 2 [(0, .ref (ga G 66)), (1, .ref (ga G 77)), (2, .int v2), (3, .int (nI N))] [] sN t Q X) : R G mX10_lays 2 [(0, .ref (ga G 66)), (1, .ref (ga G 77)), (2, .int v2), (3, .int 0)] [] s0 t Q X := by
  subst eN
  refine down_i N (fun i => R G mX10_lays 2 [(0, .ref (ga G 66)), (1, .ref (ga G 77)), (2, .int v2), (3, .int (nI i))] [] (fo i (g_X10_lays_T_2 v2) s0) t Q X) h (fun i hi hS => ?_)
  have hP := hN i hi
  rw [fo_succ] at hS
  rw [nI_succ] at hS
  generalize fo i (g_X10_lays_T_2 v2) s0 = s at hS hP ⊢
  unfold Pb_X10_lays_T_2 at hP
  refine r_iload_n dX10_lays_2 3 rfl ?_
  refine r_iload_n dX10_lays_3 2 rfl ?_
  refine r_icmp_ge 43 dX10_lays_4 (by decide) (fun c1 => ?_) (fun c1 => ?_)
  · replace hP := hP.1 c1
    exact hP.elim
  · replace hP := hP.2 c1
    refine r_iconst 0 dX10_lays_7 rfl ?_
    refine r_istore [(4, _), (0, _), (1, _), (2, _), (3, _)] dX10_lays_8 (Nat.le_of_ble_eq_true rfl) rfl ?_
    have hs1 := hP.1
    replace hP := hP.2
    refine r_sub [1, 2, 3, 4, 0] rfl ?_
    refine lp_X10_lays_T_10 hG v2 (nI i) s ((NX10_lays_T_2_10 v2 i s)) (SX10_lays_T_2_10 v2 i s) rfl hs1 ?_
    refine r_iload dX10_lays_10 4 rfl ?_
    refine r_aload_n dX10_lays_12 1 rfl ?_
    refine r_iload_n dX10_lays_13 3 rfl ?_
    have hs2 := hP.1
    replace hP := hP.2
    refine r_aald (hG.lt (by decide)) sh77 hs2 dX10_lays_14 ?_
    refine r_alen 4 (ltR (vp_ix hs2) (by decide) hG) (shr77 _ (vp_ix hs2)) rfl dX10_lays_15 ?_
    refine r_icmp_ge 37 dX10_lays_16 (by decide) (fun c2 => ?_) (fun c2 => ?_)
    · replace hP := hP.1 c2
      refine r_iinc ((nI i) + 1) [(3, _), (0, _), (1, _), (2, _), (4, _)] dX10_lays_37 3 rfl rfl (Nat.le_of_ble_eq_true rfl) rfl ?_
      refine r_goto 2 dX10_lays_40 (by decide) ?_
      have e : g_X10_lays_T_2 v2 i s = (SX10_lays_T_2_10 v2 i s) := by unfold g_X10_lays_T_2; rfl
      rw [e] at hS
      exact r_sub [1, 2, 3, 0] rfl hS
    · replace hP := hP.2 c2
      refine r_aload_n dX10_lays_19 1 rfl ?_
      refine r_iload_n dX10_lays_20 3 rfl ?_
      have hs7 := hP.1
      replace hP := hP.2
      refine r_aald (hG.lt (by decide)) sh77 hs7 dX10_lays_21 ?_
      refine r_iload dX10_lays_22 4 rfl ?_
      refine r_aload_n dX10_lays_24 0 rfl ?_
      refine r_iload_n dX10_lays_25 3 rfl ?_
      have hs8 := hP.1
      replace hP := hP.2
      refine r_aald (hG.lt (by decide)) sh66 hs8 dX10_lays_26 ?_
      refine r_iload dX10_lays_27 4 rfl ?_
      have hs9 := hP.1
      replace hP := hP.2
      refine r_iald (ltR (vp_ix hs8) (by decide) hG) (shr66 _ (vp_ix hs8)) hs9 dX10_lays_29 ?_
      have hs10 := hP.1
      replace hP := hP.2
      refine r_iast (ltR (vp_ix hs7) (by decide) hG) (shr77 _ (vp_ix hs7)) hs10 dX10_lays_30 ?_
      refine r_mu (muX10_lays_T_2_1 v2 i s) rfl ?_
      refine r_iinc ((nI (NX10_lays_T_2_10 v2 i s)) + 1) [(4, _), (0, _), (1, _), (2, _), (3, _)] dX10_lays_31 4 rfl rfl (Nat.le_of_ble_eq_true rfl) rfl ?_
      refine r_goto 10 dX10_lays_34 (by decide) ?_
      exact hP.elim
def NX10_lays_T_2 (p2 : Int32) (μ : Mem) : Nat := ix p2
def SX10_lays_T_2 (p2 : Int32) (μ : Mem) : Mem := fo (NX10_lays_T_2 p2 μ) (g_X10_lays_T_2 p2) μ
def NX10_lays_T_10 (p2 : Int32) (μ : Mem) : Nat := 4
def SX10_lays_T_10 (p2 : Int32) (μ : Mem) : Mem := fo (NX10_lays_T_10 p2 μ) (g_X10_lays_T_10 p2 (nI (NX10_lays_T_2 p2 μ))) (SX10_lays_T_2 p2 μ)
def muX10_lays_T_1 (p2 : Int32) (μ : Mem) : Mem := (upm (SX10_lays_T_10 p2 μ) (78 + (ix (nI (NX10_lays_T_2 p2 μ)))) (ix (nI (NX10_lays_T_10 p2 μ))) ((SX10_lays_T_10 p2 μ) (67 + (ix (nI (NX10_lays_T_2 p2 μ)))) (ix (nI (NX10_lays_T_10 p2 μ)))))
def M_X10_lays_T (p2 : Int32) (μ : Mem) : Mem := (SX10_lays_T_2 p2 μ)
def P_X10_lays_T (p2 : Int32) (μ : Mem) : Prop := ((∀ j9, j9 < (NX10_lays_T_2 p2 μ) → Pb_X10_lays_T_2 p2 j9 (fo j9 (g_X10_lays_T_2 p2) μ)) ∧ ((p2 ≤ (nI (NX10_lays_T_2 p2 μ)) → True) ∧ ((nI (NX10_lays_T_2 p2 μ)) < p2 → ((∀ j9, j9 < (NX10_lays_T_10 p2 μ) → Pb_X10_lays_T_10 p2 (nI (NX10_lays_T_2 p2 μ)) j9 (fo j9 (g_X10_lays_T_10 p2 (nI (NX10_lays_T_2 p2 μ))) (SX10_lays_T_2 p2 μ))) ∧ ((vp_in (nI (NX10_lays_T_2 p2 μ)) 10) ∧ ((4 ≤ (nI (NX10_lays_T_10 p2 μ)) → False) ∧ ((nI (NX10_lays_T_10 p2 μ)) < 4 → ((vp_in (nI (NX10_lays_T_2 p2 μ)) 10) ∧ ((vp_in (nI (NX10_lays_T_2 p2 μ)) 10) ∧ ((vp_in (nI (NX10_lays_T_10 p2 μ)) 4) ∧ ((vp_in (nI (NX10_lays_T_10 p2 μ)) 4) ∧ False)))))))))))
set_option maxRecDepth 20000 in
set_option maxHeartbeats 2000000 in
theorem ok_X10_lays_T {G : SG} (hG : GK 548 G) (p2 : Int32) (μ : Mem) (hP : P_X10_lays_T p2 μ) : OkF G mX10_lays [.ref (ga G 66), .ref (ga G 77), .int p2] μ none (M_X10_lays_T p2 μ) := by
  refine okF_of hG rfl rfl (Nat.le_of_ble_eq_true rfl) ?_
  unfold P_X10_lays_T at hP
  refine r_iconst 0 dX10_lays_0 rfl ?_
  refine r_istore_n [(3, _), (0, _), (1, _), (2, _)] dX10_lays_1 (Nat.le_of_ble_eq_true rfl) rfl ?_
  have hs1 := hP.1
  replace hP := hP.2
  refine r_sub [1, 2, 3, 0] rfl ?_
  refine lp_X10_lays_T_2 hG p2 μ ((NX10_lays_T_2 p2 μ)) (SX10_lays_T_2 p2 μ) rfl hs1 ?_
  refine r_iload_n dX10_lays_2 3 rfl ?_
  refine r_iload_n dX10_lays_3 2 rfl ?_
  refine r_icmp_ge 43 dX10_lays_4 (by decide) (fun c1 => ?_) (fun c1 => ?_)
  · replace hP := hP.1 c1
    exact r_return dX10_lays_43 rfl ⟨rfl, rfl⟩
  · replace hP := hP.2 c1
    refine r_iconst 0 dX10_lays_7 rfl ?_
    refine r_istore [(4, _), (0, _), (1, _), (2, _), (3, _)] dX10_lays_8 (Nat.le_of_ble_eq_true rfl) rfl ?_
    have hs2 := hP.1
    replace hP := hP.2
    refine r_sub [1, 2, 3, 4, 0] rfl ?_
    refine lp_X10_lays_T_10 hG p2 (nI (NX10_lays_T_2 p2 μ)) (SX10_lays_T_2 p2 μ) ((NX10_lays_T_10 p2 μ)) (SX10_lays_T_10 p2 μ) rfl hs2 ?_
    refine r_iload dX10_lays_10 4 rfl ?_
    refine r_aload_n dX10_lays_12 1 rfl ?_
    refine r_iload_n dX10_lays_13 3 rfl ?_
    have hs3 := hP.1
    replace hP := hP.2
    refine r_aald (hG.lt (by decide)) sh77 hs3 dX10_lays_14 ?_
    refine r_alen 4 (ltR (vp_ix hs3) (by decide) hG) (shr77 _ (vp_ix hs3)) rfl dX10_lays_15 ?_
    refine r_icmp_ge 37 dX10_lays_16 (by decide) (fun c2 => ?_) (fun c2 => ?_)
    · replace hP := hP.1 c2
      refine r_iinc ((nI (NX10_lays_T_2 p2 μ)) + 1) [(3, _), (0, _), (1, _), (2, _), (4, _)] dX10_lays_37 3 rfl rfl (Nat.le_of_ble_eq_true rfl) rfl ?_
      refine r_goto 2 dX10_lays_40 (by decide) ?_
      exact hP.elim
    · replace hP := hP.2 c2
      refine r_aload_n dX10_lays_19 1 rfl ?_
      refine r_iload_n dX10_lays_20 3 rfl ?_
      have hs8 := hP.1
      replace hP := hP.2
      refine r_aald (hG.lt (by decide)) sh77 hs8 dX10_lays_21 ?_
      refine r_iload dX10_lays_22 4 rfl ?_
      refine r_aload_n dX10_lays_24 0 rfl ?_
      refine r_iload_n dX10_lays_25 3 rfl ?_
      have hs9 := hP.1
      replace hP := hP.2
      refine r_aald (hG.lt (by decide)) sh66 hs9 dX10_lays_26 ?_
      refine r_iload dX10_lays_27 4 rfl ?_
      have hs10 := hP.1
      replace hP := hP.2
      refine r_iald (ltR (vp_ix hs9) (by decide) hG) (shr66 _ (vp_ix hs9)) hs10 dX10_lays_29 ?_
      have hs11 := hP.1
      replace hP := hP.2
      refine r_iast (ltR (vp_ix hs8) (by decide) hG) (shr77 _ (vp_ix hs8)) hs11 dX10_lays_30 ?_
      refine r_mu (muX10_lays_T_1 p2 μ) rfl ?_
      refine r_iinc ((nI (NX10_lays_T_10 p2 μ)) + 1) [(4, _), (0, _), (1, _), (2, _), (3, _)] dX10_lays_31 4 rfl rfl (Nat.le_of_ble_eq_true rfl) rfl ?_
      refine r_goto 10 dX10_lays_34 (by decide) ?_
      exact hP.elim
def muX10_lays_F_10_1 (v2 : Int32) (v3 : Int32) (i : Nat) (s : Mem) : Mem := (upm s (96 + (ix v3)) (ix (nI i)) (s (89 + (ix v3)) (ix (nI i))))
def g_X10_lays_F_10 (v2 : Int32) (v3 : Int32) (i : Nat) (s : Mem) : Mem := (muX10_lays_F_10_1 v2 v3 i s)
def Pb_X10_lays_F_10 (v2 : Int32) (v3 : Int32) (i : Nat) (s : Mem) : Prop := (vp_in v3 6) ∧ ((2 ≤ (nI i) → False) ∧ ((nI i) < 2 → (vp_in v3 6) ∧ (vp_in v3 6) ∧ (vp_in (nI i) 2) ∧ vp_in (nI i) 2))
set_option maxRecDepth 20000 in
set_option maxHeartbeats 2000000 in
theorem lp_X10_lays_F_10 {G : SG} (hG : GK 548 G)  (v2 : Int32) (v3 : Int32) (s0 : Mem) (N : Nat) (sN : Mem) (eN : sN = fo N (g_X10_lays_F_10 v2 v3) s0) (hN : ∀ i, i < N → Pb_X10_lays_F_10 v2 v3 i (fo i (g_X10_lays_F_10 v2 v3) s0)) {t : Nat} {Q : PQ} {X : PX} (h : R G mX10_lays 10 [(0, .ref (ga G 88)), (1, .ref (ga G 95)), (2, .int v2), (3, .int v3), (4, .int (nI N))] [] sN t Q X) : R G mX10_lays 10 [(0, .ref (ga G 88)), (1, .ref (ga G 95)), (2, .int v2), (3, .int v3), (4, .int 0)] [] s0 t Q X := by
  subst eN
  refine down_i N (fun i => R G mX10_lays 10 [(0, .ref (ga G 88)), (1, .ref (ga G 95)), (2, .int v2), (3, .int v3), (4, .int (nI i))] [] (fo i (g_X10_lays_F_10 v2 v3) s0) t Q X) h (fun i hi hS => ?_)
  have hP := hN i hi
  rw [fo_succ] at hS
  rw [nI_succ] at hS
  generalize fo i (g_X10_lays_F_10 v2 v3) s0 = s at hS hP ⊢
  unfold Pb_X10_lays_F_10 at hP
  refine r_iload dX10_lays_10 4 rfl ?_
  refine r_aload_n dX10_lays_12 1 rfl ?_
  refine r_iload_n dX10_lays_13 3 rfl ?_
  have hs1 := hP.1
  replace hP := hP.2
  refine r_aald (hG.lt (by decide)) sh95 hs1 dX10_lays_14 ?_
  refine r_alen 2 (ltR (vp_ix hs1) (by decide) hG) (shr95 _ (vp_ix hs1)) rfl dX10_lays_15 ?_
  refine r_icmp_ge 37 dX10_lays_16 (by decide) (fun c1 => ?_) (fun c1 => ?_)
  · replace hP := hP.1 c1
    exact hP.elim
  · replace hP := hP.2 c1
    refine r_aload_n dX10_lays_19 1 rfl ?_
    refine r_iload_n dX10_lays_20 3 rfl ?_
    have hs2 := hP.1
    replace hP := hP.2
    refine r_aald (hG.lt (by decide)) sh95 hs2 dX10_lays_21 ?_
    refine r_iload dX10_lays_22 4 rfl ?_
    refine r_aload_n dX10_lays_24 0 rfl ?_
    refine r_iload_n dX10_lays_25 3 rfl ?_
    have hs3 := hP.1
    replace hP := hP.2
    refine r_aald (hG.lt (by decide)) sh88 hs3 dX10_lays_26 ?_
    refine r_iload dX10_lays_27 4 rfl ?_
    have hs4 := hP.1
    replace hP := hP.2
    refine r_iald (ltR (vp_ix hs3) (by decide) hG) (shr88 _ (vp_ix hs3)) hs4 dX10_lays_29 ?_
    have hs5 := hP
    refine r_iast (ltR (vp_ix hs2) (by decide) hG) (shr95 _ (vp_ix hs2)) hs5 dX10_lays_30 ?_
    refine r_mu (muX10_lays_F_10_1 v2 v3 i s) rfl ?_
    refine r_iinc ((nI i) + 1) [(4, _), (0, _), (1, _), (2, _), (3, _)] dX10_lays_31 4 rfl rfl (Nat.le_of_ble_eq_true rfl) rfl ?_
    refine r_goto 10 dX10_lays_34 (by decide) ?_
    have e : g_X10_lays_F_10 v2 v3 i s = (muX10_lays_F_10_1 v2 v3 i s) := by unfold g_X10_lays_F_10; rfl
    rw [e] at hS
    exact r_sub [1, 2, 3, 4, 0] rfl hS
def NX10_lays_F_2_10 (v2 : Int32) (i : Nat) (s : Mem) : Nat := 2
def SX10_lays_F_2_10 (v2 : Int32) (i : Nat) (s : Mem) : Mem := fo (NX10_lays_F_2_10 v2 i s) (g_X10_lays_F_10 v2 (nI i)) s
def muX10_lays_F_2_1 (v2 : Int32) (i : Nat) (s : Mem) : Mem := (upm (SX10_lays_F_2_10 v2 i s) (96 + (ix (nI i))) (ix (nI (NX10_lays_F_2_10 v2 i s))) ((SX10_lays_F_2_10 v2 i s) (89 + (ix (nI i))) (ix (nI (NX10_lays_F_2_10 v2 i s)))))
def g_X10_lays_F_2 (v2 : Int32) (i : Nat) (s : Mem) : Mem := (SX10_lays_F_2_10 v2 i s)
def Pb_X10_lays_F_2 (v2 : Int32) (i : Nat) (s : Mem) : Prop := ((v2 ≤ (nI i) → False) ∧ ((nI i) < v2 → (∀ j9, j9 < (NX10_lays_F_2_10 v2 i s) → Pb_X10_lays_F_10 v2 (nI i) j9 (fo j9 (g_X10_lays_F_10 v2 (nI i)) s)) ∧ (vp_in (nI i) 6) ∧ ((2 ≤ (nI (NX10_lays_F_2_10 v2 i s)) → True) ∧ ((nI (NX10_lays_F_2_10 v2 i s)) < 2 → (vp_in (nI i) 6) ∧ (vp_in (nI i) 6) ∧ (vp_in (nI (NX10_lays_F_2_10 v2 i s)) 2) ∧ (vp_in (nI (NX10_lays_F_2_10 v2 i s)) 2) ∧ False))))
set_option maxRecDepth 20000 in
set_option maxHeartbeats 2000000 in
theorem lp_X10_lays_F_2 {G : SG} (hG : GK 548 G)  (v2 : Int32) (s0 : Mem) (N : Nat) (sN : Mem) (eN : sN = fo N (g_X10_lays_F_2 v2) s0) (hN : ∀ i, i < N → Pb_X10_lays_F_2 v2 i (fo i (g_X10_lays_F_2 v2) s0)) {t : Nat} {Q : PQ} {X : PX} (h : R G mX10_lays 2 [(0, .ref (ga G 88)), (1, .ref (ga G 95)), (2, .int v2), (3, .int (nI N))] [] sN t Q X) : R G mX10_lays 2 [(0, .ref (ga G 88)), (1, .ref (ga G 95)), (2, .int v2), (3, .int 0)] [] s0 t Q X := by
  subst eN
  refine down_i N (fun i => R G mX10_lays 2 [(0, .ref (ga G 88)), (1, .ref (ga G 95)), (2, .int v2), (3, .int (nI i))] [] (fo i (g_X10_lays_F_2 v2) s0) t Q X) h (fun i hi hS => ?_)
  have hP := hN i hi
  rw [fo_succ] at hS
  rw [nI_succ] at hS
  generalize fo i (g_X10_lays_F_2 v2) s0 = s at hS hP ⊢
  unfold Pb_X10_lays_F_2 at hP
  refine r_iload_n dX10_lays_2 3 rfl ?_
  refine r_iload_n dX10_lays_3 2 rfl ?_
  refine r_icmp_ge 43 dX10_lays_4 (by decide) (fun c1 => ?_) (fun c1 => ?_)
  · replace hP := hP.1 c1
    exact hP.elim
  · replace hP := hP.2 c1
    refine r_iconst 0 dX10_lays_7 rfl ?_
    refine r_istore [(4, _), (0, _), (1, _), (2, _), (3, _)] dX10_lays_8 (Nat.le_of_ble_eq_true rfl) rfl ?_
    have hs1 := hP.1
    replace hP := hP.2
    refine r_sub [1, 2, 3, 4, 0] rfl ?_
    refine lp_X10_lays_F_10 hG v2 (nI i) s ((NX10_lays_F_2_10 v2 i s)) (SX10_lays_F_2_10 v2 i s) rfl hs1 ?_
    refine r_iload dX10_lays_10 4 rfl ?_
    refine r_aload_n dX10_lays_12 1 rfl ?_
    refine r_iload_n dX10_lays_13 3 rfl ?_
    have hs2 := hP.1
    replace hP := hP.2
    refine r_aald (hG.lt (by decide)) sh95 hs2 dX10_lays_14 ?_
    refine r_alen 2 (ltR (vp_ix hs2) (by decide) hG) (shr95 _ (vp_ix hs2)) rfl dX10_lays_15 ?_
    refine r_icmp_ge 37 dX10_lays_16 (by decide) (fun c2 => ?_) (fun c2 => ?_)
    · replace hP := hP.1 c2
      refine r_iinc ((nI i) + 1) [(3, _), (0, _), (1, _), (2, _), (4, _)] dX10_lays_37 3 rfl rfl (Nat.le_of_ble_eq_true rfl) rfl ?_
      refine r_goto 2 dX10_lays_40 (by decide) ?_
      have e : g_X10_lays_F_2 v2 i s = (SX10_lays_F_2_10 v2 i s) := by unfold g_X10_lays_F_2; rfl
      rw [e] at hS
      exact r_sub [1, 2, 3, 0] rfl hS
    · replace hP := hP.2 c2
      refine r_aload_n dX10_lays_19 1 rfl ?_
      refine r_iload_n dX10_lays_20 3 rfl ?_
      have hs7 := hP.1
      replace hP := hP.2
      refine r_aald (hG.lt (by decide)) sh95 hs7 dX10_lays_21 ?_
      refine r_iload dX10_lays_22 4 rfl ?_
      refine r_aload_n dX10_lays_24 0 rfl ?_
      refine r_iload_n dX10_lays_25 3 rfl ?_
      have hs8 := hP.1
      replace hP := hP.2
      refine r_aald (hG.lt (by decide)) sh88 hs8 dX10_lays_26 ?_
      refine r_iload dX10_lays_27 4 rfl ?_
      have hs9 := hP.1
      replace hP := hP.2
      refine r_iald (ltR (vp_ix hs8) (by decide) hG) (shr88 _ (vp_ix hs8)) hs9 dX10_lays_29 ?_
      have hs10 := hP.1
      replace hP := hP.2
      refine r_iast (ltR (vp_ix hs7) (by decide) hG) (shr95 _ (vp_ix hs7)) hs10 dX10_lays_30 ?_
      refine r_mu (muX10_lays_F_2_1 v2 i s) rfl ?_
      refine r_iinc ((nI (NX10_lays_F_2_10 v2 i s)) + 1) [(4, _), (0, _), (1, _), (2, _), (3, _)] dX10_lays_31 4 rfl rfl (Nat.le_of_ble_eq_true rfl) rfl ?_
      refine r_goto 10 dX10_lays_34 (by decide) ?_
      exact hP.elim
def NX10_lays_F_2 (p2 : Int32) (μ : Mem) : Nat := ix p2
def SX10_lays_F_2 (p2 : Int32) (μ : Mem) : Mem := fo (NX10_lays_F_2 p2 μ) (g_X10_lays_F_2 p2) μ
def NX10_lays_F_10 (p2 : Int32) (μ : Mem) : Nat := 2
def SX10_lays_F_10 (p2 : Int32) (μ : Mem) : Mem := fo (NX10_lays_F_10 p2 μ) (g_X10_lays_F_10 p2 (nI (NX10_lays_F_2 p2 μ))) (SX10_lays_F_2 p2 μ)
def muX10_lays_F_1 (p2 : Int32) (μ : Mem) : Mem := (upm (SX10_lays_F_10 p2 μ) (96 + (ix (nI (NX10_lays_F_2 p2 μ)))) (ix (nI (NX10_lays_F_10 p2 μ))) ((SX10_lays_F_10 p2 μ) (89 + (ix (nI (NX10_lays_F_2 p2 μ)))) (ix (nI (NX10_lays_F_10 p2 μ)))))
def M_X10_lays_F (p2 : Int32) (μ : Mem) : Mem := (SX10_lays_F_2 p2 μ)
def P_X10_lays_F (p2 : Int32) (μ : Mem) : Prop := ((∀ j9, j9 < (NX10_lays_F_2 p2 μ) → Pb_X10_lays_F_2 p2 j9 (fo j9 (g_X10_lays_F_2 p2) μ)) ∧ ((p2 ≤ (nI (NX10_lays_F_2 p2 μ)) → True) ∧ ((nI (NX10_lays_F_2 p2 μ)) < p2 → ((∀ j9, j9 < (NX10_lays_F_10 p2 μ) → Pb_X10_lays_F_10 p2 (nI (NX10_lays_F_2 p2 μ)) j9 (fo j9 (g_X10_lays_F_10 p2 (nI (NX10_lays_F_2 p2 μ))) (SX10_lays_F_2 p2 μ))) ∧ ((vp_in (nI (NX10_lays_F_2 p2 μ)) 6) ∧ ((2 ≤ (nI (NX10_lays_F_10 p2 μ)) → False) ∧ ((nI (NX10_lays_F_10 p2 μ)) < 2 → ((vp_in (nI (NX10_lays_F_2 p2 μ)) 6) ∧ ((vp_in (nI (NX10_lays_F_2 p2 μ)) 6) ∧ ((vp_in (nI (NX10_lays_F_10 p2 μ)) 2) ∧ ((vp_in (nI (NX10_lays_F_10 p2 μ)) 2) ∧ False)))))))))))
set_option maxRecDepth 20000 in
set_option maxHeartbeats 2000000 in
theorem ok_X10_lays_F {G : SG} (hG : GK 548 G) (p2 : Int32) (μ : Mem) (hP : P_X10_lays_F p2 μ) : OkF G mX10_lays [.ref (ga G 88), .ref (ga G 95), .int p2] μ none (M_X10_lays_F p2 μ) := by
  refine okF_of hG rfl rfl (Nat.le_of_ble_eq_true rfl) ?_
  unfold P_X10_lays_F at hP
  refine r_iconst 0 dX10_lays_0 rfl ?_
  refine r_istore_n [(3, _), (0, _), (1, _), (2, _)] dX10_lays_1 (Nat.le_of_ble_eq_true rfl) rfl ?_
  have hs1 := hP.1
  replace hP := hP.2
  refine r_sub [1, 2, 3, 0] rfl ?_
  refine lp_X10_lays_F_2 hG p2 μ ((NX10_lays_F_2 p2 μ)) (SX10_lays_F_2 p2 μ) rfl hs1 ?_
  refine r_iload_n dX10_lays_2 3 rfl ?_
  refine r_iload_n dX10_lays_3 2 rfl ?_
  refine r_icmp_ge 43 dX10_lays_4 (by decide) (fun c1 => ?_) (fun c1 => ?_)
  · replace hP := hP.1 c1
    exact r_return dX10_lays_43 rfl ⟨rfl, rfl⟩
  · replace hP := hP.2 c1
    refine r_iconst 0 dX10_lays_7 rfl ?_
    refine r_istore [(4, _), (0, _), (1, _), (2, _), (3, _)] dX10_lays_8 (Nat.le_of_ble_eq_true rfl) rfl ?_
    have hs2 := hP.1
    replace hP := hP.2
    refine r_sub [1, 2, 3, 4, 0] rfl ?_
    refine lp_X10_lays_F_10 hG p2 (nI (NX10_lays_F_2 p2 μ)) (SX10_lays_F_2 p2 μ) ((NX10_lays_F_10 p2 μ)) (SX10_lays_F_10 p2 μ) rfl hs2 ?_
    refine r_iload dX10_lays_10 4 rfl ?_
    refine r_aload_n dX10_lays_12 1 rfl ?_
    refine r_iload_n dX10_lays_13 3 rfl ?_
    have hs3 := hP.1
    replace hP := hP.2
    refine r_aald (hG.lt (by decide)) sh95 hs3 dX10_lays_14 ?_
    refine r_alen 2 (ltR (vp_ix hs3) (by decide) hG) (shr95 _ (vp_ix hs3)) rfl dX10_lays_15 ?_
    refine r_icmp_ge 37 dX10_lays_16 (by decide) (fun c2 => ?_) (fun c2 => ?_)
    · replace hP := hP.1 c2
      refine r_iinc ((nI (NX10_lays_F_2 p2 μ)) + 1) [(3, _), (0, _), (1, _), (2, _), (4, _)] dX10_lays_37 3 rfl rfl (Nat.le_of_ble_eq_true rfl) rfl ?_
      refine r_goto 2 dX10_lays_40 (by decide) ?_
      exact hP.elim
    · replace hP := hP.2 c2
      refine r_aload_n dX10_lays_19 1 rfl ?_
      refine r_iload_n dX10_lays_20 3 rfl ?_
      have hs8 := hP.1
      replace hP := hP.2
      refine r_aald (hG.lt (by decide)) sh95 hs8 dX10_lays_21 ?_
      refine r_iload dX10_lays_22 4 rfl ?_
      refine r_aload_n dX10_lays_24 0 rfl ?_
      refine r_iload_n dX10_lays_25 3 rfl ?_
      have hs9 := hP.1
      replace hP := hP.2
      refine r_aald (hG.lt (by decide)) sh88 hs9 dX10_lays_26 ?_
      refine r_iload dX10_lays_27 4 rfl ?_
      have hs10 := hP.1
      replace hP := hP.2
      refine r_iald (ltR (vp_ix hs9) (by decide) hG) (shr88 _ (vp_ix hs9)) hs10 dX10_lays_29 ?_
      have hs11 := hP.1
      replace hP := hP.2
      refine r_iast (ltR (vp_ix hs8) (by decide) hG) (shr95 _ (vp_ix hs8)) hs11 dX10_lays_30 ?_
      refine r_mu (muX10_lays_F_1 p2 μ) rfl ?_
      refine r_iinc ((nI (NX10_lays_F_10 p2 μ)) + 1) [(4, _), (0, _), (1, _), (2, _), (3, _)] dX10_lays_31 4 rfl rfl (Nat.le_of_ble_eq_true rfl) rfl ?_
      refine r_goto 10 dX10_lays_34 (by decide) ?_
      exact hP.elim
def muX10_lays_L_10_1 (v2 : Int32) (v3 : Int32) (i : Nat) (s : Mem) : Mem := (upm s (103 + (ix v3)) (ix (nI i)) (s (264 + (ix v3)) (ix (nI i))))
def g_X10_lays_L_10 (v2 : Int32) (v3 : Int32) (i : Nat) (s : Mem) : Mem := (muX10_lays_L_10_1 v2 v3 i s)
def Pb_X10_lays_L_10 (v2 : Int32) (v3 : Int32) (i : Nat) (s : Mem) : Prop := (vp_in v3 160) ∧ ((2 ≤ (nI i) → False) ∧ ((nI i) < 2 → (vp_in v3 160) ∧ (vp_in v3 160) ∧ (vp_in (nI i) 2) ∧ vp_in (nI i) 2))
set_option maxRecDepth 20000 in
set_option maxHeartbeats 2000000 in
theorem lp_X10_lays_L_10 {G : SG} (hG : GK 548 G)  (v2 : Int32) (v3 : Int32) (s0 : Mem) (N : Nat) (sN : Mem) (eN : sN = fo N (g_X10_lays_L_10 v2 v3) s0) (hN : ∀ i, i < N → Pb_X10_lays_L_10 v2 v3 i (fo i (g_X10_lays_L_10 v2 v3) s0)) {t : Nat} {Q : PQ} {X : PX} (h : R G mX10_lays 10 [(0, .ref (ga G 263)), (1, .ref (ga G 102)), (2, .int v2), (3, .int v3), (4, .int (nI N))] [] sN t Q X) : R G mX10_lays 10 [(0, .ref (ga G 263)), (1, .ref (ga G 102)), (2, .int v2), (3, .int v3), (4, .int 0)] [] s0 t Q X := by
  subst eN
  refine down_i N (fun i => R G mX10_lays 10 [(0, .ref (ga G 263)), (1, .ref (ga G 102)), (2, .int v2), (3, .int v3), (4, .int (nI i))] [] (fo i (g_X10_lays_L_10 v2 v3) s0) t Q X) h (fun i hi hS => ?_)
  have hP := hN i hi
  rw [fo_succ] at hS
  rw [nI_succ] at hS
  generalize fo i (g_X10_lays_L_10 v2 v3) s0 = s at hS hP ⊢
  unfold Pb_X10_lays_L_10 at hP
  refine r_iload dX10_lays_10 4 rfl ?_
  refine r_aload_n dX10_lays_12 1 rfl ?_
  refine r_iload_n dX10_lays_13 3 rfl ?_
  have hs1 := hP.1
  replace hP := hP.2
  refine r_aald (hG.lt (by decide)) sh102 hs1 dX10_lays_14 ?_
  refine r_alen 2 (ltR (vp_ix hs1) (by decide) hG) (shr102 _ (vp_ix hs1)) rfl dX10_lays_15 ?_
  refine r_icmp_ge 37 dX10_lays_16 (by decide) (fun c1 => ?_) (fun c1 => ?_)
  · replace hP := hP.1 c1
    exact hP.elim
  · replace hP := hP.2 c1
    refine r_aload_n dX10_lays_19 1 rfl ?_
    refine r_iload_n dX10_lays_20 3 rfl ?_
    have hs2 := hP.1
    replace hP := hP.2
    refine r_aald (hG.lt (by decide)) sh102 hs2 dX10_lays_21 ?_
    refine r_iload dX10_lays_22 4 rfl ?_
    refine r_aload_n dX10_lays_24 0 rfl ?_
    refine r_iload_n dX10_lays_25 3 rfl ?_
    have hs3 := hP.1
    replace hP := hP.2
    refine r_aald (hG.lt (by decide)) sh263 hs3 dX10_lays_26 ?_
    refine r_iload dX10_lays_27 4 rfl ?_
    have hs4 := hP.1
    replace hP := hP.2
    refine r_iald (ltR (vp_ix hs3) (by decide) hG) (shr263 _ (vp_ix hs3)) hs4 dX10_lays_29 ?_
    have hs5 := hP
    refine r_iast (ltR (vp_ix hs2) (by decide) hG) (shr102 _ (vp_ix hs2)) hs5 dX10_lays_30 ?_
    refine r_mu (muX10_lays_L_10_1 v2 v3 i s) rfl ?_
    refine r_iinc ((nI i) + 1) [(4, _), (0, _), (1, _), (2, _), (3, _)] dX10_lays_31 4 rfl rfl (Nat.le_of_ble_eq_true rfl) rfl ?_
    refine r_goto 10 dX10_lays_34 (by decide) ?_
    have e : g_X10_lays_L_10 v2 v3 i s = (muX10_lays_L_10_1 v2 v3 i s) := by unfold g_X10_lays_L_10; rfl
    rw [e] at hS
    exact r_sub [1, 2, 3, 4, 0] rfl hS
def NX10_lays_L_2_10 (v2 : Int32) (i : Nat) (s : Mem) : Nat := 2
def SX10_lays_L_2_10 (v2 : Int32) (i : Nat) (s : Mem) : Mem := fo (NX10_lays_L_2_10 v2 i s) (g_X10_lays_L_10 v2 (nI i)) s
def muX10_lays_L_2_1 (v2 : Int32) (i : Nat) (s : Mem) : Mem := (upm (SX10_lays_L_2_10 v2 i s) (103 + (ix (nI i))) (ix (nI (NX10_lays_L_2_10 v2 i s))) ((SX10_lays_L_2_10 v2 i s) (264 + (ix (nI i))) (ix (nI (NX10_lays_L_2_10 v2 i s)))))
def g_X10_lays_L_2 (v2 : Int32) (i : Nat) (s : Mem) : Mem := (SX10_lays_L_2_10 v2 i s)
def Pb_X10_lays_L_2 (v2 : Int32) (i : Nat) (s : Mem) : Prop := ((v2 ≤ (nI i) → False) ∧ ((nI i) < v2 → (∀ j9, j9 < (NX10_lays_L_2_10 v2 i s) → Pb_X10_lays_L_10 v2 (nI i) j9 (fo j9 (g_X10_lays_L_10 v2 (nI i)) s)) ∧ (vp_in (nI i) 160) ∧ ((2 ≤ (nI (NX10_lays_L_2_10 v2 i s)) → True) ∧ ((nI (NX10_lays_L_2_10 v2 i s)) < 2 → (vp_in (nI i) 160) ∧ (vp_in (nI i) 160) ∧ (vp_in (nI (NX10_lays_L_2_10 v2 i s)) 2) ∧ (vp_in (nI (NX10_lays_L_2_10 v2 i s)) 2) ∧ False))))
set_option maxRecDepth 20000 in
set_option maxHeartbeats 2000000 in
theorem lp_X10_lays_L_2 {G : SG} (hG : GK 548 G)  (v2 : Int32) (s0 : Mem) (N : Nat) (sN : Mem) (eN : sN = fo N (g_X10_lays_L_2 v2) s0) (hN : ∀ i, i < N → Pb_X10_lays_L_2 v2 i (fo i (g_X10_lays_L_2 v2) s0)) {t : Nat} {Q : PQ} {X : PX} (h : R G mX10_lays 2 [(0, .ref (ga G 263)), (1, .ref (ga G 102)), (2, .int v2), (3, .int (nI N))] [] sN t Q X) : R G mX10_lays 2 [(0, .ref (ga G 263)), (1, .ref (ga G 102)), (2, .int v2), (3, .int 0)] [] s0 t Q X := by
  subst eN
  refine down_i N (fun i => R G mX10_lays 2 [(0, .ref (ga G 263)), (1, .ref (ga G 102)), (2, .int v2), (3, .int (nI i))] [] (fo i (g_X10_lays_L_2 v2) s0) t Q X) h (fun i hi hS => ?_)
  have hP := hN i hi
  rw [fo_succ] at hS
  rw [nI_succ] at hS
  generalize fo i (g_X10_lays_L_2 v2) s0 = s at hS hP ⊢
  unfold Pb_X10_lays_L_2 at hP
  refine r_iload_n dX10_lays_2 3 rfl ?_
  refine r_iload_n dX10_lays_3 2 rfl ?_
  refine r_icmp_ge 43 dX10_lays_4 (by decide) (fun c1 => ?_) (fun c1 => ?_)
  · replace hP := hP.1 c1
    exact hP.elim
  · replace hP := hP.2 c1
    refine r_iconst 0 dX10_lays_7 rfl ?_
    refine r_istore [(4, _), (0, _), (1, _), (2, _), (3, _)] dX10_lays_8 (Nat.le_of_ble_eq_true rfl) rfl ?_
    have hs1 := hP.1
    replace hP := hP.2
    refine r_sub [1, 2, 3, 4, 0] rfl ?_
    refine lp_X10_lays_L_10 hG v2 (nI i) s ((NX10_lays_L_2_10 v2 i s)) (SX10_lays_L_2_10 v2 i s) rfl hs1 ?_
    refine r_iload dX10_lays_10 4 rfl ?_
    refine r_aload_n dX10_lays_12 1 rfl ?_
    refine r_iload_n dX10_lays_13 3 rfl ?_
    have hs2 := hP.1
    replace hP := hP.2
    refine r_aald (hG.lt (by decide)) sh102 hs2 dX10_lays_14 ?_
    refine r_alen 2 (ltR (vp_ix hs2) (by decide) hG) (shr102 _ (vp_ix hs2)) rfl dX10_lays_15 ?_
    refine r_icmp_ge 37 dX10_lays_16 (by decide) (fun c2 => ?_) (fun c2 => ?_)
    · replace hP := hP.1 c2
      refine r_iinc ((nI i) + 1) [(3, _), (0, _), (1, _), (2, _), (4, _)] dX10_lays_37 3 rfl rfl (Nat.le_of_ble_eq_true rfl) rfl ?_
      refine r_goto 2 dX10_lays_40 (by decide) ?_
      have e : g_X10_lays_L_2 v2 i s = (SX10_lays_L_2_10 v2 i s) := by unfold g_X10_lays_L_2; rfl
      rw [e] at hS
      exact r_sub [1, 2, 3, 0] rfl hS
    · replace hP := hP.2 c2
      refine r_aload_n dX10_lays_19 1 rfl ?_
      refine r_iload_n dX10_lays_20 3 rfl ?_
      have hs7 := hP.1
      replace hP := hP.2
      refine r_aald (hG.lt (by decide)) sh102 hs7 dX10_lays_21 ?_
      refine r_iload dX10_lays_22 4 rfl ?_
      refine r_aload_n dX10_lays_24 0 rfl ?_
      refine r_iload_n dX10_lays_25 3 rfl ?_
      have hs8 := hP.1
      replace hP := hP.2
      refine r_aald (hG.lt (by decide)) sh263 hs8 dX10_lays_26 ?_
      refine r_iload dX10_lays_27 4 rfl ?_
      have hs9 := hP.1
      replace hP := hP.2
      refine r_iald (ltR (vp_ix hs8) (by decide) hG) (shr263 _ (vp_ix hs8)) hs9 dX10_lays_29 ?_
      have hs10 := hP.1
      replace hP := hP.2
      refine r_iast (ltR (vp_ix hs7) (by decide) hG) (shr102 _ (vp_ix hs7)) hs10 dX10_lays_30 ?_
      refine r_mu (muX10_lays_L_2_1 v2 i s) rfl ?_
      refine r_iinc ((nI (NX10_lays_L_2_10 v2 i s)) + 1) [(4, _), (0, _), (1, _), (2, _), (3, _)] dX10_lays_31 4 rfl rfl (Nat.le_of_ble_eq_true rfl) rfl ?_
      refine r_goto 10 dX10_lays_34 (by decide) ?_
      exact hP.elim
def NX10_lays_L_2 (p2 : Int32) (μ : Mem) : Nat := ix p2
def SX10_lays_L_2 (p2 : Int32) (μ : Mem) : Mem := fo (NX10_lays_L_2 p2 μ) (g_X10_lays_L_2 p2) μ
def NX10_lays_L_10 (p2 : Int32) (μ : Mem) : Nat := 2
def SX10_lays_L_10 (p2 : Int32) (μ : Mem) : Mem := fo (NX10_lays_L_10 p2 μ) (g_X10_lays_L_10 p2 (nI (NX10_lays_L_2 p2 μ))) (SX10_lays_L_2 p2 μ)
def muX10_lays_L_1 (p2 : Int32) (μ : Mem) : Mem := (upm (SX10_lays_L_10 p2 μ) (103 + (ix (nI (NX10_lays_L_2 p2 μ)))) (ix (nI (NX10_lays_L_10 p2 μ))) ((SX10_lays_L_10 p2 μ) (264 + (ix (nI (NX10_lays_L_2 p2 μ)))) (ix (nI (NX10_lays_L_10 p2 μ)))))
def M_X10_lays_L (p2 : Int32) (μ : Mem) : Mem := (SX10_lays_L_2 p2 μ)
def P_X10_lays_L (p2 : Int32) (μ : Mem) : Prop := ((∀ j9, j9 < (NX10_lays_L_2 p2 μ) → Pb_X10_lays_L_2 p2 j9 (fo j9 (g_X10_lays_L_2 p2) μ)) ∧ ((p2 ≤ (nI (NX10_lays_L_2 p2 μ)) → True) ∧ ((nI (NX10_lays_L_2 p2 μ)) < p2 → ((∀ j9, j9 < (NX10_lays_L_10 p2 μ) → Pb_X10_lays_L_10 p2 (nI (NX10_lays_L_2 p2 μ)) j9 (fo j9 (g_X10_lays_L_10 p2 (nI (NX10_lays_L_2 p2 μ))) (SX10_lays_L_2 p2 μ))) ∧ ((vp_in (nI (NX10_lays_L_2 p2 μ)) 160) ∧ ((2 ≤ (nI (NX10_lays_L_10 p2 μ)) → False) ∧ ((nI (NX10_lays_L_10 p2 μ)) < 2 → ((vp_in (nI (NX10_lays_L_2 p2 μ)) 160) ∧ ((vp_in (nI (NX10_lays_L_2 p2 μ)) 160) ∧ ((vp_in (nI (NX10_lays_L_10 p2 μ)) 2) ∧ ((vp_in (nI (NX10_lays_L_10 p2 μ)) 2) ∧ False)))))))))))
set_option maxRecDepth 20000 in
set_option maxHeartbeats 2000000 in
theorem ok_X10_lays_L {G : SG} (hG : GK 548 G) (p2 : Int32) (μ : Mem) (hP : P_X10_lays_L p2 μ) : OkF G mX10_lays [.ref (ga G 263), .ref (ga G 102), .int p2] μ none (M_X10_lays_L p2 μ) := by
  refine okF_of hG rfl rfl (Nat.le_of_ble_eq_true rfl) ?_
  unfold P_X10_lays_L at hP
  refine r_iconst 0 dX10_lays_0 rfl ?_
  refine r_istore_n [(3, _), (0, _), (1, _), (2, _)] dX10_lays_1 (Nat.le_of_ble_eq_true rfl) rfl ?_
  have hs1 := hP.1
  replace hP := hP.2
  refine r_sub [1, 2, 3, 0] rfl ?_
  refine lp_X10_lays_L_2 hG p2 μ ((NX10_lays_L_2 p2 μ)) (SX10_lays_L_2 p2 μ) rfl hs1 ?_
  refine r_iload_n dX10_lays_2 3 rfl ?_
  refine r_iload_n dX10_lays_3 2 rfl ?_
  refine r_icmp_ge 43 dX10_lays_4 (by decide) (fun c1 => ?_) (fun c1 => ?_)
  · replace hP := hP.1 c1
    exact r_return dX10_lays_43 rfl ⟨rfl, rfl⟩
  · replace hP := hP.2 c1
    refine r_iconst 0 dX10_lays_7 rfl ?_
    refine r_istore [(4, _), (0, _), (1, _), (2, _), (3, _)] dX10_lays_8 (Nat.le_of_ble_eq_true rfl) rfl ?_
    have hs2 := hP.1
    replace hP := hP.2
    refine r_sub [1, 2, 3, 4, 0] rfl ?_
    refine lp_X10_lays_L_10 hG p2 (nI (NX10_lays_L_2 p2 μ)) (SX10_lays_L_2 p2 μ) ((NX10_lays_L_10 p2 μ)) (SX10_lays_L_10 p2 μ) rfl hs2 ?_
    refine r_iload dX10_lays_10 4 rfl ?_
    refine r_aload_n dX10_lays_12 1 rfl ?_
    refine r_iload_n dX10_lays_13 3 rfl ?_
    have hs3 := hP.1
    replace hP := hP.2
    refine r_aald (hG.lt (by decide)) sh102 hs3 dX10_lays_14 ?_
    refine r_alen 2 (ltR (vp_ix hs3) (by decide) hG) (shr102 _ (vp_ix hs3)) rfl dX10_lays_15 ?_
    refine r_icmp_ge 37 dX10_lays_16 (by decide) (fun c2 => ?_) (fun c2 => ?_)
    · replace hP := hP.1 c2
      refine r_iinc ((nI (NX10_lays_L_2 p2 μ)) + 1) [(3, _), (0, _), (1, _), (2, _), (4, _)] dX10_lays_37 3 rfl rfl (Nat.le_of_ble_eq_true rfl) rfl ?_
      refine r_goto 2 dX10_lays_40 (by decide) ?_
      exact hP.elim
    · replace hP := hP.2 c2
      refine r_aload_n dX10_lays_19 1 rfl ?_
      refine r_iload_n dX10_lays_20 3 rfl ?_
      have hs8 := hP.1
      replace hP := hP.2
      refine r_aald (hG.lt (by decide)) sh102 hs8 dX10_lays_21 ?_
      refine r_iload dX10_lays_22 4 rfl ?_
      refine r_aload_n dX10_lays_24 0 rfl ?_
      refine r_iload_n dX10_lays_25 3 rfl ?_
      have hs9 := hP.1
      replace hP := hP.2
      refine r_aald (hG.lt (by decide)) sh263 hs9 dX10_lays_26 ?_
      refine r_iload dX10_lays_27 4 rfl ?_
      have hs10 := hP.1
      replace hP := hP.2
      refine r_iald (ltR (vp_ix hs9) (by decide) hG) (shr263 _ (vp_ix hs9)) hs10 dX10_lays_29 ?_
      have hs11 := hP.1
      replace hP := hP.2
      refine r_iast (ltR (vp_ix hs8) (by decide) hG) (shr102 _ (vp_ix hs8)) hs11 dX10_lays_30 ?_
      refine r_mu (muX10_lays_L_1 p2 μ) rfl ?_
      refine r_iinc ((nI (NX10_lays_L_10 p2 μ)) + 1) [(4, _), (0, _), (1, _), (2, _), (3, _)] dX10_lays_31 4 rfl rfl (Nat.le_of_ble_eq_true rfl) rfl ?_
      refine r_goto 10 dX10_lays_34 (by decide) ?_
      exact hP.elim
def muX10_lays_S_10_1 (v2 : Int32) (v3 : Int32) (i : Nat) (s : Mem) : Mem := (upm s (425 + (ix v3)) (ix (nI i)) (s (432 + (ix v3)) (ix (nI i))))
def g_X10_lays_S_10 (v2 : Int32) (v3 : Int32) (i : Nat) (s : Mem) : Mem := (muX10_lays_S_10_1 v2 v3 i s)
def Pb_X10_lays_S_10 (v2 : Int32) (v3 : Int32) (i : Nat) (s : Mem) : Prop := (vp_in v3 6) ∧ ((2 ≤ (nI i) → False) ∧ ((nI i) < 2 → (vp_in v3 6) ∧ (vp_in v3 6) ∧ (vp_in (nI i) 2) ∧ vp_in (nI i) 2))
set_option maxRecDepth 20000 in
set_option maxHeartbeats 2000000 in
theorem lp_X10_lays_S_10 {G : SG} (hG : GK 548 G)  (v2 : Int32) (v3 : Int32) (s0 : Mem) (N : Nat) (sN : Mem) (eN : sN = fo N (g_X10_lays_S_10 v2 v3) s0) (hN : ∀ i, i < N → Pb_X10_lays_S_10 v2 v3 i (fo i (g_X10_lays_S_10 v2 v3) s0)) {t : Nat} {Q : PQ} {X : PX} (h : R G mX10_lays 10 [(0, .ref (ga G 431)), (1, .ref (ga G 424)), (2, .int v2), (3, .int v3), (4, .int (nI N))] [] sN t Q X) : R G mX10_lays 10 [(0, .ref (ga G 431)), (1, .ref (ga G 424)), (2, .int v2), (3, .int v3), (4, .int 0)] [] s0 t Q X := by
  subst eN
  refine down_i N (fun i => R G mX10_lays 10 [(0, .ref (ga G 431)), (1, .ref (ga G 424)), (2, .int v2), (3, .int v3), (4, .int (nI i))] [] (fo i (g_X10_lays_S_10 v2 v3) s0) t Q X) h (fun i hi hS => ?_)
  have hP := hN i hi
  rw [fo_succ] at hS
  rw [nI_succ] at hS
  generalize fo i (g_X10_lays_S_10 v2 v3) s0 = s at hS hP ⊢
  unfold Pb_X10_lays_S_10 at hP
  refine r_iload dX10_lays_10 4 rfl ?_
  refine r_aload_n dX10_lays_12 1 rfl ?_
  refine r_iload_n dX10_lays_13 3 rfl ?_
  have hs1 := hP.1
  replace hP := hP.2
  refine r_aald (hG.lt (by decide)) sh424 hs1 dX10_lays_14 ?_
  refine r_alen 2 (ltR (vp_ix hs1) (by decide) hG) (shr424 _ (vp_ix hs1)) rfl dX10_lays_15 ?_
  refine r_icmp_ge 37 dX10_lays_16 (by decide) (fun c1 => ?_) (fun c1 => ?_)
  · replace hP := hP.1 c1
    exact hP.elim
  · replace hP := hP.2 c1
    refine r_aload_n dX10_lays_19 1 rfl ?_
    refine r_iload_n dX10_lays_20 3 rfl ?_
    have hs2 := hP.1
    replace hP := hP.2
    refine r_aald (hG.lt (by decide)) sh424 hs2 dX10_lays_21 ?_
    refine r_iload dX10_lays_22 4 rfl ?_
    refine r_aload_n dX10_lays_24 0 rfl ?_
    refine r_iload_n dX10_lays_25 3 rfl ?_
    have hs3 := hP.1
    replace hP := hP.2
    refine r_aald (hG.lt (by decide)) sh431 hs3 dX10_lays_26 ?_
    refine r_iload dX10_lays_27 4 rfl ?_
    have hs4 := hP.1
    replace hP := hP.2
    refine r_iald (ltR (vp_ix hs3) (by decide) hG) (shr431 _ (vp_ix hs3)) hs4 dX10_lays_29 ?_
    have hs5 := hP
    refine r_iast (ltR (vp_ix hs2) (by decide) hG) (shr424 _ (vp_ix hs2)) hs5 dX10_lays_30 ?_
    refine r_mu (muX10_lays_S_10_1 v2 v3 i s) rfl ?_
    refine r_iinc ((nI i) + 1) [(4, _), (0, _), (1, _), (2, _), (3, _)] dX10_lays_31 4 rfl rfl (Nat.le_of_ble_eq_true rfl) rfl ?_
    refine r_goto 10 dX10_lays_34 (by decide) ?_
    have e : g_X10_lays_S_10 v2 v3 i s = (muX10_lays_S_10_1 v2 v3 i s) := by unfold g_X10_lays_S_10; rfl
    rw [e] at hS
    exact r_sub [1, 2, 3, 4, 0] rfl hS
def NX10_lays_S_2_10 (v2 : Int32) (i : Nat) (s : Mem) : Nat := 2
def SX10_lays_S_2_10 (v2 : Int32) (i : Nat) (s : Mem) : Mem := fo (NX10_lays_S_2_10 v2 i s) (g_X10_lays_S_10 v2 (nI i)) s
def muX10_lays_S_2_1 (v2 : Int32) (i : Nat) (s : Mem) : Mem := (upm (SX10_lays_S_2_10 v2 i s) (425 + (ix (nI i))) (ix (nI (NX10_lays_S_2_10 v2 i s))) ((SX10_lays_S_2_10 v2 i s) (432 + (ix (nI i))) (ix (nI (NX10_lays_S_2_10 v2 i s)))))
def g_X10_lays_S_2 (v2 : Int32) (i : Nat) (s : Mem) : Mem := (SX10_lays_S_2_10 v2 i s)
def Pb_X10_lays_S_2 (v2 : Int32) (i : Nat) (s : Mem) : Prop := ((v2 ≤ (nI i) → False) ∧ ((nI i) < v2 → (∀ j9, j9 < (NX10_lays_S_2_10 v2 i s) → Pb_X10_lays_S_10 v2 (nI i) j9 (fo j9 (g_X10_lays_S_10 v2 (nI i)) s)) ∧ (vp_in (nI i) 6) ∧ ((2 ≤ (nI (NX10_lays_S_2_10 v2 i s)) → True) ∧ ((nI (NX10_lays_S_2_10 v2 i s)) < 2 → (vp_in (nI i) 6) ∧ (vp_in (nI i) 6) ∧ (vp_in (nI (NX10_lays_S_2_10 v2 i s)) 2) ∧ (vp_in (nI (NX10_lays_S_2_10 v2 i s)) 2) ∧ False))))
set_option maxRecDepth 20000 in
set_option maxHeartbeats 2000000 in
theorem lp_X10_lays_S_2 {G : SG} (hG : GK 548 G)  (v2 : Int32) (s0 : Mem) (N : Nat) (sN : Mem) (eN : sN = fo N (g_X10_lays_S_2 v2) s0) (hN : ∀ i, i < N → Pb_X10_lays_S_2 v2 i (fo i (g_X10_lays_S_2 v2) s0)) {t : Nat} {Q : PQ} {X : PX} (h : R G mX10_lays 2 [(0, .ref (ga G 431)), (1, .ref (ga G 424)), (2, .int v2), (3, .int (nI N))] [] sN t Q X) : R G mX10_lays 2 [(0, .ref (ga G 431)), (1, .ref (ga G 424)), (2, .int v2), (3, .int 0)] [] s0 t Q X := by
  subst eN
  refine down_i N (fun i => R G mX10_lays 2 [(0, .ref (ga G 431)), (1, .ref (ga G 424)), (2, .int v2), (3, .int (nI i))] [] (fo i (g_X10_lays_S_2 v2) s0) t Q X) h (fun i hi hS => ?_)
  have hP := hN i hi
  rw [fo_succ] at hS
  rw [nI_succ] at hS
  generalize fo i (g_X10_lays_S_2 v2) s0 = s at hS hP ⊢
  unfold Pb_X10_lays_S_2 at hP
  refine r_iload_n dX10_lays_2 3 rfl ?_
  refine r_iload_n dX10_lays_3 2 rfl ?_
  refine r_icmp_ge 43 dX10_lays_4 (by decide) (fun c1 => ?_) (fun c1 => ?_)
  · replace hP := hP.1 c1
    exact hP.elim
  · replace hP := hP.2 c1
    refine r_iconst 0 dX10_lays_7 rfl ?_
    refine r_istore [(4, _), (0, _), (1, _), (2, _), (3, _)] dX10_lays_8 (Nat.le_of_ble_eq_true rfl) rfl ?_
    have hs1 := hP.1
    replace hP := hP.2
    refine r_sub [1, 2, 3, 4, 0] rfl ?_
    refine lp_X10_lays_S_10 hG v2 (nI i) s ((NX10_lays_S_2_10 v2 i s)) (SX10_lays_S_2_10 v2 i s) rfl hs1 ?_
    refine r_iload dX10_lays_10 4 rfl ?_
    refine r_aload_n dX10_lays_12 1 rfl ?_
    refine r_iload_n dX10_lays_13 3 rfl ?_
    have hs2 := hP.1
    replace hP := hP.2
    refine r_aald (hG.lt (by decide)) sh424 hs2 dX10_lays_14 ?_
    refine r_alen 2 (ltR (vp_ix hs2) (by decide) hG) (shr424 _ (vp_ix hs2)) rfl dX10_lays_15 ?_
    refine r_icmp_ge 37 dX10_lays_16 (by decide) (fun c2 => ?_) (fun c2 => ?_)
    · replace hP := hP.1 c2
      refine r_iinc ((nI i) + 1) [(3, _), (0, _), (1, _), (2, _), (4, _)] dX10_lays_37 3 rfl rfl (Nat.le_of_ble_eq_true rfl) rfl ?_
      refine r_goto 2 dX10_lays_40 (by decide) ?_
      have e : g_X10_lays_S_2 v2 i s = (SX10_lays_S_2_10 v2 i s) := by unfold g_X10_lays_S_2; rfl
      rw [e] at hS
      exact r_sub [1, 2, 3, 0] rfl hS
    · replace hP := hP.2 c2
      refine r_aload_n dX10_lays_19 1 rfl ?_
      refine r_iload_n dX10_lays_20 3 rfl ?_
      have hs7 := hP.1
      replace hP := hP.2
      refine r_aald (hG.lt (by decide)) sh424 hs7 dX10_lays_21 ?_
      refine r_iload dX10_lays_22 4 rfl ?_
      refine r_aload_n dX10_lays_24 0 rfl ?_
      refine r_iload_n dX10_lays_25 3 rfl ?_
      have hs8 := hP.1
      replace hP := hP.2
      refine r_aald (hG.lt (by decide)) sh431 hs8 dX10_lays_26 ?_
      refine r_iload dX10_lays_27 4 rfl ?_
      have hs9 := hP.1
      replace hP := hP.2
      refine r_iald (ltR (vp_ix hs8) (by decide) hG) (shr431 _ (vp_ix hs8)) hs9 dX10_lays_29 ?_
      have hs10 := hP.1
      replace hP := hP.2
      refine r_iast (ltR (vp_ix hs7) (by decide) hG) (shr424 _ (vp_ix hs7)) hs10 dX10_lays_30 ?_
      refine r_mu (muX10_lays_S_2_1 v2 i s) rfl ?_
      refine r_iinc ((nI (NX10_lays_S_2_10 v2 i s)) + 1) [(4, _), (0, _), (1, _), (2, _), (3, _)] dX10_lays_31 4 rfl rfl (Nat.le_of_ble_eq_true rfl) rfl ?_
      refine r_goto 10 dX10_lays_34 (by decide) ?_
      exact hP.elim
def NX10_lays_S_2 (p2 : Int32) (μ : Mem) : Nat := ix p2
def SX10_lays_S_2 (p2 : Int32) (μ : Mem) : Mem := fo (NX10_lays_S_2 p2 μ) (g_X10_lays_S_2 p2) μ
def NX10_lays_S_10 (p2 : Int32) (μ : Mem) : Nat := 2
def SX10_lays_S_10 (p2 : Int32) (μ : Mem) : Mem := fo (NX10_lays_S_10 p2 μ) (g_X10_lays_S_10 p2 (nI (NX10_lays_S_2 p2 μ))) (SX10_lays_S_2 p2 μ)
def muX10_lays_S_1 (p2 : Int32) (μ : Mem) : Mem := (upm (SX10_lays_S_10 p2 μ) (425 + (ix (nI (NX10_lays_S_2 p2 μ)))) (ix (nI (NX10_lays_S_10 p2 μ))) ((SX10_lays_S_10 p2 μ) (432 + (ix (nI (NX10_lays_S_2 p2 μ)))) (ix (nI (NX10_lays_S_10 p2 μ)))))
def M_X10_lays_S (p2 : Int32) (μ : Mem) : Mem := (SX10_lays_S_2 p2 μ)
def P_X10_lays_S (p2 : Int32) (μ : Mem) : Prop := ((∀ j9, j9 < (NX10_lays_S_2 p2 μ) → Pb_X10_lays_S_2 p2 j9 (fo j9 (g_X10_lays_S_2 p2) μ)) ∧ ((p2 ≤ (nI (NX10_lays_S_2 p2 μ)) → True) ∧ ((nI (NX10_lays_S_2 p2 μ)) < p2 → ((∀ j9, j9 < (NX10_lays_S_10 p2 μ) → Pb_X10_lays_S_10 p2 (nI (NX10_lays_S_2 p2 μ)) j9 (fo j9 (g_X10_lays_S_10 p2 (nI (NX10_lays_S_2 p2 μ))) (SX10_lays_S_2 p2 μ))) ∧ ((vp_in (nI (NX10_lays_S_2 p2 μ)) 6) ∧ ((2 ≤ (nI (NX10_lays_S_10 p2 μ)) → False) ∧ ((nI (NX10_lays_S_10 p2 μ)) < 2 → ((vp_in (nI (NX10_lays_S_2 p2 μ)) 6) ∧ ((vp_in (nI (NX10_lays_S_2 p2 μ)) 6) ∧ ((vp_in (nI (NX10_lays_S_10 p2 μ)) 2) ∧ ((vp_in (nI (NX10_lays_S_10 p2 μ)) 2) ∧ False)))))))))))
set_option maxRecDepth 20000 in
set_option maxHeartbeats 2000000 in
theorem ok_X10_lays_S {G : SG} (hG : GK 548 G) (p2 : Int32) (μ : Mem) (hP : P_X10_lays_S p2 μ) : OkF G mX10_lays [.ref (ga G 431), .ref (ga G 424), .int p2] μ none (M_X10_lays_S p2 μ) := by
  refine okF_of hG rfl rfl (Nat.le_of_ble_eq_true rfl) ?_
  unfold P_X10_lays_S at hP
  refine r_iconst 0 dX10_lays_0 rfl ?_
  refine r_istore_n [(3, _), (0, _), (1, _), (2, _)] dX10_lays_1 (Nat.le_of_ble_eq_true rfl) rfl ?_
  have hs1 := hP.1
  replace hP := hP.2
  refine r_sub [1, 2, 3, 0] rfl ?_
  refine lp_X10_lays_S_2 hG p2 μ ((NX10_lays_S_2 p2 μ)) (SX10_lays_S_2 p2 μ) rfl hs1 ?_
  refine r_iload_n dX10_lays_2 3 rfl ?_
  refine r_iload_n dX10_lays_3 2 rfl ?_
  refine r_icmp_ge 43 dX10_lays_4 (by decide) (fun c1 => ?_) (fun c1 => ?_)
  · replace hP := hP.1 c1
    exact r_return dX10_lays_43 rfl ⟨rfl, rfl⟩
  · replace hP := hP.2 c1
    refine r_iconst 0 dX10_lays_7 rfl ?_
    refine r_istore [(4, _), (0, _), (1, _), (2, _), (3, _)] dX10_lays_8 (Nat.le_of_ble_eq_true rfl) rfl ?_
    have hs2 := hP.1
    replace hP := hP.2
    refine r_sub [1, 2, 3, 4, 0] rfl ?_
    refine lp_X10_lays_S_10 hG p2 (nI (NX10_lays_S_2 p2 μ)) (SX10_lays_S_2 p2 μ) ((NX10_lays_S_10 p2 μ)) (SX10_lays_S_10 p2 μ) rfl hs2 ?_
    refine r_iload dX10_lays_10 4 rfl ?_
    refine r_aload_n dX10_lays_12 1 rfl ?_
    refine r_iload_n dX10_lays_13 3 rfl ?_
    have hs3 := hP.1
    replace hP := hP.2
    refine r_aald (hG.lt (by decide)) sh424 hs3 dX10_lays_14 ?_
    refine r_alen 2 (ltR (vp_ix hs3) (by decide) hG) (shr424 _ (vp_ix hs3)) rfl dX10_lays_15 ?_
    refine r_icmp_ge 37 dX10_lays_16 (by decide) (fun c2 => ?_) (fun c2 => ?_)
    · replace hP := hP.1 c2
      refine r_iinc ((nI (NX10_lays_S_2 p2 μ)) + 1) [(3, _), (0, _), (1, _), (2, _), (4, _)] dX10_lays_37 3 rfl rfl (Nat.le_of_ble_eq_true rfl) rfl ?_
      refine r_goto 2 dX10_lays_40 (by decide) ?_
      exact hP.elim
    · replace hP := hP.2 c2
      refine r_aload_n dX10_lays_19 1 rfl ?_
      refine r_iload_n dX10_lays_20 3 rfl ?_
      have hs8 := hP.1
      replace hP := hP.2
      refine r_aald (hG.lt (by decide)) sh424 hs8 dX10_lays_21 ?_
      refine r_iload dX10_lays_22 4 rfl ?_
      refine r_aload_n dX10_lays_24 0 rfl ?_
      refine r_iload_n dX10_lays_25 3 rfl ?_
      have hs9 := hP.1
      replace hP := hP.2
      refine r_aald (hG.lt (by decide)) sh431 hs9 dX10_lays_26 ?_
      refine r_iload dX10_lays_27 4 rfl ?_
      have hs10 := hP.1
      replace hP := hP.2
      refine r_iald (ltR (vp_ix hs9) (by decide) hG) (shr431 _ (vp_ix hs9)) hs10 dX10_lays_29 ?_
      have hs11 := hP.1
      replace hP := hP.2
      refine r_iast (ltR (vp_ix hs8) (by decide) hG) (shr424 _ (vp_ix hs8)) hs11 dX10_lays_30 ?_
      refine r_mu (muX10_lays_S_1 p2 μ) rfl ?_
      refine r_iinc ((nI (NX10_lays_S_10 p2 μ)) + 1) [(4, _), (0, _), (1, _), (2, _), (3, _)] dX10_lays_31 4 rfl rfl (Nat.le_of_ble_eq_true rfl) rfl ?_
      refine r_goto 10 dX10_lays_34 (by decide) ?_
      exact hP.elim
def muX10_tellsNothing_2_1 (i : Nat) (s : Mem) : Mem := (upm s 60 (ix (nI i)) 0)
def g_X10_tellsNothing_2  (i : Nat) (s : Mem) : Mem := (muX10_tellsNothing_2_1 i s)
def Pb_X10_tellsNothing_2  (i : Nat) (s : Mem) : Prop := ((4 ≤ (nI i) → False) ∧ ((nI i) < 4 → vp_in (nI i) 6))
set_option maxRecDepth 20000 in
set_option maxHeartbeats 2000000 in
theorem lp_X10_tellsNothing_2 {G : SG} (hG : GK 548 G)   (s0 : Mem) (N : Nat) (sN : Mem) (eN : sN = fo N g_X10_tellsNothing_2 s0) (hN : ∀ i, i < N → Pb_X10_tellsNothing_2  i (fo i g_X10_tellsNothing_2 s0)) {t : Nat} {Q : PQ} {X : PX} (h : R G mX10_tellsNothing 2 [(0, .ref (ga G 57)), (1, .int (nI N))] [] sN t Q X) : R G mX10_tellsNothing 2 [(0, .ref (ga G 57)), (1, .int 0)] [] s0 t Q X := by
  subst eN
  refine down_i N (fun i => R G mX10_tellsNothing 2 [(0, .ref (ga G 57)), (1, .int (nI i))] [] (fo i g_X10_tellsNothing_2 s0) t Q X) h (fun i hi hS => ?_)
  have hP := hN i hi
  rw [fo_succ] at hS
  rw [nI_succ] at hS
  generalize fo i g_X10_tellsNothing_2 s0 = s at hS hP ⊢
  unfold Pb_X10_tellsNothing_2 at hP
  refine r_iload_n dX10_tellsNothing_2 1 rfl ?_
  refine r_iconst 4 dX10_tellsNothing_3 rfl ?_
  refine r_icmp_ge 20 dX10_tellsNothing_4 (by decide) (fun c1 => ?_) (fun c1 => ?_)
  · replace hP := hP.1 c1
    exact hP.elim
  · replace hP := hP.2 c1
    refine r_aload_n dX10_tellsNothing_7 0 rfl ?_
    refine r_getR 60 fX10_20 (hG.lt (by decide)) sh57 fs57_11 dX10_tellsNothing_8 ?_
    refine r_iload_n dX10_tellsNothing_11 1 rfl ?_
    refine r_iconst 0 dX10_tellsNothing_12 rfl ?_
    have hs1 := hP
    refine r_iast (hG.lt (by decide)) sh60 hs1 dX10_tellsNothing_13 ?_
    refine r_mu (muX10_tellsNothing_2_1 i s) rfl ?_
    refine r_iinc ((nI i) + 1) [(1, _), (0, _)] dX10_tellsNothing_14 1 rfl rfl (Nat.le_of_ble_eq_true rfl) rfl ?_
    refine r_goto 2 dX10_tellsNothing_17 (by decide) ?_
    have e : g_X10_tellsNothing_2  i s = (muX10_tellsNothing_2_1 i s) := by unfold g_X10_tellsNothing_2; rfl
    rw [e] at hS
    exact r_sub [1, 0] rfl hS
def NX10_tellsNothing_2 (μ : Mem) : Nat := 4
def SX10_tellsNothing_2 (μ : Mem) : Mem := fo (NX10_tellsNothing_2 μ) g_X10_tellsNothing_2 μ
def muX10_tellsNothing_1 (μ : Mem) : Mem := (upm (SX10_tellsNothing_2 μ) 60 4 10)
def muX10_tellsNothing_2 (μ : Mem) : Mem := (upm (muX10_tellsNothing_1 μ) 60 5 3)
def muX10_tellsNothing_3 (μ : Mem) : Mem := (upm (SX10_tellsNothing_2 μ) 60 (ix (nI (NX10_tellsNothing_2 μ))) 0)
def M_X10_tellsNothing  (μ : Mem) : Mem := (muX10_tellsNothing_2 μ)
def P_X10_tellsNothing  (μ : Mem) : Prop := ((∀ j9, j9 < (NX10_tellsNothing_2 μ) → Pb_X10_tellsNothing_2  j9 (fo j9 g_X10_tellsNothing_2 μ)) ∧ ((4 ≤ (nI (NX10_tellsNothing_2 μ)) → True) ∧ ((nI (NX10_tellsNothing_2 μ)) < 4 → ((vp_in (nI (NX10_tellsNothing_2 μ)) 6) ∧ False))))
set_option maxRecDepth 20000 in
set_option maxHeartbeats 2000000 in
theorem ok_X10_tellsNothing {G : SG} (hG : GK 548 G)  (μ : Mem) (hP : P_X10_tellsNothing  μ) : OkF G mX10_tellsNothing [.ref (ga G 57)] μ none (M_X10_tellsNothing  μ) := by
  refine okF_of hG rfl rfl (Nat.le_of_ble_eq_true rfl) ?_
  unfold P_X10_tellsNothing at hP
  refine r_iconst 0 dX10_tellsNothing_0 rfl ?_
  refine r_istore_n [(1, _), (0, _)] dX10_tellsNothing_1 (Nat.le_of_ble_eq_true rfl) rfl ?_
  have hs1 := hP.1
  replace hP := hP.2
  refine r_sub [1, 0] rfl ?_
  refine lp_X10_tellsNothing_2 hG μ ((NX10_tellsNothing_2 μ)) (SX10_tellsNothing_2 μ) rfl hs1 ?_
  refine r_iload_n dX10_tellsNothing_2 1 rfl ?_
  refine r_iconst 4 dX10_tellsNothing_3 rfl ?_
  refine r_icmp_ge 20 dX10_tellsNothing_4 (by decide) (fun c1 => ?_) (fun c1 => ?_)
  · replace hP := hP.1 c1
    refine r_aload_n dX10_tellsNothing_20 0 rfl ?_
    refine r_getR 60 fX10_20 (hG.lt (by decide)) sh57 fs57_11 dX10_tellsNothing_21 ?_
    refine r_iconst 4 dX10_tellsNothing_24 rfl ?_
    refine r_bipush 10 dX10_tellsNothing_25 rfl ?_
    refine r_iastK 4 rfl (hG.lt (by decide)) sh60 (vp_of (by decide) (by decide)) dX10_tellsNothing_27 ?_
    refine r_mu (muX10_tellsNothing_1 μ) rfl ?_
    refine r_aload_n dX10_tellsNothing_28 0 rfl ?_
    refine r_getR 60 fX10_20 (hG.lt (by decide)) sh57 fs57_11 dX10_tellsNothing_29 ?_
    refine r_iconst 5 dX10_tellsNothing_32 rfl ?_
    refine r_iconst 3 dX10_tellsNothing_33 rfl ?_
    refine r_iastK 5 rfl (hG.lt (by decide)) sh60 (vp_of (by decide) (by decide)) dX10_tellsNothing_34 ?_
    refine r_mu (muX10_tellsNothing_2 μ) rfl ?_
    exact r_return dX10_tellsNothing_35 rfl ⟨rfl, rfl⟩
  · replace hP := hP.2 c1
    refine r_aload_n dX10_tellsNothing_7 0 rfl ?_
    refine r_getR 60 fX10_20 (hG.lt (by decide)) sh57 fs57_11 dX10_tellsNothing_8 ?_
    refine r_iload_n dX10_tellsNothing_11 1 rfl ?_
    refine r_iconst 0 dX10_tellsNothing_12 rfl ?_
    have hs3 := hP.1
    replace hP := hP.2
    refine r_iast (hG.lt (by decide)) sh60 hs3 dX10_tellsNothing_13 ?_
    refine r_mu (muX10_tellsNothing_3 μ) rfl ?_
    refine r_iinc ((nI (NX10_tellsNothing_2 μ)) + 1) [(1, _), (0, _)] dX10_tellsNothing_14 1 rfl rfl (Nat.le_of_ble_eq_true rfl) rfl ?_
    refine r_goto 2 dX10_tellsNothing_17 (by decide) ?_
    exact hP.elim
def F_X10_thrown  (μ : Mem) : Int32 := (μ 57 0)
set_option maxRecDepth 20000 in
set_option maxHeartbeats 2000000 in
theorem ok_X10_thrown {G : SG} (hG : GK 548 G)  (μ : Mem) : OkF G mX10_thrown [.ref (ga G 57)] μ (some (.int (F_X10_thrown  μ))) μ := by
  refine okF_of hG rfl rfl (Nat.le_of_ble_eq_true rfl) ?_
  refine r_aload_n dX10_thrown_0 0 rfl ?_
  refine r_getI fX10_103 (hG.lt (by decide)) sh57 fs57_0 dX10_thrown_1 ?_
  exact r_ireturn _ dX10_thrown_4 rfl rfl ⟨congrArg (fun z => some (Value.int z)) (rfl), rfl⟩
def muX10_bad_1 (p1 : Int32) (p2 : Int32) (p3 : Int32) (μ : Mem) : Mem := (upm μ 57 0 p2)
def muX10_bad_2 (p1 : Int32) (p2 : Int32) (p3 : Int32) (μ : Mem) : Mem := (upm (muX10_bad_1 p1 p2 p3 μ) 59 (ix p3) (((muX10_bad_1 p1 p2 p3 μ) 59 (ix p3)) + 1))
def VX10_bad_3 (p1 : Int32) (p2 : Int32) (p3 : Int32) (μ : Mem) : Mem := (if p1 = 0 then μ else (if (μ 57 0) ≠ 0 then μ else (muX10_bad_2 p1 p2 p3 μ)))
def F_X10_bad (p1 : Int32) (p2 : Int32) (p3 : Int32) (μ : Mem) : Int32 := (if ((VX10_bad_3 p1 p2 p3 μ) 57 0) = 0 then 0 else 1)
def M_X10_bad (p1 : Int32) (p2 : Int32) (p3 : Int32) (μ : Mem) : Mem := (VX10_bad_3 p1 p2 p3 μ)
def P_X10_bad (p1 : Int32) (p2 : Int32) (p3 : Int32) (μ : Mem) : Prop := ((p1 = 0 → True) ∧ (¬ p1 = 0 → (((μ 57 0) ≠ 0 → True) ∧ ((μ 57 0) = 0 → ((vp_in p3 2) ∧ (vp_in p3 2))))))
theorem bo_X10_bad (p1 : Int32) (p2 : Int32) (p3 : Int32) (μ : Mem) : F_X10_bad p1 p2 p3 μ = 0 ∨ F_X10_bad p1 p2 p3 μ = 1 := by
  unfold F_X10_bad
  split
  · exact Or.inl rfl
  · exact Or.inr rfl
set_option maxRecDepth 20000 in
set_option maxHeartbeats 2000000 in
theorem ok_X10_bad {G : SG} (hG : GK 548 G) (p1 : Int32) (p2 : Int32) (p3 : Int32) (μ : Mem) (hP : P_X10_bad p1 p2 p3 μ) : OkF G mX10_bad [.ref (ga G 57), .int p1, .int p2, .int p3] μ (some (.int (F_X10_bad p1 p2 p3 μ))) (M_X10_bad p1 p2 p3 μ) := by
  refine okF_of hG rfl rfl (Nat.le_of_ble_eq_true rfl) ?_
  unfold P_X10_bad at hP
  refine r_iload_n dX10_bad_0 1 rfl ?_
  refine r_join 26 [(0, .ref (ga G 57)), (1, .int p1), (2, .int p2), (3, .int p3)] [] (VX10_bad_3 p1 p2 p3 μ) ?_ (fun hJ => ?_)
  · refine r_aload_n dX10_bad_26 0 rfl ?_
    refine r_getI fX10_103 (hG.lt (by decide)) sh57 fs57_0 dX10_bad_27 ?_
    refine r_if_eq 37 dX10_bad_30 (by decide) (fun c1 => ?_) (fun c1 => ?_)
    · refine r_iconst 0 dX10_bad_37 rfl ?_
      exact r_ireturn _ dX10_bad_38 rfl rfl ⟨congrArg (fun z => some (Value.int z)) (by unfold F_X10_bad; rw [if_pos c1]), rfl⟩
    · refine r_iconst 1 dX10_bad_33 rfl ?_
      refine r_goto 38 dX10_bad_34 (by decide) ?_
      exact r_ireturn _ dX10_bad_38 rfl rfl ⟨congrArg (fun z => some (Value.int z)) (by unfold F_X10_bad; rw [if_neg c1]), rfl⟩
  · refine r_if_eq 26 dX10_bad_1 (by decide) (fun c1 => ?_) (fun c1 => ?_)
    · replace hP := hP.1 c1
      have e : (VX10_bad_3 p1 p2 p3 μ) = μ := by unfold VX10_bad_3; rw [if_pos c1]
      rw [e] at hJ
      exact r_sub [0, 1, 2, 3] rfl hJ
    · replace hP := hP.2 c1
      refine r_aload_n dX10_bad_4 0 rfl ?_
      refine r_getI fX10_103 (hG.lt (by decide)) sh57 fs57_0 dX10_bad_5 ?_
      refine r_if_ne 26 dX10_bad_8 (by decide) (fun c2 => ?_) (fun c2 => ?_)
      · replace hP := hP.1 c2
        have e : (VX10_bad_3 p1 p2 p3 μ) = μ := by unfold VX10_bad_3; rw [if_neg c1, if_pos c2]
        rw [e] at hJ
        exact r_sub [0, 1, 2, 3] rfl hJ
      · replace hP := hP.2 c2
        refine r_aload_n dX10_bad_11 0 rfl ?_
        refine r_iload_n dX10_bad_12 2 rfl ?_
        refine r_put fiX10_103 (hG.lt (by decide)) sh57 fs57_0 dX10_bad_13 ?_
        refine r_mu (muX10_bad_1 p1 p2 p3 μ) rfl ?_
        refine r_aload_n dX10_bad_16 0 rfl ?_
        refine r_getR 59 fX10_17 (hG.lt (by decide)) sh57 fs57_10 dX10_bad_17 ?_
        refine r_iload_n dX10_bad_20 3 rfl ?_
        refine r_dup2 dX10_bad_21 rfl rfl ?_
        have hs1 := hP.1
        replace hP := hP.2
        refine r_iald (hG.lt (by decide)) sh59 hs1 dX10_bad_22 ?_
        refine r_iconst 1 dX10_bad_23 rfl ?_
        refine r_iadd dX10_bad_24 ?_
        have hs2 := hP
        refine r_iast (hG.lt (by decide)) sh59 hs2 dX10_bad_25 ?_
        refine r_mu (muX10_bad_2 p1 p2 p3 μ) rfl ?_
        have e : (VX10_bad_3 p1 p2 p3 μ) = (muX10_bad_2 p1 p2 p3 μ) := by unfold VX10_bad_3; rw [if_neg c1, if_neg (not_not_intro c2)]
        rw [e] at hJ
        exact r_sub [0, 1, 2, 3] rfl hJ
def F_X10_isIn (p0 : Int32) (p1 : Int32) (p2 : Int32) (μ : Mem) : Int32 := (if p0 < p1 then 0 else (if p2 < p0 then 0 else 1))
theorem bo_X10_isIn (p0 : Int32) (p1 : Int32) (p2 : Int32) (μ : Mem) : F_X10_isIn p0 p1 p2 μ = 0 ∨ F_X10_isIn p0 p1 p2 μ = 1 := by
  unfold F_X10_isIn
  split
  · exact Or.inl rfl
  · split
    · exact Or.inl rfl
    · exact Or.inr rfl
set_option maxRecDepth 20000 in
set_option maxHeartbeats 2000000 in
theorem ok_X10_isIn {G : SG} (hG : GK 548 G) (p0 : Int32) (p1 : Int32) (p2 : Int32) (μ : Mem) : OkF G mX10_isIn [.int p0, .int p1, .int p2] μ (some (.int (F_X10_isIn p0 p1 p2 μ))) μ := by
  refine okF_of hG rfl rfl (Nat.le_of_ble_eq_true rfl) ?_
  refine r_iload_n dX10_isIn_0 0 rfl ?_
  refine r_iload_n dX10_isIn_1 1 rfl ?_
  refine r_icmp_lt 14 dX10_isIn_2 (by decide) (fun c1 => ?_) (fun c1 => ?_)
  · refine r_iconst 0 dX10_isIn_14 rfl ?_
    exact r_ireturn _ dX10_isIn_15 rfl rfl ⟨congrArg (fun z => some (Value.int z)) (by unfold F_X10_isIn; rw [if_pos c1]), rfl⟩
  · refine r_iload_n dX10_isIn_5 0 rfl ?_
    refine r_iload_n dX10_isIn_6 2 rfl ?_
    refine r_icmp_gt 14 dX10_isIn_7 (by decide) (fun c2 => ?_) (fun c2 => ?_)
    · refine r_iconst 0 dX10_isIn_14 rfl ?_
      exact r_ireturn _ dX10_isIn_15 rfl rfl ⟨congrArg (fun z => some (Value.int z)) (by unfold F_X10_isIn; rw [if_neg (i32_nl c1), if_pos c2]), rfl⟩
    · refine r_iconst 1 dX10_isIn_10 rfl ?_
      refine r_goto 15 dX10_isIn_11 (by decide) ?_
      exact r_ireturn _ dX10_isIn_15 rfl rfl ⟨congrArg (fun z => some (Value.int z)) (by unfold F_X10_isIn; rw [if_neg (i32_nl c1), if_neg (i32_nl c2)]), rfl⟩
def F_X10_less (p0 : Int32) (p1 : Int32) (μ : Mem) : Int32 := (if p1 ≤ p0 then p1 else p0)
set_option maxRecDepth 20000 in
set_option maxHeartbeats 2000000 in
theorem ok_X10_less {G : SG} (hG : GK 548 G) (p0 : Int32) (p1 : Int32) (μ : Mem) : OkF G mX10_less [.int p0, .int p1] μ (some (.int (F_X10_less p0 p1 μ))) μ := by
  refine okF_of hG rfl rfl (Nat.le_of_ble_eq_true rfl) ?_
  refine r_iload_n dX10_less_0 0 rfl ?_
  refine r_iload_n dX10_less_1 1 rfl ?_
  refine r_icmp_ge 9 dX10_less_2 (by decide) (fun c1 => ?_) (fun c1 => ?_)
  · refine r_iload_n dX10_less_9 1 rfl ?_
    exact r_ireturn _ dX10_less_10 rfl rfl ⟨congrArg (fun z => some (Value.int z)) (by unfold F_X10_less; rw [if_pos c1]), rfl⟩
  · refine r_iload_n dX10_less_5 0 rfl ?_
    refine r_goto 10 dX10_less_6 (by decide) ?_
    exact r_ireturn _ dX10_less_10 rfl rfl ⟨congrArg (fun z => some (Value.int z)) (by unfold F_X10_less; rw [if_neg (i32_ng c1)]), rfl⟩
def F_X10_more (p0 : Int32) (p1 : Int32) (μ : Mem) : Int32 := (if p0 ≤ p1 then p1 else p0)
set_option maxRecDepth 20000 in
set_option maxHeartbeats 2000000 in
theorem ok_X10_more {G : SG} (hG : GK 548 G) (p0 : Int32) (p1 : Int32) (μ : Mem) : OkF G mX10_more [.int p0, .int p1] μ (some (.int (F_X10_more p0 p1 μ))) μ := by
  refine okF_of hG rfl rfl (Nat.le_of_ble_eq_true rfl) ?_
  refine r_iload_n dX10_more_0 0 rfl ?_
  refine r_iload_n dX10_more_1 1 rfl ?_
  refine r_icmp_le 9 dX10_more_2 (by decide) (fun c1 => ?_) (fun c1 => ?_)
  · refine r_iload_n dX10_more_9 1 rfl ?_
    exact r_ireturn _ dX10_more_10 rfl rfl ⟨congrArg (fun z => some (Value.int z)) (by unfold F_X10_more; rw [if_pos c1]), rfl⟩
  · refine r_iload_n dX10_more_5 0 rfl ?_
    refine r_goto 10 dX10_more_6 (by decide) ?_
    exact r_ireturn _ dX10_more_10 rfl rfl ⟨congrArg (fun z => some (Value.int z)) (by unfold F_X10_more; rw [if_neg (i32_ng c1)]), rfl⟩
def F_X10_has (p0 : Int32) (p1 : Int32) (μ : Mem) : Int32 := (if ((p0 >>> (p1 &&& 31)) &&& 1) ≠ 1 then 0 else 1)
theorem bo_X10_has (p0 : Int32) (p1 : Int32) (μ : Mem) : F_X10_has p0 p1 μ = 0 ∨ F_X10_has p0 p1 μ = 1 := by
  unfold F_X10_has
  split
  · exact Or.inl rfl
  · exact Or.inr rfl
set_option maxRecDepth 20000 in
set_option maxHeartbeats 2000000 in
theorem ok_X10_has {G : SG} (hG : GK 548 G) (p0 : Int32) (p1 : Int32) (μ : Mem) : OkF G mX10_has [.int p0, .int p1] μ (some (.int (F_X10_has p0 p1 μ))) μ := by
  refine okF_of hG rfl rfl (Nat.le_of_ble_eq_true rfl) ?_
  refine r_iload_n dX10_has_0 0 rfl ?_
  refine r_iload_n dX10_has_1 1 rfl ?_
  refine r_ishr dX10_has_2 rfl ?_
  refine r_iconst 1 dX10_has_3 rfl ?_
  refine r_iand dX10_has_4 ?_
  refine r_iconst 1 dX10_has_5 rfl ?_
  refine r_icmp_ne 13 dX10_has_6 (by decide) (fun c1 => ?_) (fun c1 => ?_)
  · refine r_iconst 0 dX10_has_13 rfl ?_
    exact r_ireturn _ dX10_has_14 rfl rfl ⟨congrArg (fun z => some (Value.int z)) (by unfold F_X10_has; rw [if_pos c1]), rfl⟩
  · refine r_iconst 1 dX10_has_9 rfl ?_
    refine r_goto 14 dX10_has_10 (by decide) ?_
    exact r_ireturn _ dX10_has_14 rfl rfl ⟨congrArg (fun z => some (Value.int z)) (by unfold F_X10_has; rw [if_neg (not_not_intro c1)]), rfl⟩
def muX10_feed_1 (p1 : Int32) (p2 : Int32) (p3 : Int32) (p4 : Int32) (p5 : Int32) (μ : Mem) : Mem := (upm μ 57 0 0)
def VX10_feed_23_1 (v1 : Int32) (v2 : Int32) (v3 : Int32) (v4 : Int32) (v5 : Int32) (i : Nat) (s : Mem) : Int32 := (if 4 ≤ (nI i) then (if 8 ≤ (nI i) then (if 12 ≤ (nI i) then (if 16 ≤ (nI i) then v5 else v4) else v3) else v2) else v1)
def muX10_feed_23_2 (v1 : Int32) (v2 : Int32) (v3 : Int32) (v4 : Int32) (v5 : Int32) (i : Nat) (s : Mem) : Mem := (upm s 58 (ix (s 57 1)) (((VX10_feed_23_1 v1 v2 v3 v4 v5 i s) >>> ((24 - (8 * ((nI i) - (nI i) / 4 * 4))) &&& 31)) &&& 255))
def muX10_feed_23_3 (v1 : Int32) (v2 : Int32) (v3 : Int32) (v4 : Int32) (v5 : Int32) (i : Nat) (s : Mem) : Mem := (upm (muX10_feed_23_2 v1 v2 v3 v4 v5 i s) 57 1 (((muX10_feed_23_2 v1 v2 v3 v4 v5 i s) 57 1) + 1))
def g_X10_feed_23 (v1 : Int32) (v2 : Int32) (v3 : Int32) (v4 : Int32) (v5 : Int32) (i : Nat) (s : Mem) : Mem := (muX10_feed_23_3 v1 v2 v3 v4 v5 i s)
def Pb_X10_feed_23 (v1 : Int32) (v2 : Int32) (v3 : Int32) (v4 : Int32) (v5 : Int32) (i : Nat) (s : Mem) : Prop := ((20 ≤ (nI i) → False) ∧ ((nI i) < 20 → vp_in (s 57 1) 600))
set_option maxRecDepth 20000 in
set_option maxHeartbeats 2000000 in
theorem lp_X10_feed_23 {G : SG} (hG : GK 548 G)  (v1 : Int32) (v2 : Int32) (v3 : Int32) (v4 : Int32) (v5 : Int32) (s0 : Mem) (N : Nat) (sN : Mem) (eN : sN = fo N (g_X10_feed_23 v1 v2 v3 v4 v5) s0) (hN : ∀ i, i < N → Pb_X10_feed_23 v1 v2 v3 v4 v5 i (fo i (g_X10_feed_23 v1 v2 v3 v4 v5) s0)) {t : Nat} {Q : PQ} {X : PX} (h : R G mX10_feed 23 [(0, .ref (ga G 57)), (1, .int v1), (2, .int v2), (3, .int v3), (4, .int v4), (5, .int v5), (6, .int (nI N))] [] sN t Q X) : R G mX10_feed 23 [(0, .ref (ga G 57)), (1, .int v1), (2, .int v2), (3, .int v3), (4, .int v4), (5, .int v5), (6, .int 0)] [] s0 t Q X := by
  subst eN
  refine down_i N (fun i => R G mX10_feed 23 [(0, .ref (ga G 57)), (1, .int v1), (2, .int v2), (3, .int v3), (4, .int v4), (5, .int v5), (6, .int (nI i))] [] (fo i (g_X10_feed_23 v1 v2 v3 v4 v5) s0) t Q X) h (fun i hi hS => ?_)
  have hP := hN i hi
  rw [fo_succ] at hS
  rw [nI_succ] at hS
  generalize fo i (g_X10_feed_23 v1 v2 v3 v4 v5) s0 = s at hS hP ⊢
  unfold Pb_X10_feed_23 at hP
  refine r_iload dX10_feed_23 6 rfl ?_
  refine r_bipush 20 dX10_feed_25 rfl ?_
  refine r_icmp_ge 120 dX10_feed_27 (by decide) (fun c1 => ?_) (fun c1 => ?_)
  · replace hP := hP.1 c1
    exact hP.elim
  · replace hP := hP.2 c1
    refine r_iload dX10_feed_30 6 rfl ?_
    refine r_iconst 4 dX10_feed_32 rfl ?_
    refine r_join 76 [(0, .ref (ga G 57)), (1, .int v1), (2, .int v2), (3, .int v3), (4, .int v4), (5, .int v5), (6, .int (nI i))] [.int (VX10_feed_23_1 v1 v2 v3 v4 v5 i s)] s ?_ (fun hJ => ?_)
    · refine r_istore [(7, _), (0, _), (1, _), (2, _), (3, _), (4, _), (5, _), (6, _)] dX10_feed_76 (Nat.le_of_ble_eq_true rfl) rfl ?_
      refine r_aload_n dX10_feed_78 1 rfl ?_
      refine r_getR 58 fX10_13 (hG.lt (by decide)) sh57 fs57_9 dX10_feed_79 ?_
      refine r_aload_n dX10_feed_82 1 rfl ?_
      refine r_getI fX10_106 (hG.lt (by decide)) sh57 fs57_1 dX10_feed_83 ?_
      refine r_iload dX10_feed_86 0 rfl ?_
      refine r_bipush 24 dX10_feed_88 rfl ?_
      refine r_bipush 8 dX10_feed_90 rfl ?_
      refine r_iload dX10_feed_92 7 rfl ?_
      refine r_iconst 4 dX10_feed_94 rfl ?_
      refine r_irem dX10_feed_95 (by decide) ?_
      refine r_imul dX10_feed_96 ?_
      refine r_isub dX10_feed_97 ?_
      refine r_ishr dX10_feed_98 rfl ?_
      refine r_sipush 255 dX10_feed_99 rfl ?_
      refine r_iand dX10_feed_102 ?_
      have hs1 := hP
      refine r_iast (hG.lt (by decide)) sh58 hs1 dX10_feed_103 ?_
      refine r_mu (muX10_feed_23_2 v1 v2 v3 v4 v5 i s) rfl ?_
      refine r_aload_n dX10_feed_104 1 rfl ?_
      refine r_dup dX10_feed_105 rfl ?_
      refine r_getI fX10_106 (hG.lt (by decide)) sh57 fs57_1 dX10_feed_106 ?_
      refine r_iconst 1 dX10_feed_109 rfl ?_
      refine r_iadd dX10_feed_110 ?_
      refine r_put fiX10_106 (hG.lt (by decide)) sh57 fs57_1 dX10_feed_111 ?_
      refine r_mu (muX10_feed_23_3 v1 v2 v3 v4 v5 i s) rfl ?_
      refine r_iinc ((nI i) + 1) [(6, _), (7, _), (0, _), (1, _), (2, _), (3, _), (4, _), (5, _)] dX10_feed_114 7 rfl rfl (Nat.le_of_ble_eq_true rfl) rfl ?_
      refine r_goto 23 dX10_feed_117 (by decide) ?_
      have e : g_X10_feed_23 v1 v2 v3 v4 v5 i s = (muX10_feed_23_3 v1 v2 v3 v4 v5 i s) := by unfold g_X10_feed_23; rfl
      rw [e] at hS
      exact r_sub [2, 3, 4, 5, 6, 7, 0] rfl hS
    · refine r_icmp_ge 40 dX10_feed_33 (by decide) (fun c2 => ?_) (fun c2 => ?_)
      · refine r_iload dX10_feed_40 6 rfl ?_
        refine r_bipush 8 dX10_feed_42 rfl ?_
        refine r_icmp_ge 51 dX10_feed_44 (by decide) (fun c3 => ?_) (fun c3 => ?_)
        · refine r_iload dX10_feed_51 6 rfl ?_
          refine r_bipush 12 dX10_feed_53 rfl ?_
          refine r_icmp_ge 62 dX10_feed_55 (by decide) (fun c4 => ?_) (fun c4 => ?_)
          · refine r_iload dX10_feed_62 6 rfl ?_
            refine r_bipush 16 dX10_feed_64 rfl ?_
            refine r_icmp_ge 74 dX10_feed_66 (by decide) (fun c5 => ?_) (fun c5 => ?_)
            · refine r_iload dX10_feed_74 5 rfl ?_
              have e : (VX10_feed_23_1 v1 v2 v3 v4 v5 i s) = v5 := by unfold VX10_feed_23_1; rw [if_pos c2, if_pos c3, if_pos c4, if_pos c5]
              rw [e] at hJ
              exact r_sub [0, 1, 2, 3, 4, 5, 6] rfl hJ
            · refine r_iload dX10_feed_69 4 rfl ?_
              refine r_goto 76 dX10_feed_71 (by decide) ?_
              have e : (VX10_feed_23_1 v1 v2 v3 v4 v5 i s) = v4 := by unfold VX10_feed_23_1; rw [if_pos c2, if_pos c3, if_pos c4, if_neg (i32_ng c5)]
              rw [e] at hJ
              exact r_sub [0, 1, 2, 3, 4, 5, 6] rfl hJ
          · refine r_iload_n dX10_feed_58 3 rfl ?_
            refine r_goto 76 dX10_feed_59 (by decide) ?_
            have e : (VX10_feed_23_1 v1 v2 v3 v4 v5 i s) = v3 := by unfold VX10_feed_23_1; rw [if_pos c2, if_pos c3, if_neg (i32_ng c4)]
            rw [e] at hJ
            exact r_sub [0, 1, 2, 3, 4, 5, 6] rfl hJ
        · refine r_iload_n dX10_feed_47 2 rfl ?_
          refine r_goto 76 dX10_feed_48 (by decide) ?_
          have e : (VX10_feed_23_1 v1 v2 v3 v4 v5 i s) = v2 := by unfold VX10_feed_23_1; rw [if_pos c2, if_neg (i32_ng c3)]
          rw [e] at hJ
          exact r_sub [0, 1, 2, 3, 4, 5, 6] rfl hJ
      · refine r_iload_n dX10_feed_36 1 rfl ?_
        refine r_goto 76 dX10_feed_37 (by decide) ?_
        have e : (VX10_feed_23_1 v1 v2 v3 v4 v5 i s) = v1 := by unfold VX10_feed_23_1; rw [if_neg (i32_ng c2)]
        rw [e] at hJ
        exact r_sub [0, 1, 2, 3, 4, 5, 6] rfl hJ
def NX10_feed_23 (p1 : Int32) (p2 : Int32) (p3 : Int32) (p4 : Int32) (p5 : Int32) (μ : Mem) : Nat := 20
def SX10_feed_23 (p1 : Int32) (p2 : Int32) (p3 : Int32) (p4 : Int32) (p5 : Int32) (μ : Mem) : Mem := fo (NX10_feed_23 p1 p2 p3 p4 p5 μ) (g_X10_feed_23 p1 p2 p3 p4 p5) (muX10_feed_1 p1 p2 p3 p4 p5 μ)
def VX10_feed_2 (p1 : Int32) (p2 : Int32) (p3 : Int32) (p4 : Int32) (p5 : Int32) (μ : Mem) : Int32 := (if 4 ≤ (nI (NX10_feed_23 p1 p2 p3 p4 p5 μ)) then (if 8 ≤ (nI (NX10_feed_23 p1 p2 p3 p4 p5 μ)) then (if 12 ≤ (nI (NX10_feed_23 p1 p2 p3 p4 p5 μ)) then (if 16 ≤ (nI (NX10_feed_23 p1 p2 p3 p4 p5 μ)) then p5 else p4) else p3) else p2) else p1)
def muX10_feed_3 (p1 : Int32) (p2 : Int32) (p3 : Int32) (p4 : Int32) (p5 : Int32) (μ : Mem) : Mem := (upm (SX10_feed_23 p1 p2 p3 p4 p5 μ) 58 (ix ((SX10_feed_23 p1 p2 p3 p4 p5 μ) 57 1)) (((VX10_feed_2 p1 p2 p3 p4 p5 μ) >>> ((24 - (8 * ((nI (NX10_feed_23 p1 p2 p3 p4 p5 μ)) - (nI (NX10_feed_23 p1 p2 p3 p4 p5 μ)) / 4 * 4))) &&& 31)) &&& 255))
def muX10_feed_4 (p1 : Int32) (p2 : Int32) (p3 : Int32) (p4 : Int32) (p5 : Int32) (μ : Mem) : Mem := (upm (muX10_feed_3 p1 p2 p3 p4 p5 μ) 57 1 (((muX10_feed_3 p1 p2 p3 p4 p5 μ) 57 1) + 1))
def F_X10_feed (p1 : Int32) (p2 : Int32) (p3 : Int32) (p4 : Int32) (p5 : Int32) (μ : Mem) : Int32 := (if (((muX10_feed_1 p1 p2 p3 p4 p5 μ) 57 1) + 20) ≤ 600 then ((SX10_feed_23 p1 p2 p3 p4 p5 μ) 57 1) else (-1))
def M_X10_feed (p1 : Int32) (p2 : Int32) (p3 : Int32) (p4 : Int32) (p5 : Int32) (μ : Mem) : Mem := (if (((muX10_feed_1 p1 p2 p3 p4 p5 μ) 57 1) + 20) ≤ 600 then (SX10_feed_23 p1 p2 p3 p4 p5 μ) else (muX10_feed_1 p1 p2 p3 p4 p5 μ))
def P_X10_feed (p1 : Int32) (p2 : Int32) (p3 : Int32) (p4 : Int32) (p5 : Int32) (μ : Mem) : Prop := (((((muX10_feed_1 p1 p2 p3 p4 p5 μ) 57 1) + 20) ≤ 600 → ((∀ j9, j9 < (NX10_feed_23 p1 p2 p3 p4 p5 μ) → Pb_X10_feed_23 p1 p2 p3 p4 p5 j9 (fo j9 (g_X10_feed_23 p1 p2 p3 p4 p5) (muX10_feed_1 p1 p2 p3 p4 p5 μ))) ∧ ((20 ≤ (nI (NX10_feed_23 p1 p2 p3 p4 p5 μ)) → True) ∧ ((nI (NX10_feed_23 p1 p2 p3 p4 p5 μ)) < 20 → ((vp_in ((SX10_feed_23 p1 p2 p3 p4 p5 μ) 57 1) 600) ∧ False))))) ∧ (600 < (((muX10_feed_1 p1 p2 p3 p4 p5 μ) 57 1) + 20) → True))
set_option maxRecDepth 20000 in
set_option maxHeartbeats 2000000 in
theorem ok_X10_feed {G : SG} (hG : GK 548 G) (p1 : Int32) (p2 : Int32) (p3 : Int32) (p4 : Int32) (p5 : Int32) (μ : Mem) (hP : P_X10_feed p1 p2 p3 p4 p5 μ) : OkF G mX10_feed [.ref (ga G 57), .int p1, .int p2, .int p3, .int p4, .int p5] μ (some (.int (F_X10_feed p1 p2 p3 p4 p5 μ))) (M_X10_feed p1 p2 p3 p4 p5 μ) := by
  refine okF_of hG rfl rfl (Nat.le_of_ble_eq_true rfl) ?_
  unfold P_X10_feed at hP
  refine r_aload_n dX10_feed_0 0 rfl ?_
  refine r_iconst 0 dX10_feed_1 rfl ?_
  refine r_put fiX10_103 (hG.lt (by decide)) sh57 fs57_0 dX10_feed_2 ?_
  refine r_mu (muX10_feed_1 p1 p2 p3 p4 p5 μ) rfl ?_
  refine r_aload_n dX10_feed_5 0 rfl ?_
  refine r_getI fX10_106 (hG.lt (by decide)) sh57 fs57_1 dX10_feed_6 ?_
  refine r_bipush 20 dX10_feed_9 rfl ?_
  refine r_iadd dX10_feed_11 ?_
  refine r_sipush 600 dX10_feed_12 rfl ?_
  refine r_icmp_le 20 dX10_feed_15 (by decide) (fun c1 => ?_) (fun c1 => ?_)
  · replace hP := hP.1 c1
    refine r_iconst 0 dX10_feed_20 rfl ?_
    refine r_istore [(6, _), (0, _), (1, _), (2, _), (3, _), (4, _), (5, _)] dX10_feed_21 (Nat.le_of_ble_eq_true rfl) rfl ?_
    have hs1 := hP.1
    replace hP := hP.2
    refine r_sub [1, 2, 3, 4, 5, 6, 0] rfl ?_
    refine lp_X10_feed_23 hG p1 p2 p3 p4 p5 (muX10_feed_1 p1 p2 p3 p4 p5 μ) ((NX10_feed_23 p1 p2 p3 p4 p5 μ)) (SX10_feed_23 p1 p2 p3 p4 p5 μ) rfl hs1 ?_
    refine r_iload dX10_feed_23 6 rfl ?_
    refine r_bipush 20 dX10_feed_25 rfl ?_
    refine r_icmp_ge 120 dX10_feed_27 (by decide) (fun c2 => ?_) (fun c2 => ?_)
    · replace hP := hP.1 c2
      refine r_aload_n dX10_feed_120 0 rfl ?_
      refine r_getI fX10_106 (hG.lt (by decide)) sh57 fs57_1 dX10_feed_121 ?_
      exact r_ireturn _ dX10_feed_124 rfl rfl ⟨congrArg (fun z => some (Value.int z)) (by unfold F_X10_feed; rw [if_pos c1]), by unfold M_X10_feed; rw [if_pos c1]⟩
    · replace hP := hP.2 c2
      refine r_iload dX10_feed_30 6 rfl ?_
      refine r_iconst 4 dX10_feed_32 rfl ?_
      refine r_join 76 [(0, .ref (ga G 57)), (1, .int p1), (2, .int p2), (3, .int p3), (4, .int p4), (5, .int p5), (6, .int (nI (NX10_feed_23 p1 p2 p3 p4 p5 μ)))] [.int (VX10_feed_2 p1 p2 p3 p4 p5 μ)] (SX10_feed_23 p1 p2 p3 p4 p5 μ) ?_ (fun hJ => ?_)
      · refine r_istore [(7, _), (0, _), (1, _), (2, _), (3, _), (4, _), (5, _), (6, _)] dX10_feed_76 (Nat.le_of_ble_eq_true rfl) rfl ?_
        refine r_aload_n dX10_feed_78 1 rfl ?_
        refine r_getR 58 fX10_13 (hG.lt (by decide)) sh57 fs57_9 dX10_feed_79 ?_
        refine r_aload_n dX10_feed_82 1 rfl ?_
        refine r_getI fX10_106 (hG.lt (by decide)) sh57 fs57_1 dX10_feed_83 ?_
        refine r_iload dX10_feed_86 0 rfl ?_
        refine r_bipush 24 dX10_feed_88 rfl ?_
        refine r_bipush 8 dX10_feed_90 rfl ?_
        refine r_iload dX10_feed_92 7 rfl ?_
        refine r_iconst 4 dX10_feed_94 rfl ?_
        refine r_irem dX10_feed_95 (by decide) ?_
        refine r_imul dX10_feed_96 ?_
        refine r_isub dX10_feed_97 ?_
        refine r_ishr dX10_feed_98 rfl ?_
        refine r_sipush 255 dX10_feed_99 rfl ?_
        refine r_iand dX10_feed_102 ?_
        have hs3 := hP.1
        replace hP := hP.2
        refine r_iast (hG.lt (by decide)) sh58 hs3 dX10_feed_103 ?_
        refine r_mu (muX10_feed_3 p1 p2 p3 p4 p5 μ) rfl ?_
        refine r_aload_n dX10_feed_104 1 rfl ?_
        refine r_dup dX10_feed_105 rfl ?_
        refine r_getI fX10_106 (hG.lt (by decide)) sh57 fs57_1 dX10_feed_106 ?_
        refine r_iconst 1 dX10_feed_109 rfl ?_
        refine r_iadd dX10_feed_110 ?_
        refine r_put fiX10_106 (hG.lt (by decide)) sh57 fs57_1 dX10_feed_111 ?_
        refine r_mu (muX10_feed_4 p1 p2 p3 p4 p5 μ) rfl ?_
        refine r_iinc ((nI (NX10_feed_23 p1 p2 p3 p4 p5 μ)) + 1) [(6, _), (7, _), (0, _), (1, _), (2, _), (3, _), (4, _), (5, _)] dX10_feed_114 7 rfl rfl (Nat.le_of_ble_eq_true rfl) rfl ?_
        refine r_goto 23 dX10_feed_117 (by decide) ?_
        exact hP.elim
      · refine r_icmp_ge 40 dX10_feed_33 (by decide) (fun c3 => ?_) (fun c3 => ?_)
        · refine r_iload dX10_feed_40 6 rfl ?_
          refine r_bipush 8 dX10_feed_42 rfl ?_
          refine r_icmp_ge 51 dX10_feed_44 (by decide) (fun c4 => ?_) (fun c4 => ?_)
          · refine r_iload dX10_feed_51 6 rfl ?_
            refine r_bipush 12 dX10_feed_53 rfl ?_
            refine r_icmp_ge 62 dX10_feed_55 (by decide) (fun c5 => ?_) (fun c5 => ?_)
            · refine r_iload dX10_feed_62 6 rfl ?_
              refine r_bipush 16 dX10_feed_64 rfl ?_
              refine r_icmp_ge 74 dX10_feed_66 (by decide) (fun c6 => ?_) (fun c6 => ?_)
              · refine r_iload dX10_feed_74 5 rfl ?_
                have e : (VX10_feed_2 p1 p2 p3 p4 p5 μ) = p5 := by unfold VX10_feed_2; rw [if_pos c3, if_pos c4, if_pos c5, if_pos c6]
                rw [e] at hJ
                exact r_sub [0, 1, 2, 3, 4, 5, 6] rfl hJ
              · refine r_iload dX10_feed_69 4 rfl ?_
                refine r_goto 76 dX10_feed_71 (by decide) ?_
                have e : (VX10_feed_2 p1 p2 p3 p4 p5 μ) = p4 := by unfold VX10_feed_2; rw [if_pos c3, if_pos c4, if_pos c5, if_neg (i32_ng c6)]
                rw [e] at hJ
                exact r_sub [0, 1, 2, 3, 4, 5, 6] rfl hJ
            · refine r_iload_n dX10_feed_58 3 rfl ?_
              refine r_goto 76 dX10_feed_59 (by decide) ?_
              have e : (VX10_feed_2 p1 p2 p3 p4 p5 μ) = p3 := by unfold VX10_feed_2; rw [if_pos c3, if_pos c4, if_neg (i32_ng c5)]
              rw [e] at hJ
              exact r_sub [0, 1, 2, 3, 4, 5, 6] rfl hJ
          · refine r_iload_n dX10_feed_47 2 rfl ?_
            refine r_goto 76 dX10_feed_48 (by decide) ?_
            have e : (VX10_feed_2 p1 p2 p3 p4 p5 μ) = p2 := by unfold VX10_feed_2; rw [if_pos c3, if_neg (i32_ng c4)]
            rw [e] at hJ
            exact r_sub [0, 1, 2, 3, 4, 5, 6] rfl hJ
        · refine r_iload_n dX10_feed_36 1 rfl ?_
          refine r_goto 76 dX10_feed_37 (by decide) ?_
          have e : (VX10_feed_2 p1 p2 p3 p4 p5 μ) = p1 := by unfold VX10_feed_2; rw [if_neg (i32_ng c3)]
          rw [e] at hJ
          exact r_sub [0, 1, 2, 3, 4, 5, 6] rfl hJ
  · replace hP := hP.2 c1
    refine r_iconst (-1) dX10_feed_18 rfl ?_
    exact r_ireturn _ dX10_feed_19 rfl rfl ⟨congrArg (fun z => some (Value.int z)) (by unfold F_X10_feed; rw [if_neg (i32_ng c1)]), by unfold M_X10_feed; rw [if_neg (i32_ng c1)]⟩
def F_X10_byteAt (p1 : Int32) (μ : Mem) : Int32 := (if p1 < (μ 57 2) then (μ 58 (ix p1)) else (-1))
def P_X10_byteAt (p1 : Int32) (μ : Mem) : Prop := ((p1 < (μ 57 2) → (vp_in p1 600)) ∧ ((μ 57 2) ≤ p1 → True))
set_option maxRecDepth 20000 in
set_option maxHeartbeats 2000000 in
theorem ok_X10_byteAt {G : SG} (hG : GK 548 G) (p1 : Int32) (μ : Mem) (hP : P_X10_byteAt p1 μ) : OkF G mX10_byteAt [.ref (ga G 57), .int p1] μ (some (.int (F_X10_byteAt p1 μ))) μ := by
  refine okF_of hG rfl rfl (Nat.le_of_ble_eq_true rfl) ?_
  unfold P_X10_byteAt at hP
  refine r_iload_n dX10_byteAt_0 1 rfl ?_
  refine r_aload_n dX10_byteAt_1 0 rfl ?_
  refine r_getI fX10_109 (hG.lt (by decide)) sh57 fs57_2 dX10_byteAt_2 ?_
  refine r_icmp_lt 12 dX10_byteAt_5 (by decide) (fun c1 => ?_) (fun c1 => ?_)
  · replace hP := hP.1 c1
    refine r_aload_n dX10_byteAt_12 0 rfl ?_
    refine r_getR 58 fX10_13 (hG.lt (by decide)) sh57 fs57_9 dX10_byteAt_13 ?_
    refine r_iload_n dX10_byteAt_16 1 rfl ?_
    have hs1 := hP
    refine r_iald (hG.lt (by decide)) sh58 hs1 dX10_byteAt_17 ?_
    exact r_ireturn _ dX10_byteAt_18 rfl rfl ⟨congrArg (fun z => some (Value.int z)) (by unfold F_X10_byteAt; rw [if_pos c1]), rfl⟩
  · replace hP := hP.2 c1
    refine r_iconst (-1) dX10_byteAt_8 rfl ?_
    refine r_goto 18 dX10_byteAt_9 (by decide) ?_
    exact r_ireturn _ dX10_byteAt_18 rfl rfl ⟨congrArg (fun z => some (Value.int z)) (by unfold F_X10_byteAt; rw [if_neg (i32_nl c1)]), rfl⟩
def muX10_blanks_0_1 (i : Nat) (s : Mem) : Mem := (upm s 57 4 ((s 57 4) + 1))
def g_X10_blanks_0  (i : Nat) (s : Mem) : Mem := (muX10_blanks_0_1 i s)
def Pb_X10_blanks_0  (i : Nat) (s : Mem) : Prop := (P_X10_byteAt (s 57 4) s) ∧ (((F_X10_byteAt (s 57 4) s) ≠ 32 → False) ∧ ((F_X10_byteAt (s 57 4) s) = 32 → True))
def Cb_X10_blanks_0  (i : Nat) (s : Mem) : Bool := (if (F_X10_byteAt (s 57 4) s) ≠ 32 then false else true)
set_option maxRecDepth 20000 in
set_option maxHeartbeats 2000000 in
theorem lp_X10_blanks_0 {G : SG} (hG : GK 548 G)   (s0 : Mem) (N : Nat) (sN : Mem) (eN : sN = fo N g_X10_blanks_0 s0) (hN : ∀ i, i < N → Pb_X10_blanks_0  i (fo i g_X10_blanks_0 s0)) {t : Nat} {Q : PQ} {X : PX} (h : R G mX10_blanks 0 [(0, .ref (ga G 57))] [] sN t Q X) : R G mX10_blanks 0 [(0, .ref (ga G 57))] [] s0 t Q X := by
  subst eN
  refine down_i N (fun i => R G mX10_blanks 0 [(0, .ref (ga G 57))] [] (fo i g_X10_blanks_0 s0) t Q X) h (fun i hi hS => ?_)
  have hP := hN i hi
  rw [fo_succ] at hS
  generalize fo i g_X10_blanks_0 s0 = s at hS hP ⊢
  unfold Pb_X10_blanks_0 at hP
  refine r_aload_n dX10_blanks_0 0 rfl ?_
  refine r_aload_n dX10_blanks_1 0 rfl ?_
  refine r_getI fX10_112 (hG.lt (by decide)) sh57 fs57_4 dX10_blanks_2 ?_
  have hs1 := hP.1
  replace hP := hP.2
  refine r_cvI (ok_X10_byteAt hG (s 57 4) s hs1) lX10_115 (hG.lt (by decide)) sh57 ⟨_, _, rfl⟩ dX10_blanks_5 (by decide) (Nat.le_of_ble_eq_true rfl) rfl (Nat.le_of_ble_eq_true rfl) ?_
  refine r_bipush 32 dX10_blanks_8 rfl ?_
  refine r_icmp_ne 26 dX10_blanks_10 (by decide) (fun c1 => ?_) (fun c1 => ?_)
  · replace hP := hP.1 c1
    exact hP.elim
  · replace hP := hP.2 c1
    refine r_aload_n dX10_blanks_13 0 rfl ?_
    refine r_dup dX10_blanks_14 rfl ?_
    refine r_getI fX10_112 (hG.lt (by decide)) sh57 fs57_4 dX10_blanks_15 ?_
    refine r_iconst 1 dX10_blanks_18 rfl ?_
    refine r_iadd dX10_blanks_19 ?_
    refine r_put fiX10_112 (hG.lt (by decide)) sh57 fs57_4 dX10_blanks_20 ?_
    refine r_mu (muX10_blanks_0_1 i s) rfl ?_
    refine r_goto 0 dX10_blanks_23 (by decide) ?_
    have e : g_X10_blanks_0  i s = (muX10_blanks_0_1 i s) := by unfold g_X10_blanks_0; rfl
    rw [e] at hS
    exact r_sub [0] rfl hS
def NX10_blanks_0 (μ : Mem) : Nat := (fst 601 (fun j9 => !Cb_X10_blanks_0  j9 (fo j9 g_X10_blanks_0 μ)))
def SX10_blanks_0 (μ : Mem) : Mem := fo (NX10_blanks_0 μ) g_X10_blanks_0 μ
def muX10_blanks_1 (μ : Mem) : Mem := (upm (SX10_blanks_0 μ) 57 4 (((SX10_blanks_0 μ) 57 4) + 1))
def M_X10_blanks  (μ : Mem) : Mem := (SX10_blanks_0 μ)
def P_X10_blanks  (μ : Mem) : Prop := ((∀ j9, j9 < (NX10_blanks_0 μ) → Pb_X10_blanks_0  j9 (fo j9 g_X10_blanks_0 μ)) ∧ ((P_X10_byteAt ((SX10_blanks_0 μ) 57 4) (SX10_blanks_0 μ)) ∧ (((F_X10_byteAt ((SX10_blanks_0 μ) 57 4) (SX10_blanks_0 μ)) ≠ 32 → True) ∧ ((F_X10_byteAt ((SX10_blanks_0 μ) 57 4) (SX10_blanks_0 μ)) = 32 → False))))
set_option maxRecDepth 20000 in
set_option maxHeartbeats 2000000 in
theorem ok_X10_blanks {G : SG} (hG : GK 548 G)  (μ : Mem) (hP : P_X10_blanks  μ) : OkF G mX10_blanks [.ref (ga G 57)] μ none (M_X10_blanks  μ) := by
  refine okF_of hG rfl rfl (Nat.le_of_ble_eq_true rfl) ?_
  unfold P_X10_blanks at hP
  have hs1 := hP.1
  replace hP := hP.2
  refine r_sub [0] rfl ?_
  refine lp_X10_blanks_0 hG μ ((NX10_blanks_0 μ)) (SX10_blanks_0 μ) rfl hs1 ?_
  refine r_aload_n dX10_blanks_0 0 rfl ?_
  refine r_aload_n dX10_blanks_1 0 rfl ?_
  refine r_getI fX10_112 (hG.lt (by decide)) sh57 fs57_4 dX10_blanks_2 ?_
  have hs2 := hP.1
  replace hP := hP.2
  refine r_cvI (ok_X10_byteAt hG ((SX10_blanks_0 μ) 57 4) (SX10_blanks_0 μ) hs2) lX10_115 (hG.lt (by decide)) sh57 ⟨_, _, rfl⟩ dX10_blanks_5 (by decide) (Nat.le_of_ble_eq_true rfl) rfl (Nat.le_of_ble_eq_true rfl) ?_
  refine r_bipush 32 dX10_blanks_8 rfl ?_
  refine r_icmp_ne 26 dX10_blanks_10 (by decide) (fun c1 => ?_) (fun c1 => ?_)
  · replace hP := hP.1 c1
    exact r_return dX10_blanks_26 rfl ⟨rfl, rfl⟩
  · replace hP := hP.2 c1
    refine r_aload_n dX10_blanks_13 0 rfl ?_
    refine r_dup dX10_blanks_14 rfl ?_
    refine r_getI fX10_112 (hG.lt (by decide)) sh57 fs57_4 dX10_blanks_15 ?_
    refine r_iconst 1 dX10_blanks_18 rfl ?_
    refine r_iadd dX10_blanks_19 ?_
    refine r_put fiX10_112 (hG.lt (by decide)) sh57 fs57_4 dX10_blanks_20 ?_
    refine r_mu (muX10_blanks_1 μ) rfl ?_
    refine r_goto 0 dX10_blanks_23 (by decide) ?_
    exact hP.elim
def muX10_wrong_1 (p1 : Int32) (p2 : Int32) (μ : Mem) : Mem := (upm μ 57 5 p1)
def muX10_wrong_2 (p1 : Int32) (p2 : Int32) (μ : Mem) : Mem := (upm (muX10_wrong_1 p1 p2 μ) 57 6 p2)
def M_X10_wrong (p1 : Int32) (p2 : Int32) (μ : Mem) : Mem := (if (μ 57 5) ≠ 0 then μ else (muX10_wrong_2 p1 p2 μ))
set_option maxRecDepth 20000 in
set_option maxHeartbeats 2000000 in
theorem ok_X10_wrong {G : SG} (hG : GK 548 G) (p1 : Int32) (p2 : Int32) (μ : Mem) : OkF G mX10_wrong [.ref (ga G 57), .int p1, .int p2] μ none (M_X10_wrong p1 p2 μ) := by
  refine okF_of hG rfl rfl (Nat.le_of_ble_eq_true rfl) ?_
  refine r_aload_n dX10_wrong_0 0 rfl ?_
  refine r_getI fX10_119 (hG.lt (by decide)) sh57 fs57_5 dX10_wrong_1 ?_
  refine r_if_ne 17 dX10_wrong_4 (by decide) (fun c1 => ?_) (fun c1 => ?_)
  · exact r_return dX10_wrong_17 rfl ⟨rfl, by unfold M_X10_wrong; rw [if_pos c1]⟩
  · refine r_aload_n dX10_wrong_7 0 rfl ?_
    refine r_iload_n dX10_wrong_8 1 rfl ?_
    refine r_put fiX10_119 (hG.lt (by decide)) sh57 fs57_5 dX10_wrong_9 ?_
    refine r_mu (muX10_wrong_1 p1 p2 μ) rfl ?_
    refine r_aload_n dX10_wrong_12 0 rfl ?_
    refine r_iload_n dX10_wrong_13 2 rfl ?_
    refine r_put fiX10_122 (hG.lt (by decide)) sh57 fs57_6 dX10_wrong_14 ?_
    refine r_mu (muX10_wrong_2 p1 p2 μ) rfl ?_
    exact r_return dX10_wrong_17 rfl ⟨rfl, by unfold M_X10_wrong; rw [if_neg (not_not_intro c1)]⟩
def F_X10_isDigit (p0 : Int32) (μ : Mem) : Int32 := (if p0 < 48 then 0 else (if 57 < p0 then 0 else 1))
theorem bo_X10_isDigit (p0 : Int32) (μ : Mem) : F_X10_isDigit p0 μ = 0 ∨ F_X10_isDigit p0 μ = 1 := by
  unfold F_X10_isDigit
  split
  · exact Or.inl rfl
  · split
    · exact Or.inl rfl
    · exact Or.inr rfl
set_option maxRecDepth 20000 in
set_option maxHeartbeats 2000000 in
theorem ok_X10_isDigit {G : SG} (hG : GK 548 G) (p0 : Int32) (μ : Mem) : OkF G mX10_isDigit [.int p0] μ (some (.int (F_X10_isDigit p0 μ))) μ := by
  refine okF_of hG rfl rfl (Nat.le_of_ble_eq_true rfl) ?_
  refine r_iload_n dX10_isDigit_0 0 rfl ?_
  refine r_bipush 48 dX10_isDigit_1 rfl ?_
  refine r_icmp_lt 16 dX10_isDigit_3 (by decide) (fun c1 => ?_) (fun c1 => ?_)
  · refine r_iconst 0 dX10_isDigit_16 rfl ?_
    exact r_ireturn _ dX10_isDigit_17 rfl rfl ⟨congrArg (fun z => some (Value.int z)) (by unfold F_X10_isDigit; rw [if_pos c1]), rfl⟩
  · refine r_iload_n dX10_isDigit_6 0 rfl ?_
    refine r_bipush 57 dX10_isDigit_7 rfl ?_
    refine r_icmp_gt 16 dX10_isDigit_9 (by decide) (fun c2 => ?_) (fun c2 => ?_)
    · refine r_iconst 0 dX10_isDigit_16 rfl ?_
      exact r_ireturn _ dX10_isDigit_17 rfl rfl ⟨congrArg (fun z => some (Value.int z)) (by unfold F_X10_isDigit; rw [if_neg (i32_nl c1), if_pos c2]), rfl⟩
    · refine r_iconst 1 dX10_isDigit_12 rfl ?_
      refine r_goto 17 dX10_isDigit_13 (by decide) ?_
      exact r_ireturn _ dX10_isDigit_17 rfl rfl ⟨congrArg (fun z => some (Value.int z)) (by unfold F_X10_isDigit; rw [if_neg (i32_nl c1), if_neg (i32_nl c2)]), rfl⟩
def F_X10_isSmall (p0 : Int32) (μ : Mem) : Int32 := (if p0 < 97 then 0 else (if 122 < p0 then 0 else 1))
theorem bo_X10_isSmall (p0 : Int32) (μ : Mem) : F_X10_isSmall p0 μ = 0 ∨ F_X10_isSmall p0 μ = 1 := by
  unfold F_X10_isSmall
  split
  · exact Or.inl rfl
  · split
    · exact Or.inl rfl
    · exact Or.inr rfl
set_option maxRecDepth 20000 in
set_option maxHeartbeats 2000000 in
theorem ok_X10_isSmall {G : SG} (hG : GK 548 G) (p0 : Int32) (μ : Mem) : OkF G mX10_isSmall [.int p0] μ (some (.int (F_X10_isSmall p0 μ))) μ := by
  refine okF_of hG rfl rfl (Nat.le_of_ble_eq_true rfl) ?_
  refine r_iload_n dX10_isSmall_0 0 rfl ?_
  refine r_bipush 97 dX10_isSmall_1 rfl ?_
  refine r_icmp_lt 16 dX10_isSmall_3 (by decide) (fun c1 => ?_) (fun c1 => ?_)
  · refine r_iconst 0 dX10_isSmall_16 rfl ?_
    exact r_ireturn _ dX10_isSmall_17 rfl rfl ⟨congrArg (fun z => some (Value.int z)) (by unfold F_X10_isSmall; rw [if_pos c1]), rfl⟩
  · refine r_iload_n dX10_isSmall_6 0 rfl ?_
    refine r_bipush 122 dX10_isSmall_7 rfl ?_
    refine r_icmp_gt 16 dX10_isSmall_9 (by decide) (fun c2 => ?_) (fun c2 => ?_)
    · refine r_iconst 0 dX10_isSmall_16 rfl ?_
      exact r_ireturn _ dX10_isSmall_17 rfl rfl ⟨congrArg (fun z => some (Value.int z)) (by unfold F_X10_isSmall; rw [if_neg (i32_nl c1), if_pos c2]), rfl⟩
    · refine r_iconst 1 dX10_isSmall_12 rfl ?_
      refine r_goto 17 dX10_isSmall_13 (by decide) ?_
      exact r_ireturn _ dX10_isSmall_17 rfl rfl ⟨congrArg (fun z => some (Value.int z)) (by unfold F_X10_isSmall; rw [if_neg (i32_nl c1), if_neg (i32_nl c2)]), rfl⟩
def muX10_number_1 (p1 : Int32) (p2 : Int32) (μ : Mem) : Mem := (M_X10_blanks  μ)
def VX10_number_44_1 (v1 : Int32) (v2 : Int32) (v3 : Int32) (i : Nat) (s : Int32 × Mem) : Int32 := (if (((10 * s.1) + (F_X10_byteAt (s.2 57 4) s.2)) - 48) ≤ 100000 then (((10 * s.1) + (F_X10_byteAt (s.2 57 4) s.2)) - 48) else 100000)
def muX10_number_44_2 (v1 : Int32) (v2 : Int32) (v3 : Int32) (i : Nat) (s : Int32 × Mem) : Mem := (upm s.2 57 4 ((s.2 57 4) + 1))
def g_X10_number_44 (v1 : Int32) (v2 : Int32) (v3 : Int32) (i : Nat) (s : Int32 × Mem) : Int32 × Mem := ((VX10_number_44_1 v1 v2 v3 i s), (muX10_number_44_2 v1 v2 v3 i s))
def Pb_X10_number_44 (v1 : Int32) (v2 : Int32) (v3 : Int32) (i : Nat) (s : Int32 × Mem) : Prop := (P_X10_byteAt (s.2 57 4) s.2) ∧ (((F_X10_isDigit (F_X10_byteAt (s.2 57 4) s.2) s.2) = 0 → False) ∧ (¬ (F_X10_isDigit (F_X10_byteAt (s.2 57 4) s.2) s.2) = 0 → P_X10_byteAt (s.2 57 4) s.2))
def Cb_X10_number_44 (v1 : Int32) (v2 : Int32) (v3 : Int32) (i : Nat) (s : Int32 × Mem) : Bool := (if (F_X10_isDigit (F_X10_byteAt (s.2 57 4) s.2) s.2) = 0 then false else true)
set_option maxRecDepth 20000 in
set_option maxHeartbeats 2000000 in
theorem lp_X10_number_44 {G : SG} (hG : GK 548 G)  (v1 : Int32) (v2 : Int32) (v3 : Int32) (s0 : Int32 × Mem) (N : Nat) (sN : Int32 × Mem) (eN : sN = fo N (g_X10_number_44 v1 v2 v3) s0) (hN : ∀ i, i < N → Pb_X10_number_44 v1 v2 v3 i (fo i (g_X10_number_44 v1 v2 v3) s0)) {t : Nat} {Q : PQ} {X : PX} (h : R G mX10_number 44 [(0, .ref (ga G 57)), (1, .int v1), (2, .int v2), (3, .int v3), (4, .int (sN).1)] [] (sN).2 t Q X) : R G mX10_number 44 [(0, .ref (ga G 57)), (1, .int v1), (2, .int v2), (3, .int v3), (4, .int (s0).1)] [] (s0).2 t Q X := by
  subst eN
  refine down_i N (fun i => R G mX10_number 44 [(0, .ref (ga G 57)), (1, .int v1), (2, .int v2), (3, .int v3), (4, .int ((fo i (g_X10_number_44 v1 v2 v3) s0)).1)] [] ((fo i (g_X10_number_44 v1 v2 v3) s0)).2 t Q X) h (fun i hi hS => ?_)
  have hP := hN i hi
  rw [fo_succ] at hS
  generalize fo i (g_X10_number_44 v1 v2 v3) s0 = s at hS hP ⊢
  unfold Pb_X10_number_44 at hP
  refine r_aload_n dX10_number_44 0 rfl ?_
  refine r_aload_n dX10_number_45 0 rfl ?_
  refine r_getI fX10_112 (hG.lt (by decide)) sh57 fs57_4 dX10_number_46 ?_
  have hs1 := hP.1
  replace hP := hP.2
  refine r_cvI (ok_X10_byteAt hG (s.2 57 4) s.2 hs1) lX10_115 (hG.lt (by decide)) sh57 ⟨_, _, rfl⟩ dX10_number_49 (by decide) (Nat.le_of_ble_eq_true rfl) rfl (Nat.le_of_ble_eq_true rfl) ?_
  refine r_csI (ok_X10_isDigit hG (F_X10_byteAt (s.2 57 4) s.2) s.2) lX10_128 dX10_number_52 (by decide) (Nat.le_of_ble_eq_true rfl) rfl (Nat.le_of_ble_eq_true rfl) ?_
  refine r_if_eq 106 dX10_number_55 (by decide) (fun c1 => ?_) (fun c1 => ?_)
  · replace hP := hP.1 c1
    exact hP.elim
  · replace hP := hP.2 c1
    refine r_bipush 10 dX10_number_58 rfl ?_
    refine r_iload dX10_number_60 4 rfl ?_
    refine r_imul dX10_number_62 ?_
    refine r_aload_n dX10_number_63 0 rfl ?_
    refine r_aload_n dX10_number_64 0 rfl ?_
    refine r_getI fX10_112 (hG.lt (by decide)) sh57 fs57_4 dX10_number_65 ?_
    have hs2 := hP
    refine r_cvI (ok_X10_byteAt hG (s.2 57 4) s.2 hs2) lX10_115 (hG.lt (by decide)) sh57 ⟨_, _, rfl⟩ dX10_number_68 (by decide) (Nat.le_of_ble_eq_true rfl) rfl (Nat.le_of_ble_eq_true rfl) ?_
    refine r_iadd dX10_number_71 ?_
    refine r_bipush 48 dX10_number_72 rfl ?_
    refine r_isub dX10_number_74 ?_
    refine r_istore [(4, _), (0, _), (1, _), (2, _), (3, _)] dX10_number_75 (Nat.le_of_ble_eq_true rfl) rfl ?_
    refine r_iload dX10_number_77 0 rfl ?_
    refine r_ldcI 100000 (bc7 124 (by decide +kernel) (by decide +kernel)) dX10_number_79 ?_
    refine r_join 91 [(4, .int (((10 * s.1) + (F_X10_byteAt (s.2 57 4) s.2)) - 48)), (0, .ref (ga G 57)), (1, .int v1), (2, .int v2), (3, .int v3)] [.int (VX10_number_44_1 v1 v2 v3 i s)] s.2 ?_ (fun hJ => ?_)
    · refine r_istore [(4, _), (0, _), (1, _), (2, _), (3, _)] dX10_number_91 (Nat.le_of_ble_eq_true rfl) rfl ?_
      refine r_aload_n dX10_number_93 1 rfl ?_
      refine r_dup dX10_number_94 rfl ?_
      refine r_getI fX10_112 (hG.lt (by decide)) sh57 fs57_4 dX10_number_95 ?_
      refine r_iconst 1 dX10_number_98 rfl ?_
      refine r_iadd dX10_number_99 ?_
      refine r_put fiX10_112 (hG.lt (by decide)) sh57 fs57_4 dX10_number_100 ?_
      refine r_mu (muX10_number_44_2 v1 v2 v3 i s) rfl ?_
      refine r_goto 44 dX10_number_103 (by decide) ?_
      have e : g_X10_number_44 v1 v2 v3 i s = ((VX10_number_44_1 v1 v2 v3 i s), (muX10_number_44_2 v1 v2 v3 i s)) := by unfold g_X10_number_44; rfl
      rw [e] at hS
      dsimp only at hS
      exact r_sub [1, 2, 3, 4, 0] rfl hS
    · refine r_icmp_le 89 dX10_number_81 (by decide) (fun c2 => ?_) (fun c2 => ?_)
      · refine r_iload dX10_number_89 0 rfl ?_
        have e : (VX10_number_44_1 v1 v2 v3 i s) = (((10 * s.1) + (F_X10_byteAt (s.2 57 4) s.2)) - 48) := by unfold VX10_number_44_1; rw [if_pos c2]
        rw [e] at hJ
        exact r_sub [0, 1, 2, 3, 4] rfl hJ
      · refine r_ldcI 100000 (bc7 124 (by decide +kernel) (by decide +kernel)) dX10_number_84 ?_
        refine r_goto 91 dX10_number_86 (by decide) ?_
        have e : (VX10_number_44_1 v1 v2 v3 i s) = 100000 := by unfold VX10_number_44_1; rw [if_neg (i32_ng c2)]
        rw [e] at hJ
        exact r_sub [0, 1, 2, 3, 4] rfl hJ
def NX10_number_44 (p1 : Int32) (p2 : Int32) (μ : Mem) : Nat := (fst 601 (fun j9 => !Cb_X10_number_44 p1 p2 ((muX10_number_1 p1 p2 μ) 57 4) j9 (fo j9 (g_X10_number_44 p1 p2 ((muX10_number_1 p1 p2 μ) 57 4)) (0, (muX10_number_1 p1 p2 μ)))))
def SX10_number_44 (p1 : Int32) (p2 : Int32) (μ : Mem) : Int32 × Mem := fo (NX10_number_44 p1 p2 μ) (g_X10_number_44 p1 p2 ((muX10_number_1 p1 p2 μ) 57 4)) (0, (muX10_number_1 p1 p2 μ))
def muX10_number_2 (p1 : Int32) (p2 : Int32) (μ : Mem) : Mem := (M_X10_wrong 2 ((muX10_number_1 p1 p2 μ) 57 4) (SX10_number_44 p1 p2 μ).2)
def VX10_number_3 (p1 : Int32) (p2 : Int32) (μ : Mem) : Mem := (if (F_X10_isIn (SX10_number_44 p1 p2 μ).1 p1 p2 (SX10_number_44 p1 p2 μ).2) ≠ 0 then (SX10_number_44 p1 p2 μ).2 else (muX10_number_2 p1 p2 μ))
def VX10_number_4 (p1 : Int32) (p2 : Int32) (μ : Mem) : Int32 := (if (((10 * (SX10_number_44 p1 p2 μ).1) + (F_X10_byteAt ((SX10_number_44 p1 p2 μ).2 57 4) (SX10_number_44 p1 p2 μ).2)) - 48) ≤ 100000 then (((10 * (SX10_number_44 p1 p2 μ).1) + (F_X10_byteAt ((SX10_number_44 p1 p2 μ).2 57 4) (SX10_number_44 p1 p2 μ).2)) - 48) else 100000)
def muX10_number_5 (p1 : Int32) (p2 : Int32) (μ : Mem) : Mem := (upm (SX10_number_44 p1 p2 μ).2 57 4 (((SX10_number_44 p1 p2 μ).2 57 4) + 1))
def muX10_number_6 (p1 : Int32) (p2 : Int32) (μ : Mem) : Mem := (M_X10_wrong 1 ((muX10_number_1 p1 p2 μ) 57 4) (muX10_number_1 p1 p2 μ))
def NX10_number_44' (p1 : Int32) (p2 : Int32) (μ : Mem) : Nat := (fst 601 (fun j9 => !Cb_X10_number_44 p1 p2 ((muX10_number_1 p1 p2 μ) 57 4) j9 (fo j9 (g_X10_number_44 p1 p2 ((muX10_number_1 p1 p2 μ) 57 4)) (0, (muX10_number_6 p1 p2 μ)))))
def SX10_number_44' (p1 : Int32) (p2 : Int32) (μ : Mem) : Int32 × Mem := fo (NX10_number_44' p1 p2 μ) (g_X10_number_44 p1 p2 ((muX10_number_1 p1 p2 μ) 57 4)) (0, (muX10_number_6 p1 p2 μ))
def muX10_number_7 (p1 : Int32) (p2 : Int32) (μ : Mem) : Mem := (M_X10_wrong 2 ((muX10_number_1 p1 p2 μ) 57 4) (SX10_number_44' p1 p2 μ).2)
def VX10_number_8 (p1 : Int32) (p2 : Int32) (μ : Mem) : Mem := (if (F_X10_isIn (SX10_number_44' p1 p2 μ).1 p1 p2 (SX10_number_44' p1 p2 μ).2) ≠ 0 then (SX10_number_44' p1 p2 μ).2 else (muX10_number_7 p1 p2 μ))
def VX10_number_9 (p1 : Int32) (p2 : Int32) (μ : Mem) : Int32 := (if (((10 * (SX10_number_44' p1 p2 μ).1) + (F_X10_byteAt ((SX10_number_44' p1 p2 μ).2 57 4) (SX10_number_44' p1 p2 μ).2)) - 48) ≤ 100000 then (((10 * (SX10_number_44' p1 p2 μ).1) + (F_X10_byteAt ((SX10_number_44' p1 p2 μ).2 57 4) (SX10_number_44' p1 p2 μ).2)) - 48) else 100000)
def muX10_number_10 (p1 : Int32) (p2 : Int32) (μ : Mem) : Mem := (upm (SX10_number_44' p1 p2 μ).2 57 4 (((SX10_number_44' p1 p2 μ).2 57 4) + 1))
def F_X10_number (p1 : Int32) (p2 : Int32) (μ : Mem) : Int32 := (if (μ 57 5) = 0 then (if (F_X10_isDigit (F_X10_byteAt ((muX10_number_1 p1 p2 μ) 57 4) (muX10_number_1 p1 p2 μ)) (muX10_number_1 p1 p2 μ)) ≠ 0 then (if ((VX10_number_3 p1 p2 μ) 57 5) ≠ 0 then 0 else (SX10_number_44 p1 p2 μ).1) else (if ((VX10_number_8 p1 p2 μ) 57 5) ≠ 0 then 0 else (SX10_number_44' p1 p2 μ).1)) else 0)
def M_X10_number (p1 : Int32) (p2 : Int32) (μ : Mem) : Mem := (if (μ 57 5) = 0 then (if (F_X10_isDigit (F_X10_byteAt ((muX10_number_1 p1 p2 μ) 57 4) (muX10_number_1 p1 p2 μ)) (muX10_number_1 p1 p2 μ)) ≠ 0 then (VX10_number_3 p1 p2 μ) else (VX10_number_8 p1 p2 μ)) else μ)
def P_X10_number (p1 : Int32) (p2 : Int32) (μ : Mem) : Prop := (((μ 57 5) = 0 → ((P_X10_blanks  μ) ∧ ((P_X10_byteAt ((muX10_number_1 p1 p2 μ) 57 4) (muX10_number_1 p1 p2 μ)) ∧ (((F_X10_isDigit (F_X10_byteAt ((muX10_number_1 p1 p2 μ) 57 4) (muX10_number_1 p1 p2 μ)) (muX10_number_1 p1 p2 μ)) ≠ 0 → ((∀ j9, j9 < (NX10_number_44 p1 p2 μ) → Pb_X10_number_44 p1 p2 ((muX10_number_1 p1 p2 μ) 57 4) j9 (fo j9 (g_X10_number_44 p1 p2 ((muX10_number_1 p1 p2 μ) 57 4)) (0, (muX10_number_1 p1 p2 μ)))) ∧ ((P_X10_byteAt ((SX10_number_44 p1 p2 μ).2 57 4) (SX10_number_44 p1 p2 μ).2) ∧ (((F_X10_isDigit (F_X10_byteAt ((SX10_number_44 p1 p2 μ).2 57 4) (SX10_number_44 p1 p2 μ).2) (SX10_number_44 p1 p2 μ).2) = 0 → True) ∧ (¬ (F_X10_isDigit (F_X10_byteAt ((SX10_number_44 p1 p2 μ).2 57 4) (SX10_number_44 p1 p2 μ).2) (SX10_number_44 p1 p2 μ).2) = 0 → ((P_X10_byteAt ((SX10_number_44 p1 p2 μ).2 57 4) (SX10_number_44 p1 p2 μ).2) ∧ False)))))) ∧ ((F_X10_isDigit (F_X10_byteAt ((muX10_number_1 p1 p2 μ) 57 4) (muX10_number_1 p1 p2 μ)) (muX10_number_1 p1 p2 μ)) = 0 → ((∀ j9, j9 < (NX10_number_44' p1 p2 μ) → Pb_X10_number_44 p1 p2 ((muX10_number_1 p1 p2 μ) 57 4) j9 (fo j9 (g_X10_number_44 p1 p2 ((muX10_number_1 p1 p2 μ) 57 4)) (0, (muX10_number_6 p1 p2 μ)))) ∧ ((P_X10_byteAt ((SX10_number_44' p1 p2 μ).2 57 4) (SX10_number_44' p1 p2 μ).2) ∧ (((F_X10_isDigit (F_X10_byteAt ((SX10_number_44' p1 p2 μ).2 57 4) (SX10_number_44' p1 p2 μ).2) (SX10_number_44' p1 p2 μ).2) = 0 → True) ∧ (¬ (F_X10_isDigit (F_X10_byteAt ((SX10_number_44' p1 p2 μ).2 57 4) (SX10_number_44' p1 p2 μ).2) (SX10_number_44' p1 p2 μ).2) = 0 → ((P_X10_byteAt ((SX10_number_44' p1 p2 μ).2 57 4) (SX10_number_44' p1 p2 μ).2) ∧ False)))))))))) ∧ (¬ (μ 57 5) = 0 → True))
set_option maxRecDepth 20000 in
set_option maxHeartbeats 2000000 in
theorem ok_X10_number {G : SG} (hG : GK 548 G) (p1 : Int32) (p2 : Int32) (μ : Mem) (hP : P_X10_number p1 p2 μ) : OkF G mX10_number [.ref (ga G 57), .int p1, .int p2] μ (some (.int (F_X10_number p1 p2 μ))) (M_X10_number p1 p2 μ) := by
  refine okF_of hG rfl rfl (Nat.le_of_ble_eq_true rfl) ?_
  unfold P_X10_number at hP
  refine r_aload_n dX10_number_0 0 rfl ?_
  refine r_getI fX10_119 (hG.lt (by decide)) sh57 fs57_5 dX10_number_1 ?_
  refine r_if_eq 9 dX10_number_4 (by decide) (fun c1 => ?_) (fun c1 => ?_)
  · replace hP := hP.1 c1
    refine r_aload_n dX10_number_9 0 rfl ?_
    have hs1 := hP.1
    replace hP := hP.2
    refine r_cvV (ok_X10_blanks hG  μ hs1) lX10_125 (hG.lt (by decide)) sh57 ⟨_, _, rfl⟩ dX10_number_10 (by decide) (Nat.le_of_ble_eq_true rfl) rfl (Nat.le_of_ble_eq_true rfl) ?_
    refine r_mu (muX10_number_1 p1 p2 μ) rfl ?_
    refine r_aload_n dX10_number_13 0 rfl ?_
    refine r_getI fX10_112 (hG.lt (by decide)) sh57 fs57_4 dX10_number_14 ?_
    refine r_istore_n [(3, _), (0, _), (1, _), (2, _)] dX10_number_17 (Nat.le_of_ble_eq_true rfl) rfl ?_
    refine r_iconst 0 dX10_number_18 rfl ?_
    refine r_istore [(4, _), (3, _), (0, _), (1, _), (2, _)] dX10_number_19 (Nat.le_of_ble_eq_true rfl) rfl ?_
    refine r_aload_n dX10_number_21 2 rfl ?_
    refine r_aload_n dX10_number_22 2 rfl ?_
    refine r_getI fX10_112 (hG.lt (by decide)) sh57 fs57_4 dX10_number_23 ?_
    have hs2 := hP.1
    replace hP := hP.2
    refine r_cvI (ok_X10_byteAt hG ((muX10_number_1 p1 p2 μ) 57 4) (muX10_number_1 p1 p2 μ) hs2) lX10_115 (hG.lt (by decide)) sh57 ⟨_, _, rfl⟩ dX10_number_26 (by decide) (Nat.le_of_ble_eq_true rfl) rfl (Nat.le_of_ble_eq_true rfl) ?_
    refine r_csI (ok_X10_isDigit hG (F_X10_byteAt ((muX10_number_1 p1 p2 μ) 57 4) (muX10_number_1 p1 p2 μ)) (muX10_number_1 p1 p2 μ)) lX10_128 dX10_number_29 (by decide) (Nat.le_of_ble_eq_true rfl) rfl (Nat.le_of_ble_eq_true rfl) ?_
    refine r_if_ne 44 dX10_number_32 (by decide) (fun c2 => ?_) (fun c2 => ?_)
    · replace hP := hP.1 c2
      have hs3 := hP.1
      replace hP := hP.2
      refine r_sub [2, 3, 4, 1, 0] rfl ?_
      refine lp_X10_number_44 hG p1 p2 ((muX10_number_1 p1 p2 μ) 57 4) (0, (muX10_number_1 p1 p2 μ)) ((NX10_number_44 p1 p2 μ)) (SX10_number_44 p1 p2 μ) rfl hs3 ?_
      refine r_aload_n dX10_number_44 0 rfl ?_
      refine r_aload_n dX10_number_45 0 rfl ?_
      refine r_getI fX10_112 (hG.lt (by decide)) sh57 fs57_4 dX10_number_46 ?_
      have hs4 := hP.1
      replace hP := hP.2
      refine r_cvI (ok_X10_byteAt hG ((SX10_number_44 p1 p2 μ).2 57 4) (SX10_number_44 p1 p2 μ).2 hs4) lX10_115 (hG.lt (by decide)) sh57 ⟨_, _, rfl⟩ dX10_number_49 (by decide) (Nat.le_of_ble_eq_true rfl) rfl (Nat.le_of_ble_eq_true rfl) ?_
      refine r_csI (ok_X10_isDigit hG (F_X10_byteAt ((SX10_number_44 p1 p2 μ).2 57 4) (SX10_number_44 p1 p2 μ).2) (SX10_number_44 p1 p2 μ).2) lX10_128 dX10_number_52 (by decide) (Nat.le_of_ble_eq_true rfl) rfl (Nat.le_of_ble_eq_true rfl) ?_
      refine r_if_eq 106 dX10_number_55 (by decide) (fun c3 => ?_) (fun c3 => ?_)
      · replace hP := hP.1 c3
        refine r_iload dX10_number_106 4 rfl ?_
        refine r_iload_n dX10_number_108 1 rfl ?_
        refine r_iload_n dX10_number_109 2 rfl ?_
        refine r_csI (ok_X10_isIn hG (SX10_number_44 p1 p2 μ).1 p1 p2 (SX10_number_44 p1 p2 μ).2) lX10_137 dX10_number_110 (by decide) (Nat.le_of_ble_eq_true rfl) rfl (Nat.le_of_ble_eq_true rfl) ?_
        refine r_join 122 [(0, .ref (ga G 57)), (1, .int p1), (2, .int p2), (3, .int ((muX10_number_1 p1 p2 μ) 57 4)), (4, .int (SX10_number_44 p1 p2 μ).1)] [] (VX10_number_3 p1 p2 μ) ?_ (fun hJ => ?_)
        · refine r_aload_n dX10_number_122 0 rfl ?_
          refine r_getI fX10_119 (hG.lt (by decide)) sh57 fs57_5 dX10_number_123 ?_
          refine r_if_ne 134 dX10_number_126 (by decide) (fun c4 => ?_) (fun c4 => ?_)
          · refine r_iconst 0 dX10_number_134 rfl ?_
            exact r_ireturn _ dX10_number_135 rfl rfl ⟨congrArg (fun z => some (Value.int z)) (by unfold F_X10_number; rw [if_pos c1, if_pos c2, if_pos c4]), by unfold M_X10_number; rw [if_pos c1, if_pos c2]⟩
          · refine r_iload dX10_number_129 4 rfl ?_
            refine r_goto 135 dX10_number_131 (by decide) ?_
            exact r_ireturn _ dX10_number_135 rfl rfl ⟨congrArg (fun z => some (Value.int z)) (by unfold F_X10_number; rw [if_pos c1, if_pos c2, if_neg (not_not_intro c4)]), by unfold M_X10_number; rw [if_pos c1, if_pos c2]⟩
        · refine r_if_ne 122 dX10_number_113 (by decide) (fun c4 => ?_) (fun c4 => ?_)
          · have e : (VX10_number_3 p1 p2 μ) = (SX10_number_44 p1 p2 μ).2 := by unfold VX10_number_3; rw [if_pos c4]
            rw [e] at hJ
            exact r_sub [0, 1, 2, 3, 4] rfl hJ
          · refine r_aload_n dX10_number_116 0 rfl ?_
            refine r_iconst 2 dX10_number_117 rfl ?_
            refine r_iload_n dX10_number_118 3 rfl ?_
            refine r_cvV (ok_X10_wrong hG 2 ((muX10_number_1 p1 p2 μ) 57 4) (SX10_number_44 p1 p2 μ).2) lX10_132 (hG.lt (by decide)) sh57 ⟨_, _, rfl⟩ dX10_number_119 (by decide) (Nat.le_of_ble_eq_true rfl) rfl (Nat.le_of_ble_eq_true rfl) ?_
            refine r_mu (muX10_number_2 p1 p2 μ) rfl ?_
            have e : (VX10_number_3 p1 p2 μ) = (muX10_number_2 p1 p2 μ) := by unfold VX10_number_3; rw [if_neg (not_not_intro c4)]
            rw [e] at hJ
            exact r_sub [0, 1, 2, 3, 4] rfl hJ
      · replace hP := hP.2 c3
        refine r_bipush 10 dX10_number_58 rfl ?_
        refine r_iload dX10_number_60 4 rfl ?_
        refine r_imul dX10_number_62 ?_
        refine r_aload_n dX10_number_63 0 rfl ?_
        refine r_aload_n dX10_number_64 0 rfl ?_
        refine r_getI fX10_112 (hG.lt (by decide)) sh57 fs57_4 dX10_number_65 ?_
        have hs6 := hP.1
        replace hP := hP.2
        refine r_cvI (ok_X10_byteAt hG ((SX10_number_44 p1 p2 μ).2 57 4) (SX10_number_44 p1 p2 μ).2 hs6) lX10_115 (hG.lt (by decide)) sh57 ⟨_, _, rfl⟩ dX10_number_68 (by decide) (Nat.le_of_ble_eq_true rfl) rfl (Nat.le_of_ble_eq_true rfl) ?_
        refine r_iadd dX10_number_71 ?_
        refine r_bipush 48 dX10_number_72 rfl ?_
        refine r_isub dX10_number_74 ?_
        refine r_istore [(4, _), (0, _), (1, _), (2, _), (3, _)] dX10_number_75 (Nat.le_of_ble_eq_true rfl) rfl ?_
        refine r_iload dX10_number_77 0 rfl ?_
        refine r_ldcI 100000 (bc7 124 (by decide +kernel) (by decide +kernel)) dX10_number_79 ?_
        refine r_join 91 [(4, .int (((10 * (SX10_number_44 p1 p2 μ).1) + (F_X10_byteAt ((SX10_number_44 p1 p2 μ).2 57 4) (SX10_number_44 p1 p2 μ).2)) - 48)), (0, .ref (ga G 57)), (1, .int p1), (2, .int p2), (3, .int ((muX10_number_1 p1 p2 μ) 57 4))] [.int (VX10_number_4 p1 p2 μ)] (SX10_number_44 p1 p2 μ).2 ?_ (fun hJ => ?_)
        · refine r_istore [(4, _), (0, _), (1, _), (2, _), (3, _)] dX10_number_91 (Nat.le_of_ble_eq_true rfl) rfl ?_
          refine r_aload_n dX10_number_93 1 rfl ?_
          refine r_dup dX10_number_94 rfl ?_
          refine r_getI fX10_112 (hG.lt (by decide)) sh57 fs57_4 dX10_number_95 ?_
          refine r_iconst 1 dX10_number_98 rfl ?_
          refine r_iadd dX10_number_99 ?_
          refine r_put fiX10_112 (hG.lt (by decide)) sh57 fs57_4 dX10_number_100 ?_
          refine r_mu (muX10_number_5 p1 p2 μ) rfl ?_
          refine r_goto 44 dX10_number_103 (by decide) ?_
          exact hP.elim
        · refine r_icmp_le 89 dX10_number_81 (by decide) (fun c4 => ?_) (fun c4 => ?_)
          · refine r_iload dX10_number_89 0 rfl ?_
            have e : (VX10_number_4 p1 p2 μ) = (((10 * (SX10_number_44 p1 p2 μ).1) + (F_X10_byteAt ((SX10_number_44 p1 p2 μ).2 57 4) (SX10_number_44 p1 p2 μ).2)) - 48) := by unfold VX10_number_4; rw [if_pos c4]
            rw [e] at hJ
            exact r_sub [0, 1, 2, 3, 4] rfl hJ
          · refine r_ldcI 100000 (bc7 124 (by decide +kernel) (by decide +kernel)) dX10_number_84 ?_
            refine r_goto 91 dX10_number_86 (by decide) ?_
            have e : (VX10_number_4 p1 p2 μ) = 100000 := by unfold VX10_number_4; rw [if_neg (i32_ng c4)]
            rw [e] at hJ
            exact r_sub [0, 1, 2, 3, 4] rfl hJ
    · replace hP := hP.2 c2
      refine r_aload_n dX10_number_35 2 rfl ?_
      refine r_iconst 1 dX10_number_36 rfl ?_
      refine r_aload_n dX10_number_37 2 rfl ?_
      refine r_getI fX10_112 (hG.lt (by decide)) sh57 fs57_4 dX10_number_38 ?_
      refine r_cvV (ok_X10_wrong hG 1 ((muX10_number_1 p1 p2 μ) 57 4) (muX10_number_1 p1 p2 μ)) lX10_132 (hG.lt (by decide)) sh57 ⟨_, _, rfl⟩ dX10_number_41 (by decide) (Nat.le_of_ble_eq_true rfl) rfl (Nat.le_of_ble_eq_true rfl) ?_
      refine r_mu (muX10_number_6 p1 p2 μ) rfl ?_
      have hs7 := hP.1
      replace hP := hP.2
      refine r_sub [2, 3, 4, 1, 0] rfl ?_
      refine lp_X10_number_44 hG p1 p2 ((muX10_number_1 p1 p2 μ) 57 4) (0, (muX10_number_6 p1 p2 μ)) ((NX10_number_44' p1 p2 μ)) (SX10_number_44' p1 p2 μ) rfl hs7 ?_
      refine r_aload_n dX10_number_44 0 rfl ?_
      refine r_aload_n dX10_number_45 0 rfl ?_
      refine r_getI fX10_112 (hG.lt (by decide)) sh57 fs57_4 dX10_number_46 ?_
      have hs8 := hP.1
      replace hP := hP.2
      refine r_cvI (ok_X10_byteAt hG ((SX10_number_44' p1 p2 μ).2 57 4) (SX10_number_44' p1 p2 μ).2 hs8) lX10_115 (hG.lt (by decide)) sh57 ⟨_, _, rfl⟩ dX10_number_49 (by decide) (Nat.le_of_ble_eq_true rfl) rfl (Nat.le_of_ble_eq_true rfl) ?_
      refine r_csI (ok_X10_isDigit hG (F_X10_byteAt ((SX10_number_44' p1 p2 μ).2 57 4) (SX10_number_44' p1 p2 μ).2) (SX10_number_44' p1 p2 μ).2) lX10_128 dX10_number_52 (by decide) (Nat.le_of_ble_eq_true rfl) rfl (Nat.le_of_ble_eq_true rfl) ?_
      refine r_if_eq 106 dX10_number_55 (by decide) (fun c3 => ?_) (fun c3 => ?_)
      · replace hP := hP.1 c3
        refine r_iload dX10_number_106 4 rfl ?_
        refine r_iload_n dX10_number_108 1 rfl ?_
        refine r_iload_n dX10_number_109 2 rfl ?_
        refine r_csI (ok_X10_isIn hG (SX10_number_44' p1 p2 μ).1 p1 p2 (SX10_number_44' p1 p2 μ).2) lX10_137 dX10_number_110 (by decide) (Nat.le_of_ble_eq_true rfl) rfl (Nat.le_of_ble_eq_true rfl) ?_
        refine r_join 122 [(0, .ref (ga G 57)), (1, .int p1), (2, .int p2), (3, .int ((muX10_number_1 p1 p2 μ) 57 4)), (4, .int (SX10_number_44' p1 p2 μ).1)] [] (VX10_number_8 p1 p2 μ) ?_ (fun hJ => ?_)
        · refine r_aload_n dX10_number_122 0 rfl ?_
          refine r_getI fX10_119 (hG.lt (by decide)) sh57 fs57_5 dX10_number_123 ?_
          refine r_if_ne 134 dX10_number_126 (by decide) (fun c4 => ?_) (fun c4 => ?_)
          · refine r_iconst 0 dX10_number_134 rfl ?_
            exact r_ireturn _ dX10_number_135 rfl rfl ⟨congrArg (fun z => some (Value.int z)) (by unfold F_X10_number; rw [if_pos c1, if_neg (not_not_intro c2), if_pos c4]), by unfold M_X10_number; rw [if_pos c1, if_neg (not_not_intro c2)]⟩
          · refine r_iload dX10_number_129 4 rfl ?_
            refine r_goto 135 dX10_number_131 (by decide) ?_
            exact r_ireturn _ dX10_number_135 rfl rfl ⟨congrArg (fun z => some (Value.int z)) (by unfold F_X10_number; rw [if_pos c1, if_neg (not_not_intro c2), if_neg (not_not_intro c4)]), by unfold M_X10_number; rw [if_pos c1, if_neg (not_not_intro c2)]⟩
        · refine r_if_ne 122 dX10_number_113 (by decide) (fun c4 => ?_) (fun c4 => ?_)
          · have e : (VX10_number_8 p1 p2 μ) = (SX10_number_44' p1 p2 μ).2 := by unfold VX10_number_8; rw [if_pos c4]
            rw [e] at hJ
            exact r_sub [0, 1, 2, 3, 4] rfl hJ
          · refine r_aload_n dX10_number_116 0 rfl ?_
            refine r_iconst 2 dX10_number_117 rfl ?_
            refine r_iload_n dX10_number_118 3 rfl ?_
            refine r_cvV (ok_X10_wrong hG 2 ((muX10_number_1 p1 p2 μ) 57 4) (SX10_number_44' p1 p2 μ).2) lX10_132 (hG.lt (by decide)) sh57 ⟨_, _, rfl⟩ dX10_number_119 (by decide) (Nat.le_of_ble_eq_true rfl) rfl (Nat.le_of_ble_eq_true rfl) ?_
            refine r_mu (muX10_number_7 p1 p2 μ) rfl ?_
            have e : (VX10_number_8 p1 p2 μ) = (muX10_number_7 p1 p2 μ) := by unfold VX10_number_8; rw [if_neg (not_not_intro c4)]
            rw [e] at hJ
            exact r_sub [0, 1, 2, 3, 4] rfl hJ
      · replace hP := hP.2 c3
        refine r_bipush 10 dX10_number_58 rfl ?_
        refine r_iload dX10_number_60 4 rfl ?_
        refine r_imul dX10_number_62 ?_
        refine r_aload_n dX10_number_63 0 rfl ?_
        refine r_aload_n dX10_number_64 0 rfl ?_
        refine r_getI fX10_112 (hG.lt (by decide)) sh57 fs57_4 dX10_number_65 ?_
        have hs10 := hP.1
        replace hP := hP.2
        refine r_cvI (ok_X10_byteAt hG ((SX10_number_44' p1 p2 μ).2 57 4) (SX10_number_44' p1 p2 μ).2 hs10) lX10_115 (hG.lt (by decide)) sh57 ⟨_, _, rfl⟩ dX10_number_68 (by decide) (Nat.le_of_ble_eq_true rfl) rfl (Nat.le_of_ble_eq_true rfl) ?_
        refine r_iadd dX10_number_71 ?_
        refine r_bipush 48 dX10_number_72 rfl ?_
        refine r_isub dX10_number_74 ?_
        refine r_istore [(4, _), (0, _), (1, _), (2, _), (3, _)] dX10_number_75 (Nat.le_of_ble_eq_true rfl) rfl ?_
        refine r_iload dX10_number_77 0 rfl ?_
        refine r_ldcI 100000 (bc7 124 (by decide +kernel) (by decide +kernel)) dX10_number_79 ?_
        refine r_join 91 [(4, .int (((10 * (SX10_number_44' p1 p2 μ).1) + (F_X10_byteAt ((SX10_number_44' p1 p2 μ).2 57 4) (SX10_number_44' p1 p2 μ).2)) - 48)), (0, .ref (ga G 57)), (1, .int p1), (2, .int p2), (3, .int ((muX10_number_1 p1 p2 μ) 57 4))] [.int (VX10_number_9 p1 p2 μ)] (SX10_number_44' p1 p2 μ).2 ?_ (fun hJ => ?_)
        · refine r_istore [(4, _), (0, _), (1, _), (2, _), (3, _)] dX10_number_91 (Nat.le_of_ble_eq_true rfl) rfl ?_
          refine r_aload_n dX10_number_93 1 rfl ?_
          refine r_dup dX10_number_94 rfl ?_
          refine r_getI fX10_112 (hG.lt (by decide)) sh57 fs57_4 dX10_number_95 ?_
          refine r_iconst 1 dX10_number_98 rfl ?_
          refine r_iadd dX10_number_99 ?_
          refine r_put fiX10_112 (hG.lt (by decide)) sh57 fs57_4 dX10_number_100 ?_
          refine r_mu (muX10_number_10 p1 p2 μ) rfl ?_
          refine r_goto 44 dX10_number_103 (by decide) ?_
          exact hP.elim
        · refine r_icmp_le 89 dX10_number_81 (by decide) (fun c4 => ?_) (fun c4 => ?_)
          · refine r_iload dX10_number_89 0 rfl ?_
            have e : (VX10_number_9 p1 p2 μ) = (((10 * (SX10_number_44' p1 p2 μ).1) + (F_X10_byteAt ((SX10_number_44' p1 p2 μ).2 57 4) (SX10_number_44' p1 p2 μ).2)) - 48) := by unfold VX10_number_9; rw [if_pos c4]
            rw [e] at hJ
            exact r_sub [0, 1, 2, 3, 4] rfl hJ
          · refine r_ldcI 100000 (bc7 124 (by decide +kernel) (by decide +kernel)) dX10_number_84 ?_
            refine r_goto 91 dX10_number_86 (by decide) ?_
            have e : (VX10_number_9 p1 p2 μ) = 100000 := by unfold VX10_number_9; rw [if_neg (i32_ng c4)]
            rw [e] at hJ
            exact r_sub [0, 1, 2, 3, 4] rfl hJ
  · replace hP := hP.2 c1
    refine r_iconst 0 dX10_number_7 rfl ?_
    exact r_ireturn _ dX10_number_8 rfl rfl ⟨congrArg (fun z => some (Value.int z)) (by unfold F_X10_number; rw [if_neg c1]), by unfold M_X10_number; rw [if_neg c1]⟩
