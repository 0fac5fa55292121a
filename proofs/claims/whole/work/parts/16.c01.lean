def muX0_goAhead_1 (p1 : Int32) (p2 : Int32) (μ : Mem) : Mem := (M_X0_begin  μ)
def muX0_goAhead_6_1 (v1 : Int32) (v2 : Int32) (i : Nat) (s : Mem) : Mem := (M_X0_passNext  s)
def muX0_goAhead_6_2 (v1 : Int32) (v2 : Int32) (i : Nat) (s : Mem) : Mem := (M_X5_payDues 52 v2 (muX0_goAhead_6_1 v1 v2 i s))
def g_X0_goAhead_6 (v1 : Int32) (v2 : Int32) (i : Nat) (s : Mem) : Mem := (muX0_goAhead_6_2 v1 v2 i s)
def Pb_X0_goAhead_6 (v1 : Int32) (v2 : Int32) (i : Nat) (s : Mem) : Prop := ((v1 ≤ (nI i) → False) ∧ ((nI i) < v1 → (P_X0_passNext  s) ∧ P_X5_payDues 52 v2 (muX0_goAhead_6_1 v1 v2 i s)))
set_option maxRecDepth 20000 in
set_option maxHeartbeats 2000000 in
theorem lp_X0_goAhead_6 {G : SG} (hG : GK 57 G)  (v1 : Int32) (v2 : Int32) (s0 : Mem) (N : Nat) (sN : Mem) (eN : sN = fo N (g_X0_goAhead_6 v1 v2) s0) (hN : ∀ i, i < N → Pb_X0_goAhead_6 v1 v2 i (fo i (g_X0_goAhead_6 v1 v2) s0)) {t : Nat} {Q : PQ} {X : PX} (h : R G mX0_goAhead 6 [(0, .ref (ga G 51)), (1, .int v1), (2, .int v2), (3, .int (nI N))] [] sN t Q X) : R G mX0_goAhead 6 [(0, .ref (ga G 51)), (1, .int v1), (2, .int v2), (3, .int 0)] [] s0 t Q X := by
  subst eN
  refine down_i N (fun i => R G mX0_goAhead 6 [(0, .ref (ga G 51)), (1, .int v1), (2, .int v2), (3, .int (nI i))] [] (fo i (g_X0_goAhead_6 v1 v2) s0) t Q X) h (fun i hi hS => ?_)
  have hP := hN i hi
  rw [fo_succ] at hS
  rw [nI_succ] at hS
  generalize fo i (g_X0_goAhead_6 v1 v2) s0 = s at hS hP ⊢
  unfold Pb_X0_goAhead_6 at hP
  refine r_iload_n dX0_goAhead_6 3 rfl ?_
  refine r_iload_n dX0_goAhead_7 1 rfl ?_
  refine r_icmp_ge 37 dX0_goAhead_8 (by decide) (fun c1 => ?_) (fun c1 => ?_)
  · replace hP := hP.1 c1
    exact hP.elim
  · replace hP := hP.2 c1
    refine r_aload_n dX0_goAhead_11 0 rfl ?_
    have hs1 := hP.1
    replace hP := hP.2
    refine r_cvV (ok_X0_passNext hG  s hs1) lX0_68 (hG.lt (by decide)) sh51 ⟨_, _, rfl⟩ dX0_goAhead_12 (by decide) (Nat.le_of_ble_eq_true rfl) rfl (Nat.le_of_ble_eq_true rfl) ?_
    refine r_mu (muX0_goAhead_6_1 v1 v2 i s) rfl ?_
    refine r_aload_n dX0_goAhead_15 0 rfl ?_
    refine r_getR 52 fX0_12 (hG.lt (by decide)) sh51 fs51_3 dX0_goAhead_16 ?_
    refine r_aload_n dX0_goAhead_19 0 rfl ?_
    refine r_getR 3 fX0_18 (hG.lt (by decide)) sh51 fs51_0 dX0_goAhead_20 ?_
    refine r_aload_n dX0_goAhead_23 0 rfl ?_
    refine r_getR 21 fX0_22 (hG.lt (by decide)) sh51 fs51_1 dX0_goAhead_24 ?_
    refine r_iload_n dX0_goAhead_27 2 rfl ?_
    have hs2 := hP
    refine r_cvV (ok_X5_payDues hG (IsSt.of52) v2 (muX0_goAhead_6_1 v1 v2 i s) hs2) lX0_71 (hG.lt (by decide)) sh52 ⟨_, _, rfl⟩ dX0_goAhead_28 (by decide) (Nat.le_of_ble_eq_true rfl) rfl (Nat.le_of_ble_eq_true rfl) ?_
    refine r_mu (muX0_goAhead_6_2 v1 v2 i s) rfl ?_
    refine r_iinc ((nI i) + 1) [(3, _), (0, _), (1, _), (2, _)] dX0_goAhead_31 3 rfl rfl (Nat.le_of_ble_eq_true rfl) rfl ?_
    refine r_goto 6 dX0_goAhead_34 (by decide) ?_
    have e : g_X0_goAhead_6 v1 v2 i s = (muX0_goAhead_6_2 v1 v2 i s) := by unfold g_X0_goAhead_6; rfl
    rw [e] at hS
    exact r_sub [1, 2, 3, 0] rfl hS
def NX0_goAhead_6 (p1 : Int32) (p2 : Int32) (μ : Mem) : Nat := ix p1
def SX0_goAhead_6 (p1 : Int32) (p2 : Int32) (μ : Mem) : Mem := fo (NX0_goAhead_6 p1 p2 μ) (g_X0_goAhead_6 p1 p2) (muX0_goAhead_1 p1 p2 μ)
def muX0_goAhead_2 (p1 : Int32) (p2 : Int32) (μ : Mem) : Mem := (M_X0_passNext  (SX0_goAhead_6 p1 p2 μ))
def muX0_goAhead_3 (p1 : Int32) (p2 : Int32) (μ : Mem) : Mem := (M_X5_payDues 52 p2 (muX0_goAhead_2 p1 p2 μ))
def M_X0_goAhead (p1 : Int32) (p2 : Int32) (μ : Mem) : Mem := (SX0_goAhead_6 p1 p2 μ)
def P_X0_goAhead (p1 : Int32) (p2 : Int32) (μ : Mem) : Prop := ((P_X0_begin  μ) ∧ ((∀ j9, j9 < (NX0_goAhead_6 p1 p2 μ) → Pb_X0_goAhead_6 p1 p2 j9 (fo j9 (g_X0_goAhead_6 p1 p2) (muX0_goAhead_1 p1 p2 μ))) ∧ ((p1 ≤ (nI (NX0_goAhead_6 p1 p2 μ)) → True) ∧ ((nI (NX0_goAhead_6 p1 p2 μ)) < p1 → ((P_X0_passNext  (SX0_goAhead_6 p1 p2 μ)) ∧ ((P_X5_payDues 52 p2 (muX0_goAhead_2 p1 p2 μ)) ∧ False))))))
set_option maxRecDepth 20000 in
set_option maxHeartbeats 2000000 in
theorem ok_X0_goAhead {G : SG} (hG : GK 57 G) (p1 : Int32) (p2 : Int32) (μ : Mem) (hP : P_X0_goAhead p1 p2 μ) : OkF G mX0_goAhead [.ref (ga G 51), .int p1, .int p2] μ none (M_X0_goAhead p1 p2 μ) := by
  refine okF_of hG rfl rfl (Nat.le_of_ble_eq_true rfl) ?_
  unfold P_X0_goAhead at hP
  refine r_aload_n dX0_goAhead_0 0 rfl ?_
  have hs1 := hP.1
  replace hP := hP.2
  refine r_cvV (ok_X0_begin hG  μ hs1) lX0_65 (hG.lt (by decide)) sh51 ⟨_, _, rfl⟩ dX0_goAhead_1 (by decide) (Nat.le_of_ble_eq_true rfl) rfl (Nat.le_of_ble_eq_true rfl) ?_
  refine r_mu (muX0_goAhead_1 p1 p2 μ) rfl ?_
  refine r_iconst 0 dX0_goAhead_4 rfl ?_
  refine r_istore_n [(3, _), (0, _), (1, _), (2, _)] dX0_goAhead_5 (Nat.le_of_ble_eq_true rfl) rfl ?_
  have hs2 := hP.1
  replace hP := hP.2
  refine r_sub [1, 2, 3, 0] rfl ?_
  refine lp_X0_goAhead_6 hG p1 p2 (muX0_goAhead_1 p1 p2 μ) ((NX0_goAhead_6 p1 p2 μ)) (SX0_goAhead_6 p1 p2 μ) rfl hs2 ?_
  refine r_iload_n dX0_goAhead_6 3 rfl ?_
  refine r_iload_n dX0_goAhead_7 1 rfl ?_
  refine r_icmp_ge 37 dX0_goAhead_8 (by decide) (fun c1 => ?_) (fun c1 => ?_)
  · replace hP := hP.1 c1
    exact r_return dX0_goAhead_37 rfl ⟨rfl, rfl⟩
  · replace hP := hP.2 c1
    refine r_aload_n dX0_goAhead_11 0 rfl ?_
    have hs3 := hP.1
    replace hP := hP.2
    refine r_cvV (ok_X0_passNext hG  (SX0_goAhead_6 p1 p2 μ) hs3) lX0_68 (hG.lt (by decide)) sh51 ⟨_, _, rfl⟩ dX0_goAhead_12 (by decide) (Nat.le_of_ble_eq_true rfl) rfl (Nat.le_of_ble_eq_true rfl) ?_
    refine r_mu (muX0_goAhead_2 p1 p2 μ) rfl ?_
    refine r_aload_n dX0_goAhead_15 0 rfl ?_
    refine r_getR 52 fX0_12 (hG.lt (by decide)) sh51 fs51_3 dX0_goAhead_16 ?_
    refine r_aload_n dX0_goAhead_19 0 rfl ?_
    refine r_getR 3 fX0_18 (hG.lt (by decide)) sh51 fs51_0 dX0_goAhead_20 ?_
    refine r_aload_n dX0_goAhead_23 0 rfl ?_
    refine r_getR 21 fX0_22 (hG.lt (by decide)) sh51 fs51_1 dX0_goAhead_24 ?_
    refine r_iload_n dX0_goAhead_27 2 rfl ?_
    have hs4 := hP.1
    replace hP := hP.2
    refine r_cvV (ok_X5_payDues hG (IsSt.of52) p2 (muX0_goAhead_2 p1 p2 μ) hs4) lX0_71 (hG.lt (by decide)) sh52 ⟨_, _, rfl⟩ dX0_goAhead_28 (by decide) (Nat.le_of_ble_eq_true rfl) rfl (Nat.le_of_ble_eq_true rfl) ?_
    refine r_mu (muX0_goAhead_3 p1 p2 μ) rfl ?_
    refine r_iinc ((nI (NX0_goAhead_6 p1 p2 μ)) + 1) [(3, _), (0, _), (1, _), (2, _)] dX0_goAhead_31 3 rfl rfl (Nat.le_of_ble_eq_true rfl) rfl ?_
    refine r_goto 6 dX0_goAhead_34 (by decide) ?_
    exact hP.elim
def F_X0_paidThen  (μ : Mem) : Int32 := ((F_X5_paidInAll 52 μ) - (F_X5_paidInAll 43 μ))
def P_X0_paidThen  (μ : Mem) : Prop := ((P_X5_paidInAll 52 μ) ∧ (P_X5_paidInAll 43 μ))
set_option maxRecDepth 20000 in
set_option maxHeartbeats 2000000 in
theorem ok_X0_paidThen {G : SG} (hG : GK 57 G)  (μ : Mem) (hP : P_X0_paidThen  μ) : OkF G mX0_paidThen [.ref (ga G 51)] μ (some (.int (F_X0_paidThen  μ))) μ := by
  refine okF_of hG rfl rfl (Nat.le_of_ble_eq_true rfl) ?_
  unfold P_X0_paidThen at hP
  refine r_aload_n dX0_paidThen_0 0 rfl ?_
  refine r_getR 52 fX0_12 (hG.lt (by decide)) sh51 fs51_3 dX0_paidThen_1 ?_
  refine r_aload_n dX0_paidThen_4 0 rfl ?_
  refine r_getR 3 fX0_18 (hG.lt (by decide)) sh51 fs51_0 dX0_paidThen_5 ?_
  have hs1 := hP.1
  replace hP := hP.2
  refine r_cvI (ok_X5_paidInAll hG (IsSt.of52) μ hs1) lX0_75 (hG.lt (by decide)) sh52 ⟨_, _, rfl⟩ dX0_paidThen_8 (by decide) (Nat.le_of_ble_eq_true rfl) rfl (Nat.le_of_ble_eq_true rfl) ?_
  refine r_aload_n dX0_paidThen_11 0 rfl ?_
  refine r_getR 43 fX0_26 (hG.lt (by decide)) sh51 fs51_2 dX0_paidThen_12 ?_
  refine r_aload_n dX0_paidThen_15 0 rfl ?_
  refine r_getR 3 fX0_18 (hG.lt (by decide)) sh51 fs51_0 dX0_paidThen_16 ?_
  have hs2 := hP
  refine r_cvI (ok_X5_paidInAll hG (IsSt.of43) μ hs2) lX0_75 (hG.lt (by decide)) sh43 ⟨_, _, rfl⟩ dX0_paidThen_19 (by decide) (Nat.le_of_ble_eq_true rfl) rfl (Nat.le_of_ble_eq_true rfl) ?_
  refine r_isub dX0_paidThen_22 ?_
  exact r_ireturn _ dX0_paidThen_23 rfl rfl ⟨congrArg (fun z => some (Value.int z)) (rfl), rfl⟩
def F_X0_goneThen  (μ : Mem) : Int32 := (F_X5_goneThings 52 μ)
def P_X0_goneThen  (μ : Mem) : Prop := (P_X5_goneThings 52 μ)
set_option maxRecDepth 20000 in
set_option maxHeartbeats 2000000 in
theorem ok_X0_goneThen {G : SG} (hG : GK 57 G)  (μ : Mem) (hP : P_X0_goneThen  μ) : OkF G mX0_goneThen [.ref (ga G 51)] μ (some (.int (F_X0_goneThen  μ))) μ := by
  refine okF_of hG rfl rfl (Nat.le_of_ble_eq_true rfl) ?_
  unfold P_X0_goneThen at hP
  refine r_aload_n dX0_goneThen_0 0 rfl ?_
  refine r_getR 52 fX0_12 (hG.lt (by decide)) sh51 fs51_3 dX0_goneThen_1 ?_
  refine r_aload_n dX0_goneThen_4 0 rfl ?_
  refine r_getR 3 fX0_18 (hG.lt (by decide)) sh51 fs51_0 dX0_goneThen_5 ?_
  have hs1 := hP
  refine r_cvI (ok_X5_goneThings hG (IsSt.of52) μ hs1) lX0_79 (hG.lt (by decide)) sh52 ⟨_, _, rfl⟩ dX0_goneThen_8 (by decide) (Nat.le_of_ble_eq_true rfl) rfl (Nat.le_of_ble_eq_true rfl) ?_
  exact r_ireturn _ dX0_goneThen_11 rfl rfl ⟨congrArg (fun z => some (Value.int z)) (rfl), rfl⟩
def F_X0_isGoneThen (p1 : Int32) (μ : Mem) : Int32 := (F_X5_isGone 52 p1 μ)
theorem bo_X0_isGoneThen (p1 : Int32) (μ : Mem) : F_X0_isGoneThen p1 μ = 0 ∨ F_X0_isGoneThen p1 μ = 1 := by
  unfold F_X0_isGoneThen
  exact (bo_X5_isGone 52 p1 μ)
set_option maxRecDepth 20000 in
set_option maxHeartbeats 2000000 in
theorem ok_X0_isGoneThen {G : SG} (hG : GK 57 G) (p1 : Int32) (μ : Mem) : OkF G mX0_isGoneThen [.ref (ga G 51), .int p1] μ (some (.int (F_X0_isGoneThen p1 μ))) μ := by
  refine okF_of hG rfl rfl (Nat.le_of_ble_eq_true rfl) ?_
  refine r_aload_n dX0_isGoneThen_0 0 rfl ?_
  refine r_getR 52 fX0_12 (hG.lt (by decide)) sh51 fs51_3 dX0_isGoneThen_1 ?_
  refine r_iload_n dX0_isGoneThen_4 1 rfl ?_
  refine r_cvI (ok_X5_isGone hG (IsSt.of52) p1 μ) lX0_82 (hG.lt (by decide)) sh52 ⟨_, _, rfl⟩ dX0_isGoneThen_5 (by decide) (Nat.le_of_ble_eq_true rfl) rfl (Nat.le_of_ble_eq_true rfl) ?_
  exact r_ireturn _ dX0_isGoneThen_8 rfl (nb01 ((bo_X5_isGone 52 p1 μ))) ⟨congrArg (fun z => some (Value.int z)) (rfl), rfl⟩
def muX0_paidAhead_1 (p1 : Int32) (p2 : Int32) (μ : Mem) : Mem := (M_X0_goAhead p2 (μ 3 12) μ)
def F_X0_paidAhead (p1 : Int32) (p2 : Int32) (μ : Mem) : Int32 := ((F_X5_of 52 62 p1 (muX0_paidAhead_1 p1 p2 μ)) - (F_X5_of 43 62 p1 (muX0_paidAhead_1 p1 p2 μ)))
def M_X0_paidAhead (p1 : Int32) (p2 : Int32) (μ : Mem) : Mem := (muX0_paidAhead_1 p1 p2 μ)
def P_X0_paidAhead (p1 : Int32) (p2 : Int32) (μ : Mem) : Prop := (P_X0_goAhead p2 (μ 3 12) μ)
set_option maxRecDepth 20000 in
set_option maxHeartbeats 2000000 in
theorem ok_X0_paidAhead {G : SG} (hG : GK 57 G) (p1 : Int32) (p2 : Int32) (μ : Mem) (hP : P_X0_paidAhead p1 p2 μ) : OkF G mX0_paidAhead [.ref (ga G 51), .int p1, .int p2] μ (some (.int (F_X0_paidAhead p1 p2 μ))) (M_X0_paidAhead p1 p2 μ) := by
  refine okF_of hG rfl rfl (Nat.le_of_ble_eq_true rfl) ?_
  unfold P_X0_paidAhead at hP
  refine r_aload_n dX0_paidAhead_0 0 rfl ?_
  refine r_iload_n dX0_paidAhead_1 2 rfl ?_
  refine r_aload_n dX0_paidAhead_2 0 rfl ?_
  refine r_getR 3 fX0_18 (hG.lt (by decide)) sh51 fs51_0 dX0_paidAhead_3 ?_
  refine r_getI fX0_86 (hG.lt (by decide)) sh3 fs3_12 dX0_paidAhead_6 ?_
  have hs1 := hP
  refine r_cvV (ok_X0_goAhead hG p2 (μ 3 12) μ hs1) lX0_89 (hG.lt (by decide)) sh51 ⟨_, _, rfl⟩ dX0_paidAhead_9 (by decide) (Nat.le_of_ble_eq_true rfl) rfl (Nat.le_of_ble_eq_true rfl) ?_
  refine r_mu (muX0_paidAhead_1 p1 p2 μ) rfl ?_
  refine r_aload_n dX0_paidAhead_12 0 rfl ?_
  refine r_getR 52 fX0_12 (hG.lt (by decide)) sh51 fs51_3 dX0_paidAhead_13 ?_
  refine r_bipush 62 dX0_paidAhead_16 rfl ?_
  refine r_iload_n dX0_paidAhead_18 1 rfl ?_
  refine r_cvI (ok_X5_of hG (IsSt.of52) 62 p1 (muX0_paidAhead_1 p1 p2 μ)) lX0_93 (hG.lt (by decide)) sh52 ⟨_, _, rfl⟩ dX0_paidAhead_19 (by decide) (Nat.le_of_ble_eq_true rfl) rfl (Nat.le_of_ble_eq_true rfl) ?_
  refine r_aload_n dX0_paidAhead_22 0 rfl ?_
  refine r_getR 43 fX0_26 (hG.lt (by decide)) sh51 fs51_2 dX0_paidAhead_23 ?_
  refine r_bipush 62 dX0_paidAhead_26 rfl ?_
  refine r_iload_n dX0_paidAhead_28 1 rfl ?_
  refine r_cvI (ok_X5_of hG (IsSt.of43) 62 p1 (muX0_paidAhead_1 p1 p2 μ)) lX0_93 (hG.lt (by decide)) sh43 ⟨_, _, rfl⟩ dX0_paidAhead_29 (by decide) (Nat.le_of_ble_eq_true rfl) rfl (Nat.le_of_ble_eq_true rfl) ?_
  refine r_isub dX0_paidAhead_32 ?_
  exact r_ireturn _ dX0_paidAhead_33 rfl rfl ⟨congrArg (fun z => some (Value.int z)) (rfl), rfl⟩
def VX0_timesInto_20_1 (v1 : Int32) (v2 : Int32) (v4 : Int32) (μ : Mem) (i : Nat) (s : Int32) : Int32 := (if ((v1 >>> (v4 &&& 31)) &&& 1) ≠ 1 then 0 else (if (F_X0_waterAhead v4 (nI i) μ) ≤ 0 then 0 else 1))
theorem bo_VX0_timesInto_20_1 (v1 : Int32) (v2 : Int32) (v4 : Int32) (μ : Mem) (i : Nat) (s : Int32) : (VX0_timesInto_20_1 v1 v2 v4 μ i s) = 0 ∨ (VX0_timesInto_20_1 v1 v2 v4 μ i s) = 1 := by
  unfold VX0_timesInto_20_1
  split
  · exact Or.inl rfl
  · split
    · exact Or.inl rfl
    · exact Or.inr rfl
def g_X0_timesInto_20 (v1 : Int32) (v2 : Int32) (v4 : Int32) (μ : Mem) (i : Nat) (s : Int32) : Int32 := (s + (VX0_timesInto_20_1 v1 v2 v4 μ i s))
def Pb_X0_timesInto_20 (v1 : Int32) (v2 : Int32) (v4 : Int32) (μ : Mem) (i : Nat) (s : Int32) : Prop := ((v2 ≤ (nI i) → False) ∧ ((nI i) < v2 → ((((v1 >>> (v4 &&& 31)) &&& 1) ≠ 1 → True) ∧ (((v1 >>> (v4 &&& 31)) &&& 1) = 1 → P_X0_waterAhead v4 (nI i) μ))))
set_option maxRecDepth 20000 in
set_option maxHeartbeats 2000000 in
theorem lp_X0_timesInto_20 {G : SG} (hG : GK 57 G)  (v1 : Int32) (v2 : Int32) (v4 : Int32) (μ : Mem) (s0 : Int32) (N : Nat) (sN : Int32) (eN : sN = fo N (g_X0_timesInto_20 v1 v2 v4 μ) s0) (hN : ∀ i, i < N → Pb_X0_timesInto_20 v1 v2 v4 μ i (fo i (g_X0_timesInto_20 v1 v2 v4 μ) s0)) {t : Nat} {Q : PQ} {X : PX} (h : R G mX0_timesInto 20 [(0, .ref (ga G 51)), (1, .int v1), (2, .int v2), (3, .int sN), (4, .int v4), (5, .int (nI N))] [] μ t Q X) : R G mX0_timesInto 20 [(0, .ref (ga G 51)), (1, .int v1), (2, .int v2), (3, .int s0), (4, .int v4), (5, .int 0)] [] μ t Q X := by
  subst eN
  refine down_i N (fun i => R G mX0_timesInto 20 [(0, .ref (ga G 51)), (1, .int v1), (2, .int v2), (3, .int (fo i (g_X0_timesInto_20 v1 v2 v4 μ) s0)), (4, .int v4), (5, .int (nI i))] [] μ t Q X) h (fun i hi hS => ?_)
  have hP := hN i hi
  rw [fo_succ] at hS
  rw [nI_succ] at hS
  generalize fo i (g_X0_timesInto_20 v1 v2 v4 μ) s0 = s at hS hP ⊢
  unfold Pb_X0_timesInto_20 at hP
  refine r_iload dX0_timesInto_20 5 rfl ?_
  refine r_iload_n dX0_timesInto_22 2 rfl ?_
  refine r_icmp_ge 61 dX0_timesInto_23 (by decide) (fun c1 => ?_) (fun c1 => ?_)
  · replace hP := hP.1 c1
    exact hP.elim
  · replace hP := hP.2 c1
    refine r_iload_n dX0_timesInto_26 3 rfl ?_
    refine r_iload_n dX0_timesInto_27 1 rfl ?_
    refine r_iload dX0_timesInto_28 4 rfl ?_
    refine r_ishr dX0_timesInto_30 rfl ?_
    refine r_iconst 1 dX0_timesInto_31 rfl ?_
    refine r_iand dX0_timesInto_32 ?_
    refine r_iconst 1 dX0_timesInto_33 rfl ?_
    refine r_join 53 [(0, .ref (ga G 51)), (1, .int v1), (2, .int v2), (3, .int s), (4, .int v4), (5, .int (nI i))] [.int (VX0_timesInto_20_1 v1 v2 v4 μ i s), .int s] μ ?_ (fun hJ => ?_)
    · refine r_iadd dX0_timesInto_53 ?_
      refine r_istore_n [(3, _), (0, _), (1, _), (2, _), (4, _), (5, _)] dX0_timesInto_54 (Nat.le_of_ble_eq_true rfl) rfl ?_
      refine r_iinc ((nI i) + 1) [(5, _), (3, _), (0, _), (1, _), (2, _), (4, _)] dX0_timesInto_55 5 rfl rfl (Nat.le_of_ble_eq_true rfl) rfl ?_
      refine r_goto 20 dX0_timesInto_58 (by decide) ?_
      have e : g_X0_timesInto_20 v1 v2 v4 μ i s = (s + (VX0_timesInto_20_1 v1 v2 v4 μ i s)) := by unfold g_X0_timesInto_20; rfl
      rw [e] at hS
      exact r_sub [2, 3, 4, 1, 5, 0] rfl hS
    · refine r_icmp_ne 52 dX0_timesInto_34 (by decide) (fun c2 => ?_) (fun c2 => ?_)
      · replace hP := hP.1 c2
        refine r_iconst 0 dX0_timesInto_52 rfl ?_
        have e : (VX0_timesInto_20_1 v1 v2 v4 μ i s) = 0 := by unfold VX0_timesInto_20_1; rw [if_pos c2]
        rw [e] at hJ
        exact r_sub [0, 1, 2, 3, 4, 5] rfl hJ
      · replace hP := hP.2 c2
        refine r_aload_n dX0_timesInto_37 0 rfl ?_
        refine r_iload dX0_timesInto_38 4 rfl ?_
        refine r_iload dX0_timesInto_40 5 rfl ?_
        have hs1 := hP
        refine r_cvI (ok_X0_waterAhead hG v4 (nI i) μ hs1) lX0_58 (hG.lt (by decide)) sh51 ⟨_, _, rfl⟩ dX0_timesInto_42 (by decide) (Nat.le_of_ble_eq_true rfl) rfl (Nat.le_of_ble_eq_true rfl) ?_
        refine r_if_le 52 dX0_timesInto_45 (by decide) (fun c3 => ?_) (fun c3 => ?_)
        · refine r_iconst 0 dX0_timesInto_52 rfl ?_
          have e : (VX0_timesInto_20_1 v1 v2 v4 μ i s) = 0 := by unfold VX0_timesInto_20_1; rw [if_neg (not_not_intro c2), if_pos c3]
          rw [e] at hJ
          exact r_sub [0, 1, 2, 3, 4, 5] rfl hJ
        · refine r_iconst 1 dX0_timesInto_48 rfl ?_
          refine r_goto 53 dX0_timesInto_49 (by decide) ?_
          have e : (VX0_timesInto_20_1 v1 v2 v4 μ i s) = 1 := by unfold VX0_timesInto_20_1; rw [if_neg (not_not_intro c2), if_neg (i32_ng c3)]
          rw [e] at hJ
          exact r_sub [0, 1, 2, 3, 4, 5] rfl hJ
def NX0_timesInto_5_20 (v1 : Int32) (v2 : Int32) (μ : Mem) (i : Nat) (s : Int32) : Nat := ix v2
def SX0_timesInto_5_20 (v1 : Int32) (v2 : Int32) (μ : Mem) (i : Nat) (s : Int32) : Int32 := fo (NX0_timesInto_5_20 v1 v2 μ i s) (g_X0_timesInto_20 v1 v2 (nI i) μ) s
def VX0_timesInto_5_1 (v1 : Int32) (v2 : Int32) (μ : Mem) (i : Nat) (s : Int32) : Int32 := (if ((v1 >>> ((nI i) &&& 31)) &&& 1) ≠ 1 then 0 else (if (F_X0_waterAhead (nI i) (nI (NX0_timesInto_5_20 v1 v2 μ i s)) μ) ≤ 0 then 0 else 1))
theorem bo_VX0_timesInto_5_1 (v1 : Int32) (v2 : Int32) (μ : Mem) (i : Nat) (s : Int32) : (VX0_timesInto_5_1 v1 v2 μ i s) = 0 ∨ (VX0_timesInto_5_1 v1 v2 μ i s) = 1 := by
  unfold VX0_timesInto_5_1
  split
  · exact Or.inl rfl
  · split
    · exact Or.inl rfl
    · exact Or.inr rfl
def g_X0_timesInto_5 (v1 : Int32) (v2 : Int32) (μ : Mem) (i : Nat) (s : Int32) : Int32 := (SX0_timesInto_5_20 v1 v2 μ i s)
def Pb_X0_timesInto_5 (v1 : Int32) (v2 : Int32) (μ : Mem) (i : Nat) (s : Int32) : Prop := (((μ 3 8) ≤ (nI i) → False) ∧ ((nI i) < (μ 3 8) → (∀ j9, j9 < (NX0_timesInto_5_20 v1 v2 μ i s) → Pb_X0_timesInto_20 v1 v2 (nI i) μ j9 (fo j9 (g_X0_timesInto_20 v1 v2 (nI i) μ) s)) ∧ ((v2 ≤ (nI (NX0_timesInto_5_20 v1 v2 μ i s)) → True) ∧ ((nI (NX0_timesInto_5_20 v1 v2 μ i s)) < v2 → (((((v1 >>> ((nI i) &&& 31)) &&& 1) ≠ 1 → True) ∧ (((v1 >>> ((nI i) &&& 31)) &&& 1) = 1 → P_X0_waterAhead (nI i) (nI (NX0_timesInto_5_20 v1 v2 μ i s)) μ)) ∧ False)))))
set_option maxRecDepth 20000 in
set_option maxHeartbeats 2000000 in
theorem lp_X0_timesInto_5 {G : SG} (hG : GK 57 G)  (v1 : Int32) (v2 : Int32) (μ : Mem) (s0 : Int32) (N : Nat) (sN : Int32) (eN : sN = fo N (g_X0_timesInto_5 v1 v2 μ) s0) (hN : ∀ i, i < N → Pb_X0_timesInto_5 v1 v2 μ i (fo i (g_X0_timesInto_5 v1 v2 μ) s0)) {t : Nat} {Q : PQ} {X : PX} (h : R G mX0_timesInto 5 [(0, .ref (ga G 51)), (1, .int v1), (2, .int v2), (3, .int sN), (4, .int (nI N))] [] μ t Q X) : R G mX0_timesInto 5 [(0, .ref (ga G 51)), (1, .int v1), (2, .int v2), (3, .int s0), (4, .int 0)] [] μ t Q X := by
  subst eN
  refine down_i N (fun i => R G mX0_timesInto 5 [(0, .ref (ga G 51)), (1, .int v1), (2, .int v2), (3, .int (fo i (g_X0_timesInto_5 v1 v2 μ) s0)), (4, .int (nI i))] [] μ t Q X) h (fun i hi hS => ?_)
  have hP := hN i hi
  rw [fo_succ] at hS
  rw [nI_succ] at hS
  generalize fo i (g_X0_timesInto_5 v1 v2 μ) s0 = s at hS hP ⊢
  unfold Pb_X0_timesInto_5 at hP
  refine r_iload dX0_timesInto_5 4 rfl ?_
  refine r_aload_n dX0_timesInto_7 0 rfl ?_
  refine r_getR 3 fX0_18 (hG.lt (by decide)) sh51 fs51_0 dX0_timesInto_8 ?_
  refine r_getI fX0_54 (hG.lt (by decide)) sh3 fs3_8 dX0_timesInto_11 ?_
  refine r_icmp_ge 67 dX0_timesInto_14 (by decide) (fun c1 => ?_) (fun c1 => ?_)
  · replace hP := hP.1 c1
    exact hP.elim
  · replace hP := hP.2 c1
    refine r_iconst 0 dX0_timesInto_17 rfl ?_
    refine r_istore [(5, _), (0, _), (1, _), (2, _), (3, _), (4, _)] dX0_timesInto_18 (Nat.le_of_ble_eq_true rfl) rfl ?_
    have hs1 := hP.1
    replace hP := hP.2
    refine r_sub [1, 2, 3, 4, 5, 0] rfl ?_
    refine lp_X0_timesInto_20 hG v1 v2 (nI i) μ s ((NX0_timesInto_5_20 v1 v2 μ i s)) (SX0_timesInto_5_20 v1 v2 μ i s) rfl hs1 ?_
    refine r_iload dX0_timesInto_20 5 rfl ?_
    refine r_iload_n dX0_timesInto_22 2 rfl ?_
    refine r_icmp_ge 61 dX0_timesInto_23 (by decide) (fun c2 => ?_) (fun c2 => ?_)
    · replace hP := hP.1 c2
      refine r_iinc ((nI i) + 1) [(4, _), (0, _), (1, _), (2, _), (3, _), (5, _)] dX0_timesInto_61 4 rfl rfl (Nat.le_of_ble_eq_true rfl) rfl ?_
      refine r_goto 5 dX0_timesInto_64 (by decide) ?_
      have e : g_X0_timesInto_5 v1 v2 μ i s = (SX0_timesInto_5_20 v1 v2 μ i s) := by unfold g_X0_timesInto_5; rfl
      rw [e] at hS
      exact r_sub [1, 2, 3, 4, 0] rfl hS
    · replace hP := hP.2 c2
      refine r_iload_n dX0_timesInto_26 3 rfl ?_
      refine r_iload_n dX0_timesInto_27 1 rfl ?_
      refine r_iload dX0_timesInto_28 4 rfl ?_
      refine r_ishr dX0_timesInto_30 rfl ?_
      refine r_iconst 1 dX0_timesInto_31 rfl ?_
      refine r_iand dX0_timesInto_32 ?_
      refine r_iconst 1 dX0_timesInto_33 rfl ?_
      refine r_join 53 [(0, .ref (ga G 51)), (1, .int v1), (2, .int v2), (3, .int (SX0_timesInto_5_20 v1 v2 μ i s)), (4, .int (nI i)), (5, .int (nI (NX0_timesInto_5_20 v1 v2 μ i s)))] [.int (VX0_timesInto_5_1 v1 v2 μ i s), .int (SX0_timesInto_5_20 v1 v2 μ i s)] μ ?_ (fun hJ => ?_)
      · replace hP := hP.2
        refine r_iadd dX0_timesInto_53 ?_
        refine r_istore_n [(3, _), (0, _), (1, _), (2, _), (4, _), (5, _)] dX0_timesInto_54 (Nat.le_of_ble_eq_true rfl) rfl ?_
        refine r_iinc ((nI (NX0_timesInto_5_20 v1 v2 μ i s)) + 1) [(5, _), (3, _), (0, _), (1, _), (2, _), (4, _)] dX0_timesInto_55 5 rfl rfl (Nat.le_of_ble_eq_true rfl) rfl ?_
        refine r_goto 20 dX0_timesInto_58 (by decide) ?_
        exact hP.elim
      · replace hP := hP.1
        refine r_icmp_ne 52 dX0_timesInto_34 (by decide) (fun c3 => ?_) (fun c3 => ?_)
        · replace hP := hP.1 c3
          refine r_iconst 0 dX0_timesInto_52 rfl ?_
          have e : (VX0_timesInto_5_1 v1 v2 μ i s) = 0 := by unfold VX0_timesInto_5_1; rw [if_pos c3]
          rw [e] at hJ
          exact r_sub [0, 1, 2, 3, 4, 5] rfl hJ
        · replace hP := hP.2 c3
          refine r_aload_n dX0_timesInto_37 0 rfl ?_
          refine r_iload dX0_timesInto_38 4 rfl ?_
          refine r_iload dX0_timesInto_40 5 rfl ?_
          have hs3 := hP
          refine r_cvI (ok_X0_waterAhead hG (nI i) (nI (NX0_timesInto_5_20 v1 v2 μ i s)) μ hs3) lX0_58 (hG.lt (by decide)) sh51 ⟨_, _, rfl⟩ dX0_timesInto_42 (by decide) (Nat.le_of_ble_eq_true rfl) rfl (Nat.le_of_ble_eq_true rfl) ?_
          refine r_if_le 52 dX0_timesInto_45 (by decide) (fun c4 => ?_) (fun c4 => ?_)
          · refine r_iconst 0 dX0_timesInto_52 rfl ?_
            have e : (VX0_timesInto_5_1 v1 v2 μ i s) = 0 := by unfold VX0_timesInto_5_1; rw [if_neg (not_not_intro c3), if_pos c4]
            rw [e] at hJ
            exact r_sub [0, 1, 2, 3, 4, 5] rfl hJ
          · refine r_iconst 1 dX0_timesInto_48 rfl ?_
            refine r_goto 53 dX0_timesInto_49 (by decide) ?_
            have e : (VX0_timesInto_5_1 v1 v2 μ i s) = 1 := by unfold VX0_timesInto_5_1; rw [if_neg (not_not_intro c3), if_neg (i32_ng c4)]
            rw [e] at hJ
            exact r_sub [0, 1, 2, 3, 4, 5] rfl hJ
def NX0_timesInto_5 (p1 : Int32) (p2 : Int32) (μ : Mem) : Nat := ix (μ 3 8)
def SX0_timesInto_5 (p1 : Int32) (p2 : Int32) (μ : Mem) : Int32 := fo (NX0_timesInto_5 p1 p2 μ) (g_X0_timesInto_5 p1 p2 μ) 0
def NX0_timesInto_20 (p1 : Int32) (p2 : Int32) (μ : Mem) : Nat := ix p2
def SX0_timesInto_20 (p1 : Int32) (p2 : Int32) (μ : Mem) : Int32 := fo (NX0_timesInto_20 p1 p2 μ) (g_X0_timesInto_20 p1 p2 (nI (NX0_timesInto_5 p1 p2 μ)) μ) (SX0_timesInto_5 p1 p2 μ)
def VX0_timesInto_1 (p1 : Int32) (p2 : Int32) (μ : Mem) : Int32 := (if ((p1 >>> ((nI (NX0_timesInto_5 p1 p2 μ)) &&& 31)) &&& 1) ≠ 1 then 0 else (if (F_X0_waterAhead (nI (NX0_timesInto_5 p1 p2 μ)) (nI (NX0_timesInto_20 p1 p2 μ)) μ) ≤ 0 then 0 else 1))
theorem bo_VX0_timesInto_1 (p1 : Int32) (p2 : Int32) (μ : Mem) : (VX0_timesInto_1 p1 p2 μ) = 0 ∨ (VX0_timesInto_1 p1 p2 μ) = 1 := by
  unfold VX0_timesInto_1
  split
  · exact Or.inl rfl
  · split
    · exact Or.inl rfl
    · exact Or.inr rfl
def F_X0_timesInto (p1 : Int32) (p2 : Int32) (μ : Mem) : Int32 := (SX0_timesInto_5 p1 p2 μ)
def P_X0_timesInto (p1 : Int32) (p2 : Int32) (μ : Mem) : Prop := ((∀ j9, j9 < (NX0_timesInto_5 p1 p2 μ) → Pb_X0_timesInto_5 p1 p2 μ j9 (fo j9 (g_X0_timesInto_5 p1 p2 μ) 0)) ∧ (((μ 3 8) ≤ (nI (NX0_timesInto_5 p1 p2 μ)) → True) ∧ ((nI (NX0_timesInto_5 p1 p2 μ)) < (μ 3 8) → ((∀ j9, j9 < (NX0_timesInto_20 p1 p2 μ) → Pb_X0_timesInto_20 p1 p2 (nI (NX0_timesInto_5 p1 p2 μ)) μ j9 (fo j9 (g_X0_timesInto_20 p1 p2 (nI (NX0_timesInto_5 p1 p2 μ)) μ) (SX0_timesInto_5 p1 p2 μ))) ∧ ((p2 ≤ (nI (NX0_timesInto_20 p1 p2 μ)) → False) ∧ ((nI (NX0_timesInto_20 p1 p2 μ)) < p2 → (((((p1 >>> ((nI (NX0_timesInto_5 p1 p2 μ)) &&& 31)) &&& 1) ≠ 1 → True) ∧ (((p1 >>> ((nI (NX0_timesInto_5 p1 p2 μ)) &&& 31)) &&& 1) = 1 → (P_X0_waterAhead (nI (NX0_timesInto_5 p1 p2 μ)) (nI (NX0_timesInto_20 p1 p2 μ)) μ))) ∧ False)))))))
set_option maxRecDepth 20000 in
set_option maxHeartbeats 2000000 in
theorem ok_X0_timesInto {G : SG} (hG : GK 57 G) (p1 : Int32) (p2 : Int32) (μ : Mem) (hP : P_X0_timesInto p1 p2 μ) : OkF G mX0_timesInto [.ref (ga G 51), .int p1, .int p2] μ (some (.int (F_X0_timesInto p1 p2 μ))) μ := by
  refine okF_of hG rfl rfl (Nat.le_of_ble_eq_true rfl) ?_
  unfold P_X0_timesInto at hP
  refine r_iconst 0 dX0_timesInto_0 rfl ?_
  refine r_istore_n [(3, _), (0, _), (1, _), (2, _)] dX0_timesInto_1 (Nat.le_of_ble_eq_true rfl) rfl ?_
  refine r_iconst 0 dX0_timesInto_2 rfl ?_
  refine r_istore [(4, _), (3, _), (0, _), (1, _), (2, _)] dX0_timesInto_3 (Nat.le_of_ble_eq_true rfl) rfl ?_
  have hs1 := hP.1
  replace hP := hP.2
  refine r_sub [2, 3, 4, 1, 0] rfl ?_
  refine lp_X0_timesInto_5 hG p1 p2 μ 0 ((NX0_timesInto_5 p1 p2 μ)) (SX0_timesInto_5 p1 p2 μ) rfl hs1 ?_
  refine r_iload dX0_timesInto_5 4 rfl ?_
  refine r_aload_n dX0_timesInto_7 0 rfl ?_
  refine r_getR 3 fX0_18 (hG.lt (by decide)) sh51 fs51_0 dX0_timesInto_8 ?_
  refine r_getI fX0_54 (hG.lt (by decide)) sh3 fs3_8 dX0_timesInto_11 ?_
  refine r_icmp_ge 67 dX0_timesInto_14 (by decide) (fun c1 => ?_) (fun c1 => ?_)
  · replace hP := hP.1 c1
    refine r_iload_n dX0_timesInto_67 3 rfl ?_
    exact r_ireturn _ dX0_timesInto_68 rfl rfl ⟨congrArg (fun z => some (Value.int z)) (rfl), rfl⟩
  · replace hP := hP.2 c1
    refine r_iconst 0 dX0_timesInto_17 rfl ?_
    refine r_istore [(5, _), (0, _), (1, _), (2, _), (3, _), (4, _)] dX0_timesInto_18 (Nat.le_of_ble_eq_true rfl) rfl ?_
    have hs5 := hP.1
    replace hP := hP.2
    refine r_sub [1, 2, 3, 4, 5, 0] rfl ?_
    refine lp_X0_timesInto_20 hG p1 p2 (nI (NX0_timesInto_5 p1 p2 μ)) μ (SX0_timesInto_5 p1 p2 μ) ((NX0_timesInto_20 p1 p2 μ)) (SX0_timesInto_20 p1 p2 μ) rfl hs5 ?_
    refine r_iload dX0_timesInto_20 5 rfl ?_
    refine r_iload_n dX0_timesInto_22 2 rfl ?_
    refine r_icmp_ge 61 dX0_timesInto_23 (by decide) (fun c2 => ?_) (fun c2 => ?_)
    · replace hP := hP.1 c2
      refine r_iinc ((nI (NX0_timesInto_5 p1 p2 μ)) + 1) [(4, _), (0, _), (1, _), (2, _), (3, _), (5, _)] dX0_timesInto_61 4 rfl rfl (Nat.le_of_ble_eq_true rfl) rfl ?_
      refine r_goto 5 dX0_timesInto_64 (by decide) ?_
      exact hP.elim
    · replace hP := hP.2 c2
      refine r_iload_n dX0_timesInto_26 3 rfl ?_
      refine r_iload_n dX0_timesInto_27 1 rfl ?_
      refine r_iload dX0_timesInto_28 4 rfl ?_
      refine r_ishr dX0_timesInto_30 rfl ?_
      refine r_iconst 1 dX0_timesInto_31 rfl ?_
      refine r_iand dX0_timesInto_32 ?_
      refine r_iconst 1 dX0_timesInto_33 rfl ?_
      refine r_join 53 [(0, .ref (ga G 51)), (1, .int p1), (2, .int p2), (3, .int (SX0_timesInto_20 p1 p2 μ)), (4, .int (nI (NX0_timesInto_5 p1 p2 μ))), (5, .int (nI (NX0_timesInto_20 p1 p2 μ)))] [.int (VX0_timesInto_1 p1 p2 μ), .int (SX0_timesInto_20 p1 p2 μ)] μ ?_ (fun hJ => ?_)
      · replace hP := hP.2
        refine r_iadd dX0_timesInto_53 ?_
        refine r_istore_n [(3, _), (0, _), (1, _), (2, _), (4, _), (5, _)] dX0_timesInto_54 (Nat.le_of_ble_eq_true rfl) rfl ?_
        refine r_iinc ((nI (NX0_timesInto_20 p1 p2 μ)) + 1) [(5, _), (3, _), (0, _), (1, _), (2, _), (4, _)] dX0_timesInto_55 5 rfl rfl (Nat.le_of_ble_eq_true rfl) rfl ?_
        refine r_goto 20 dX0_timesInto_58 (by decide) ?_
        exact hP.elim
      · replace hP := hP.1
        refine r_icmp_ne 52 dX0_timesInto_34 (by decide) (fun c3 => ?_) (fun c3 => ?_)
        · replace hP := hP.1 c3
          refine r_iconst 0 dX0_timesInto_52 rfl ?_
          have e : (VX0_timesInto_1 p1 p2 μ) = 0 := by unfold VX0_timesInto_1; rw [if_pos c3]
          rw [e] at hJ
          exact r_sub [0, 1, 2, 3, 4, 5] rfl hJ
        · replace hP := hP.2 c3
          refine r_aload_n dX0_timesInto_37 0 rfl ?_
          refine r_iload dX0_timesInto_38 4 rfl ?_
          refine r_iload dX0_timesInto_40 5 rfl ?_
          have hs7 := hP
          refine r_cvI (ok_X0_waterAhead hG (nI (NX0_timesInto_5 p1 p2 μ)) (nI (NX0_timesInto_20 p1 p2 μ)) μ hs7) lX0_58 (hG.lt (by decide)) sh51 ⟨_, _, rfl⟩ dX0_timesInto_42 (by decide) (Nat.le_of_ble_eq_true rfl) rfl (Nat.le_of_ble_eq_true rfl) ?_
          refine r_if_le 52 dX0_timesInto_45 (by decide) (fun c4 => ?_) (fun c4 => ?_)
          · refine r_iconst 0 dX0_timesInto_52 rfl ?_
            have e : (VX0_timesInto_1 p1 p2 μ) = 0 := by unfold VX0_timesInto_1; rw [if_neg (not_not_intro c3), if_pos c4]
            rw [e] at hJ
            exact r_sub [0, 1, 2, 3, 4, 5] rfl hJ
          · refine r_iconst 1 dX0_timesInto_48 rfl ?_
            refine r_goto 53 dX0_timesInto_49 (by decide) ?_
            have e : (VX0_timesInto_1 p1 p2 μ) = 1 := by unfold VX0_timesInto_1; rw [if_neg (not_not_intro c3), if_neg (i32_ng c4)]
            rw [e] at hJ
            exact r_sub [0, 1, 2, 3, 4, 5] rfl hJ
def muX0_standAhead_1 (p1 : Int32) (p2 : Int32) (μ : Mem) : Mem := (M_X0_goAhead p1 (μ 3 12) μ)
def F_X0_standAhead (p1 : Int32) (p2 : Int32) (μ : Mem) : Int32 := (if p2 ≠ 3 then (if p2 ≠ 0 then (if p2 ≠ 1 then (F_X0_paidThen  (muX0_standAhead_1 p1 p2 μ)) else (F_X0_goneThen  (muX0_standAhead_1 p1 p2 μ))) else (F_X5_worthLeft 52 (muX0_standAhead_1 p1 p2 μ))) else (F_X0_timesInto (-1) p1 μ))
def M_X0_standAhead (p1 : Int32) (p2 : Int32) (μ : Mem) : Mem := (if p2 ≠ 3 then (muX0_standAhead_1 p1 p2 μ) else μ)
def P_X0_standAhead (p1 : Int32) (p2 : Int32) (μ : Mem) : Prop := ((p2 ≠ 3 → ((P_X0_goAhead p1 (μ 3 12) μ) ∧ ((p2 ≠ 0 → ((p2 ≠ 1 → (P_X0_paidThen  (muX0_standAhead_1 p1 p2 μ))) ∧ (p2 = 1 → (P_X0_goneThen  (muX0_standAhead_1 p1 p2 μ))))) ∧ (p2 = 0 → (P_X5_worthLeft 52 (muX0_standAhead_1 p1 p2 μ)))))) ∧ (p2 = 3 → (P_X0_timesInto (-1) p1 μ)))
set_option maxRecDepth 20000 in
set_option maxHeartbeats 2000000 in
theorem ok_X0_standAhead {G : SG} (hG : GK 57 G) (p1 : Int32) (p2 : Int32) (μ : Mem) (hP : P_X0_standAhead p1 p2 μ) : OkF G mX0_standAhead [.ref (ga G 51), .int p1, .int p2] μ (some (.int (F_X0_standAhead p1 p2 μ))) (M_X0_standAhead p1 p2 μ) := by
  refine okF_of hG rfl rfl (Nat.le_of_ble_eq_true rfl) ?_
  unfold P_X0_standAhead at hP
  refine r_iload_n dX0_standAhead_0 2 rfl ?_
  refine r_iconst 3 dX0_standAhead_1 rfl ?_
  refine r_icmp_ne 12 dX0_standAhead_2 (by decide) (fun c1 => ?_) (fun c1 => ?_)
  · replace hP := hP.1 c1
    refine r_aload_n dX0_standAhead_12 0 rfl ?_
    refine r_iload_n dX0_standAhead_13 1 rfl ?_
    refine r_aload_n dX0_standAhead_14 0 rfl ?_
    refine r_getR 3 fX0_18 (hG.lt (by decide)) sh51 fs51_0 dX0_standAhead_15 ?_
    refine r_getI fX0_86 (hG.lt (by decide)) sh3 fs3_12 dX0_standAhead_18 ?_
    have hs1 := hP.1
    replace hP := hP.2
    refine r_cvV (ok_X0_goAhead hG p1 (μ 3 12) μ hs1) lX0_89 (hG.lt (by decide)) sh51 ⟨_, _, rfl⟩ dX0_standAhead_21 (by decide) (Nat.le_of_ble_eq_true rfl) rfl (Nat.le_of_ble_eq_true rfl) ?_
    refine r_mu (muX0_standAhead_1 p1 p2 μ) rfl ?_
    refine r_iload_n dX0_standAhead_24 2 rfl ?_
    refine r_if_ne 42 dX0_standAhead_25 (by decide) (fun c2 => ?_) (fun c2 => ?_)
    · replace hP := hP.1 c2
      refine r_iload_n dX0_standAhead_42 2 rfl ?_
      refine r_iconst 1 dX0_standAhead_43 rfl ?_
      refine r_icmp_ne 54 dX0_standAhead_44 (by decide) (fun c3 => ?_) (fun c3 => ?_)
      · replace hP := hP.1 c3
        refine r_aload_n dX0_standAhead_54 0 rfl ?_
        have hs2 := hP
        refine r_cvI (ok_X0_paidThen hG  (muX0_standAhead_1 p1 p2 μ) hs2) lX0_105 (hG.lt (by decide)) sh51 ⟨_, _, rfl⟩ dX0_standAhead_55 (by decide) (Nat.le_of_ble_eq_true rfl) rfl (Nat.le_of_ble_eq_true rfl) ?_
        exact r_ireturn _ dX0_standAhead_58 rfl rfl ⟨congrArg (fun z => some (Value.int z)) (by unfold F_X0_standAhead; rw [if_pos c1, if_pos c2, if_pos c3]), by unfold M_X0_standAhead; rw [if_pos c1]⟩
      · replace hP := hP.2 c3
        refine r_aload_n dX0_standAhead_47 0 rfl ?_
        have hs3 := hP
        refine r_cvI (ok_X0_goneThen hG  (muX0_standAhead_1 p1 p2 μ) hs3) lX0_102 (hG.lt (by decide)) sh51 ⟨_, _, rfl⟩ dX0_standAhead_48 (by decide) (Nat.le_of_ble_eq_true rfl) rfl (Nat.le_of_ble_eq_true rfl) ?_
        refine r_goto 58 dX0_standAhead_51 (by decide) ?_
        exact r_ireturn _ dX0_standAhead_58 rfl rfl ⟨congrArg (fun z => some (Value.int z)) (by unfold F_X0_standAhead; rw [if_pos c1, if_pos c2, if_neg (not_not_intro c3)]), by unfold M_X0_standAhead; rw [if_pos c1]⟩
    · replace hP := hP.2 c2
      refine r_aload_n dX0_standAhead_28 0 rfl ?_
      refine r_getR 52 fX0_12 (hG.lt (by decide)) sh51 fs51_3 dX0_standAhead_29 ?_
      refine r_aload_n dX0_standAhead_32 0 rfl ?_
      refine r_getR 3 fX0_18 (hG.lt (by decide)) sh51 fs51_0 dX0_standAhead_33 ?_
      have hs4 := hP
      refine r_cvI (ok_X5_worthLeft hG (IsSt.of52) (muX0_standAhead_1 p1 p2 μ) hs4) lX0_99 (hG.lt (by decide)) sh52 ⟨_, _, rfl⟩ dX0_standAhead_36 (by decide) (Nat.le_of_ble_eq_true rfl) rfl (Nat.le_of_ble_eq_true rfl) ?_
      refine r_goto 58 dX0_standAhead_39 (by decide) ?_
      exact r_ireturn _ dX0_standAhead_58 rfl rfl ⟨congrArg (fun z => some (Value.int z)) (by unfold F_X0_standAhead; rw [if_pos c1, if_neg (not_not_intro c2)]), by unfold M_X0_standAhead; rw [if_pos c1]⟩
  · replace hP := hP.2 c1
    refine r_aload_n dX0_standAhead_5 0 rfl ?_
    refine r_iconst (-1) dX0_standAhead_6 rfl ?_
    refine r_iload_n dX0_standAhead_7 1 rfl ?_
    have hs5 := hP
    refine r_cvI (ok_X0_timesInto hG (-1) p1 μ hs5) lX0_96 (hG.lt (by decide)) sh51 ⟨_, _, rfl⟩ dX0_standAhead_8 (by decide) (Nat.le_of_ble_eq_true rfl) rfl (Nat.le_of_ble_eq_true rfl) ?_
    exact r_ireturn _ dX0_standAhead_11 rfl rfl ⟨congrArg (fun z => some (Value.int z)) (by unfold F_X0_standAhead; rw [if_neg (not_not_intro c1)]), by unfold M_X0_standAhead; rw [if_neg (not_not_intro c1)]⟩
def g_X0_firstInto_2 (v1 : Int32) (μ : Mem) (i : Nat) (s : Unit) : Unit := ()
def Pb_X0_firstInto_2 (v1 : Int32) (μ : Mem) (i : Nat) (s : Unit) : Prop := ((60 ≤ (nI i) → False) ∧ ((nI i) < 60 → (P_X0_waterAhead v1 (nI i) μ) ∧ (((F_X0_waterAhead v1 (nI i) μ) ≤ 0 → True) ∧ (0 < (F_X0_waterAhead v1 (nI i) μ) → False))))
def Cb_X0_firstInto_2 (v1 : Int32) (μ : Mem) (i : Nat) (s : Unit) : Bool := (if 60 ≤ (nI i) then false else (if (F_X0_waterAhead v1 (nI i) μ) ≤ 0 then true else false))
set_option maxRecDepth 20000 in
set_option maxHeartbeats 2000000 in
theorem lp_X0_firstInto_2 {G : SG} (hG : GK 57 G)  (v1 : Int32) (μ : Mem) (s0 : Unit) (N : Nat) (sN : Unit) (eN : sN = fo N (g_X0_firstInto_2 v1 μ) s0) (hN : ∀ i, i < N → Pb_X0_firstInto_2 v1 μ i (fo i (g_X0_firstInto_2 v1 μ) s0)) {t : Nat} {Q : PQ} {X : PX} (h : R G mX0_firstInto 2 [(0, .ref (ga G 51)), (1, .int v1), (2, .int (nI N))] [] μ t Q X) : R G mX0_firstInto 2 [(0, .ref (ga G 51)), (1, .int v1), (2, .int 0)] [] μ t Q X := by
  subst eN
  refine down_i N (fun i => R G mX0_firstInto 2 [(0, .ref (ga G 51)), (1, .int v1), (2, .int (nI i))] [] μ t Q X) h (fun i hi hS => ?_)
  have hP := hN i hi
  rw [nI_succ] at hS
  generalize fo i (g_X0_firstInto_2 v1 μ) s0 = s at hS hP ⊢
  unfold Pb_X0_firstInto_2 at hP
  refine r_iload_n dX0_firstInto_2 2 rfl ?_
  refine r_bipush 60 dX0_firstInto_3 rfl ?_
  refine r_icmp_ge 25 dX0_firstInto_5 (by decide) (fun c1 => ?_) (fun c1 => ?_)
  · replace hP := hP.1 c1
    exact hP.elim
  · replace hP := hP.2 c1
    refine r_aload_n dX0_firstInto_8 0 rfl ?_
    refine r_iload_n dX0_firstInto_9 1 rfl ?_
    refine r_iload_n dX0_firstInto_10 2 rfl ?_
    have hs1 := hP.1
    replace hP := hP.2
    refine r_cvI (ok_X0_waterAhead hG v1 (nI i) μ hs1) lX0_58 (hG.lt (by decide)) sh51 ⟨_, _, rfl⟩ dX0_firstInto_11 (by decide) (Nat.le_of_ble_eq_true rfl) rfl (Nat.le_of_ble_eq_true rfl) ?_
    refine r_if_le 19 dX0_firstInto_14 (by decide) (fun c2 => ?_) (fun c2 => ?_)
    · replace hP := hP.1 c2
      refine r_iinc ((nI i) + 1) [(2, _), (0, _), (1, _)] dX0_firstInto_19 2 rfl rfl (Nat.le_of_ble_eq_true rfl) rfl ?_
      refine r_goto 2 dX0_firstInto_22 (by decide) ?_
      exact r_sub [1, 2, 0] rfl hS
    · replace hP := hP.2 c2
      refine r_iload_n dX0_firstInto_17 2 rfl ?_
      exact hP.elim
def NX0_firstInto_2 (p1 : Int32) (μ : Mem) : Nat := (fst 61 (fun j9 => !Cb_X0_firstInto_2 p1 μ j9 (fo j9 (g_X0_firstInto_2 p1 μ) ())))
def SX0_firstInto_2 (p1 : Int32) (μ : Mem) : Unit := fo (NX0_firstInto_2 p1 μ) (g_X0_firstInto_2 p1 μ) ()
def F_X0_firstInto (p1 : Int32) (μ : Mem) : Int32 := (if 60 ≤ (nI (NX0_firstInto_2 p1 μ)) then (-1) else (nI (NX0_firstInto_2 p1 μ)))
def P_X0_firstInto (p1 : Int32) (μ : Mem) : Prop := ((∀ j9, j9 < (NX0_firstInto_2 p1 μ) → Pb_X0_firstInto_2 p1 μ j9 (fo j9 (g_X0_firstInto_2 p1 μ) ())) ∧ ((60 ≤ (nI (NX0_firstInto_2 p1 μ)) → True) ∧ ((nI (NX0_firstInto_2 p1 μ)) < 60 → ((P_X0_waterAhead p1 (nI (NX0_firstInto_2 p1 μ)) μ) ∧ (((F_X0_waterAhead p1 (nI (NX0_firstInto_2 p1 μ)) μ) ≤ 0 → False) ∧ (0 < (F_X0_waterAhead p1 (nI (NX0_firstInto_2 p1 μ)) μ) → True))))))
set_option maxRecDepth 20000 in
set_option maxHeartbeats 2000000 in
theorem ok_X0_firstInto {G : SG} (hG : GK 57 G) (p1 : Int32) (μ : Mem) (hP : P_X0_firstInto p1 μ) : OkF G mX0_firstInto [.ref (ga G 51), .int p1] μ (some (.int (F_X0_firstInto p1 μ))) μ := by
  refine okF_of hG rfl rfl (Nat.le_of_ble_eq_true rfl) ?_
  unfold P_X0_firstInto at hP
  refine r_iconst 0 dX0_firstInto_0 rfl ?_
  refine r_istore_n [(2, _), (0, _), (1, _)] dX0_firstInto_1 (Nat.le_of_ble_eq_true rfl) rfl ?_
  have hs1 := hP.1
  replace hP := hP.2
  refine r_sub [1, 2, 0] rfl ?_
  refine lp_X0_firstInto_2 hG p1 μ () ((NX0_firstInto_2 p1 μ)) (SX0_firstInto_2 p1 μ) rfl hs1 ?_
  refine r_iload_n dX0_firstInto_2 2 rfl ?_
  refine r_bipush 60 dX0_firstInto_3 rfl ?_
  refine r_icmp_ge 25 dX0_firstInto_5 (by decide) (fun c1 => ?_) (fun c1 => ?_)
  · replace hP := hP.1 c1
    refine r_iconst (-1) dX0_firstInto_25 rfl ?_
    exact r_ireturn _ dX0_firstInto_26 rfl rfl ⟨congrArg (fun z => some (Value.int z)) (by unfold F_X0_firstInto; rw [if_pos c1]), rfl⟩
  · replace hP := hP.2 c1
    refine r_aload_n dX0_firstInto_8 0 rfl ?_
    refine r_iload_n dX0_firstInto_9 1 rfl ?_
    refine r_iload_n dX0_firstInto_10 2 rfl ?_
    have hs2 := hP.1
    replace hP := hP.2
    refine r_cvI (ok_X0_waterAhead hG p1 (nI (NX0_firstInto_2 p1 μ)) μ hs2) lX0_58 (hG.lt (by decide)) sh51 ⟨_, _, rfl⟩ dX0_firstInto_11 (by decide) (Nat.le_of_ble_eq_true rfl) rfl (Nat.le_of_ble_eq_true rfl) ?_
    refine r_if_le 19 dX0_firstInto_14 (by decide) (fun c2 => ?_) (fun c2 => ?_)
    · replace hP := hP.1 c2
      refine r_iinc ((nI (NX0_firstInto_2 p1 μ)) + 1) [(2, _), (0, _), (1, _)] dX0_firstInto_19 2 rfl rfl (Nat.le_of_ble_eq_true rfl) rfl ?_
      refine r_goto 2 dX0_firstInto_22 (by decide) ?_
      exact hP.elim
    · replace hP := hP.2 c2
      refine r_iload_n dX0_firstInto_17 2 rfl ?_
      exact r_ireturn _ dX0_firstInto_18 rfl rfl ⟨congrArg (fun z => some (Value.int z)) (by unfold F_X0_firstInto; rw [if_neg (i32_ng c1)]), rfl⟩
def VX0_highestAhead_4_1 (μ : Mem) (i : Nat) (s : Int32) : Int32 := (if (F_X0_heightAhead (nI (1 + i)) μ) ≤ (F_X0_heightAhead s μ) then s else (nI (1 + i)))
def g_X0_highestAhead_4 (μ : Mem) (i : Nat) (s : Int32) : Int32 := (VX0_highestAhead_4_1 μ i s)
def Pb_X0_highestAhead_4 (μ : Mem) (i : Nat) (s : Int32) : Prop := ((24 ≤ (nI (1 + i)) → False) ∧ ((nI (1 + i)) < 24 → (P_X0_heightAhead (nI (1 + i)) μ) ∧ P_X0_heightAhead s μ))
set_option maxRecDepth 20000 in
set_option maxHeartbeats 2000000 in
theorem lp_X0_highestAhead_4 {G : SG} (hG : GK 57 G)  (μ : Mem) (s0 : Int32) (N : Nat) (sN : Int32) (eN : sN = fo N (g_X0_highestAhead_4 μ) s0) (hN : ∀ i, i < N → Pb_X0_highestAhead_4 μ i (fo i (g_X0_highestAhead_4 μ) s0)) {t : Nat} {Q : PQ} {X : PX} (h : R G mX0_highestAhead 4 [(0, .ref (ga G 51)), (1, .int sN), (2, .int (nI (1 + N)))] [] μ t Q X) : R G mX0_highestAhead 4 [(0, .ref (ga G 51)), (1, .int s0), (2, .int 1)] [] μ t Q X := by
  subst eN
  refine down_i N (fun i => R G mX0_highestAhead 4 [(0, .ref (ga G 51)), (1, .int (fo i (g_X0_highestAhead_4 μ) s0)), (2, .int (nI (1 + i)))] [] μ t Q X) h (fun i hi hS => ?_)
  have hP := hN i hi
  rw [fo_succ] at hS
  rw [(nI_sc 1 i)] at hS
  generalize fo i (g_X0_highestAhead_4 μ) s0 = s at hS hP ⊢
  unfold Pb_X0_highestAhead_4 at hP
  refine r_iload_n dX0_highestAhead_4 2 rfl ?_
  refine r_bipush 24 dX0_highestAhead_5 rfl ?_
  refine r_icmp_ge 31 dX0_highestAhead_7 (by decide) (fun c1 => ?_) (fun c1 => ?_)
  · replace hP := hP.1 c1
    exact hP.elim
  · replace hP := hP.2 c1
    refine r_aload_n dX0_highestAhead_10 0 rfl ?_
    refine r_iload_n dX0_highestAhead_11 2 rfl ?_
    have hs1 := hP.1
    replace hP := hP.2
    refine r_cvI (ok_X0_heightAhead hG (nI (1 + i)) μ hs1) lX0_47 (hG.lt (by decide)) sh51 ⟨_, _, rfl⟩ dX0_highestAhead_12 (by decide) (Nat.le_of_ble_eq_true rfl) rfl (Nat.le_of_ble_eq_true rfl) ?_
    refine r_aload_n dX0_highestAhead_15 0 rfl ?_
    refine r_iload_n dX0_highestAhead_16 1 rfl ?_
    have hs2 := hP
    refine r_cvI (ok_X0_heightAhead hG s μ hs2) lX0_47 (hG.lt (by decide)) sh51 ⟨_, _, rfl⟩ dX0_highestAhead_17 (by decide) (Nat.le_of_ble_eq_true rfl) rfl (Nat.le_of_ble_eq_true rfl) ?_
    refine r_join 25 [(0, .ref (ga G 51)), (1, .int (VX0_highestAhead_4_1 μ i s)), (2, .int (nI (1 + i)))] [] μ ?_ (fun hJ => ?_)
    · refine r_iinc ((nI (1 + i)) + 1) [(2, _), (0, _), (1, _)] dX0_highestAhead_25 2 rfl rfl (Nat.le_of_ble_eq_true rfl) rfl ?_
      refine r_goto 4 dX0_highestAhead_28 (by decide) ?_
      have e : g_X0_highestAhead_4 μ i s = (VX0_highestAhead_4_1 μ i s) := by unfold g_X0_highestAhead_4; rfl
      rw [e] at hS
      exact r_sub [1, 2, 0] rfl hS
    · refine r_icmp_le 25 dX0_highestAhead_20 (by decide) (fun c2 => ?_) (fun c2 => ?_)
      · have e : (VX0_highestAhead_4_1 μ i s) = s := by unfold VX0_highestAhead_4_1; rw [if_pos c2]
        rw [e] at hJ
        exact r_sub [0, 1, 2] rfl hJ
      · refine r_iload_n dX0_highestAhead_23 2 rfl ?_
        refine r_istore_n [(1, _), (0, _), (2, _)] dX0_highestAhead_24 (Nat.le_of_ble_eq_true rfl) rfl ?_
        have e : (VX0_highestAhead_4_1 μ i s) = (nI (1 + i)) := by unfold VX0_highestAhead_4_1; rw [if_neg (i32_ng c2)]
        rw [e] at hJ
        exact r_sub [1, 0, 2] rfl hJ
def NX0_highestAhead_4 (μ : Mem) : Nat := 23
def SX0_highestAhead_4 (μ : Mem) : Int32 := fo (NX0_highestAhead_4 μ) (g_X0_highestAhead_4 μ) 0
def VX0_highestAhead_1 (μ : Mem) : Int32 := (if (F_X0_heightAhead (nI (1 + (NX0_highestAhead_4 μ))) μ) ≤ (F_X0_heightAhead (SX0_highestAhead_4 μ) μ) then (SX0_highestAhead_4 μ) else (nI (1 + (NX0_highestAhead_4 μ))))
def F_X0_highestAhead  (μ : Mem) : Int32 := (SX0_highestAhead_4 μ)
def P_X0_highestAhead  (μ : Mem) : Prop := ((∀ j9, j9 < (NX0_highestAhead_4 μ) → Pb_X0_highestAhead_4 μ j9 (fo j9 (g_X0_highestAhead_4 μ) 0)) ∧ ((24 ≤ (nI (1 + (NX0_highestAhead_4 μ))) → True) ∧ ((nI (1 + (NX0_highestAhead_4 μ))) < 24 → ((P_X0_heightAhead (nI (1 + (NX0_highestAhead_4 μ))) μ) ∧ ((P_X0_heightAhead (SX0_highestAhead_4 μ) μ) ∧ False)))))
set_option maxRecDepth 20000 in
set_option maxHeartbeats 2000000 in
theorem ok_X0_highestAhead {G : SG} (hG : GK 57 G)  (μ : Mem) (hP : P_X0_highestAhead  μ) : OkF G mX0_highestAhead [.ref (ga G 51)] μ (some (.int (F_X0_highestAhead  μ))) μ := by
  refine okF_of hG rfl rfl (Nat.le_of_ble_eq_true rfl) ?_
  unfold P_X0_highestAhead at hP
  refine r_iconst 0 dX0_highestAhead_0 rfl ?_
  refine r_istore_n [(1, _), (0, _)] dX0_highestAhead_1 (Nat.le_of_ble_eq_true rfl) rfl ?_
  refine r_iconst 1 dX0_highestAhead_2 rfl ?_
  refine r_istore_n [(2, _), (1, _), (0, _)] dX0_highestAhead_3 (Nat.le_of_ble_eq_true rfl) rfl ?_
  have hs1 := hP.1
  replace hP := hP.2
  refine r_sub [2, 1, 0] rfl ?_
  refine lp_X0_highestAhead_4 hG μ 0 ((NX0_highestAhead_4 μ)) (SX0_highestAhead_4 μ) rfl hs1 ?_
  refine r_iload_n dX0_highestAhead_4 2 rfl ?_
  refine r_bipush 24 dX0_highestAhead_5 rfl ?_
  refine r_icmp_ge 31 dX0_highestAhead_7 (by decide) (fun c1 => ?_) (fun c1 => ?_)
  · replace hP := hP.1 c1
    refine r_iload_n dX0_highestAhead_31 1 rfl ?_
    exact r_ireturn _ dX0_highestAhead_32 rfl rfl ⟨congrArg (fun z => some (Value.int z)) (rfl), rfl⟩
  · replace hP := hP.2 c1
    refine r_aload_n dX0_highestAhead_10 0 rfl ?_
    refine r_iload_n dX0_highestAhead_11 2 rfl ?_
    have hs4 := hP.1
    replace hP := hP.2
    refine r_cvI (ok_X0_heightAhead hG (nI (1 + (NX0_highestAhead_4 μ))) μ hs4) lX0_47 (hG.lt (by decide)) sh51 ⟨_, _, rfl⟩ dX0_highestAhead_12 (by decide) (Nat.le_of_ble_eq_true rfl) rfl (Nat.le_of_ble_eq_true rfl) ?_
    refine r_aload_n dX0_highestAhead_15 0 rfl ?_
    refine r_iload_n dX0_highestAhead_16 1 rfl ?_
    have hs5 := hP.1
    replace hP := hP.2
    refine r_cvI (ok_X0_heightAhead hG (SX0_highestAhead_4 μ) μ hs5) lX0_47 (hG.lt (by decide)) sh51 ⟨_, _, rfl⟩ dX0_highestAhead_17 (by decide) (Nat.le_of_ble_eq_true rfl) rfl (Nat.le_of_ble_eq_true rfl) ?_
    refine r_join 25 [(0, .ref (ga G 51)), (1, .int (VX0_highestAhead_1 μ)), (2, .int (nI (1 + (NX0_highestAhead_4 μ))))] [] μ ?_ (fun hJ => ?_)
    · refine r_iinc ((nI (1 + (NX0_highestAhead_4 μ))) + 1) [(2, _), (0, _), (1, _)] dX0_highestAhead_25 2 rfl rfl (Nat.le_of_ble_eq_true rfl) rfl ?_
      refine r_goto 4 dX0_highestAhead_28 (by decide) ?_
      exact hP.elim
    · refine r_icmp_le 25 dX0_highestAhead_20 (by decide) (fun c2 => ?_) (fun c2 => ?_)
      · have e : (VX0_highestAhead_1 μ) = (SX0_highestAhead_4 μ) := by unfold VX0_highestAhead_1; rw [if_pos c2]
        rw [e] at hJ
        exact r_sub [0, 1, 2] rfl hJ
      · refine r_iload_n dX0_highestAhead_23 2 rfl ?_
        refine r_istore_n [(1, _), (0, _), (2, _)] dX0_highestAhead_24 (Nat.le_of_ble_eq_true rfl) rfl ?_
        have e : (VX0_highestAhead_1 μ) = (nI (1 + (NX0_highestAhead_4 μ))) := by unfold VX0_highestAhead_1; rw [if_neg (i32_ng c2)]
        rw [e] at hJ
        exact r_sub [1, 0, 2] rfl hJ
def VX0_savedBy_8_1 (v1 : Int32) (v2 : Int32) (μ : Mem) (i : Nat) (s : Int32 × Int32) : Int32 := (if (F_X5_isGone 52 (nI i) μ) = 0 then (F_X5_of 52 40 (nI i) μ) else 0)
def g_X0_savedBy_8 (v1 : Int32) (v2 : Int32) (μ : Mem) (i : Nat) (s : Int32 × Int32) : Int32 × Int32 := (if ((v1 >>> ((nI i) &&& 31)) &&& 1) ≠ 1 then (s.1, s.2) else ((s.1 + ((F_X5_of 43 40 (nI i) μ) - (VX0_savedBy_8_1 v1 v2 μ i s))), (s.2 + (F_X9_at 6 10 (nI i) μ))))
def Pb_X0_savedBy_8 (v1 : Int32) (v2 : Int32) (μ : Mem) (i : Nat) (s : Int32 × Int32) : Prop := (((μ 3 9) ≤ (nI i) → False) ∧ ((nI i) < (μ 3 9) → ((((v1 >>> ((nI i) &&& 31)) &&& 1) ≠ 1 → True) ∧ (((v1 >>> ((nI i) &&& 31)) &&& 1) = 1 → (((F_X5_isDown 43 (nI i) μ) = 0 → False) ∧ (¬ (F_X5_isDown 43 (nI i) μ) = 0 → (((F_X5_of 43 20 (nI i) μ) ≠ 1 → True) ∧ ((F_X5_of 43 20 (nI i) μ) = 1 → False))))))))
def Cb_X0_savedBy_8 (v1 : Int32) (v2 : Int32) (μ : Mem) (i : Nat) (s : Int32 × Int32) : Bool := (if (μ 3 9) ≤ (nI i) then false else (if ((v1 >>> ((nI i) &&& 31)) &&& 1) ≠ 1 then true else (if (F_X5_isDown 43 (nI i) μ) = 0 then false else (if (F_X5_of 43 20 (nI i) μ) ≠ 1 then true else false))))
set_option maxRecDepth 20000 in
set_option maxHeartbeats 2000000 in
theorem lp_X0_savedBy_8 {G : SG} (hG : GK 57 G)  (v1 : Int32) (v2 : Int32) (μ : Mem) (s0 : Int32 × Int32) (N : Nat) (sN : Int32 × Int32) (eN : sN = fo N (g_X0_savedBy_8 v1 v2 μ) s0) (hN : ∀ i, i < N → Pb_X0_savedBy_8 v1 v2 μ i (fo i (g_X0_savedBy_8 v1 v2 μ) s0)) {t : Nat} {Q : PQ} {X : PX} (h : R G mX0_savedBy 8 [(0, .ref (ga G 51)), (1, .int v1), (2, .int v2), (3, .int (sN).1), (4, .int (sN).2), (5, .int (nI N))] [] μ t Q X) : R G mX0_savedBy 8 [(0, .ref (ga G 51)), (1, .int v1), (2, .int v2), (3, .int (s0).1), (4, .int (s0).2), (5, .int 0)] [] μ t Q X := by
  subst eN
  refine down_i N (fun i => R G mX0_savedBy 8 [(0, .ref (ga G 51)), (1, .int v1), (2, .int v2), (3, .int ((fo i (g_X0_savedBy_8 v1 v2 μ) s0)).1), (4, .int ((fo i (g_X0_savedBy_8 v1 v2 μ) s0)).2), (5, .int (nI i))] [] μ t Q X) h (fun i hi hS => ?_)
  have hP := hN i hi
  rw [fo_succ] at hS
  rw [nI_succ] at hS
  generalize fo i (g_X0_savedBy_8 v1 v2 μ) s0 = s at hS hP ⊢
  unfold Pb_X0_savedBy_8 at hP
  refine r_iload dX0_savedBy_8 5 rfl ?_
  refine r_aload_n dX0_savedBy_10 0 rfl ?_
  refine r_getR 3 fX0_18 (hG.lt (by decide)) sh51 fs51_0 dX0_savedBy_11 ?_
  refine r_getI fX0_108 (hG.lt (by decide)) sh3 fs3_9 dX0_savedBy_14 ?_
  refine r_icmp_ge 124 dX0_savedBy_17 (by decide) (fun c1 => ?_) (fun c1 => ?_)
  · replace hP := hP.1 c1
    exact hP.elim
  · replace hP := hP.2 c1
    refine r_iload_n dX0_savedBy_20 1 rfl ?_
    refine r_iload dX0_savedBy_21 5 rfl ?_
    refine r_ishr dX0_savedBy_23 rfl ?_
    refine r_iconst 1 dX0_savedBy_24 rfl ?_
    refine r_iand dX0_savedBy_25 ?_
    refine r_iconst 1 dX0_savedBy_26 rfl ?_
    refine r_icmp_ne 118 dX0_savedBy_27 (by decide) (fun c2 => ?_) (fun c2 => ?_)
    · replace hP := hP.1 c2
      refine r_iinc ((nI i) + 1) [(5, _), (0, _), (1, _), (2, _), (3, _), (4, _)] dX0_savedBy_118 5 rfl rfl (Nat.le_of_ble_eq_true rfl) rfl ?_
      refine r_goto 8 dX0_savedBy_121 (by decide) ?_
      have e : g_X0_savedBy_8 v1 v2 μ i s = (s.1, s.2) := by unfold g_X0_savedBy_8; rw [if_pos c2]
      rw [e] at hS
      dsimp only at hS
      exact r_sub [1, 2, 3, 4, 5, 0] rfl hS
    · replace hP := hP.2 c2
      refine r_aload_n dX0_savedBy_30 0 rfl ?_
      refine r_getR 43 fX0_26 (hG.lt (by decide)) sh51 fs51_2 dX0_savedBy_31 ?_
      refine r_iload dX0_savedBy_34 5 rfl ?_
      refine r_cvI (ok_X5_isDown hG (IsSt.of43) (nI i) μ) lX0_114 (hG.lt (by decide)) sh43 ⟨_, _, rfl⟩ dX0_savedBy_36 (by decide) (Nat.le_of_ble_eq_true rfl) rfl (Nat.le_of_ble_eq_true rfl) ?_
      refine r_if_eq 57 dX0_savedBy_39 (by decide) (fun c3 => ?_) (fun c3 => ?_)
      · replace hP := hP.1 c3
        refine r_iconst (-1) dX0_savedBy_57 rfl ?_
        exact hP.elim
      · replace hP := hP.2 c3
        refine r_aload_n dX0_savedBy_42 0 rfl ?_
        refine r_getR 43 fX0_26 (hG.lt (by decide)) sh51 fs51_2 dX0_savedBy_43 ?_
        refine r_bipush 20 dX0_savedBy_46 rfl ?_
        refine r_iload dX0_savedBy_48 5 rfl ?_
        refine r_cvI (ok_X5_of hG (IsSt.of43) 20 (nI i) μ) lX0_93 (hG.lt (by decide)) sh43 ⟨_, _, rfl⟩ dX0_savedBy_50 (by decide) (Nat.le_of_ble_eq_true rfl) rfl (Nat.le_of_ble_eq_true rfl) ?_
        refine r_iconst 1 dX0_savedBy_53 rfl ?_
        refine r_icmp_ne 59 dX0_savedBy_54 (by decide) (fun c4 => ?_) (fun c4 => ?_)
        · replace hP := hP.1 c4
          refine r_iload dX0_savedBy_59 4 rfl ?_
          refine r_aload_n dX0_savedBy_61 0 rfl ?_
          refine r_getR 3 fX0_18 (hG.lt (by decide)) sh51 fs51_0 dX0_savedBy_62 ?_
          refine r_getR 6 fX0_117 (hG.lt (by decide)) sh3 fs3_2 dX0_savedBy_65 ?_
          refine r_iload dX0_savedBy_68 5 rfl ?_
          refine r_csI (ok_X9_at hG (hG.lt (by decide)) sh6 (nI i) μ) lX0_120 dX0_savedBy_70 (by decide) (Nat.le_of_ble_eq_true rfl) rfl (Nat.le_of_ble_eq_true rfl) ?_
          refine r_iadd dX0_savedBy_73 ?_
          refine r_istore [(4, _), (0, _), (1, _), (2, _), (3, _), (5, _)] dX0_savedBy_74 (Nat.le_of_ble_eq_true rfl) rfl ?_
          refine r_iload_n dX0_savedBy_76 4 rfl ?_
          refine r_aload_n dX0_savedBy_77 1 rfl ?_
          refine r_getR 43 fX0_26 (hG.lt (by decide)) sh51 fs51_2 dX0_savedBy_78 ?_
          refine r_bipush 40 dX0_savedBy_81 rfl ?_
          refine r_iload dX0_savedBy_83 5 rfl ?_
          refine r_cvI (ok_X5_of hG (IsSt.of43) 40 (nI i) μ) lX0_93 (hG.lt (by decide)) sh43 ⟨_, _, rfl⟩ dX0_savedBy_85 (by decide) (Nat.le_of_ble_eq_true rfl) rfl (Nat.le_of_ble_eq_true rfl) ?_
          refine r_aload_n dX0_savedBy_88 1 rfl ?_
          refine r_getR 52 fX0_12 (hG.lt (by decide)) sh51 fs51_3 dX0_savedBy_89 ?_
          refine r_iload dX0_savedBy_92 5 rfl ?_
          refine r_cvI (ok_X5_isGone hG (IsSt.of52) (nI i) μ) lX0_82 (hG.lt (by decide)) sh52 ⟨_, _, rfl⟩ dX0_savedBy_94 (by decide) (Nat.le_of_ble_eq_true rfl) rfl (Nat.le_of_ble_eq_true rfl) ?_
          refine r_join 115 [(4, .int (s.2 + (F_X9_at 6 10 (nI i) μ))), (0, .ref (ga G 51)), (1, .int v1), (2, .int v2), (3, .int s.1), (5, .int (nI i))] [.int (VX0_savedBy_8_1 v1 v2 μ i s), .int (F_X5_of 43 40 (nI i) μ), .int s.1] μ ?_ (fun hJ => ?_)
          · refine r_isub dX0_savedBy_115 ?_
            refine r_iadd dX0_savedBy_116 ?_
            refine r_istore_n [(3, _), (4, _), (0, _), (1, _), (2, _), (5, _)] dX0_savedBy_117 (Nat.le_of_ble_eq_true rfl) rfl ?_
            refine r_iinc ((nI i) + 1) [(5, _), (3, _), (4, _), (0, _), (1, _), (2, _)] dX0_savedBy_118 5 rfl rfl (Nat.le_of_ble_eq_true rfl) rfl ?_
            refine r_goto 8 dX0_savedBy_121 (by decide) ?_
            have e : g_X0_savedBy_8 v1 v2 μ i s = ((s.1 + ((F_X5_of 43 40 (nI i) μ) - (VX0_savedBy_8_1 v1 v2 μ i s))), (s.2 + (F_X9_at 6 10 (nI i) μ))) := by unfold g_X0_savedBy_8; rw [if_neg (not_not_intro c2)]
            rw [e] at hS
            dsimp only at hS
            exact r_sub [3, 4, 5, 1, 2, 0] rfl hS
          · refine r_if_eq 104 dX0_savedBy_97 (by decide) (fun c5 => ?_) (fun c5 => ?_)
            · refine r_aload_n dX0_savedBy_104 1 rfl ?_
              refine r_getR 52 fX0_12 (hG.lt (by decide)) sh51 fs51_3 dX0_savedBy_105 ?_
              refine r_bipush 40 dX0_savedBy_108 rfl ?_
              refine r_iload dX0_savedBy_110 5 rfl ?_
              refine r_cvI (ok_X5_of hG (IsSt.of52) 40 (nI i) μ) lX0_93 (hG.lt (by decide)) sh52 ⟨_, _, rfl⟩ dX0_savedBy_112 (by decide) (Nat.le_of_ble_eq_true rfl) rfl (Nat.le_of_ble_eq_true rfl) ?_
              have e : (VX0_savedBy_8_1 v1 v2 μ i s) = (F_X5_of 52 40 (nI i) μ) := by unfold VX0_savedBy_8_1; rw [if_pos c5]
              rw [e] at hJ
              exact r_sub [0, 1, 2, 3, 4, 5] rfl hJ
            · refine r_iconst 0 dX0_savedBy_100 rfl ?_
              refine r_goto 115 dX0_savedBy_101 (by decide) ?_
              have e : (VX0_savedBy_8_1 v1 v2 μ i s) = 0 := by unfold VX0_savedBy_8_1; rw [if_neg c5]
              rw [e] at hJ
              exact r_sub [0, 1, 2, 3, 4, 5] rfl hJ
        · replace hP := hP.2 c4
          refine r_iconst (-1) dX0_savedBy_57 rfl ?_
          exact hP.elim
def NX0_savedBy_8 (p1 : Int32) (p2 : Int32) (μ : Mem) : Nat := (fst 11 (fun j9 => !Cb_X0_savedBy_8 p1 p2 μ j9 (fo j9 (g_X0_savedBy_8 p1 p2 μ) (0, 0))))
def SX0_savedBy_8 (p1 : Int32) (p2 : Int32) (μ : Mem) : Int32 × Int32 := fo (NX0_savedBy_8 p1 p2 μ) (g_X0_savedBy_8 p1 p2 μ) (0, 0)
def VX0_savedBy_1 (p1 : Int32) (p2 : Int32) (μ : Mem) : Int32 := (if (F_X5_isGone 52 (nI (NX0_savedBy_8 p1 p2 μ)) μ) = 0 then (F_X5_of 52 40 (nI (NX0_savedBy_8 p1 p2 μ)) μ) else 0)
def F_X0_savedBy (p1 : Int32) (p2 : Int32) (μ : Mem) : Int32 := (if (μ 3 9) ≤ (nI (NX0_savedBy_8 p1 p2 μ)) then (if (SX0_savedBy_8 p1 p2 μ).2 ≤ p2 then (SX0_savedBy_8 p1 p2 μ).1 else (-1)) else (-1))
def P_X0_savedBy (p1 : Int32) (p2 : Int32) (μ : Mem) : Prop := ((∀ j9, j9 < (NX0_savedBy_8 p1 p2 μ) → Pb_X0_savedBy_8 p1 p2 μ j9 (fo j9 (g_X0_savedBy_8 p1 p2 μ) (0, 0))) ∧ (((μ 3 9) ≤ (nI (NX0_savedBy_8 p1 p2 μ)) → True) ∧ ((nI (NX0_savedBy_8 p1 p2 μ)) < (μ 3 9) → ((((p1 >>> ((nI (NX0_savedBy_8 p1 p2 μ)) &&& 31)) &&& 1) ≠ 1 → False) ∧ (((p1 >>> ((nI (NX0_savedBy_8 p1 p2 μ)) &&& 31)) &&& 1) = 1 → (((F_X5_isDown 43 (nI (NX0_savedBy_8 p1 p2 μ)) μ) = 0 → True) ∧ (¬ (F_X5_isDown 43 (nI (NX0_savedBy_8 p1 p2 μ)) μ) = 0 → (((F_X5_of 43 20 (nI (NX0_savedBy_8 p1 p2 μ)) μ) ≠ 1 → False) ∧ ((F_X5_of 43 20 (nI (NX0_savedBy_8 p1 p2 μ)) μ) = 1 → True)))))))))
set_option maxRecDepth 20000 in
set_option maxHeartbeats 2000000 in
theorem ok_X0_savedBy {G : SG} (hG : GK 57 G) (p1 : Int32) (p2 : Int32) (μ : Mem) (hP : P_X0_savedBy p1 p2 μ) : OkF G mX0_savedBy [.ref (ga G 51), .int p1, .int p2] μ (some (.int (F_X0_savedBy p1 p2 μ))) μ := by
  refine okF_of hG rfl rfl (Nat.le_of_ble_eq_true rfl) ?_
  unfold P_X0_savedBy at hP
  refine r_iconst 0 dX0_savedBy_0 rfl ?_
  refine r_istore_n [(3, _), (0, _), (1, _), (2, _)] dX0_savedBy_1 (Nat.le_of_ble_eq_true rfl) rfl ?_
  refine r_iconst 0 dX0_savedBy_2 rfl ?_
  refine r_istore [(4, _), (3, _), (0, _), (1, _), (2, _)] dX0_savedBy_3 (Nat.le_of_ble_eq_true rfl) rfl ?_
  refine r_iconst 0 dX0_savedBy_5 rfl ?_
  refine r_istore [(5, _), (4, _), (3, _), (0, _), (1, _), (2, _)] dX0_savedBy_6 (Nat.le_of_ble_eq_true rfl) rfl ?_
  have hs1 := hP.1
  replace hP := hP.2
  refine r_sub [3, 4, 5, 2, 1, 0] rfl ?_
  refine lp_X0_savedBy_8 hG p1 p2 μ (0, 0) ((NX0_savedBy_8 p1 p2 μ)) (SX0_savedBy_8 p1 p2 μ) rfl hs1 ?_
  refine r_iload dX0_savedBy_8 5 rfl ?_
  refine r_aload_n dX0_savedBy_10 0 rfl ?_
  refine r_getR 3 fX0_18 (hG.lt (by decide)) sh51 fs51_0 dX0_savedBy_11 ?_
  refine r_getI fX0_108 (hG.lt (by decide)) sh3 fs3_9 dX0_savedBy_14 ?_
  refine r_icmp_ge 124 dX0_savedBy_17 (by decide) (fun c1 => ?_) (fun c1 => ?_)
  · replace hP := hP.1 c1
    refine r_iload dX0_savedBy_124 4 rfl ?_
    refine r_iload_n dX0_savedBy_126 2 rfl ?_
    refine r_icmp_le 134 dX0_savedBy_127 (by decide) (fun c2 => ?_) (fun c2 => ?_)
    · refine r_iload_n dX0_savedBy_134 3 rfl ?_
      exact r_ireturn _ dX0_savedBy_135 rfl rfl ⟨congrArg (fun z => some (Value.int z)) (by unfold F_X0_savedBy; rw [if_pos c1, if_pos c2]), rfl⟩
    · refine r_iconst (-1) dX0_savedBy_130 rfl ?_
      refine r_goto 135 dX0_savedBy_131 (by decide) ?_
      exact r_ireturn _ dX0_savedBy_135 rfl rfl ⟨congrArg (fun z => some (Value.int z)) (by unfold F_X0_savedBy; rw [if_pos c1, if_neg (i32_ng c2)]), rfl⟩
  · replace hP := hP.2 c1
    refine r_iload_n dX0_savedBy_20 1 rfl ?_
    refine r_iload dX0_savedBy_21 5 rfl ?_
    refine r_ishr dX0_savedBy_23 rfl ?_
    refine r_iconst 1 dX0_savedBy_24 rfl ?_
    refine r_iand dX0_savedBy_25 ?_
    refine r_iconst 1 dX0_savedBy_26 rfl ?_
    refine r_icmp_ne 118 dX0_savedBy_27 (by decide) (fun c2 => ?_) (fun c2 => ?_)
    · replace hP := hP.1 c2
      refine r_iinc ((nI (NX0_savedBy_8 p1 p2 μ)) + 1) [(5, _), (0, _), (1, _), (2, _), (3, _), (4, _)] dX0_savedBy_118 5 rfl rfl (Nat.le_of_ble_eq_true rfl) rfl ?_
      refine r_goto 8 dX0_savedBy_121 (by decide) ?_
      exact hP.elim
    · replace hP := hP.2 c2
      refine r_aload_n dX0_savedBy_30 0 rfl ?_
      refine r_getR 43 fX0_26 (hG.lt (by decide)) sh51 fs51_2 dX0_savedBy_31 ?_
      refine r_iload dX0_savedBy_34 5 rfl ?_
      refine r_cvI (ok_X5_isDown hG (IsSt.of43) (nI (NX0_savedBy_8 p1 p2 μ)) μ) lX0_114 (hG.lt (by decide)) sh43 ⟨_, _, rfl⟩ dX0_savedBy_36 (by decide) (Nat.le_of_ble_eq_true rfl) rfl (Nat.le_of_ble_eq_true rfl) ?_
      refine r_if_eq 57 dX0_savedBy_39 (by decide) (fun c3 => ?_) (fun c3 => ?_)
      · replace hP := hP.1 c3
        refine r_iconst (-1) dX0_savedBy_57 rfl ?_
        exact r_ireturn _ dX0_savedBy_58 rfl rfl ⟨congrArg (fun z => some (Value.int z)) (by unfold F_X0_savedBy; rw [if_neg (i32_ng c1)]), rfl⟩
      · replace hP := hP.2 c3
        refine r_aload_n dX0_savedBy_42 0 rfl ?_
        refine r_getR 43 fX0_26 (hG.lt (by decide)) sh51 fs51_2 dX0_savedBy_43 ?_
        refine r_bipush 20 dX0_savedBy_46 rfl ?_
        refine r_iload dX0_savedBy_48 5 rfl ?_
        refine r_cvI (ok_X5_of hG (IsSt.of43) 20 (nI (NX0_savedBy_8 p1 p2 μ)) μ) lX0_93 (hG.lt (by decide)) sh43 ⟨_, _, rfl⟩ dX0_savedBy_50 (by decide) (Nat.le_of_ble_eq_true rfl) rfl (Nat.le_of_ble_eq_true rfl) ?_
        refine r_iconst 1 dX0_savedBy_53 rfl ?_
        refine r_icmp_ne 59 dX0_savedBy_54 (by decide) (fun c4 => ?_) (fun c4 => ?_)
        · replace hP := hP.1 c4
          refine r_iload dX0_savedBy_59 4 rfl ?_
          refine r_aload_n dX0_savedBy_61 0 rfl ?_
          refine r_getR 3 fX0_18 (hG.lt (by decide)) sh51 fs51_0 dX0_savedBy_62 ?_
          refine r_getR 6 fX0_117 (hG.lt (by decide)) sh3 fs3_2 dX0_savedBy_65 ?_
          refine r_iload dX0_savedBy_68 5 rfl ?_
          refine r_csI (ok_X9_at hG (hG.lt (by decide)) sh6 (nI (NX0_savedBy_8 p1 p2 μ)) μ) lX0_120 dX0_savedBy_70 (by decide) (Nat.le_of_ble_eq_true rfl) rfl (Nat.le_of_ble_eq_true rfl) ?_
          refine r_iadd dX0_savedBy_73 ?_
          refine r_istore [(4, _), (0, _), (1, _), (2, _), (3, _), (5, _)] dX0_savedBy_74 (Nat.le_of_ble_eq_true rfl) rfl ?_
          refine r_iload_n dX0_savedBy_76 4 rfl ?_
          refine r_aload_n dX0_savedBy_77 1 rfl ?_
          refine r_getR 43 fX0_26 (hG.lt (by decide)) sh51 fs51_2 dX0_savedBy_78 ?_
          refine r_bipush 40 dX0_savedBy_81 rfl ?_
          refine r_iload dX0_savedBy_83 5 rfl ?_
          refine r_cvI (ok_X5_of hG (IsSt.of43) 40 (nI (NX0_savedBy_8 p1 p2 μ)) μ) lX0_93 (hG.lt (by decide)) sh43 ⟨_, _, rfl⟩ dX0_savedBy_85 (by decide) (Nat.le_of_ble_eq_true rfl) rfl (Nat.le_of_ble_eq_true rfl) ?_
          refine r_aload_n dX0_savedBy_88 1 rfl ?_
          refine r_getR 52 fX0_12 (hG.lt (by decide)) sh51 fs51_3 dX0_savedBy_89 ?_
          refine r_iload dX0_savedBy_92 5 rfl ?_
          refine r_cvI (ok_X5_isGone hG (IsSt.of52) (nI (NX0_savedBy_8 p1 p2 μ)) μ) lX0_82 (hG.lt (by decide)) sh52 ⟨_, _, rfl⟩ dX0_savedBy_94 (by decide) (Nat.le_of_ble_eq_true rfl) rfl (Nat.le_of_ble_eq_true rfl) ?_
          refine r_join 115 [(4, .int ((SX0_savedBy_8 p1 p2 μ).2 + (F_X9_at 6 10 (nI (NX0_savedBy_8 p1 p2 μ)) μ))), (0, .ref (ga G 51)), (1, .int p1), (2, .int p2), (3, .int (SX0_savedBy_8 p1 p2 μ).1), (5, .int (nI (NX0_savedBy_8 p1 p2 μ)))] [.int (VX0_savedBy_1 p1 p2 μ), .int (F_X5_of 43 40 (nI (NX0_savedBy_8 p1 p2 μ)) μ), .int (SX0_savedBy_8 p1 p2 μ).1] μ ?_ (fun hJ => ?_)
          · refine r_isub dX0_savedBy_115 ?_
            refine r_iadd dX0_savedBy_116 ?_
            refine r_istore_n [(3, _), (4, _), (0, _), (1, _), (2, _), (5, _)] dX0_savedBy_117 (Nat.le_of_ble_eq_true rfl) rfl ?_
            refine r_iinc ((nI (NX0_savedBy_8 p1 p2 μ)) + 1) [(5, _), (3, _), (4, _), (0, _), (1, _), (2, _)] dX0_savedBy_118 5 rfl rfl (Nat.le_of_ble_eq_true rfl) rfl ?_
            refine r_goto 8 dX0_savedBy_121 (by decide) ?_
            exact hP.elim
          · refine r_if_eq 104 dX0_savedBy_97 (by decide) (fun c5 => ?_) (fun c5 => ?_)
            · refine r_aload_n dX0_savedBy_104 1 rfl ?_
              refine r_getR 52 fX0_12 (hG.lt (by decide)) sh51 fs51_3 dX0_savedBy_105 ?_
              refine r_bipush 40 dX0_savedBy_108 rfl ?_
              refine r_iload dX0_savedBy_110 5 rfl ?_
              refine r_cvI (ok_X5_of hG (IsSt.of52) 40 (nI (NX0_savedBy_8 p1 p2 μ)) μ) lX0_93 (hG.lt (by decide)) sh52 ⟨_, _, rfl⟩ dX0_savedBy_112 (by decide) (Nat.le_of_ble_eq_true rfl) rfl (Nat.le_of_ble_eq_true rfl) ?_
              have e : (VX0_savedBy_1 p1 p2 μ) = (F_X5_of 52 40 (nI (NX0_savedBy_8 p1 p2 μ)) μ) := by unfold VX0_savedBy_1; rw [if_pos c5]
              rw [e] at hJ
              exact r_sub [0, 1, 2, 3, 4, 5] rfl hJ
            · refine r_iconst 0 dX0_savedBy_100 rfl ?_
              refine r_goto 115 dX0_savedBy_101 (by decide) ?_
              have e : (VX0_savedBy_1 p1 p2 μ) = 0 := by unfold VX0_savedBy_1; rw [if_neg c5]
              rw [e] at hJ
              exact r_sub [0, 1, 2, 3, 4, 5] rfl hJ
        · replace hP := hP.2 c4
          refine r_iconst (-1) dX0_savedBy_57 rfl ?_
          exact r_ireturn _ dX0_savedBy_58 rfl rfl ⟨congrArg (fun z => some (Value.int z)) (by unfold F_X0_savedBy; rw [if_neg (i32_ng c1)]), rfl⟩
def muX0_bestCarried_1 (p1 : Int32) (p2 : Int32) (p3 : Int32) (μ : Mem) : Mem := (M_X0_goAhead p2 (μ 3 12) μ)
def VX0_bestCarried_21_1 (v1 : Int32) (v2 : Int32) (v3 : Int32) (μ : Mem) (i : Nat) (s : Int32 × Int32) : Int32 := (if (F_X0_savedBy (nI (1 + i)) v1 μ) ≤ s.2 then s.1 else (nI (1 + i)))
def VX0_bestCarried_21_2 (v1 : Int32) (v2 : Int32) (v3 : Int32) (μ : Mem) (i : Nat) (s : Int32 × Int32) : Int32 := (if (F_X0_savedBy (nI (1 + i)) v1 μ) ≤ s.2 then s.2 else (F_X0_savedBy (nI (1 + i)) v1 μ))
def g_X0_bestCarried_21 (v1 : Int32) (v2 : Int32) (v3 : Int32) (μ : Mem) (i : Nat) (s : Int32 × Int32) : Int32 × Int32 := ((VX0_bestCarried_21_1 v1 v2 v3 μ i s), (VX0_bestCarried_21_2 v1 v2 v3 μ i s))
def Pb_X0_bestCarried_21 (v1 : Int32) (v2 : Int32) (v3 : Int32) (μ : Mem) (i : Nat) (s : Int32 × Int32) : Prop := ((((1 : Int32) <<< ((μ 3 9) &&& 31)) ≤ (nI (1 + i)) → False) ∧ ((nI (1 + i)) < ((1 : Int32) <<< ((μ 3 9) &&& 31)) → P_X0_savedBy (nI (1 + i)) v1 μ))
set_option maxRecDepth 20000 in
set_option maxHeartbeats 2000000 in
theorem lp_X0_bestCarried_21 {G : SG} (hG : GK 57 G)  (v1 : Int32) (v2 : Int32) (v3 : Int32) (μ : Mem) (s0 : Int32 × Int32) (N : Nat) (sN : Int32 × Int32) (eN : sN = fo N (g_X0_bestCarried_21 v1 v2 v3 μ) s0) (hN : ∀ i, i < N → Pb_X0_bestCarried_21 v1 v2 v3 μ i (fo i (g_X0_bestCarried_21 v1 v2 v3 μ) s0)) {t : Nat} {Q : PQ} {X : PX} (h : R G mX0_bestCarried 21 [(0, .ref (ga G 51)), (1, .int v1), (2, .int v2), (3, .int v3), (4, .int (sN).1), (5, .int (sN).2), (6, .int (nI (1 + N)))] [] μ t Q X) : R G mX0_bestCarried 21 [(0, .ref (ga G 51)), (1, .int v1), (2, .int v2), (3, .int v3), (4, .int (s0).1), (5, .int (s0).2), (6, .int 1)] [] μ t Q X := by
  subst eN
  refine down_i N (fun i => R G mX0_bestCarried 21 [(0, .ref (ga G 51)), (1, .int v1), (2, .int v2), (3, .int v3), (4, .int ((fo i (g_X0_bestCarried_21 v1 v2 v3 μ) s0)).1), (5, .int ((fo i (g_X0_bestCarried_21 v1 v2 v3 μ) s0)).2), (6, .int (nI (1 + i)))] [] μ t Q X) h (fun i hi hS => ?_)
  have hP := hN i hi
  rw [fo_succ] at hS
  rw [(nI_sc 1 i)] at hS
  generalize fo i (g_X0_bestCarried_21 v1 v2 v3 μ) s0 = s at hS hP ⊢
  unfold Pb_X0_bestCarried_21 at hP
  refine r_iload dX0_bestCarried_21 6 rfl ?_
  refine r_iconst 1 dX0_bestCarried_23 rfl ?_
  refine r_aload_n dX0_bestCarried_24 0 rfl ?_
  refine r_getR 3 fX0_18 (hG.lt (by decide)) sh51 fs51_0 dX0_bestCarried_25 ?_
  refine r_getI fX0_108 (hG.lt (by decide)) sh3 fs3_9 dX0_bestCarried_28 ?_
  refine r_ishl dX0_bestCarried_31 rfl ?_
  refine r_icmp_ge 65 dX0_bestCarried_32 (by decide) (fun c1 => ?_) (fun c1 => ?_)
  · replace hP := hP.1 c1
    exact hP.elim
  · replace hP := hP.2 c1
    refine r_aload_n dX0_bestCarried_35 0 rfl ?_
    refine r_iload dX0_bestCarried_36 6 rfl ?_
    refine r_iload_n dX0_bestCarried_38 1 rfl ?_
    have hs1 := hP
    refine r_cvI (ok_X0_savedBy hG (nI (1 + i)) v1 μ hs1) lX0_111 (hG.lt (by decide)) sh51 ⟨_, _, rfl⟩ dX0_bestCarried_39 (by decide) (Nat.le_of_ble_eq_true rfl) rfl (Nat.le_of_ble_eq_true rfl) ?_
    refine r_istore [(7, _), (0, _), (1, _), (2, _), (3, _), (4, _), (5, _), (6, _)] dX0_bestCarried_42 (Nat.le_of_ble_eq_true rfl) rfl ?_
    refine r_iload dX0_bestCarried_44 0 rfl ?_
    refine r_iload dX0_bestCarried_46 6 rfl ?_
    refine r_join 59 [(7, .int (F_X0_savedBy (nI (1 + i)) v1 μ)), (0, .ref (ga G 51)), (1, .int v1), (2, .int v2), (3, .int v3), (4, .int (VX0_bestCarried_21_1 v1 v2 v3 μ i s)), (5, .int (VX0_bestCarried_21_2 v1 v2 v3 μ i s)), (6, .int (nI (1 + i)))] [] μ ?_ (fun hJ => ?_)
    · refine r_iinc ((nI (1 + i)) + 1) [(6, _), (7, _), (0, _), (1, _), (2, _), (3, _), (4, _), (5, _)] dX0_bestCarried_59 7 rfl rfl (Nat.le_of_ble_eq_true rfl) rfl ?_
      refine r_goto 21 dX0_bestCarried_62 (by decide) ?_
      have e : g_X0_bestCarried_21 v1 v2 v3 μ i s = ((VX0_bestCarried_21_1 v1 v2 v3 μ i s), (VX0_bestCarried_21_2 v1 v2 v3 μ i s)) := by unfold g_X0_bestCarried_21; rfl
      rw [e] at hS
      dsimp only at hS
      exact r_sub [2, 3, 4, 5, 6, 7, 0] rfl hS
    · refine r_icmp_le 59 dX0_bestCarried_48 (by decide) (fun c2 => ?_) (fun c2 => ?_)
      · have e : (VX0_bestCarried_21_1 v1 v2 v3 μ i s) = s.1 := by unfold VX0_bestCarried_21_1; rw [if_pos c2]
        rw [e] at hJ
        clear e
        have e : (VX0_bestCarried_21_2 v1 v2 v3 μ i s) = s.2 := by unfold VX0_bestCarried_21_2; rw [if_pos c2]
        rw [e] at hJ
        exact r_sub [0, 1, 2, 3, 4, 5, 6, 7] rfl hJ
      · refine r_iload dX0_bestCarried_51 7 rfl ?_
        refine r_istore [(4, _), (7, _), (0, _), (1, _), (2, _), (3, _), (5, _), (6, _)] dX0_bestCarried_53 (Nat.le_of_ble_eq_true rfl) rfl ?_
        refine r_iload dX0_bestCarried_55 1 rfl ?_
        refine r_istore [(5, _), (4, _), (7, _), (0, _), (1, _), (2, _), (3, _), (6, _)] dX0_bestCarried_57 (Nat.le_of_ble_eq_true rfl) rfl ?_
        have e : (VX0_bestCarried_21_1 v1 v2 v3 μ i s) = (nI (1 + i)) := by unfold VX0_bestCarried_21_1; rw [if_neg (i32_ng c2)]
        rw [e] at hJ
        clear e
        have e : (VX0_bestCarried_21_2 v1 v2 v3 μ i s) = (F_X0_savedBy (nI (1 + i)) v1 μ) := by unfold VX0_bestCarried_21_2; rw [if_neg (i32_ng c2)]
        rw [e] at hJ
        exact r_sub [2, 3, 4, 5, 6, 1, 0, 7] rfl hJ
def NX0_bestCarried_21 (p1 : Int32) (p2 : Int32) (p3 : Int32) (μ : Mem) : Nat := 2 ^ ix ((muX0_bestCarried_1 p1 p2 p3 μ) 3 9) - 1
def SX0_bestCarried_21 (p1 : Int32) (p2 : Int32) (p3 : Int32) (μ : Mem) : Int32 × Int32 := fo (NX0_bestCarried_21 p1 p2 p3 μ) (g_X0_bestCarried_21 p1 p2 p3 (muX0_bestCarried_1 p1 p2 p3 μ)) (0, 0)
def VX0_bestCarried_2 (p1 : Int32) (p2 : Int32) (p3 : Int32) (μ : Mem) : Int32 := (if (F_X0_savedBy (nI (1 + (NX0_bestCarried_21 p1 p2 p3 μ))) p1 (muX0_bestCarried_1 p1 p2 p3 μ)) ≤ (SX0_bestCarried_21 p1 p2 p3 μ).2 then (SX0_bestCarried_21 p1 p2 p3 μ).1 else (nI (1 + (NX0_bestCarried_21 p1 p2 p3 μ))))
def VX0_bestCarried_3 (p1 : Int32) (p2 : Int32) (p3 : Int32) (μ : Mem) : Int32 := (if (F_X0_savedBy (nI (1 + (NX0_bestCarried_21 p1 p2 p3 μ))) p1 (muX0_bestCarried_1 p1 p2 p3 μ)) ≤ (SX0_bestCarried_21 p1 p2 p3 μ).2 then (SX0_bestCarried_21 p1 p2 p3 μ).2 else (F_X0_savedBy (nI (1 + (NX0_bestCarried_21 p1 p2 p3 μ))) p1 (muX0_bestCarried_1 p1 p2 p3 μ)))
def F_X0_bestCarried (p1 : Int32) (p2 : Int32) (p3 : Int32) (μ : Mem) : Int32 := (if p3 ≠ 1 then ((F_X5_worthLeft 52 (muX0_bestCarried_1 p1 p2 p3 μ)) + (SX0_bestCarried_21 p1 p2 p3 μ).2) else (SX0_bestCarried_21 p1 p2 p3 μ).1)
def M_X0_bestCarried (p1 : Int32) (p2 : Int32) (p3 : Int32) (μ : Mem) : Mem := (muX0_bestCarried_1 p1 p2 p3 μ)
def P_X0_bestCarried (p1 : Int32) (p2 : Int32) (p3 : Int32) (μ : Mem) : Prop := ((P_X0_goAhead p2 (μ 3 12) μ) ∧ ((∀ j9, j9 < (NX0_bestCarried_21 p1 p2 p3 μ) → Pb_X0_bestCarried_21 p1 p2 p3 (muX0_bestCarried_1 p1 p2 p3 μ) j9 (fo j9 (g_X0_bestCarried_21 p1 p2 p3 (muX0_bestCarried_1 p1 p2 p3 μ)) (0, 0))) ∧ ((((1 : Int32) <<< (((muX0_bestCarried_1 p1 p2 p3 μ) 3 9) &&& 31)) ≤ (nI (1 + (NX0_bestCarried_21 p1 p2 p3 μ))) → ((p3 ≠ 1 → (P_X5_worthLeft 52 (muX0_bestCarried_1 p1 p2 p3 μ))) ∧ (p3 = 1 → True))) ∧ ((nI (1 + (NX0_bestCarried_21 p1 p2 p3 μ))) < ((1 : Int32) <<< (((muX0_bestCarried_1 p1 p2 p3 μ) 3 9) &&& 31)) → ((P_X0_savedBy (nI (1 + (NX0_bestCarried_21 p1 p2 p3 μ))) p1 (muX0_bestCarried_1 p1 p2 p3 μ)) ∧ False)))))
set_option maxRecDepth 20000 in
set_option maxHeartbeats 2000000 in
theorem ok_X0_bestCarried {G : SG} (hG : GK 57 G) (p1 : Int32) (p2 : Int32) (p3 : Int32) (μ : Mem) (hP : P_X0_bestCarried p1 p2 p3 μ) : OkF G mX0_bestCarried [.ref (ga G 51), .int p1, .int p2, .int p3] μ (some (.int (F_X0_bestCarried p1 p2 p3 μ))) (M_X0_bestCarried p1 p2 p3 μ) := by
  refine okF_of hG rfl rfl (Nat.le_of_ble_eq_true rfl) ?_
  unfold P_X0_bestCarried at hP
  refine r_aload_n dX0_bestCarried_0 0 rfl ?_
  refine r_iload_n dX0_bestCarried_1 2 rfl ?_
  refine r_aload_n dX0_bestCarried_2 0 rfl ?_
  refine r_getR 3 fX0_18 (hG.lt (by decide)) sh51 fs51_0 dX0_bestCarried_3 ?_
  refine r_getI fX0_86 (hG.lt (by decide)) sh3 fs3_12 dX0_bestCarried_6 ?_
  have hs1 := hP.1
  replace hP := hP.2
  refine r_cvV (ok_X0_goAhead hG p2 (μ 3 12) μ hs1) lX0_89 (hG.lt (by decide)) sh51 ⟨_, _, rfl⟩ dX0_bestCarried_9 (by decide) (Nat.le_of_ble_eq_true rfl) rfl (Nat.le_of_ble_eq_true rfl) ?_
  refine r_mu (muX0_bestCarried_1 p1 p2 p3 μ) rfl ?_
  refine r_iconst 0 dX0_bestCarried_12 rfl ?_
  refine r_istore [(4, _), (0, _), (1, _), (2, _), (3, _)] dX0_bestCarried_13 (Nat.le_of_ble_eq_true rfl) rfl ?_
  refine r_iconst 0 dX0_bestCarried_15 rfl ?_
  refine r_istore [(5, _), (4, _), (0, _), (1, _), (2, _), (3, _)] dX0_bestCarried_16 (Nat.le_of_ble_eq_true rfl) rfl ?_
  refine r_iconst 1 dX0_bestCarried_18 rfl ?_
  refine r_istore [(6, _), (5, _), (4, _), (0, _), (1, _), (2, _), (3, _)] dX0_bestCarried_19 (Nat.le_of_ble_eq_true rfl) rfl ?_
  have hs2 := hP.1
  replace hP := hP.2
  refine r_sub [3, 4, 5, 6, 2, 1, 0] rfl ?_
  refine lp_X0_bestCarried_21 hG p1 p2 p3 (muX0_bestCarried_1 p1 p2 p3 μ) (0, 0) ((NX0_bestCarried_21 p1 p2 p3 μ)) (SX0_bestCarried_21 p1 p2 p3 μ) rfl hs2 ?_
  refine r_iload dX0_bestCarried_21 6 rfl ?_
  refine r_iconst 1 dX0_bestCarried_23 rfl ?_
  refine r_aload_n dX0_bestCarried_24 0 rfl ?_
  refine r_getR 3 fX0_18 (hG.lt (by decide)) sh51 fs51_0 dX0_bestCarried_25 ?_
  refine r_getI fX0_108 (hG.lt (by decide)) sh3 fs3_9 dX0_bestCarried_28 ?_
  refine r_ishl dX0_bestCarried_31 rfl ?_
  refine r_icmp_ge 65 dX0_bestCarried_32 (by decide) (fun c1 => ?_) (fun c1 => ?_)
  · replace hP := hP.1 c1
    refine r_iload_n dX0_bestCarried_65 3 rfl ?_
    refine r_iconst 1 dX0_bestCarried_66 rfl ?_
    refine r_icmp_ne 75 dX0_bestCarried_67 (by decide) (fun c2 => ?_) (fun c2 => ?_)
    · replace hP := hP.1 c2
      refine r_aload_n dX0_bestCarried_75 0 rfl ?_
      refine r_getR 52 fX0_12 (hG.lt (by decide)) sh51 fs51_3 dX0_bestCarried_76 ?_
      refine r_aload_n dX0_bestCarried_79 0 rfl ?_
      refine r_getR 3 fX0_18 (hG.lt (by decide)) sh51 fs51_0 dX0_bestCarried_80 ?_
      have hs4 := hP
      refine r_cvI (ok_X5_worthLeft hG (IsSt.of52) (muX0_bestCarried_1 p1 p2 p3 μ) hs4) lX0_99 (hG.lt (by decide)) sh52 ⟨_, _, rfl⟩ dX0_bestCarried_83 (by decide) (Nat.le_of_ble_eq_true rfl) rfl (Nat.le_of_ble_eq_true rfl) ?_
      refine r_iload dX0_bestCarried_86 5 rfl ?_
      refine r_iadd dX0_bestCarried_88 ?_
      exact r_ireturn _ dX0_bestCarried_89 rfl rfl ⟨congrArg (fun z => some (Value.int z)) (by unfold F_X0_bestCarried; rw [if_pos c2]), rfl⟩
    · replace hP := hP.2 c2
      refine r_iload dX0_bestCarried_70 4 rfl ?_
      refine r_goto 89 dX0_bestCarried_72 (by decide) ?_
      exact r_ireturn _ dX0_bestCarried_89 rfl rfl ⟨congrArg (fun z => some (Value.int z)) (by unfold F_X0_bestCarried; rw [if_neg (not_not_intro c2)]), rfl⟩
  · replace hP := hP.2 c1
    refine r_aload_n dX0_bestCarried_35 0 rfl ?_
    refine r_iload dX0_bestCarried_36 6 rfl ?_
    refine r_iload_n dX0_bestCarried_38 1 rfl ?_
    have hs5 := hP.1
    replace hP := hP.2
    refine r_cvI (ok_X0_savedBy hG (nI (1 + (NX0_bestCarried_21 p1 p2 p3 μ))) p1 (muX0_bestCarried_1 p1 p2 p3 μ) hs5) lX0_111 (hG.lt (by decide)) sh51 ⟨_, _, rfl⟩ dX0_bestCarried_39 (by decide) (Nat.le_of_ble_eq_true rfl) rfl (Nat.le_of_ble_eq_true rfl) ?_
    refine r_istore [(7, _), (0, _), (1, _), (2, _), (3, _), (4, _), (5, _), (6, _)] dX0_bestCarried_42 (Nat.le_of_ble_eq_true rfl) rfl ?_
    refine r_iload dX0_bestCarried_44 0 rfl ?_
    refine r_iload dX0_bestCarried_46 6 rfl ?_
    refine r_join 59 [(7, .int (F_X0_savedBy (nI (1 + (NX0_bestCarried_21 p1 p2 p3 μ))) p1 (muX0_bestCarried_1 p1 p2 p3 μ))), (0, .ref (ga G 51)), (1, .int p1), (2, .int p2), (3, .int p3), (4, .int (VX0_bestCarried_2 p1 p2 p3 μ)), (5, .int (VX0_bestCarried_3 p1 p2 p3 μ)), (6, .int (nI (1 + (NX0_bestCarried_21 p1 p2 p3 μ))))] [] (muX0_bestCarried_1 p1 p2 p3 μ) ?_ (fun hJ => ?_)
    · refine r_iinc ((nI (1 + (NX0_bestCarried_21 p1 p2 p3 μ))) + 1) [(6, _), (7, _), (0, _), (1, _), (2, _), (3, _), (4, _), (5, _)] dX0_bestCarried_59 7 rfl rfl (Nat.le_of_ble_eq_true rfl) rfl ?_
      refine r_goto 21 dX0_bestCarried_62 (by decide) ?_
      exact hP.elim
    · refine r_icmp_le 59 dX0_bestCarried_48 (by decide) (fun c2 => ?_) (fun c2 => ?_)
      · have e : (VX0_bestCarried_2 p1 p2 p3 μ) = (SX0_bestCarried_21 p1 p2 p3 μ).1 := by unfold VX0_bestCarried_2; rw [if_pos c2]
        rw [e] at hJ
        clear e
        have e : (VX0_bestCarried_3 p1 p2 p3 μ) = (SX0_bestCarried_21 p1 p2 p3 μ).2 := by unfold VX0_bestCarried_3; rw [if_pos c2]
        rw [e] at hJ
        exact r_sub [0, 1, 2, 3, 4, 5, 6, 7] rfl hJ
      · refine r_iload dX0_bestCarried_51 7 rfl ?_
        refine r_istore [(4, _), (7, _), (0, _), (1, _), (2, _), (3, _), (5, _), (6, _)] dX0_bestCarried_53 (Nat.le_of_ble_eq_true rfl) rfl ?_
        refine r_iload dX0_bestCarried_55 1 rfl ?_
        refine r_istore [(5, _), (4, _), (7, _), (0, _), (1, _), (2, _), (3, _), (6, _)] dX0_bestCarried_57 (Nat.le_of_ble_eq_true rfl) rfl ?_
        have e : (VX0_bestCarried_2 p1 p2 p3 μ) = (nI (1 + (NX0_bestCarried_21 p1 p2 p3 μ))) := by unfold VX0_bestCarried_2; rw [if_neg (i32_ng c2)]
        rw [e] at hJ
        clear e
        have e : (VX0_bestCarried_3 p1 p2 p3 μ) = (F_X0_savedBy (nI (1 + (NX0_bestCarried_21 p1 p2 p3 μ))) p1 (muX0_bestCarried_1 p1 p2 p3 μ)) := by unfold VX0_bestCarried_3; rw [if_neg (i32_ng c2)]
        rw [e] at hJ
        exact r_sub [2, 3, 4, 5, 6, 1, 0, 7] rfl hJ
def muX0_leastRent_2_1 (v1 : Int32) (v2 : Int32) (i : Nat) (s : Mem) : Mem := (M_X0_goAhead v2 (nI i) s)
def g_X0_leastRent_2 (v1 : Int32) (v2 : Int32) (i : Nat) (s : Mem) : Mem := (muX0_leastRent_2_1 v1 v2 i s)
def Pb_X0_leastRent_2 (v1 : Int32) (v2 : Int32) (i : Nat) (s : Mem) : Prop := ((40 < (nI i) → False) ∧ ((nI i) ≤ 40 → (P_X0_goAhead v2 (nI i) s) ∧ (P_X0_paidThen  (muX0_leastRent_2_1 v1 v2 i s)) ∧ ((v1 < (F_X0_paidThen  (muX0_leastRent_2_1 v1 v2 i s)) → True) ∧ ((F_X0_paidThen  (muX0_leastRent_2_1 v1 v2 i s)) ≤ v1 → False))))
def Cb_X0_leastRent_2 (v1 : Int32) (v2 : Int32) (i : Nat) (s : Mem) : Bool := (if 40 < (nI i) then false else (if v1 < (F_X0_paidThen  (muX0_leastRent_2_1 v1 v2 i s)) then true else false))
set_option maxRecDepth 20000 in
set_option maxHeartbeats 2000000 in
theorem lp_X0_leastRent_2 {G : SG} (hG : GK 57 G)  (v1 : Int32) (v2 : Int32) (s0 : Mem) (N : Nat) (sN : Mem) (eN : sN = fo N (g_X0_leastRent_2 v1 v2) s0) (hN : ∀ i, i < N → Pb_X0_leastRent_2 v1 v2 i (fo i (g_X0_leastRent_2 v1 v2) s0)) {t : Nat} {Q : PQ} {X : PX} (h : R G mX0_leastRent 2 [(0, .ref (ga G 51)), (1, .int v1), (2, .int v2), (3, .int (nI N))] [] sN t Q X) : R G mX0_leastRent 2 [(0, .ref (ga G 51)), (1, .int v1), (2, .int v2), (3, .int 0)] [] s0 t Q X := by
  subst eN
  refine down_i N (fun i => R G mX0_leastRent 2 [(0, .ref (ga G 51)), (1, .int v1), (2, .int v2), (3, .int (nI i))] [] (fo i (g_X0_leastRent_2 v1 v2) s0) t Q X) h (fun i hi hS => ?_)
  have hP := hN i hi
  rw [fo_succ] at hS
  rw [nI_succ] at hS
  generalize fo i (g_X0_leastRent_2 v1 v2) s0 = s at hS hP ⊢
  unfold Pb_X0_leastRent_2 at hP
  refine r_iload_n dX0_leastRent_2 3 rfl ?_
  refine r_bipush 40 dX0_leastRent_3 rfl ?_
  refine r_icmp_gt 30 dX0_leastRent_5 (by decide) (fun c1 => ?_) (fun c1 => ?_)
  · replace hP := hP.1 c1
    exact hP.elim
  · replace hP := hP.2 c1
    refine r_aload_n dX0_leastRent_8 0 rfl ?_
    refine r_iload_n dX0_leastRent_9 2 rfl ?_
    refine r_iload_n dX0_leastRent_10 3 rfl ?_
    have hs1 := hP.1
    replace hP := hP.2
    refine r_cvV (ok_X0_goAhead hG v2 (nI i) s hs1) lX0_89 (hG.lt (by decide)) sh51 ⟨_, _, rfl⟩ dX0_leastRent_11 (by decide) (Nat.le_of_ble_eq_true rfl) rfl (Nat.le_of_ble_eq_true rfl) ?_
    refine r_mu (muX0_leastRent_2_1 v1 v2 i s) rfl ?_
    refine r_aload_n dX0_leastRent_14 0 rfl ?_
    have hs2 := hP.1
    replace hP := hP.2
    refine r_cvI (ok_X0_paidThen hG  (muX0_leastRent_2_1 v1 v2 i s) hs2) lX0_105 (hG.lt (by decide)) sh51 ⟨_, _, rfl⟩ dX0_leastRent_15 (by decide) (Nat.le_of_ble_eq_true rfl) rfl (Nat.le_of_ble_eq_true rfl) ?_
    refine r_iload_n dX0_leastRent_18 1 rfl ?_
    refine r_icmp_gt 24 dX0_leastRent_19 (by decide) (fun c2 => ?_) (fun c2 => ?_)
    · replace hP := hP.1 c2
      refine r_iinc ((nI i) + 1) [(3, _), (0, _), (1, _), (2, _)] dX0_leastRent_24 3 rfl rfl (Nat.le_of_ble_eq_true rfl) rfl ?_
      refine r_goto 2 dX0_leastRent_27 (by decide) ?_
      have e : g_X0_leastRent_2 v1 v2 i s = (muX0_leastRent_2_1 v1 v2 i s) := by unfold g_X0_leastRent_2; rfl
      rw [e] at hS
      exact r_sub [1, 2, 3, 0] rfl hS
    · replace hP := hP.2 c2
      refine r_iload_n dX0_leastRent_22 3 rfl ?_
      exact hP.elim
def NX0_leastRent_2 (p1 : Int32) (p2 : Int32) (μ : Mem) : Nat := (fst 42 (fun j9 => !Cb_X0_leastRent_2 p1 p2 j9 (fo j9 (g_X0_leastRent_2 p1 p2) μ)))
def SX0_leastRent_2 (p1 : Int32) (p2 : Int32) (μ : Mem) : Mem := fo (NX0_leastRent_2 p1 p2 μ) (g_X0_leastRent_2 p1 p2) μ
def muX0_leastRent_1 (p1 : Int32) (p2 : Int32) (μ : Mem) : Mem := (M_X0_goAhead p2 (nI (NX0_leastRent_2 p1 p2 μ)) (SX0_leastRent_2 p1 p2 μ))
def F_X0_leastRent (p1 : Int32) (p2 : Int32) (μ : Mem) : Int32 := (if 40 < (nI (NX0_leastRent_2 p1 p2 μ)) then (-1) else (nI (NX0_leastRent_2 p1 p2 μ)))
def M_X0_leastRent (p1 : Int32) (p2 : Int32) (μ : Mem) : Mem := (if 40 < (nI (NX0_leastRent_2 p1 p2 μ)) then (SX0_leastRent_2 p1 p2 μ) else (muX0_leastRent_1 p1 p2 μ))
def P_X0_leastRent (p1 : Int32) (p2 : Int32) (μ : Mem) : Prop := ((∀ j9, j9 < (NX0_leastRent_2 p1 p2 μ) → Pb_X0_leastRent_2 p1 p2 j9 (fo j9 (g_X0_leastRent_2 p1 p2) μ)) ∧ ((40 < (nI (NX0_leastRent_2 p1 p2 μ)) → True) ∧ ((nI (NX0_leastRent_2 p1 p2 μ)) ≤ 40 → ((P_X0_goAhead p2 (nI (NX0_leastRent_2 p1 p2 μ)) (SX0_leastRent_2 p1 p2 μ)) ∧ ((P_X0_paidThen  (muX0_leastRent_1 p1 p2 μ)) ∧ ((p1 < (F_X0_paidThen  (muX0_leastRent_1 p1 p2 μ)) → False) ∧ ((F_X0_paidThen  (muX0_leastRent_1 p1 p2 μ)) ≤ p1 → True)))))))
set_option maxRecDepth 20000 in
set_option maxHeartbeats 2000000 in
theorem ok_X0_leastRent {G : SG} (hG : GK 57 G) (p1 : Int32) (p2 : Int32) (μ : Mem) (hP : P_X0_leastRent p1 p2 μ) : OkF G mX0_leastRent [.ref (ga G 51), .int p1, .int p2] μ (some (.int (F_X0_leastRent p1 p2 μ))) (M_X0_leastRent p1 p2 μ) := by
  refine okF_of hG rfl rfl (Nat.le_of_ble_eq_true rfl) ?_
  unfold P_X0_leastRent at hP
  refine r_iconst 0 dX0_leastRent_0 rfl ?_
  refine r_istore_n [(3, _), (0, _), (1, _), (2, _)] dX0_leastRent_1 (Nat.le_of_ble_eq_true rfl) rfl ?_
  have hs1 := hP.1
  replace hP := hP.2
  refine r_sub [1, 2, 3, 0] rfl ?_
  refine lp_X0_leastRent_2 hG p1 p2 μ ((NX0_leastRent_2 p1 p2 μ)) (SX0_leastRent_2 p1 p2 μ) rfl hs1 ?_
  refine r_iload_n dX0_leastRent_2 3 rfl ?_
  refine r_bipush 40 dX0_leastRent_3 rfl ?_
  refine r_icmp_gt 30 dX0_leastRent_5 (by decide) (fun c1 => ?_) (fun c1 => ?_)
  · replace hP := hP.1 c1
    refine r_iconst (-1) dX0_leastRent_30 rfl ?_
    exact r_ireturn _ dX0_leastRent_31 rfl rfl ⟨congrArg (fun z => some (Value.int z)) (by unfold F_X0_leastRent; rw [if_pos c1]), by unfold M_X0_leastRent; rw [if_pos c1]⟩
  · replace hP := hP.2 c1
    refine r_aload_n dX0_leastRent_8 0 rfl ?_
    refine r_iload_n dX0_leastRent_9 2 rfl ?_
    refine r_iload_n dX0_leastRent_10 3 rfl ?_
    have hs2 := hP.1
    replace hP := hP.2
    refine r_cvV (ok_X0_goAhead hG p2 (nI (NX0_leastRent_2 p1 p2 μ)) (SX0_leastRent_2 p1 p2 μ) hs2) lX0_89 (hG.lt (by decide)) sh51 ⟨_, _, rfl⟩ dX0_leastRent_11 (by decide) (Nat.le_of_ble_eq_true rfl) rfl (Nat.le_of_ble_eq_true rfl) ?_
    refine r_mu (muX0_leastRent_1 p1 p2 μ) rfl ?_
    refine r_aload_n dX0_leastRent_14 0 rfl ?_
    have hs3 := hP.1
    replace hP := hP.2
    refine r_cvI (ok_X0_paidThen hG  (muX0_leastRent_1 p1 p2 μ) hs3) lX0_105 (hG.lt (by decide)) sh51 ⟨_, _, rfl⟩ dX0_leastRent_15 (by decide) (Nat.le_of_ble_eq_true rfl) rfl (Nat.le_of_ble_eq_true rfl) ?_
    refine r_iload_n dX0_leastRent_18 1 rfl ?_
    refine r_icmp_gt 24 dX0_leastRent_19 (by decide) (fun c2 => ?_) (fun c2 => ?_)
    · replace hP := hP.1 c2
      refine r_iinc ((nI (NX0_leastRent_2 p1 p2 μ)) + 1) [(3, _), (0, _), (1, _), (2, _)] dX0_leastRent_24 3 rfl rfl (Nat.le_of_ble_eq_true rfl) rfl ?_
      refine r_goto 2 dX0_leastRent_27 (by decide) ?_
      exact hP.elim
    · replace hP := hP.2 c2
      refine r_iload_n dX0_leastRent_22 3 rfl ?_
      exact r_ireturn _ dX0_leastRent_23 rfl rfl ⟨congrArg (fun z => some (Value.int z)) (by unfold F_X0_leastRent; rw [if_neg (i32_nl c1)]), by unfold M_X0_leastRent; rw [if_neg (i32_nl c1)]⟩
def g_X0_fewestBags_5 (v1 : Int32) (v2 : Int32) (μ : Mem) (i : Nat) (s : Int32) : Int32 := (imax s (F_X0_heightAhead (nI i) μ))
def Pb_X0_fewestBags_5 (v1 : Int32) (v2 : Int32) (μ : Mem) (i : Nat) (s : Int32) : Prop := ((v2 ≤ (nI i) → False) ∧ ((nI i) < v2 → P_X0_heightAhead (nI i) μ))
set_option maxRecDepth 20000 in
set_option maxHeartbeats 2000000 in
theorem lp_X0_fewestBags_5 {G : SG} (hG : GK 57 G)  (v1 : Int32) (v2 : Int32) (μ : Mem) (s0 : Int32) (N : Nat) (sN : Int32) (eN : sN = fo N (g_X0_fewestBags_5 v1 v2 μ) s0) (hN : ∀ i, i < N → Pb_X0_fewestBags_5 v1 v2 μ i (fo i (g_X0_fewestBags_5 v1 v2 μ) s0)) {t : Nat} {Q : PQ} {X : PX} (h : R G mX0_fewestBags 5 [(0, .ref (ga G 51)), (1, .int v1), (2, .int v2), (3, .int sN), (4, .int (nI N))] [] μ t Q X) : R G mX0_fewestBags 5 [(0, .ref (ga G 51)), (1, .int v1), (2, .int v2), (3, .int s0), (4, .int 0)] [] μ t Q X := by
  subst eN
  refine down_i N (fun i => R G mX0_fewestBags 5 [(0, .ref (ga G 51)), (1, .int v1), (2, .int v2), (3, .int (fo i (g_X0_fewestBags_5 v1 v2 μ) s0)), (4, .int (nI i))] [] μ t Q X) h (fun i hi hS => ?_)
  have hP := hN i hi
  rw [fo_succ] at hS
  rw [nI_succ] at hS
  generalize fo i (g_X0_fewestBags_5 v1 v2 μ) s0 = s at hS hP ⊢
  unfold Pb_X0_fewestBags_5 at hP
  refine r_iload dX0_fewestBags_5 4 rfl ?_
  refine r_iload_n dX0_fewestBags_7 2 rfl ?_
  refine r_icmp_ge 28 dX0_fewestBags_8 (by decide) (fun c1 => ?_) (fun c1 => ?_)
  · replace hP := hP.1 c1
    exact hP.elim
  · replace hP := hP.2 c1
    refine r_iload_n dX0_fewestBags_11 3 rfl ?_
    refine r_aload_n dX0_fewestBags_12 0 rfl ?_
    refine r_iload dX0_fewestBags_13 4 rfl ?_
    have hs1 := hP
    refine r_cvI (ok_X0_heightAhead hG (nI i) μ hs1) lX0_47 (hG.lt (by decide)) sh51 ⟨_, _, rfl⟩ dX0_fewestBags_15 (by decide) (Nat.le_of_ble_eq_true rfl) rfl (Nat.le_of_ble_eq_true rfl) ?_
    refine r_mmax lX0_124 (Nat.le_of_ble_eq_true rfl) dX0_fewestBags_18 ?_
    refine r_istore_n [(3, _), (0, _), (1, _), (2, _), (4, _)] dX0_fewestBags_21 (Nat.le_of_ble_eq_true rfl) rfl ?_
    refine r_iinc ((nI i) + 1) [(4, _), (3, _), (0, _), (1, _), (2, _)] dX0_fewestBags_22 4 rfl rfl (Nat.le_of_ble_eq_true rfl) rfl ?_
    refine r_goto 5 dX0_fewestBags_25 (by decide) ?_
    have e : g_X0_fewestBags_5 v1 v2 μ i s = (imax s (F_X0_heightAhead (nI i) μ)) := by unfold g_X0_fewestBags_5; rfl
    rw [e] at hS
    exact r_sub [2, 3, 4, 1, 0] rfl hS
def NX0_fewestBags_5 (p1 : Int32) (p2 : Int32) (μ : Mem) : Nat := ix p2
def SX0_fewestBags_5 (p1 : Int32) (p2 : Int32) (μ : Mem) : Int32 := fo (NX0_fewestBags_5 p1 p2 μ) (g_X0_fewestBags_5 p1 p2 μ) 0
def g_X0_fewestBags_34 (v1 : Int32) (v2 : Int32) (v3 : Int32) (μ : Mem) (i : Nat) (s : Int32) : Int32 := (if ((v1 >>> ((nI i) &&& 31)) &&& 1) ≠ 1 then s else (s + (((F_X5_waterIn 43 (nI i) v3 μ) + 1) / 2)))
def Pb_X0_fewestBags_34 (v1 : Int32) (v2 : Int32) (v3 : Int32) (μ : Mem) (i : Nat) (s : Int32) : Prop := (((μ 3 8) ≤ (nI i) → False) ∧ ((nI i) < (μ 3 8) → ((((v1 >>> ((nI i) &&& 31)) &&& 1) ≠ 1 → True) ∧ (((v1 >>> ((nI i) &&& 31)) &&& 1) = 1 → ((((F_X5_of 43 56 (nI i) μ) + (((F_X5_waterIn 43 (nI i) v3 μ) + 1) / 2)) ≤ 9 → True) ∧ (9 < ((F_X5_of 43 56 (nI i) μ) + (((F_X5_waterIn 43 (nI i) v3 μ) + 1) / 2)) → False))))))
def Cb_X0_fewestBags_34 (v1 : Int32) (v2 : Int32) (v3 : Int32) (μ : Mem) (i : Nat) (s : Int32) : Bool := (if (μ 3 8) ≤ (nI i) then false else (if ((v1 >>> ((nI i) &&& 31)) &&& 1) ≠ 1 then true else (if ((F_X5_of 43 56 (nI i) μ) + (((F_X5_waterIn 43 (nI i) v3 μ) + 1) / 2)) ≤ 9 then true else false)))
set_option maxRecDepth 20000 in
set_option maxHeartbeats 2000000 in
theorem lp_X0_fewestBags_34 {G : SG} (hG : GK 57 G)  (v1 : Int32) (v2 : Int32) (v3 : Int32) (μ : Mem) (s0 : Int32) (N : Nat) (sN : Int32) (eN : sN = fo N (g_X0_fewestBags_34 v1 v2 v3 μ) s0) (hN : ∀ i, i < N → Pb_X0_fewestBags_34 v1 v2 v3 μ i (fo i (g_X0_fewestBags_34 v1 v2 v3 μ) s0)) {t : Nat} {Q : PQ} {X : PX} (h : R G mX0_fewestBags 34 [(0, .ref (ga G 51)), (1, .int v1), (2, .int v2), (3, .int v3), (4, .int sN), (5, .int (nI N))] [] μ t Q X) : R G mX0_fewestBags 34 [(0, .ref (ga G 51)), (1, .int v1), (2, .int v2), (3, .int v3), (4, .int s0), (5, .int 0)] [] μ t Q X := by
  subst eN
  refine down_i N (fun i => R G mX0_fewestBags 34 [(0, .ref (ga G 51)), (1, .int v1), (2, .int v2), (3, .int v3), (4, .int (fo i (g_X0_fewestBags_34 v1 v2 v3 μ) s0)), (5, .int (nI i))] [] μ t Q X) h (fun i hi hS => ?_)
  have hP := hN i hi
  rw [fo_succ] at hS
  rw [nI_succ] at hS
  generalize fo i (g_X0_fewestBags_34 v1 v2 v3 μ) s0 = s at hS hP ⊢
  unfold Pb_X0_fewestBags_34 at hP
  refine r_iload dX0_fewestBags_34 5 rfl ?_
  refine r_aload_n dX0_fewestBags_36 0 rfl ?_
  refine r_getR 3 fX0_18 (hG.lt (by decide)) sh51 fs51_0 dX0_fewestBags_37 ?_
  refine r_getI fX0_54 (hG.lt (by decide)) sh3 fs3_8 dX0_fewestBags_40 ?_
  refine r_icmp_ge 106 dX0_fewestBags_43 (by decide) (fun c1 => ?_) (fun c1 => ?_)
  · replace hP := hP.1 c1
    exact hP.elim
  · replace hP := hP.2 c1
    refine r_iload_n dX0_fewestBags_46 1 rfl ?_
    refine r_iload dX0_fewestBags_47 5 rfl ?_
    refine r_ishr dX0_fewestBags_49 rfl ?_
    refine r_iconst 1 dX0_fewestBags_50 rfl ?_
    refine r_iand dX0_fewestBags_51 ?_
    refine r_iconst 1 dX0_fewestBags_52 rfl ?_
    refine r_icmp_ne 100 dX0_fewestBags_53 (by decide) (fun c2 => ?_) (fun c2 => ?_)
    · replace hP := hP.1 c2
      refine r_iinc ((nI i) + 1) [(5, _), (0, _), (1, _), (2, _), (3, _), (4, _)] dX0_fewestBags_100 5 rfl rfl (Nat.le_of_ble_eq_true rfl) rfl ?_
      refine r_goto 34 dX0_fewestBags_103 (by decide) ?_
      have e : g_X0_fewestBags_34 v1 v2 v3 μ i s = s := by unfold g_X0_fewestBags_34; rw [if_pos c2]
      rw [e] at hS
      exact r_sub [1, 2, 3, 4, 5, 0] rfl hS
    · replace hP := hP.2 c2
      refine r_aload_n dX0_fewestBags_56 0 rfl ?_
      refine r_getR 43 fX0_26 (hG.lt (by decide)) sh51 fs51_2 dX0_fewestBags_57 ?_
      refine r_iload dX0_fewestBags_60 5 rfl ?_
      refine r_iload_n dX0_fewestBags_62 3 rfl ?_
      refine r_cvI (ok_X5_waterIn hG (IsSt.of43) (nI i) v3 μ) lX0_50 (hG.lt (by decide)) sh43 ⟨_, _, rfl⟩ dX0_fewestBags_63 (by decide) (Nat.le_of_ble_eq_true rfl) rfl (Nat.le_of_ble_eq_true rfl) ?_
      refine r_iconst 1 dX0_fewestBags_66 rfl ?_
      refine r_iadd dX0_fewestBags_67 ?_
      refine r_iconst 2 dX0_fewestBags_68 rfl ?_
      refine r_idiv dX0_fewestBags_69 (by decide) ?_
      refine r_istore [(6, _), (0, _), (1, _), (2, _), (3, _), (4, _), (5, _)] dX0_fewestBags_70 (Nat.le_of_ble_eq_true rfl) rfl ?_
      refine r_aload_n dX0_fewestBags_72 1 rfl ?_
      refine r_getR 43 fX0_26 (hG.lt (by decide)) sh51 fs51_2 dX0_fewestBags_73 ?_
      refine r_bipush 56 dX0_fewestBags_76 rfl ?_
      refine r_iload dX0_fewestBags_78 6 rfl ?_
      refine r_cvI (ok_X5_of hG (IsSt.of43) 56 (nI i) μ) lX0_93 (hG.lt (by decide)) sh43 ⟨_, _, rfl⟩ dX0_fewestBags_80 (by decide) (Nat.le_of_ble_eq_true rfl) rfl (Nat.le_of_ble_eq_true rfl) ?_
      refine r_iload dX0_fewestBags_83 0 rfl ?_
      refine r_iadd dX0_fewestBags_85 ?_
      refine r_bipush 9 dX0_fewestBags_86 rfl ?_
      refine r_icmp_le 93 dX0_fewestBags_88 (by decide) (fun c3 => ?_) (fun c3 => ?_)
      · replace hP := hP.1 c3
        refine r_iload dX0_fewestBags_93 5 rfl ?_
        refine r_iload dX0_fewestBags_95 0 rfl ?_
        refine r_iadd dX0_fewestBags_97 ?_
        refine r_istore [(4, _), (6, _), (0, _), (1, _), (2, _), (3, _), (5, _)] dX0_fewestBags_98 (Nat.le_of_ble_eq_true rfl) rfl ?_
        refine r_iinc ((nI i) + 1) [(5, _), (4, _), (6, _), (0, _), (1, _), (2, _), (3, _)] dX0_fewestBags_100 6 rfl rfl (Nat.le_of_ble_eq_true rfl) rfl ?_
        refine r_goto 34 dX0_fewestBags_103 (by decide) ?_
        have e : g_X0_fewestBags_34 v1 v2 v3 μ i s = (s + (((F_X5_waterIn 43 (nI i) v3 μ) + 1) / 2)) := by unfold g_X0_fewestBags_34; rw [if_neg (not_not_intro c2)]
        rw [e] at hS
        exact r_sub [3, 4, 5, 6, 1, 0] rfl hS
      · replace hP := hP.2 c3
        refine r_iconst (-1) dX0_fewestBags_91 rfl ?_
        exact hP.elim
def NX0_fewestBags_34 (p1 : Int32) (p2 : Int32) (μ : Mem) : Nat := (fst 7 (fun j9 => !Cb_X0_fewestBags_34 p1 p2 (SX0_fewestBags_5 p1 p2 μ) μ j9 (fo j9 (g_X0_fewestBags_34 p1 p2 (SX0_fewestBags_5 p1 p2 μ) μ) 0)))
def SX0_fewestBags_34 (p1 : Int32) (p2 : Int32) (μ : Mem) : Int32 := fo (NX0_fewestBags_34 p1 p2 μ) (g_X0_fewestBags_34 p1 p2 (SX0_fewestBags_5 p1 p2 μ) μ) 0
def F_X0_fewestBags (p1 : Int32) (p2 : Int32) (μ : Mem) : Int32 := (if (μ 3 8) ≤ (nI (NX0_fewestBags_34 p1 p2 μ)) then (SX0_fewestBags_34 p1 p2 μ) else (-1))
def P_X0_fewestBags (p1 : Int32) (p2 : Int32) (μ : Mem) : Prop := ((∀ j9, j9 < (NX0_fewestBags_5 p1 p2 μ) → Pb_X0_fewestBags_5 p1 p2 μ j9 (fo j9 (g_X0_fewestBags_5 p1 p2 μ) 0)) ∧ ((p2 ≤ (nI (NX0_fewestBags_5 p1 p2 μ)) → ((∀ j9, j9 < (NX0_fewestBags_34 p1 p2 μ) → Pb_X0_fewestBags_34 p1 p2 (SX0_fewestBags_5 p1 p2 μ) μ j9 (fo j9 (g_X0_fewestBags_34 p1 p2 (SX0_fewestBags_5 p1 p2 μ) μ) 0)) ∧ (((μ 3 8) ≤ (nI (NX0_fewestBags_34 p1 p2 μ)) → True) ∧ ((nI (NX0_fewestBags_34 p1 p2 μ)) < (μ 3 8) → ((((p1 >>> ((nI (NX0_fewestBags_34 p1 p2 μ)) &&& 31)) &&& 1) ≠ 1 → False) ∧ (((p1 >>> ((nI (NX0_fewestBags_34 p1 p2 μ)) &&& 31)) &&& 1) = 1 → ((((F_X5_of 43 56 (nI (NX0_fewestBags_34 p1 p2 μ)) μ) + (((F_X5_waterIn 43 (nI (NX0_fewestBags_34 p1 p2 μ)) (SX0_fewestBags_5 p1 p2 μ) μ) + 1) / 2)) ≤ 9 → False) ∧ (9 < ((F_X5_of 43 56 (nI (NX0_fewestBags_34 p1 p2 μ)) μ) + (((F_X5_waterIn 43 (nI (NX0_fewestBags_34 p1 p2 μ)) (SX0_fewestBags_5 p1 p2 μ) μ) + 1) / 2)) → True)))))))) ∧ ((nI (NX0_fewestBags_5 p1 p2 μ)) < p2 → ((P_X0_heightAhead (nI (NX0_fewestBags_5 p1 p2 μ)) μ) ∧ False))))
set_option maxRecDepth 20000 in
set_option maxHeartbeats 2000000 in
theorem ok_X0_fewestBags {G : SG} (hG : GK 57 G) (p1 : Int32) (p2 : Int32) (μ : Mem) (hP : P_X0_fewestBags p1 p2 μ) : OkF G mX0_fewestBags [.ref (ga G 51), .int p1, .int p2] μ (some (.int (F_X0_fewestBags p1 p2 μ))) μ := by
  refine okF_of hG rfl rfl (Nat.le_of_ble_eq_true rfl) ?_
  unfold P_X0_fewestBags at hP
  refine r_iconst 0 dX0_fewestBags_0 rfl ?_
  refine r_istore_n [(3, _), (0, _), (1, _), (2, _)] dX0_fewestBags_1 (Nat.le_of_ble_eq_true rfl) rfl ?_
  refine r_iconst 0 dX0_fewestBags_2 rfl ?_
  refine r_istore [(4, _), (3, _), (0, _), (1, _), (2, _)] dX0_fewestBags_3 (Nat.le_of_ble_eq_true rfl) rfl ?_
  have hs1 := hP.1
  replace hP := hP.2
  refine r_sub [2, 3, 4, 1, 0] rfl ?_
  refine lp_X0_fewestBags_5 hG p1 p2 μ 0 ((NX0_fewestBags_5 p1 p2 μ)) (SX0_fewestBags_5 p1 p2 μ) rfl hs1 ?_
  refine r_iload dX0_fewestBags_5 4 rfl ?_
  refine r_iload_n dX0_fewestBags_7 2 rfl ?_
  refine r_icmp_ge 28 dX0_fewestBags_8 (by decide) (fun c1 => ?_) (fun c1 => ?_)
  · replace hP := hP.1 c1
    refine r_iconst 0 dX0_fewestBags_28 rfl ?_
    refine r_istore [(4, _), (0, _), (1, _), (2, _), (3, _)] dX0_fewestBags_29 (Nat.le_of_ble_eq_true rfl) rfl ?_
    refine r_iconst 0 dX0_fewestBags_31 rfl ?_
    refine r_istore [(5, _), (4, _), (0, _), (1, _), (2, _), (3, _)] dX0_fewestBags_32 (Nat.le_of_ble_eq_true rfl) rfl ?_
    have hs3 := hP.1
    replace hP := hP.2
    refine r_sub [2, 3, 4, 5, 1, 0] rfl ?_
    refine lp_X0_fewestBags_34 hG p1 p2 (SX0_fewestBags_5 p1 p2 μ) μ 0 ((NX0_fewestBags_34 p1 p2 μ)) (SX0_fewestBags_34 p1 p2 μ) rfl hs3 ?_
    refine r_iload dX0_fewestBags_34 5 rfl ?_
    refine r_aload_n dX0_fewestBags_36 0 rfl ?_
    refine r_getR 3 fX0_18 (hG.lt (by decide)) sh51 fs51_0 dX0_fewestBags_37 ?_
    refine r_getI fX0_54 (hG.lt (by decide)) sh3 fs3_8 dX0_fewestBags_40 ?_
    refine r_icmp_ge 106 dX0_fewestBags_43 (by decide) (fun c2 => ?_) (fun c2 => ?_)
    · replace hP := hP.1 c2
      refine r_iload dX0_fewestBags_106 4 rfl ?_
      exact r_ireturn _ dX0_fewestBags_108 rfl rfl ⟨congrArg (fun z => some (Value.int z)) (by unfold F_X0_fewestBags; rw [if_pos c2]), rfl⟩
    · replace hP := hP.2 c2
      refine r_iload_n dX0_fewestBags_46 1 rfl ?_
      refine r_iload dX0_fewestBags_47 5 rfl ?_
      refine r_ishr dX0_fewestBags_49 rfl ?_
      refine r_iconst 1 dX0_fewestBags_50 rfl ?_
      refine r_iand dX0_fewestBags_51 ?_
      refine r_iconst 1 dX0_fewestBags_52 rfl ?_
      refine r_icmp_ne 100 dX0_fewestBags_53 (by decide) (fun c3 => ?_) (fun c3 => ?_)
      · replace hP := hP.1 c3
        refine r_iinc ((nI (NX0_fewestBags_34 p1 p2 μ)) + 1) [(5, _), (0, _), (1, _), (2, _), (3, _), (4, _)] dX0_fewestBags_100 5 rfl rfl (Nat.le_of_ble_eq_true rfl) rfl ?_
        refine r_goto 34 dX0_fewestBags_103 (by decide) ?_
        exact hP.elim
      · replace hP := hP.2 c3
        refine r_aload_n dX0_fewestBags_56 0 rfl ?_
        refine r_getR 43 fX0_26 (hG.lt (by decide)) sh51 fs51_2 dX0_fewestBags_57 ?_
        refine r_iload dX0_fewestBags_60 5 rfl ?_
        refine r_iload_n dX0_fewestBags_62 3 rfl ?_
        refine r_cvI (ok_X5_waterIn hG (IsSt.of43) (nI (NX0_fewestBags_34 p1 p2 μ)) (SX0_fewestBags_5 p1 p2 μ) μ) lX0_50 (hG.lt (by decide)) sh43 ⟨_, _, rfl⟩ dX0_fewestBags_63 (by decide) (Nat.le_of_ble_eq_true rfl) rfl (Nat.le_of_ble_eq_true rfl) ?_
        refine r_iconst 1 dX0_fewestBags_66 rfl ?_
        refine r_iadd dX0_fewestBags_67 ?_
        refine r_iconst 2 dX0_fewestBags_68 rfl ?_
        refine r_idiv dX0_fewestBags_69 (by decide) ?_
        refine r_istore [(6, _), (0, _), (1, _), (2, _), (3, _), (4, _), (5, _)] dX0_fewestBags_70 (Nat.le_of_ble_eq_true rfl) rfl ?_
        refine r_aload_n dX0_fewestBags_72 1 rfl ?_
        refine r_getR 43 fX0_26 (hG.lt (by decide)) sh51 fs51_2 dX0_fewestBags_73 ?_
        refine r_bipush 56 dX0_fewestBags_76 rfl ?_
        refine r_iload dX0_fewestBags_78 6 rfl ?_
        refine r_cvI (ok_X5_of hG (IsSt.of43) 56 (nI (NX0_fewestBags_34 p1 p2 μ)) μ) lX0_93 (hG.lt (by decide)) sh43 ⟨_, _, rfl⟩ dX0_fewestBags_80 (by decide) (Nat.le_of_ble_eq_true rfl) rfl (Nat.le_of_ble_eq_true rfl) ?_
        refine r_iload dX0_fewestBags_83 0 rfl ?_
        refine r_iadd dX0_fewestBags_85 ?_
        refine r_bipush 9 dX0_fewestBags_86 rfl ?_
        refine r_icmp_le 93 dX0_fewestBags_88 (by decide) (fun c4 => ?_) (fun c4 => ?_)
        · replace hP := hP.1 c4
          refine r_iload dX0_fewestBags_93 5 rfl ?_
          refine r_iload dX0_fewestBags_95 0 rfl ?_
          refine r_iadd dX0_fewestBags_97 ?_
          refine r_istore [(4, _), (6, _), (0, _), (1, _), (2, _), (3, _), (5, _)] dX0_fewestBags_98 (Nat.le_of_ble_eq_true rfl) rfl ?_
          refine r_iinc ((nI (NX0_fewestBags_34 p1 p2 μ)) + 1) [(5, _), (4, _), (6, _), (0, _), (1, _), (2, _), (3, _)] dX0_fewestBags_100 6 rfl rfl (Nat.le_of_ble_eq_true rfl) rfl ?_
          refine r_goto 34 dX0_fewestBags_103 (by decide) ?_
          exact hP.elim
        · replace hP := hP.2 c4
          refine r_iconst (-1) dX0_fewestBags_91 rfl ?_
          exact r_ireturn _ dX0_fewestBags_92 rfl rfl ⟨congrArg (fun z => some (Value.int z)) (by unfold F_X0_fewestBags; rw [if_neg (i32_ng c2)]), rfl⟩
  · replace hP := hP.2 c1
    refine r_iload_n dX0_fewestBags_11 3 rfl ?_
    refine r_aload_n dX0_fewestBags_12 0 rfl ?_
    refine r_iload dX0_fewestBags_13 4 rfl ?_
    have hs4 := hP.1
    replace hP := hP.2
    refine r_cvI (ok_X0_heightAhead hG (nI (NX0_fewestBags_5 p1 p2 μ)) μ hs4) lX0_47 (hG.lt (by decide)) sh51 ⟨_, _, rfl⟩ dX0_fewestBags_15 (by decide) (Nat.le_of_ble_eq_true rfl) rfl (Nat.le_of_ble_eq_true rfl) ?_
    refine r_mmax lX0_124 (Nat.le_of_ble_eq_true rfl) dX0_fewestBags_18 ?_
    refine r_istore_n [(3, _), (0, _), (1, _), (2, _), (4, _)] dX0_fewestBags_21 (Nat.le_of_ble_eq_true rfl) rfl ?_
    refine r_iinc ((nI (NX0_fewestBags_5 p1 p2 μ)) + 1) [(4, _), (3, _), (0, _), (1, _), (2, _)] dX0_fewestBags_22 4 rfl rfl (Nat.le_of_ble_eq_true rfl) rfl ?_
    refine r_goto 5 dX0_fewestBags_25 (by decide) ?_
    exact hP.elim
