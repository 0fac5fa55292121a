def muX10_loads_1 (p1 : Int32) (p2 : Int32) (μ : Mem) : Mem := (upm μ 57 0 0)
def VX10_loads_2 (p1 : Int32) (p2 : Int32) (μ : Mem) : Int32 := (if (F_X10_isHouse p1 (muX10_loads_1 p1 p2 μ)) ≠ 0 then 0 else 1)
theorem bo_VX10_loads_2 (p1 : Int32) (p2 : Int32) (μ : Mem) : (VX10_loads_2 p1 p2 μ) = 0 ∨ (VX10_loads_2 p1 p2 μ) = 1 := by
  unfold VX10_loads_2
  split
  · exact Or.inl rfl
  · exact Or.inr rfl
def muX10_loads_3 (p1 : Int32) (p2 : Int32) (μ : Mem) : Mem := (M_X10_bad (VX10_loads_2 p1 p2 μ) 1 0 (muX10_loads_1 p1 p2 μ))
def VX10_loads_4 (p1 : Int32) (p2 : Int32) (μ : Mem) : Int32 := (if (F_X10_isIn p2 0 1 (muX10_loads_3 p1 p2 μ)) ≠ 0 then 0 else 1)
theorem bo_VX10_loads_4 (p1 : Int32) (p2 : Int32) (μ : Mem) : (VX10_loads_4 p1 p2 μ) = 0 ∨ (VX10_loads_4 p1 p2 μ) = 1 := by
  unfold VX10_loads_4
  split
  · exact Or.inl rfl
  · exact Or.inr rfl
def muX10_loads_5 (p1 : Int32) (p2 : Int32) (μ : Mem) : Mem := (M_X10_bad (VX10_loads_4 p1 p2 μ) 2 1 (muX10_loads_3 p1 p2 μ))
def VX10_loads_57_1 (v1 : Int32) (v2 : Int32) (μ : Mem) (i : Nat) (s : Int32) : Int32 := (if (μ 521 (ix (0 + (nI i)))) ≠ v1 then 0 else (if (μ 521 (ix (10 + (nI i)))) ≠ v2 then 0 else (μ (78 + (ix (nI i))) 1)))
def g_X10_loads_57 (v1 : Int32) (v2 : Int32) (μ : Mem) (i : Nat) (s : Int32) : Int32 := (s + (VX10_loads_57_1 v1 v2 μ i s))
def Pb_X10_loads_57 (v1 : Int32) (v2 : Int32) (μ : Mem) (i : Nat) (s : Int32) : Prop := (((μ 61 1) ≤ (nI i) → False) ∧ ((nI i) < (μ 61 1) → (vp_in (0 + (nI i)) 63) ∧ (((μ 521 (ix (0 + (nI i)))) ≠ v1 → True) ∧ ((μ 521 (ix (0 + (nI i)))) = v1 → (vp_in (10 + (nI i)) 63) ∧ (((μ 521 (ix (10 + (nI i)))) ≠ v2 → True) ∧ ((μ 521 (ix (10 + (nI i)))) = v2 → vp_in (nI i) 10))))))
set_option maxRecDepth 20000 in
set_option maxHeartbeats 2000000 in
theorem lp_X10_loads_57 {G : SG} (hG : GK 548 G)  (v1 : Int32) (v2 : Int32) (μ : Mem) (s0 : Int32) (N : Nat) (sN : Int32) (eN : sN = fo N (g_X10_loads_57 v1 v2 μ) s0) (hN : ∀ i, i < N → Pb_X10_loads_57 v1 v2 μ i (fo i (g_X10_loads_57 v1 v2 μ) s0)) {t : Nat} {Q : PQ} {X : PX} (h : R G mX10_loads 57 [(0, .ref (ga G 57)), (1, .int v1), (2, .int v2), (3, .int sN), (4, .int (nI N))] [] μ t Q X) : R G mX10_loads 57 [(0, .ref (ga G 57)), (1, .int v1), (2, .int v2), (3, .int s0), (4, .int 0)] [] μ t Q X := by
  subst eN
  refine down_i N (fun i => R G mX10_loads 57 [(0, .ref (ga G 57)), (1, .int v1), (2, .int v2), (3, .int (fo i (g_X10_loads_57 v1 v2 μ) s0)), (4, .int (nI i))] [] μ t Q X) h (fun i hi hS => ?_)
  have hP := hN i hi
  rw [fo_succ] at hS
  rw [nI_succ] at hS
  generalize fo i (g_X10_loads_57 v1 v2 μ) s0 = s at hS hP ⊢
  unfold Pb_X10_loads_57 at hP
  refine r_iload dX10_loads_57 4 rfl ?_
  refine r_aload_n dX10_loads_59 0 rfl ?_
  refine r_getR 61 fX10_23 (hG.lt (by decide)) sh57 fs57_12 dX10_loads_60 ?_
  refine r_iconst 1 dX10_loads_63 rfl ?_
  refine r_ialdK 1 rfl (hG.lt (by decide)) sh61 (vp_of (by decide) (by decide)) dX10_loads_64 ?_
  refine r_icmp_ge 117 dX10_loads_65 (by decide) (fun c1 => ?_) (fun c1 => ?_)
  · replace hP := hP.1 c1
    exact hP.elim
  · replace hP := hP.2 c1
    refine r_iload_n dX10_loads_68 3 rfl ?_
    refine r_aload_n dX10_loads_69 0 rfl ?_
    refine r_getR 521 fX10_73 (hG.lt (by decide)) sh57 fs57_31 dX10_loads_70 ?_
    refine r_iconst 0 dX10_loads_73 rfl ?_
    refine r_iload dX10_loads_74 4 rfl ?_
    refine r_iadd dX10_loads_76 ?_
    have hs1 := hP.1
    replace hP := hP.2
    refine r_iald (hG.lt (by decide)) sh521 hs1 dX10_loads_77 ?_
    refine r_iload_n dX10_loads_78 1 rfl ?_
    refine r_join 109 [(0, .ref (ga G 57)), (1, .int v1), (2, .int v2), (3, .int s), (4, .int (nI i))] [.int (VX10_loads_57_1 v1 v2 μ i s), .int s] μ ?_ (fun hJ => ?_)
    · refine r_iadd dX10_loads_109 ?_
      refine r_istore_n [(3, _), (0, _), (1, _), (2, _), (4, _)] dX10_loads_110 (Nat.le_of_ble_eq_true rfl) rfl ?_
      refine r_iinc ((nI i) + 1) [(4, _), (3, _), (0, _), (1, _), (2, _)] dX10_loads_111 4 rfl rfl (Nat.le_of_ble_eq_true rfl) rfl ?_
      refine r_goto 57 dX10_loads_114 (by decide) ?_
      have e : g_X10_loads_57 v1 v2 μ i s = (s + (VX10_loads_57_1 v1 v2 μ i s)) := by unfold g_X10_loads_57; rfl
      rw [e] at hS
      exact r_sub [2, 3, 4, 1, 0] rfl hS
    · refine r_icmp_ne 108 dX10_loads_79 (by decide) (fun c2 => ?_) (fun c2 => ?_)
      · replace hP := hP.1 c2
        refine r_iconst 0 dX10_loads_108 rfl ?_
        have e : (VX10_loads_57_1 v1 v2 μ i s) = 0 := by unfold VX10_loads_57_1; rw [if_pos c2]
        rw [e] at hJ
        exact r_sub [0, 1, 2, 3, 4] rfl hJ
      · replace hP := hP.2 c2
        refine r_aload_n dX10_loads_82 0 rfl ?_
        refine r_getR 521 fX10_73 (hG.lt (by decide)) sh57 fs57_31 dX10_loads_83 ?_
        refine r_bipush 10 dX10_loads_86 rfl ?_
        refine r_iload dX10_loads_88 4 rfl ?_
        refine r_iadd dX10_loads_90 ?_
        have hs2 := hP.1
        replace hP := hP.2
        refine r_iald (hG.lt (by decide)) sh521 hs2 dX10_loads_91 ?_
        refine r_iload_n dX10_loads_92 2 rfl ?_
        refine r_icmp_ne 108 dX10_loads_93 (by decide) (fun c3 => ?_) (fun c3 => ?_)
        · replace hP := hP.1 c3
          refine r_iconst 0 dX10_loads_108 rfl ?_
          have e : (VX10_loads_57_1 v1 v2 μ i s) = 0 := by unfold VX10_loads_57_1; rw [if_neg (not_not_intro c2), if_pos c3]
          rw [e] at hJ
          exact r_sub [0, 1, 2, 3, 4] rfl hJ
        · replace hP := hP.2 c3
          refine r_aload_n dX10_loads_96 0 rfl ?_
          refine r_getR 77 fX10_43 (hG.lt (by decide)) sh57 fs57_18 dX10_loads_97 ?_
          refine r_iload dX10_loads_100 4 rfl ?_
          have hs3 := hP
          refine r_aald (hG.lt (by decide)) sh77 hs3 dX10_loads_102 ?_
          refine r_iconst 1 dX10_loads_103 rfl ?_
          refine r_ialdK 1 rfl (ltR (vp_ix hs3) (by decide) hG) (shr77 _ (vp_ix hs3)) (vp_of (by decide) (by decide)) dX10_loads_104 ?_
          refine r_goto 109 dX10_loads_105 (by decide) ?_
          have e : (VX10_loads_57_1 v1 v2 μ i s) = (μ (78 + (ix (nI i))) 1) := by unfold VX10_loads_57_1; rw [if_neg (not_not_intro c2), if_neg (not_not_intro c3)]
          rw [e] at hJ
          exact r_sub [0, 1, 2, 3, 4] rfl hJ
def NX10_loads_57 (p1 : Int32) (p2 : Int32) (μ : Mem) : Nat := ix ((muX10_loads_5 p1 p2 μ) 61 1)
def SX10_loads_57 (p1 : Int32) (p2 : Int32) (μ : Mem) : Int32 := fo (NX10_loads_57 p1 p2 μ) (g_X10_loads_57 p1 p2 (muX10_loads_5 p1 p2 μ)) 0
def VX10_loads_6 (p1 : Int32) (p2 : Int32) (μ : Mem) : Int32 := (if ((muX10_loads_5 p1 p2 μ) 521 (ix (0 + (nI (NX10_loads_57 p1 p2 μ))))) ≠ p1 then 0 else (if ((muX10_loads_5 p1 p2 μ) 521 (ix (10 + (nI (NX10_loads_57 p1 p2 μ))))) ≠ p2 then 0 else ((muX10_loads_5 p1 p2 μ) (78 + (ix (nI (NX10_loads_57 p1 p2 μ)))) 1)))
def F_X10_loads (p1 : Int32) (p2 : Int32) (μ : Mem) : Int32 := (if (F_X10_bad (VX10_loads_2 p1 p2 μ) 1 0 (muX10_loads_1 p1 p2 μ)) ≠ 0 then 0 else (if (F_X10_bad (VX10_loads_4 p1 p2 μ) 2 1 (muX10_loads_3 p1 p2 μ)) = 0 then (SX10_loads_57 p1 p2 μ) else 0))
def M_X10_loads (p1 : Int32) (p2 : Int32) (μ : Mem) : Mem := (if (F_X10_bad (VX10_loads_2 p1 p2 μ) 1 0 (muX10_loads_1 p1 p2 μ)) ≠ 0 then (muX10_loads_3 p1 p2 μ) else (muX10_loads_5 p1 p2 μ))
def P_X10_loads (p1 : Int32) (p2 : Int32) (μ : Mem) : Prop := ((P_X10_bad (VX10_loads_2 p1 p2 μ) 1 0 (muX10_loads_1 p1 p2 μ)) ∧ (((F_X10_bad (VX10_loads_2 p1 p2 μ) 1 0 (muX10_loads_1 p1 p2 μ)) ≠ 0 → True) ∧ ((F_X10_bad (VX10_loads_2 p1 p2 μ) 1 0 (muX10_loads_1 p1 p2 μ)) = 0 → ((P_X10_bad (VX10_loads_4 p1 p2 μ) 2 1 (muX10_loads_3 p1 p2 μ)) ∧ (((F_X10_bad (VX10_loads_4 p1 p2 μ) 2 1 (muX10_loads_3 p1 p2 μ)) = 0 → ((∀ j9, j9 < (NX10_loads_57 p1 p2 μ) → Pb_X10_loads_57 p1 p2 (muX10_loads_5 p1 p2 μ) j9 (fo j9 (g_X10_loads_57 p1 p2 (muX10_loads_5 p1 p2 μ)) 0)) ∧ ((((muX10_loads_5 p1 p2 μ) 61 1) ≤ (nI (NX10_loads_57 p1 p2 μ)) → True) ∧ ((nI (NX10_loads_57 p1 p2 μ)) < ((muX10_loads_5 p1 p2 μ) 61 1) → ((vp_in (0 + (nI (NX10_loads_57 p1 p2 μ))) 63) ∧ (((((muX10_loads_5 p1 p2 μ) 521 (ix (0 + (nI (NX10_loads_57 p1 p2 μ))))) ≠ p1 → True) ∧ (((muX10_loads_5 p1 p2 μ) 521 (ix (0 + (nI (NX10_loads_57 p1 p2 μ))))) = p1 → ((vp_in (10 + (nI (NX10_loads_57 p1 p2 μ))) 63) ∧ ((((muX10_loads_5 p1 p2 μ) 521 (ix (10 + (nI (NX10_loads_57 p1 p2 μ))))) ≠ p2 → True) ∧ (((muX10_loads_5 p1 p2 μ) 521 (ix (10 + (nI (NX10_loads_57 p1 p2 μ))))) = p2 → (vp_in (nI (NX10_loads_57 p1 p2 μ)) 10)))))) ∧ False)))))) ∧ (¬ (F_X10_bad (VX10_loads_4 p1 p2 μ) 2 1 (muX10_loads_3 p1 p2 μ)) = 0 → True))))))
set_option maxRecDepth 20000 in
set_option maxHeartbeats 2000000 in
theorem ok_X10_loads {G : SG} (hG : GK 548 G) (p1 : Int32) (p2 : Int32) (μ : Mem) (hP : P_X10_loads p1 p2 μ) : OkF G mX10_loads [.ref (ga G 57), .int p1, .int p2] μ (some (.int (F_X10_loads p1 p2 μ))) (M_X10_loads p1 p2 μ) := by
  refine okF_of hG rfl rfl (Nat.le_of_ble_eq_true rfl) ?_
  unfold P_X10_loads at hP
  refine r_aload_n dX10_loads_0 0 rfl ?_
  refine r_iconst 0 dX10_loads_1 rfl ?_
  refine r_put fiX10_103 (hG.lt (by decide)) sh57 fs57_0 dX10_loads_2 ?_
  refine r_mu (muX10_loads_1 p1 p2 μ) rfl ?_
  refine r_aload_n dX10_loads_5 0 rfl ?_
  refine r_aload_n dX10_loads_6 0 rfl ?_
  refine r_iload_n dX10_loads_7 1 rfl ?_
  refine r_cvI (ok_X10_isHouse hG p1 (muX10_loads_1 p1 p2 μ)) lX10_347 (hG.lt (by decide)) sh57 ⟨_, _, rfl⟩ dX10_loads_8 (by decide) (Nat.le_of_ble_eq_true rfl) rfl (Nat.le_of_ble_eq_true rfl) ?_
  refine r_join 19 [(0, .ref (ga G 57)), (1, .int p1), (2, .int p2)] [.int (VX10_loads_2 p1 p2 μ), .ref (ga G 57)] (muX10_loads_1 p1 p2 μ) ?_ (fun hJ => ?_)
  · refine r_iconst 1 dX10_loads_19 rfl ?_
    refine r_iconst 0 dX10_loads_20 rfl ?_
    have hs1 := hP.1
    replace hP := hP.2
    refine r_cvI (ok_X10_bad hG (VX10_loads_2 p1 p2 μ) 1 0 (muX10_loads_1 p1 p2 μ) hs1) lX10_186 (hG.lt (by decide)) sh57 ⟨_, _, rfl⟩ dX10_loads_21 (by decide) (Nat.le_of_ble_eq_true rfl) rfl (Nat.le_of_ble_eq_true rfl) ?_
    refine r_mu (muX10_loads_3 p1 p2 μ) rfl ?_
    refine r_if_ne 50 dX10_loads_24 (by decide) (fun c1 => ?_) (fun c1 => ?_)
    · replace hP := hP.1 c1
      refine r_iconst 0 dX10_loads_50 rfl ?_
      exact r_ireturn _ dX10_loads_51 rfl rfl ⟨congrArg (fun z => some (Value.int z)) (by unfold F_X10_loads; rw [if_pos c1]), by unfold M_X10_loads; rw [if_pos c1]⟩
    · replace hP := hP.2 c1
      refine r_aload_n dX10_loads_27 0 rfl ?_
      refine r_iload_n dX10_loads_28 2 rfl ?_
      refine r_iconst 0 dX10_loads_29 rfl ?_
      refine r_iconst 1 dX10_loads_30 rfl ?_
      refine r_csI (ok_X10_isIn hG p2 0 1 (muX10_loads_3 p1 p2 μ)) lX10_137 dX10_loads_31 (by decide) (Nat.le_of_ble_eq_true rfl) rfl (Nat.le_of_ble_eq_true rfl) ?_
      refine r_join 42 [(0, .ref (ga G 57)), (1, .int p1), (2, .int p2)] [.int (VX10_loads_4 p1 p2 μ), .ref (ga G 57)] (muX10_loads_3 p1 p2 μ) ?_ (fun hJ => ?_)
      · refine r_iconst 2 dX10_loads_42 rfl ?_
        refine r_iconst 1 dX10_loads_43 rfl ?_
        have hs2 := hP.1
        replace hP := hP.2
        refine r_cvI (ok_X10_bad hG (VX10_loads_4 p1 p2 μ) 2 1 (muX10_loads_3 p1 p2 μ) hs2) lX10_186 (hG.lt (by decide)) sh57 ⟨_, _, rfl⟩ dX10_loads_44 (by decide) (Nat.le_of_ble_eq_true rfl) rfl (Nat.le_of_ble_eq_true rfl) ?_
        refine r_mu (muX10_loads_5 p1 p2 μ) rfl ?_
        refine r_if_eq 52 dX10_loads_47 (by decide) (fun c2 => ?_) (fun c2 => ?_)
        · replace hP := hP.1 c2
          refine r_iconst 0 dX10_loads_52 rfl ?_
          refine r_istore_n [(3, _), (0, _), (1, _), (2, _)] dX10_loads_53 (Nat.le_of_ble_eq_true rfl) rfl ?_
          refine r_iconst 0 dX10_loads_54 rfl ?_
          refine r_istore [(4, _), (3, _), (0, _), (1, _), (2, _)] dX10_loads_55 (Nat.le_of_ble_eq_true rfl) rfl ?_
          have hs3 := hP.1
          replace hP := hP.2
          refine r_sub [2, 3, 4, 1, 0] rfl ?_
          refine lp_X10_loads_57 hG p1 p2 (muX10_loads_5 p1 p2 μ) 0 ((NX10_loads_57 p1 p2 μ)) (SX10_loads_57 p1 p2 μ) rfl hs3 ?_
          refine r_iload dX10_loads_57 4 rfl ?_
          refine r_aload_n dX10_loads_59 0 rfl ?_
          refine r_getR 61 fX10_23 (hG.lt (by decide)) sh57 fs57_12 dX10_loads_60 ?_
          refine r_iconst 1 dX10_loads_63 rfl ?_
          refine r_ialdK 1 rfl (hG.lt (by decide)) sh61 (vp_of (by decide) (by decide)) dX10_loads_64 ?_
          refine r_icmp_ge 117 dX10_loads_65 (by decide) (fun c3 => ?_) (fun c3 => ?_)
          · replace hP := hP.1 c3
            refine r_iload_n dX10_loads_117 3 rfl ?_
            exact r_ireturn _ dX10_loads_118 rfl rfl ⟨congrArg (fun z => some (Value.int z)) (by unfold F_X10_loads; rw [if_neg (not_not_intro c1), if_pos c2]), by unfold M_X10_loads; rw [if_neg (not_not_intro c1)]⟩
          · replace hP := hP.2 c3
            refine r_iload_n dX10_loads_68 3 rfl ?_
            refine r_aload_n dX10_loads_69 0 rfl ?_
            refine r_getR 521 fX10_73 (hG.lt (by decide)) sh57 fs57_31 dX10_loads_70 ?_
            refine r_iconst 0 dX10_loads_73 rfl ?_
            refine r_iload dX10_loads_74 4 rfl ?_
            refine r_iadd dX10_loads_76 ?_
            have hs7 := hP.1
            replace hP := hP.2
            refine r_iald (hG.lt (by decide)) sh521 hs7 dX10_loads_77 ?_
            refine r_iload_n dX10_loads_78 1 rfl ?_
            refine r_join 109 [(0, .ref (ga G 57)), (1, .int p1), (2, .int p2), (3, .int (SX10_loads_57 p1 p2 μ)), (4, .int (nI (NX10_loads_57 p1 p2 μ)))] [.int (VX10_loads_6 p1 p2 μ), .int (SX10_loads_57 p1 p2 μ)] (muX10_loads_5 p1 p2 μ) ?_ (fun hJ => ?_)
            · replace hP := hP.2
              refine r_iadd dX10_loads_109 ?_
              refine r_istore_n [(3, _), (0, _), (1, _), (2, _), (4, _)] dX10_loads_110 (Nat.le_of_ble_eq_true rfl) rfl ?_
              refine r_iinc ((nI (NX10_loads_57 p1 p2 μ)) + 1) [(4, _), (3, _), (0, _), (1, _), (2, _)] dX10_loads_111 4 rfl rfl (Nat.le_of_ble_eq_true rfl) rfl ?_
              refine r_goto 57 dX10_loads_114 (by decide) ?_
              exact hP.elim
            · replace hP := hP.1
              refine r_icmp_ne 108 dX10_loads_79 (by decide) (fun c4 => ?_) (fun c4 => ?_)
              · replace hP := hP.1 c4
                refine r_iconst 0 dX10_loads_108 rfl ?_
                have e : (VX10_loads_6 p1 p2 μ) = 0 := by unfold VX10_loads_6; rw [if_pos c4]
                rw [e] at hJ
                exact r_sub [0, 1, 2, 3, 4] rfl hJ
              · replace hP := hP.2 c4
                refine r_aload_n dX10_loads_82 0 rfl ?_
                refine r_getR 521 fX10_73 (hG.lt (by decide)) sh57 fs57_31 dX10_loads_83 ?_
                refine r_bipush 10 dX10_loads_86 rfl ?_
                refine r_iload dX10_loads_88 4 rfl ?_
                refine r_iadd dX10_loads_90 ?_
                have hs8 := hP.1
                replace hP := hP.2
                refine r_iald (hG.lt (by decide)) sh521 hs8 dX10_loads_91 ?_
                refine r_iload_n dX10_loads_92 2 rfl ?_
                refine r_icmp_ne 108 dX10_loads_93 (by decide) (fun c5 => ?_) (fun c5 => ?_)
                · replace hP := hP.1 c5
                  refine r_iconst 0 dX10_loads_108 rfl ?_
                  have e : (VX10_loads_6 p1 p2 μ) = 0 := by unfold VX10_loads_6; rw [if_neg (not_not_intro c4), if_pos c5]
                  rw [e] at hJ
                  exact r_sub [0, 1, 2, 3, 4] rfl hJ
                · replace hP := hP.2 c5
                  refine r_aload_n dX10_loads_96 0 rfl ?_
                  refine r_getR 77 fX10_43 (hG.lt (by decide)) sh57 fs57_18 dX10_loads_97 ?_
                  refine r_iload dX10_loads_100 4 rfl ?_
                  have hs9 := hP
                  refine r_aald (hG.lt (by decide)) sh77 hs9 dX10_loads_102 ?_
                  refine r_iconst 1 dX10_loads_103 rfl ?_
                  refine r_ialdK 1 rfl (ltR (vp_ix hs9) (by decide) hG) (shr77 _ (vp_ix hs9)) (vp_of (by decide) (by decide)) dX10_loads_104 ?_
                  refine r_goto 109 dX10_loads_105 (by decide) ?_
                  have e : (VX10_loads_6 p1 p2 μ) = ((muX10_loads_5 p1 p2 μ) (78 + (ix (nI (NX10_loads_57 p1 p2 μ)))) 1) := by unfold VX10_loads_6; rw [if_neg (not_not_intro c4), if_neg (not_not_intro c5)]
                  rw [e] at hJ
                  exact r_sub [0, 1, 2, 3, 4] rfl hJ
        · replace hP := hP.2 c2
          refine r_iconst 0 dX10_loads_50 rfl ?_
          exact r_ireturn _ dX10_loads_51 rfl rfl ⟨congrArg (fun z => some (Value.int z)) (by unfold F_X10_loads; rw [if_neg (not_not_intro c1), if_neg c2]), by unfold M_X10_loads; rw [if_neg (not_not_intro c1)]⟩
      · refine r_if_ne 41 dX10_loads_34 (by decide) (fun c2 => ?_) (fun c2 => ?_)
        · refine r_iconst 0 dX10_loads_41 rfl ?_
          have e : (VX10_loads_4 p1 p2 μ) = 0 := by unfold VX10_loads_4; rw [if_pos c2]
          rw [e] at hJ
          exact r_sub [0, 1, 2] rfl hJ
        · refine r_iconst 1 dX10_loads_37 rfl ?_
          refine r_goto 42 dX10_loads_38 (by decide) ?_
          have e : (VX10_loads_4 p1 p2 μ) = 1 := by unfold VX10_loads_4; rw [if_neg (not_not_intro c2)]
          rw [e] at hJ
          exact r_sub [0, 1, 2] rfl hJ
  · refine r_if_ne 18 dX10_loads_11 (by decide) (fun c1 => ?_) (fun c1 => ?_)
    · refine r_iconst 0 dX10_loads_18 rfl ?_
      have e : (VX10_loads_2 p1 p2 μ) = 0 := by unfold VX10_loads_2; rw [if_pos c1]
      rw [e] at hJ
      exact r_sub [0, 1, 2] rfl hJ
    · refine r_iconst 1 dX10_loads_14 rfl ?_
      refine r_goto 19 dX10_loads_15 (by decide) ?_
      have e : (VX10_loads_2 p1 p2 μ) = 1 := by unfold VX10_loads_2; rw [if_neg (not_not_intro c1)]
      rw [e] at hJ
      exact r_sub [0, 1, 2] rfl hJ
def muX10_dearest_1 (p1 : Int32) (μ : Mem) : Mem := (upm μ 57 0 0)
def VX10_dearest_2 (p1 : Int32) (μ : Mem) : Int32 := (if (F_X10_isIn p1 0 1 (muX10_dearest_1 p1 μ)) ≠ 0 then 0 else 1)
theorem bo_VX10_dearest_2 (p1 : Int32) (μ : Mem) : (VX10_dearest_2 p1 μ) = 0 ∨ (VX10_dearest_2 p1 μ) = 1 := by
  unfold VX10_dearest_2
  split
  · exact Or.inl rfl
  · exact Or.inr rfl
def muX10_dearest_3 (p1 : Int32) (μ : Mem) : Mem := (M_X10_bad (VX10_dearest_2 p1 μ) 1 1 (muX10_dearest_1 p1 μ))
def VX10_dearest_37_1 (v1 : Int32) (μ : Mem) (i : Nat) (s : Int32 × Int32) : Int32 := (if s.2 < (μ 521 (ix (56 + (nI i)))) then (μ 521 (ix (56 + (nI i)))) else s.2)
def VX10_dearest_37_2 (v1 : Int32) (μ : Mem) (i : Nat) (s : Int32 × Int32) : Int32 := (if s.2 < (μ 521 (ix (56 + (nI i)))) then (nI i) else s.1)
def g_X10_dearest_37 (v1 : Int32) (μ : Mem) (i : Nat) (s : Int32 × Int32) : Int32 × Int32 := ((VX10_dearest_37_2 v1 μ i s), (VX10_dearest_37_1 v1 μ i s))
def Pb_X10_dearest_37 (v1 : Int32) (μ : Mem) (i : Nat) (s : Int32 × Int32) : Prop := (((μ 61 0) ≤ (nI i) → False) ∧ ((nI i) < (μ 61 0) → (vp_in (56 + (nI i)) 63) ∧ ((s.2 < (μ 521 (ix (56 + (nI i)))) → vp_in (56 + (nI i)) 63) ∧ ((μ 521 (ix (56 + (nI i)))) ≤ s.2 → True))))
set_option maxRecDepth 20000 in
set_option maxHeartbeats 2000000 in
theorem lp_X10_dearest_37 {G : SG} (hG : GK 548 G)  (v1 : Int32) (μ : Mem) (s0 : Int32 × Int32) (N : Nat) (sN : Int32 × Int32) (eN : sN = fo N (g_X10_dearest_37 v1 μ) s0) (hN : ∀ i, i < N → Pb_X10_dearest_37 v1 μ i (fo i (g_X10_dearest_37 v1 μ) s0)) {t : Nat} {Q : PQ} {X : PX} (h : R G mX10_dearest 37 [(0, .ref (ga G 57)), (1, .int v1), (2, .int (sN).1), (3, .int (sN).2), (4, .int (nI N))] [] μ t Q X) : R G mX10_dearest 37 [(0, .ref (ga G 57)), (1, .int v1), (2, .int (s0).1), (3, .int (s0).2), (4, .int 0)] [] μ t Q X := by
  subst eN
  refine down_i N (fun i => R G mX10_dearest 37 [(0, .ref (ga G 57)), (1, .int v1), (2, .int ((fo i (g_X10_dearest_37 v1 μ) s0)).1), (3, .int ((fo i (g_X10_dearest_37 v1 μ) s0)).2), (4, .int (nI i))] [] μ t Q X) h (fun i hi hS => ?_)
  have hP := hN i hi
  rw [fo_succ] at hS
  rw [nI_succ] at hS
  generalize fo i (g_X10_dearest_37 v1 μ) s0 = s at hS hP ⊢
  unfold Pb_X10_dearest_37 at hP
  refine r_iload dX10_dearest_37 4 rfl ?_
  refine r_aload_n dX10_dearest_39 0 rfl ?_
  refine r_getR 61 fX10_23 (hG.lt (by decide)) sh57 fs57_12 dX10_dearest_40 ?_
  refine r_iconst 0 dX10_dearest_43 rfl ?_
  refine r_ialdK 0 rfl (hG.lt (by decide)) sh61 (vp_of (by decide) (by decide)) dX10_dearest_44 ?_
  refine r_icmp_ge 85 dX10_dearest_45 (by decide) (fun c1 => ?_) (fun c1 => ?_)
  · replace hP := hP.1 c1
    exact hP.elim
  · replace hP := hP.2 c1
    refine r_aload_n dX10_dearest_48 0 rfl ?_
    refine r_getR 521 fX10_73 (hG.lt (by decide)) sh57 fs57_31 dX10_dearest_49 ?_
    refine r_bipush 56 dX10_dearest_52 rfl ?_
    refine r_iload dX10_dearest_54 4 rfl ?_
    refine r_iadd dX10_dearest_56 ?_
    have hs1 := hP.1
    replace hP := hP.2
    refine r_iald (hG.lt (by decide)) sh521 hs1 dX10_dearest_57 ?_
    refine r_iload_n dX10_dearest_58 3 rfl ?_
    refine r_join 79 [(3, .int (VX10_dearest_37_1 v1 μ i s)), (2, .int (VX10_dearest_37_2 v1 μ i s)), (0, .ref (ga G 57)), (1, .int v1), (4, .int (nI i))] [] μ ?_ (fun hJ => ?_)
    · refine r_iinc ((nI i) + 1) [(4, _), (3, _), (2, _), (0, _), (1, _)] dX10_dearest_79 4 rfl rfl (Nat.le_of_ble_eq_true rfl) rfl ?_
      refine r_goto 37 dX10_dearest_82 (by decide) ?_
      have e : g_X10_dearest_37 v1 μ i s = ((VX10_dearest_37_2 v1 μ i s), (VX10_dearest_37_1 v1 μ i s)) := by unfold g_X10_dearest_37; rfl
      rw [e] at hS
      dsimp only at hS
      exact r_sub [3, 4, 2, 1, 0] rfl hS
    · refine r_icmp_gt 65 dX10_dearest_59 (by decide) (fun c2 => ?_) (fun c2 => ?_)
      · replace hP := hP.1 c2
        refine r_iload dX10_dearest_65 4 rfl ?_
        refine r_istore_n [(2, _), (0, _), (1, _), (3, _), (4, _)] dX10_dearest_67 (Nat.le_of_ble_eq_true rfl) rfl ?_
        refine r_aload_n dX10_dearest_68 1 rfl ?_
        refine r_getR 521 fX10_73 (hG.lt (by decide)) sh57 fs57_31 dX10_dearest_69 ?_
        refine r_bipush 56 dX10_dearest_72 rfl ?_
        refine r_iload dX10_dearest_74 4 rfl ?_
        refine r_iadd dX10_dearest_76 ?_
        have hs2 := hP
        refine r_iald (hG.lt (by decide)) sh521 hs2 dX10_dearest_77 ?_
        refine r_istore_n [(3, _), (2, _), (0, _), (1, _), (4, _)] dX10_dearest_78 (Nat.le_of_ble_eq_true rfl) rfl ?_
        have e : (VX10_dearest_37_1 v1 μ i s) = (μ 521 (ix (56 + (nI i)))) := by unfold VX10_dearest_37_1; rw [if_pos c2]
        rw [e] at hJ
        clear e
        have e : (VX10_dearest_37_2 v1 μ i s) = (nI i) := by unfold VX10_dearest_37_2; rw [if_pos c2]
        rw [e] at hJ
        exact r_sub [0, 1, 2, 3, 4] rfl hJ
      · replace hP := hP.2 c2
        refine r_goto 79 dX10_dearest_62 (by decide) ?_
        have e : (VX10_dearest_37_1 v1 μ i s) = s.2 := by unfold VX10_dearest_37_1; rw [if_neg (i32_nl c2)]
        rw [e] at hJ
        clear e
        have e : (VX10_dearest_37_2 v1 μ i s) = s.1 := by unfold VX10_dearest_37_2; rw [if_neg (i32_nl c2)]
        rw [e] at hJ
        exact r_sub [3, 2, 0, 1, 4] rfl hJ
def NX10_dearest_37 (p1 : Int32) (μ : Mem) : Nat := ix ((muX10_dearest_3 p1 μ) 61 0)
def SX10_dearest_37 (p1 : Int32) (μ : Mem) : Int32 × Int32 := fo (NX10_dearest_37 p1 μ) (g_X10_dearest_37 p1 (muX10_dearest_3 p1 μ)) ((-1), 0)
def VX10_dearest_4 (p1 : Int32) (μ : Mem) : Int32 := (if (SX10_dearest_37 p1 μ).2 < ((muX10_dearest_3 p1 μ) 521 (ix (56 + (nI (NX10_dearest_37 p1 μ))))) then ((muX10_dearest_3 p1 μ) 521 (ix (56 + (nI (NX10_dearest_37 p1 μ))))) else (SX10_dearest_37 p1 μ).2)
def VX10_dearest_5 (p1 : Int32) (μ : Mem) : Int32 := (if (SX10_dearest_37 p1 μ).2 < ((muX10_dearest_3 p1 μ) 521 (ix (56 + (nI (NX10_dearest_37 p1 μ))))) then (nI (NX10_dearest_37 p1 μ)) else (SX10_dearest_37 p1 μ).1)
def F_X10_dearest (p1 : Int32) (μ : Mem) : Int32 := (if (F_X10_bad (VX10_dearest_2 p1 μ) 1 1 (muX10_dearest_1 p1 μ)) = 0 then (if p1 = 0 then (SX10_dearest_37 p1 μ).1 else (if (SX10_dearest_37 p1 μ).1 ≠ (-1) then (SX10_dearest_37 p1 μ).2 else (SX10_dearest_37 p1 μ).1)) else 0)
def M_X10_dearest (p1 : Int32) (μ : Mem) : Mem := (muX10_dearest_3 p1 μ)
def P_X10_dearest (p1 : Int32) (μ : Mem) : Prop := ((P_X10_bad (VX10_dearest_2 p1 μ) 1 1 (muX10_dearest_1 p1 μ)) ∧ (((F_X10_bad (VX10_dearest_2 p1 μ) 1 1 (muX10_dearest_1 p1 μ)) = 0 → ((∀ j9, j9 < (NX10_dearest_37 p1 μ) → Pb_X10_dearest_37 p1 (muX10_dearest_3 p1 μ) j9 (fo j9 (g_X10_dearest_37 p1 (muX10_dearest_3 p1 μ)) ((-1), 0))) ∧ ((((muX10_dearest_3 p1 μ) 61 0) ≤ (nI (NX10_dearest_37 p1 μ)) → True) ∧ ((nI (NX10_dearest_37 p1 μ)) < ((muX10_dearest_3 p1 μ) 61 0) → ((vp_in (56 + (nI (NX10_dearest_37 p1 μ))) 63) ∧ ((((SX10_dearest_37 p1 μ).2 < ((muX10_dearest_3 p1 μ) 521 (ix (56 + (nI (NX10_dearest_37 p1 μ))))) → (vp_in (56 + (nI (NX10_dearest_37 p1 μ))) 63)) ∧ (((muX10_dearest_3 p1 μ) 521 (ix (56 + (nI (NX10_dearest_37 p1 μ))))) ≤ (SX10_dearest_37 p1 μ).2 → True)) ∧ False)))))) ∧ (¬ (F_X10_bad (VX10_dearest_2 p1 μ) 1 1 (muX10_dearest_1 p1 μ)) = 0 → True)))
set_option maxRecDepth 20000 in
set_option maxHeartbeats 2000000 in
theorem ok_X10_dearest {G : SG} (hG : GK 548 G) (p1 : Int32) (μ : Mem) (hP : P_X10_dearest p1 μ) : OkF G mX10_dearest [.ref (ga G 57), .int p1] μ (some (.int (F_X10_dearest p1 μ))) (M_X10_dearest p1 μ) := by
  refine okF_of hG rfl rfl (Nat.le_of_ble_eq_true rfl) ?_
  unfold P_X10_dearest at hP
  refine r_aload_n dX10_dearest_0 0 rfl ?_
  refine r_iconst 0 dX10_dearest_1 rfl ?_
  refine r_put fiX10_103 (hG.lt (by decide)) sh57 fs57_0 dX10_dearest_2 ?_
  refine r_mu (muX10_dearest_1 p1 μ) rfl ?_
  refine r_aload_n dX10_dearest_5 0 rfl ?_
  refine r_iload_n dX10_dearest_6 1 rfl ?_
  refine r_iconst 0 dX10_dearest_7 rfl ?_
  refine r_iconst 1 dX10_dearest_8 rfl ?_
  refine r_csI (ok_X10_isIn hG p1 0 1 (muX10_dearest_1 p1 μ)) lX10_137 dX10_dearest_9 (by decide) (Nat.le_of_ble_eq_true rfl) rfl (Nat.le_of_ble_eq_true rfl) ?_
  refine r_join 20 [(0, .ref (ga G 57)), (1, .int p1)] [.int (VX10_dearest_2 p1 μ), .ref (ga G 57)] (muX10_dearest_1 p1 μ) ?_ (fun hJ => ?_)
  · refine r_iconst 1 dX10_dearest_20 rfl ?_
    refine r_iconst 1 dX10_dearest_21 rfl ?_
    have hs1 := hP.1
    replace hP := hP.2
    refine r_cvI (ok_X10_bad hG (VX10_dearest_2 p1 μ) 1 1 (muX10_dearest_1 p1 μ) hs1) lX10_186 (hG.lt (by decide)) sh57 ⟨_, _, rfl⟩ dX10_dearest_22 (by decide) (Nat.le_of_ble_eq_true rfl) rfl (Nat.le_of_ble_eq_true rfl) ?_
    refine r_mu (muX10_dearest_3 p1 μ) rfl ?_
    refine r_if_eq 30 dX10_dearest_25 (by decide) (fun c1 => ?_) (fun c1 => ?_)
    · replace hP := hP.1 c1
      refine r_iconst (-1) dX10_dearest_30 rfl ?_
      refine r_istore_n [(2, _), (0, _), (1, _)] dX10_dearest_31 (Nat.le_of_ble_eq_true rfl) rfl ?_
      refine r_iconst 0 dX10_dearest_32 rfl ?_
      refine r_istore_n [(3, _), (2, _), (0, _), (1, _)] dX10_dearest_33 (Nat.le_of_ble_eq_true rfl) rfl ?_
      refine r_iconst 0 dX10_dearest_34 rfl ?_
      refine r_istore [(4, _), (3, _), (2, _), (0, _), (1, _)] dX10_dearest_35 (Nat.le_of_ble_eq_true rfl) rfl ?_
      have hs2 := hP.1
      replace hP := hP.2
      refine r_sub [3, 4, 2, 1, 0] rfl ?_
      refine lp_X10_dearest_37 hG p1 (muX10_dearest_3 p1 μ) ((-1), 0) ((NX10_dearest_37 p1 μ)) (SX10_dearest_37 p1 μ) rfl hs2 ?_
      refine r_iload dX10_dearest_37 4 rfl ?_
      refine r_aload_n dX10_dearest_39 0 rfl ?_
      refine r_getR 61 fX10_23 (hG.lt (by decide)) sh57 fs57_12 dX10_dearest_40 ?_
      refine r_iconst 0 dX10_dearest_43 rfl ?_
      refine r_ialdK 0 rfl (hG.lt (by decide)) sh61 (vp_of (by decide) (by decide)) dX10_dearest_44 ?_
      refine r_icmp_ge 85 dX10_dearest_45 (by decide) (fun c2 => ?_) (fun c2 => ?_)
      · replace hP := hP.1 c2
        refine r_iload_n dX10_dearest_85 1 rfl ?_
        refine r_if_eq 94 dX10_dearest_86 (by decide) (fun c3 => ?_) (fun c3 => ?_)
        · refine r_iload_n dX10_dearest_94 2 rfl ?_
          refine r_goto 99 dX10_dearest_95 (by decide) ?_
          exact r_ireturn _ dX10_dearest_99 rfl rfl ⟨congrArg (fun z => some (Value.int z)) (by unfold F_X10_dearest; rw [if_pos c1, if_pos c3]), rfl⟩
        · refine r_iload_n dX10_dearest_89 2 rfl ?_
          refine r_iconst (-1) dX10_dearest_90 rfl ?_
          refine r_icmp_ne 98 dX10_dearest_91 (by decide) (fun c4 => ?_) (fun c4 => ?_)
          · refine r_iload_n dX10_dearest_98 3 rfl ?_
            exact r_ireturn _ dX10_dearest_99 rfl rfl ⟨congrArg (fun z => some (Value.int z)) (by unfold F_X10_dearest; rw [if_pos c1, if_neg c3, if_pos c4]), rfl⟩
          · refine r_iload_n dX10_dearest_94 2 rfl ?_
            refine r_goto 99 dX10_dearest_95 (by decide) ?_
            exact r_ireturn _ dX10_dearest_99 rfl rfl ⟨congrArg (fun z => some (Value.int z)) (by unfold F_X10_dearest; rw [if_pos c1, if_neg c3, if_neg (not_not_intro c4)]), rfl⟩
      · replace hP := hP.2 c2
        refine r_aload_n dX10_dearest_48 0 rfl ?_
        refine r_getR 521 fX10_73 (hG.lt (by decide)) sh57 fs57_31 dX10_dearest_49 ?_
        refine r_bipush 56 dX10_dearest_52 rfl ?_
        refine r_iload dX10_dearest_54 4 rfl ?_
        refine r_iadd dX10_dearest_56 ?_
        have hs5 := hP.1
        replace hP := hP.2
        refine r_iald (hG.lt (by decide)) sh521 hs5 dX10_dearest_57 ?_
        refine r_iload_n dX10_dearest_58 3 rfl ?_
        refine r_join 79 [(3, .int (VX10_dearest_4 p1 μ)), (2, .int (VX10_dearest_5 p1 μ)), (0, .ref (ga G 57)), (1, .int p1), (4, .int (nI (NX10_dearest_37 p1 μ)))] [] (muX10_dearest_3 p1 μ) ?_ (fun hJ => ?_)
        · replace hP := hP.2
          refine r_iinc ((nI (NX10_dearest_37 p1 μ)) + 1) [(4, _), (3, _), (2, _), (0, _), (1, _)] dX10_dearest_79 4 rfl rfl (Nat.le_of_ble_eq_true rfl) rfl ?_
          refine r_goto 37 dX10_dearest_82 (by decide) ?_
          exact hP.elim
        · replace hP := hP.1
          refine r_icmp_gt 65 dX10_dearest_59 (by decide) (fun c3 => ?_) (fun c3 => ?_)
          · replace hP := hP.1 c3
            refine r_iload dX10_dearest_65 4 rfl ?_
            refine r_istore_n [(2, _), (0, _), (1, _), (3, _), (4, _)] dX10_dearest_67 (Nat.le_of_ble_eq_true rfl) rfl ?_
            refine r_aload_n dX10_dearest_68 1 rfl ?_
            refine r_getR 521 fX10_73 (hG.lt (by decide)) sh57 fs57_31 dX10_dearest_69 ?_
            refine r_bipush 56 dX10_dearest_72 rfl ?_
            refine r_iload dX10_dearest_74 4 rfl ?_
            refine r_iadd dX10_dearest_76 ?_
            have hs6 := hP
            refine r_iald (hG.lt (by decide)) sh521 hs6 dX10_dearest_77 ?_
            refine r_istore_n [(3, _), (2, _), (0, _), (1, _), (4, _)] dX10_dearest_78 (Nat.le_of_ble_eq_true rfl) rfl ?_
            have e : (VX10_dearest_4 p1 μ) = ((muX10_dearest_3 p1 μ) 521 (ix (56 + (nI (NX10_dearest_37 p1 μ))))) := by unfold VX10_dearest_4; rw [if_pos c3]
            rw [e] at hJ
            clear e
            have e : (VX10_dearest_5 p1 μ) = (nI (NX10_dearest_37 p1 μ)) := by unfold VX10_dearest_5; rw [if_pos c3]
            rw [e] at hJ
            exact r_sub [0, 1, 2, 3, 4] rfl hJ
          · replace hP := hP.2 c3
            refine r_goto 79 dX10_dearest_62 (by decide) ?_
            have e : (VX10_dearest_4 p1 μ) = (SX10_dearest_37 p1 μ).2 := by unfold VX10_dearest_4; rw [if_neg (i32_nl c3)]
            rw [e] at hJ
            clear e
            have e : (VX10_dearest_5 p1 μ) = (SX10_dearest_37 p1 μ).1 := by unfold VX10_dearest_5; rw [if_neg (i32_nl c3)]
            rw [e] at hJ
            exact r_sub [3, 2, 0, 1, 4] rfl hJ
    · replace hP := hP.2 c1
      refine r_iconst 0 dX10_dearest_28 rfl ?_
      exact r_ireturn _ dX10_dearest_29 rfl rfl ⟨congrArg (fun z => some (Value.int z)) (by unfold F_X10_dearest; rw [if_neg c1]), rfl⟩
  · refine r_if_ne 19 dX10_dearest_12 (by decide) (fun c1 => ?_) (fun c1 => ?_)
    · refine r_iconst 0 dX10_dearest_19 rfl ?_
      have e : (VX10_dearest_2 p1 μ) = 0 := by unfold VX10_dearest_2; rw [if_pos c1]
      rw [e] at hJ
      exact r_sub [0, 1] rfl hJ
    · refine r_iconst 1 dX10_dearest_15 rfl ?_
      refine r_goto 20 dX10_dearest_16 (by decide) ?_
      have e : (VX10_dearest_2 p1 μ) = 1 := by unfold VX10_dearest_2; rw [if_neg (not_not_intro c1)]
      rw [e] at hJ
      exact r_sub [0, 1] rfl hJ
def F_X10_areHouses (p1 : Int32) (μ : Mem) : Int32 := (F_X10_isIn p1 0 (((1 : Int32) <<< ((μ 61 0) &&& 31)) - 1) μ)
theorem bo_X10_areHouses (p1 : Int32) (μ : Mem) : F_X10_areHouses p1 μ = 0 ∨ F_X10_areHouses p1 μ = 1 := by
  unfold F_X10_areHouses
  exact (bo_X10_isIn p1 0 (((1 : Int32) <<< ((μ 61 0) &&& 31)) - 1) μ)
set_option maxRecDepth 20000 in
set_option maxHeartbeats 2000000 in
theorem ok_X10_areHouses {G : SG} (hG : GK 548 G) (p1 : Int32) (μ : Mem) : OkF G mX10_areHouses [.ref (ga G 57), .int p1] μ (some (.int (F_X10_areHouses p1 μ))) μ := by
  refine okF_of hG rfl rfl (Nat.le_of_ble_eq_true rfl) ?_
  refine r_iload_n dX10_areHouses_0 1 rfl ?_
  refine r_iconst 0 dX10_areHouses_1 rfl ?_
  refine r_iconst 1 dX10_areHouses_2 rfl ?_
  refine r_aload_n dX10_areHouses_3 0 rfl ?_
  refine r_getR 61 fX10_23 (hG.lt (by decide)) sh57 fs57_12 dX10_areHouses_4 ?_
  refine r_iconst 0 dX10_areHouses_7 rfl ?_
  refine r_ialdK 0 rfl (hG.lt (by decide)) sh61 (vp_of (by decide) (by decide)) dX10_areHouses_8 ?_
  refine r_ishl dX10_areHouses_9 rfl ?_
  refine r_iconst 1 dX10_areHouses_10 rfl ?_
  refine r_isub dX10_areHouses_11 ?_
  refine r_csI (ok_X10_isIn hG p1 0 (((1 : Int32) <<< ((μ 61 0) &&& 31)) - 1) μ) lX10_137 dX10_areHouses_12 (by decide) (Nat.le_of_ble_eq_true rfl) rfl (Nat.le_of_ble_eq_true rfl) ?_
  exact r_ireturn _ dX10_areHouses_15 rfl (nb01 ((bo_X10_isIn p1 0 (((1 : Int32) <<< ((μ 61 0) &&& 31)) - 1) μ))) ⟨congrArg (fun z => some (Value.int z)) (rfl), rfl⟩
def muX10_dry_1 (p1 : Int32) (p2 : Int32) (μ : Mem) : Mem := (upm μ 57 0 0)
def VX10_dry_2 (p1 : Int32) (p2 : Int32) (μ : Mem) : Int32 := (if (F_X10_areHouses p1 (muX10_dry_1 p1 p2 μ)) = 0 then 1 else (if (F_X10_isIn p2 0 60 (muX10_dry_1 p1 p2 μ)) ≠ 0 then 0 else 1))
theorem bo_VX10_dry_2 (p1 : Int32) (p2 : Int32) (μ : Mem) : (VX10_dry_2 p1 p2 μ) = 0 ∨ (VX10_dry_2 p1 p2 μ) = 1 := by
  unfold VX10_dry_2
  split
  · exact Or.inr rfl
  · split
    · exact Or.inl rfl
    · exact Or.inr rfl
def muX10_dry_3 (p1 : Int32) (p2 : Int32) (μ : Mem) : Mem := (M_X10_bad (VX10_dry_2 p1 p2 μ) 1 1 (muX10_dry_1 p1 p2 μ))
def VX10_dry_56_1 (v1 : Int32) (v2 : Int32) (v3 : Int32) (v4 : Int32) (μ : Mem) (i : Nat) (s : Int32) : Int32 := (if s = 0 then 0 else (if (F_X10_has v1 (nI i) μ) = 0 then 1 else (if (F_X10_waterBy 521 (nI i) (F_X10_heightIn ((μ 521 62) + v4) μ) μ) ≠ 0 then 0 else 1)))
theorem bo_VX10_dry_56_1 (v1 : Int32) (v2 : Int32) (v3 : Int32) (v4 : Int32) (μ : Mem) (i : Nat) (s : Int32) : (VX10_dry_56_1 v1 v2 v3 v4 μ i s) = 0 ∨ (VX10_dry_56_1 v1 v2 v3 v4 μ i s) = 1 := by
  unfold VX10_dry_56_1
  split
  · exact Or.inl rfl
  · split
    · exact Or.inr rfl
    · split
      · exact Or.inl rfl
      · exact Or.inr rfl
def g_X10_dry_56 (v1 : Int32) (v2 : Int32) (v3 : Int32) (v4 : Int32) (μ : Mem) (i : Nat) (s : Int32) : Int32 := (VX10_dry_56_1 v1 v2 v3 v4 μ i s)
def Pb_X10_dry_56 (v1 : Int32) (v2 : Int32) (v3 : Int32) (v4 : Int32) (μ : Mem) (i : Nat) (s : Int32) : Prop := (((μ 61 0) ≤ (nI i) → False) ∧ ((nI i) < (μ 61 0) → ((s = 0 → True) ∧ (¬ s = 0 → (((F_X10_has v1 (nI i) μ) = 0 → True) ∧ (¬ (F_X10_has v1 (nI i) μ) = 0 → (P_X10_heightIn ((μ 521 62) + v4) μ) ∧ P_X10_waterBy 521 (nI i) (F_X10_heightIn ((μ 521 62) + v4) μ) μ))))))
set_option maxRecDepth 20000 in
set_option maxHeartbeats 2000000 in
theorem lp_X10_dry_56 {G : SG} (hG : GK 548 G)  (v1 : Int32) (v2 : Int32) (v3 : Int32) (v4 : Int32) (μ : Mem) (s0 : Int32) (N : Nat) (sN : Int32) (eN : sN = fo N (g_X10_dry_56 v1 v2 v3 v4 μ) s0) (hN : ∀ i, i < N → Pb_X10_dry_56 v1 v2 v3 v4 μ i (fo i (g_X10_dry_56 v1 v2 v3 v4 μ) s0)) {t : Nat} {Q : PQ} {X : PX} (h : R G mX10_dry 56 [(0, .ref (ga G 57)), (1, .int v1), (2, .int v2), (3, .int v3), (4, .int v4), (5, .int sN), (6, .int (nI N))] [] μ t Q X) : R G mX10_dry 56 [(0, .ref (ga G 57)), (1, .int v1), (2, .int v2), (3, .int v3), (4, .int v4), (5, .int s0), (6, .int 0)] [] μ t Q X := by
  subst eN
  refine down_i N (fun i => R G mX10_dry 56 [(0, .ref (ga G 57)), (1, .int v1), (2, .int v2), (3, .int v3), (4, .int v4), (5, .int (fo i (g_X10_dry_56 v1 v2 v3 v4 μ) s0)), (6, .int (nI i))] [] μ t Q X) h (fun i hi hS => ?_)
  have hP := hN i hi
  rw [fo_succ] at hS
  rw [nI_succ] at hS
  generalize fo i (g_X10_dry_56 v1 v2 v3 v4 μ) s0 = s at hS hP ⊢
  unfold Pb_X10_dry_56 at hP
  refine r_iload dX10_dry_56 6 rfl ?_
  refine r_aload_n dX10_dry_58 0 rfl ?_
  refine r_getR 61 fX10_23 (hG.lt (by decide)) sh57 fs57_12 dX10_dry_59 ?_
  refine r_iconst 0 dX10_dry_62 rfl ?_
  refine r_ialdK 0 rfl (hG.lt (by decide)) sh61 (vp_of (by decide) (by decide)) dX10_dry_63 ?_
  refine r_icmp_ge 121 dX10_dry_64 (by decide) (fun c1 => ?_) (fun c1 => ?_)
  · replace hP := hP.1 c1
    exact hP.elim
  · replace hP := hP.2 c1
    refine r_iload dX10_dry_67 5 rfl ?_
    refine r_join 113 [(0, .ref (ga G 57)), (1, .int v1), (2, .int v2), (3, .int v3), (4, .int v4), (5, .int s), (6, .int (nI i))] [.int (VX10_dry_56_1 v1 v2 v3 v4 μ i s)] μ ?_ (fun hJ => ?_)
    · refine r_istore [(5, _), (0, _), (1, _), (2, _), (3, _), (4, _), (6, _)] dX10_dry_113 (Nat.le_of_ble_eq_true rfl) rfl ?_
      refine r_iinc ((nI i) + 1) [(6, _), (5, _), (0, _), (1, _), (2, _), (3, _), (4, _)] dX10_dry_115 6 rfl rfl (Nat.le_of_ble_eq_true rfl) rfl ?_
      refine r_goto 56 dX10_dry_118 (by decide) ?_
      have e : g_X10_dry_56 v1 v2 v3 v4 μ i s = (VX10_dry_56_1 v1 v2 v3 v4 μ i s) := by unfold g_X10_dry_56; rfl
      rw [e] at hS
      exact r_sub [2, 3, 4, 5, 6, 1, 0] rfl hS
    · refine r_if_eq 112 dX10_dry_69 (by decide) (fun c2 => ?_) (fun c2 => ?_)
      · replace hP := hP.1 c2
        refine r_iconst 0 dX10_dry_112 rfl ?_
        have e : (VX10_dry_56_1 v1 v2 v3 v4 μ i s) = 0 := by unfold VX10_dry_56_1; rw [if_pos c2]
        rw [e] at hJ
        exact r_sub [0, 1, 2, 3, 4, 5, 6] rfl hJ
      · replace hP := hP.2 c2
        refine r_iload_n dX10_dry_72 1 rfl ?_
        refine r_iload dX10_dry_73 6 rfl ?_
        refine r_csI (ok_X10_has hG v1 (nI i) μ) lX10_268 dX10_dry_75 (by decide) (Nat.le_of_ble_eq_true rfl) rfl (Nat.le_of_ble_eq_true rfl) ?_
        refine r_if_eq 108 dX10_dry_78 (by decide) (fun c3 => ?_) (fun c3 => ?_)
        · replace hP := hP.1 c3
          refine r_iconst 1 dX10_dry_108 rfl ?_
          refine r_goto 113 dX10_dry_109 (by decide) ?_
          have e : (VX10_dry_56_1 v1 v2 v3 v4 μ i s) = 1 := by unfold VX10_dry_56_1; rw [if_neg c2, if_pos c3]
          rw [e] at hJ
          exact r_sub [0, 1, 2, 3, 4, 5, 6] rfl hJ
        · replace hP := hP.2 c3
          refine r_aload_n dX10_dry_81 0 rfl ?_
          refine r_aload_n dX10_dry_82 0 rfl ?_
          refine r_getR 521 fX10_73 (hG.lt (by decide)) sh57 fs57_31 dX10_dry_83 ?_
          refine r_iload dX10_dry_86 6 rfl ?_
          refine r_aload_n dX10_dry_88 0 rfl ?_
          refine r_aload_n dX10_dry_89 0 rfl ?_
          refine r_getR 521 fX10_73 (hG.lt (by decide)) sh57 fs57_31 dX10_dry_90 ?_
          refine r_bipush 62 dX10_dry_93 rfl ?_
          refine r_ialdK 62 rfl (hG.lt (by decide)) sh521 (vp_of (by decide) (by decide)) dX10_dry_95 ?_
          refine r_iload dX10_dry_96 4 rfl ?_
          refine r_iadd dX10_dry_98 ?_
          have hs1 := hP.1
          replace hP := hP.2
          refine r_cvI (ok_X10_heightIn hG ((μ 521 62) + v4) μ hs1) lX10_276 (hG.lt (by decide)) sh57 ⟨_, _, rfl⟩ dX10_dry_99 (by decide) (Nat.le_of_ble_eq_true rfl) rfl (Nat.le_of_ble_eq_true rfl) ?_
          have hs2 := hP
          refine r_cvI (ok_X10_waterBy hG (hG.lt (by decide)) sh521 (nI i) (F_X10_heightIn ((μ 521 62) + v4) μ) μ hs2) lX10_282 (hG.lt (by decide)) sh57 ⟨_, _, rfl⟩ dX10_dry_102 (by decide) (Nat.le_of_ble_eq_true rfl) rfl (Nat.le_of_ble_eq_true rfl) ?_
          refine r_if_ne 112 dX10_dry_105 (by decide) (fun c4 => ?_) (fun c4 => ?_)
          · refine r_iconst 0 dX10_dry_112 rfl ?_
            have e : (VX10_dry_56_1 v1 v2 v3 v4 μ i s) = 0 := by unfold VX10_dry_56_1; rw [if_neg c2, if_neg c3, if_pos c4]
            rw [e] at hJ
            exact r_sub [0, 1, 2, 3, 4, 5, 6] rfl hJ
          · refine r_iconst 1 dX10_dry_108 rfl ?_
            refine r_goto 113 dX10_dry_109 (by decide) ?_
            have e : (VX10_dry_56_1 v1 v2 v3 v4 μ i s) = 1 := by unfold VX10_dry_56_1; rw [if_neg c2, if_neg c3, if_neg (not_not_intro c4)]
            rw [e] at hJ
            exact r_sub [0, 1, 2, 3, 4, 5, 6] rfl hJ
def NX10_dry_44_56 (v1 : Int32) (v2 : Int32) (μ : Mem) (i : Nat) (s : Int32) : Nat := ix (μ 61 0)
def SX10_dry_44_56 (v1 : Int32) (v2 : Int32) (μ : Mem) (i : Nat) (s : Int32) : Int32 := fo (NX10_dry_44_56 v1 v2 μ i s) (g_X10_dry_56 v1 v2 s (nI i) μ) 1
def VX10_dry_44_1 (v1 : Int32) (v2 : Int32) (μ : Mem) (i : Nat) (s : Int32) : Int32 := (if (SX10_dry_44_56 v1 v2 μ i s) = 0 then 0 else 1)
theorem bo_VX10_dry_44_1 (v1 : Int32) (v2 : Int32) (μ : Mem) (i : Nat) (s : Int32) : (VX10_dry_44_1 v1 v2 μ i s) = 0 ∨ (VX10_dry_44_1 v1 v2 μ i s) = 1 := by
  unfold VX10_dry_44_1
  split
  · exact Or.inl rfl
  · exact Or.inr rfl
def VX10_dry_44_2 (v1 : Int32) (v2 : Int32) (μ : Mem) (i : Nat) (s : Int32) : Int32 := (if (SX10_dry_44_56 v1 v2 μ i s) = 0 then 0 else (if (F_X10_has v1 (nI (NX10_dry_44_56 v1 v2 μ i s)) μ) = 0 then 1 else (if (F_X10_waterBy 521 (nI (NX10_dry_44_56 v1 v2 μ i s)) (F_X10_heightIn ((μ 521 62) + (nI i)) μ) μ) ≠ 0 then 0 else 1)))
theorem bo_VX10_dry_44_2 (v1 : Int32) (v2 : Int32) (μ : Mem) (i : Nat) (s : Int32) : (VX10_dry_44_2 v1 v2 μ i s) = 0 ∨ (VX10_dry_44_2 v1 v2 μ i s) = 1 := by
  unfold VX10_dry_44_2
  split
  · exact Or.inl rfl
  · split
    · exact Or.inr rfl
    · split
      · exact Or.inl rfl
      · exact Or.inr rfl
def g_X10_dry_44 (v1 : Int32) (v2 : Int32) (μ : Mem) (i : Nat) (s : Int32) : Int32 := (s + (VX10_dry_44_1 v1 v2 μ i s))
def Pb_X10_dry_44 (v1 : Int32) (v2 : Int32) (μ : Mem) (i : Nat) (s : Int32) : Prop := ((v2 ≤ (nI i) → False) ∧ ((nI i) < v2 → (∀ j9, j9 < (NX10_dry_44_56 v1 v2 μ i s) → Pb_X10_dry_56 v1 v2 s (nI i) μ j9 (fo j9 (g_X10_dry_56 v1 v2 s (nI i) μ) 1)) ∧ (((μ 61 0) ≤ (nI (NX10_dry_44_56 v1 v2 μ i s)) → True) ∧ ((nI (NX10_dry_44_56 v1 v2 μ i s)) < (μ 61 0) → ((((SX10_dry_44_56 v1 v2 μ i s) = 0 → True) ∧ (¬ (SX10_dry_44_56 v1 v2 μ i s) = 0 → (((F_X10_has v1 (nI (NX10_dry_44_56 v1 v2 μ i s)) μ) = 0 → True) ∧ (¬ (F_X10_has v1 (nI (NX10_dry_44_56 v1 v2 μ i s)) μ) = 0 → (P_X10_heightIn ((μ 521 62) + (nI i)) μ) ∧ P_X10_waterBy 521 (nI (NX10_dry_44_56 v1 v2 μ i s)) (F_X10_heightIn ((μ 521 62) + (nI i)) μ) μ)))) ∧ False)))))
set_option maxRecDepth 20000 in
set_option maxHeartbeats 2000000 in
theorem lp_X10_dry_44 {G : SG} (hG : GK 548 G)  (v1 : Int32) (v2 : Int32) (μ : Mem) (s0 : Int32) (N : Nat) (sN : Int32) (eN : sN = fo N (g_X10_dry_44 v1 v2 μ) s0) (hN : ∀ i, i < N → Pb_X10_dry_44 v1 v2 μ i (fo i (g_X10_dry_44 v1 v2 μ) s0)) {t : Nat} {Q : PQ} {X : PX} (h : R G mX10_dry 44 [(0, .ref (ga G 57)), (1, .int v1), (2, .int v2), (3, .int sN), (4, .int (nI N))] [] μ t Q X) : R G mX10_dry 44 [(0, .ref (ga G 57)), (1, .int v1), (2, .int v2), (3, .int s0), (4, .int 0)] [] μ t Q X := by
  subst eN
  refine down_i N (fun i => R G mX10_dry 44 [(0, .ref (ga G 57)), (1, .int v1), (2, .int v2), (3, .int (fo i (g_X10_dry_44 v1 v2 μ) s0)), (4, .int (nI i))] [] μ t Q X) h (fun i hi hS => ?_)
  have hP := hN i hi
  rw [fo_succ] at hS
  rw [nI_succ] at hS
  generalize fo i (g_X10_dry_44 v1 v2 μ) s0 = s at hS hP ⊢
  unfold Pb_X10_dry_44 at hP
  refine r_iload dX10_dry_44 4 rfl ?_
  refine r_iload_n dX10_dry_46 2 rfl ?_
  refine r_icmp_ge 140 dX10_dry_47 (by decide) (fun c1 => ?_) (fun c1 => ?_)
  · replace hP := hP.1 c1
    exact hP.elim
  · replace hP := hP.2 c1
    refine r_iconst 1 dX10_dry_50 rfl ?_
    refine r_istore [(5, _), (0, _), (1, _), (2, _), (3, _), (4, _)] dX10_dry_51 (Nat.le_of_ble_eq_true rfl) rfl ?_
    refine r_iconst 0 dX10_dry_53 rfl ?_
    refine r_istore [(6, _), (5, _), (0, _), (1, _), (2, _), (3, _), (4, _)] dX10_dry_54 (Nat.le_of_ble_eq_true rfl) rfl ?_
    have hs1 := hP.1
    replace hP := hP.2
    refine r_sub [2, 3, 4, 5, 6, 1, 0] rfl ?_
    refine lp_X10_dry_56 hG v1 v2 s (nI i) μ 1 ((NX10_dry_44_56 v1 v2 μ i s)) (SX10_dry_44_56 v1 v2 μ i s) rfl hs1 ?_
    refine r_iload dX10_dry_56 6 rfl ?_
    refine r_aload_n dX10_dry_58 0 rfl ?_
    refine r_getR 61 fX10_23 (hG.lt (by decide)) sh57 fs57_12 dX10_dry_59 ?_
    refine r_iconst 0 dX10_dry_62 rfl ?_
    refine r_ialdK 0 rfl (hG.lt (by decide)) sh61 (vp_of (by decide) (by decide)) dX10_dry_63 ?_
    refine r_icmp_ge 121 dX10_dry_64 (by decide) (fun c2 => ?_) (fun c2 => ?_)
    · replace hP := hP.1 c2
      refine r_iload_n dX10_dry_121 3 rfl ?_
      refine r_iload dX10_dry_122 5 rfl ?_
      refine r_join 132 [(0, .ref (ga G 57)), (1, .int v1), (2, .int v2), (3, .int s), (4, .int (nI i)), (5, .int (SX10_dry_44_56 v1 v2 μ i s)), (6, .int (nI (NX10_dry_44_56 v1 v2 μ i s)))] [.int (VX10_dry_44_1 v1 v2 μ i s), .int s] μ ?_ (fun hJ => ?_)
      · refine r_iadd dX10_dry_132 ?_
        refine r_istore_n [(3, _), (0, _), (1, _), (2, _), (4, _), (5, _), (6, _)] dX10_dry_133 (Nat.le_of_ble_eq_true rfl) rfl ?_
        refine r_iinc ((nI i) + 1) [(4, _), (3, _), (0, _), (1, _), (2, _), (5, _), (6, _)] dX10_dry_134 4 rfl rfl (Nat.le_of_ble_eq_true rfl) rfl ?_
        refine r_goto 44 dX10_dry_137 (by decide) ?_
        have e : g_X10_dry_44 v1 v2 μ i s = (s + (VX10_dry_44_1 v1 v2 μ i s)) := by unfold g_X10_dry_44; rfl
        rw [e] at hS
        exact r_sub [2, 3, 4, 1, 0] rfl hS
      · refine r_if_eq 131 dX10_dry_124 (by decide) (fun c3 => ?_) (fun c3 => ?_)
        · refine r_iconst 0 dX10_dry_131 rfl ?_
          have e : (VX10_dry_44_1 v1 v2 μ i s) = 0 := by unfold VX10_dry_44_1; rw [if_pos c3]
          rw [e] at hJ
          exact r_sub [0, 1, 2, 3, 4, 5, 6] rfl hJ
        · refine r_iconst 1 dX10_dry_127 rfl ?_
          refine r_goto 132 dX10_dry_128 (by decide) ?_
          have e : (VX10_dry_44_1 v1 v2 μ i s) = 1 := by unfold VX10_dry_44_1; rw [if_neg c3]
          rw [e] at hJ
          exact r_sub [0, 1, 2, 3, 4, 5, 6] rfl hJ
    · replace hP := hP.2 c2
      refine r_iload dX10_dry_67 5 rfl ?_
      refine r_join 113 [(0, .ref (ga G 57)), (1, .int v1), (2, .int v2), (3, .int s), (4, .int (nI i)), (5, .int (SX10_dry_44_56 v1 v2 μ i s)), (6, .int (nI (NX10_dry_44_56 v1 v2 μ i s)))] [.int (VX10_dry_44_2 v1 v2 μ i s)] μ ?_ (fun hJ => ?_)
      · replace hP := hP.2
        refine r_istore [(5, _), (0, _), (1, _), (2, _), (3, _), (4, _), (6, _)] dX10_dry_113 (Nat.le_of_ble_eq_true rfl) rfl ?_
        refine r_iinc ((nI (NX10_dry_44_56 v1 v2 μ i s)) + 1) [(6, _), (5, _), (0, _), (1, _), (2, _), (3, _), (4, _)] dX10_dry_115 6 rfl rfl (Nat.le_of_ble_eq_true rfl) rfl ?_
        refine r_goto 56 dX10_dry_118 (by decide) ?_
        exact hP.elim
      · replace hP := hP.1
        refine r_if_eq 112 dX10_dry_69 (by decide) (fun c3 => ?_) (fun c3 => ?_)
        · replace hP := hP.1 c3
          refine r_iconst 0 dX10_dry_112 rfl ?_
          have e : (VX10_dry_44_2 v1 v2 μ i s) = 0 := by unfold VX10_dry_44_2; rw [if_pos c3]
          rw [e] at hJ
          exact r_sub [0, 1, 2, 3, 4, 5, 6] rfl hJ
        · replace hP := hP.2 c3
          refine r_iload_n dX10_dry_72 1 rfl ?_
          refine r_iload dX10_dry_73 6 rfl ?_
          refine r_csI (ok_X10_has hG v1 (nI (NX10_dry_44_56 v1 v2 μ i s)) μ) lX10_268 dX10_dry_75 (by decide) (Nat.le_of_ble_eq_true rfl) rfl (Nat.le_of_ble_eq_true rfl) ?_
          refine r_if_eq 108 dX10_dry_78 (by decide) (fun c4 => ?_) (fun c4 => ?_)
          · replace hP := hP.1 c4
            refine r_iconst 1 dX10_dry_108 rfl ?_
            refine r_goto 113 dX10_dry_109 (by decide) ?_
            have e : (VX10_dry_44_2 v1 v2 μ i s) = 1 := by unfold VX10_dry_44_2; rw [if_neg c3, if_pos c4]
            rw [e] at hJ
            exact r_sub [0, 1, 2, 3, 4, 5, 6] rfl hJ
          · replace hP := hP.2 c4
            refine r_aload_n dX10_dry_81 0 rfl ?_
            refine r_aload_n dX10_dry_82 0 rfl ?_
            refine r_getR 521 fX10_73 (hG.lt (by decide)) sh57 fs57_31 dX10_dry_83 ?_
            refine r_iload dX10_dry_86 6 rfl ?_
            refine r_aload_n dX10_dry_88 0 rfl ?_
            refine r_aload_n dX10_dry_89 0 rfl ?_
            refine r_getR 521 fX10_73 (hG.lt (by decide)) sh57 fs57_31 dX10_dry_90 ?_
            refine r_bipush 62 dX10_dry_93 rfl ?_
            refine r_ialdK 62 rfl (hG.lt (by decide)) sh521 (vp_of (by decide) (by decide)) dX10_dry_95 ?_
            refine r_iload dX10_dry_96 4 rfl ?_
            refine r_iadd dX10_dry_98 ?_
            have hs4 := hP.1
            replace hP := hP.2
            refine r_cvI (ok_X10_heightIn hG ((μ 521 62) + (nI i)) μ hs4) lX10_276 (hG.lt (by decide)) sh57 ⟨_, _, rfl⟩ dX10_dry_99 (by decide) (Nat.le_of_ble_eq_true rfl) rfl (Nat.le_of_ble_eq_true rfl) ?_
            have hs5 := hP
            refine r_cvI (ok_X10_waterBy hG (hG.lt (by decide)) sh521 (nI (NX10_dry_44_56 v1 v2 μ i s)) (F_X10_heightIn ((μ 521 62) + (nI i)) μ) μ hs5) lX10_282 (hG.lt (by decide)) sh57 ⟨_, _, rfl⟩ dX10_dry_102 (by decide) (Nat.le_of_ble_eq_true rfl) rfl (Nat.le_of_ble_eq_true rfl) ?_
            refine r_if_ne 112 dX10_dry_105 (by decide) (fun c5 => ?_) (fun c5 => ?_)
            · refine r_iconst 0 dX10_dry_112 rfl ?_
              have e : (VX10_dry_44_2 v1 v2 μ i s) = 0 := by unfold VX10_dry_44_2; rw [if_neg c3, if_neg c4, if_pos c5]
              rw [e] at hJ
              exact r_sub [0, 1, 2, 3, 4, 5, 6] rfl hJ
            · refine r_iconst 1 dX10_dry_108 rfl ?_
              refine r_goto 113 dX10_dry_109 (by decide) ?_
              have e : (VX10_dry_44_2 v1 v2 μ i s) = 1 := by unfold VX10_dry_44_2; rw [if_neg c3, if_neg c4, if_neg (not_not_intro c5)]
              rw [e] at hJ
              exact r_sub [0, 1, 2, 3, 4, 5, 6] rfl hJ
def NX10_dry_44 (p1 : Int32) (p2 : Int32) (μ : Mem) : Nat := ix p2
def SX10_dry_44 (p1 : Int32) (p2 : Int32) (μ : Mem) : Int32 := fo (NX10_dry_44 p1 p2 μ) (g_X10_dry_44 p1 p2 (muX10_dry_3 p1 p2 μ)) 0
def NX10_dry_56 (p1 : Int32) (p2 : Int32) (μ : Mem) : Nat := ix ((muX10_dry_3 p1 p2 μ) 61 0)
def SX10_dry_56 (p1 : Int32) (p2 : Int32) (μ : Mem) : Int32 := fo (NX10_dry_56 p1 p2 μ) (g_X10_dry_56 p1 p2 (SX10_dry_44 p1 p2 μ) (nI (NX10_dry_44 p1 p2 μ)) (muX10_dry_3 p1 p2 μ)) 1
def VX10_dry_4 (p1 : Int32) (p2 : Int32) (μ : Mem) : Int32 := (if (SX10_dry_56 p1 p2 μ) = 0 then 0 else 1)
theorem bo_VX10_dry_4 (p1 : Int32) (p2 : Int32) (μ : Mem) : (VX10_dry_4 p1 p2 μ) = 0 ∨ (VX10_dry_4 p1 p2 μ) = 1 := by
  unfold VX10_dry_4
  split
  · exact Or.inl rfl
  · exact Or.inr rfl
def VX10_dry_5 (p1 : Int32) (p2 : Int32) (μ : Mem) : Int32 := (if (SX10_dry_56 p1 p2 μ) = 0 then 0 else (if (F_X10_has p1 (nI (NX10_dry_56 p1 p2 μ)) (muX10_dry_3 p1 p2 μ)) = 0 then 1 else (if (F_X10_waterBy 521 (nI (NX10_dry_56 p1 p2 μ)) (F_X10_heightIn (((muX10_dry_3 p1 p2 μ) 521 62) + (nI (NX10_dry_44 p1 p2 μ))) (muX10_dry_3 p1 p2 μ)) (muX10_dry_3 p1 p2 μ)) ≠ 0 then 0 else 1)))
theorem bo_VX10_dry_5 (p1 : Int32) (p2 : Int32) (μ : Mem) : (VX10_dry_5 p1 p2 μ) = 0 ∨ (VX10_dry_5 p1 p2 μ) = 1 := by
  unfold VX10_dry_5
  split
  · exact Or.inl rfl
  · split
    · exact Or.inr rfl
    · split
      · exact Or.inl rfl
      · exact Or.inr rfl
def F_X10_dry (p1 : Int32) (p2 : Int32) (μ : Mem) : Int32 := (if (F_X10_bad (VX10_dry_2 p1 p2 μ) 1 1 (muX10_dry_1 p1 p2 μ)) = 0 then (SX10_dry_44 p1 p2 μ) else 0)
def M_X10_dry (p1 : Int32) (p2 : Int32) (μ : Mem) : Mem := (muX10_dry_3 p1 p2 μ)
def P_X10_dry (p1 : Int32) (p2 : Int32) (μ : Mem) : Prop := ((P_X10_bad (VX10_dry_2 p1 p2 μ) 1 1 (muX10_dry_1 p1 p2 μ)) ∧ (((F_X10_bad (VX10_dry_2 p1 p2 μ) 1 1 (muX10_dry_1 p1 p2 μ)) = 0 → ((∀ j9, j9 < (NX10_dry_44 p1 p2 μ) → Pb_X10_dry_44 p1 p2 (muX10_dry_3 p1 p2 μ) j9 (fo j9 (g_X10_dry_44 p1 p2 (muX10_dry_3 p1 p2 μ)) 0)) ∧ ((p2 ≤ (nI (NX10_dry_44 p1 p2 μ)) → True) ∧ ((nI (NX10_dry_44 p1 p2 μ)) < p2 → ((∀ j9, j9 < (NX10_dry_56 p1 p2 μ) → Pb_X10_dry_56 p1 p2 (SX10_dry_44 p1 p2 μ) (nI (NX10_dry_44 p1 p2 μ)) (muX10_dry_3 p1 p2 μ) j9 (fo j9 (g_X10_dry_56 p1 p2 (SX10_dry_44 p1 p2 μ) (nI (NX10_dry_44 p1 p2 μ)) (muX10_dry_3 p1 p2 μ)) 1)) ∧ ((((muX10_dry_3 p1 p2 μ) 61 0) ≤ (nI (NX10_dry_56 p1 p2 μ)) → False) ∧ ((nI (NX10_dry_56 p1 p2 μ)) < ((muX10_dry_3 p1 p2 μ) 61 0) → ((((SX10_dry_56 p1 p2 μ) = 0 → True) ∧ (¬ (SX10_dry_56 p1 p2 μ) = 0 → (((F_X10_has p1 (nI (NX10_dry_56 p1 p2 μ)) (muX10_dry_3 p1 p2 μ)) = 0 → True) ∧ (¬ (F_X10_has p1 (nI (NX10_dry_56 p1 p2 μ)) (muX10_dry_3 p1 p2 μ)) = 0 → ((P_X10_heightIn (((muX10_dry_3 p1 p2 μ) 521 62) + (nI (NX10_dry_44 p1 p2 μ))) (muX10_dry_3 p1 p2 μ)) ∧ (P_X10_waterBy 521 (nI (NX10_dry_56 p1 p2 μ)) (F_X10_heightIn (((muX10_dry_3 p1 p2 μ) 521 62) + (nI (NX10_dry_44 p1 p2 μ))) (muX10_dry_3 p1 p2 μ)) (muX10_dry_3 p1 p2 μ))))))) ∧ False)))))))) ∧ (¬ (F_X10_bad (VX10_dry_2 p1 p2 μ) 1 1 (muX10_dry_1 p1 p2 μ)) = 0 → True)))
set_option maxRecDepth 20000 in
set_option maxHeartbeats 2000000 in
theorem ok_X10_dry {G : SG} (hG : GK 548 G) (p1 : Int32) (p2 : Int32) (μ : Mem) (hP : P_X10_dry p1 p2 μ) : OkF G mX10_dry [.ref (ga G 57), .int p1, .int p2] μ (some (.int (F_X10_dry p1 p2 μ))) (M_X10_dry p1 p2 μ) := by
  refine okF_of hG rfl rfl (Nat.le_of_ble_eq_true rfl) ?_
  unfold P_X10_dry at hP
  refine r_aload_n dX10_dry_0 0 rfl ?_
  refine r_iconst 0 dX10_dry_1 rfl ?_
  refine r_put fiX10_103 (hG.lt (by decide)) sh57 fs57_0 dX10_dry_2 ?_
  refine r_mu (muX10_dry_1 p1 p2 μ) rfl ?_
  refine r_aload_n dX10_dry_5 0 rfl ?_
  refine r_aload_n dX10_dry_6 0 rfl ?_
  refine r_iload_n dX10_dry_7 1 rfl ?_
  refine r_cvI (ok_X10_areHouses hG p1 (muX10_dry_1 p1 p2 μ)) lX10_362 (hG.lt (by decide)) sh57 ⟨_, _, rfl⟩ dX10_dry_8 (by decide) (Nat.le_of_ble_eq_true rfl) rfl (Nat.le_of_ble_eq_true rfl) ?_
  refine r_join 29 [(0, .ref (ga G 57)), (1, .int p1), (2, .int p2)] [.int (VX10_dry_2 p1 p2 μ), .ref (ga G 57)] (muX10_dry_1 p1 p2 μ) ?_ (fun hJ => ?_)
  · refine r_iconst 1 dX10_dry_29 rfl ?_
    refine r_iconst 1 dX10_dry_30 rfl ?_
    have hs1 := hP.1
    replace hP := hP.2
    refine r_cvI (ok_X10_bad hG (VX10_dry_2 p1 p2 μ) 1 1 (muX10_dry_1 p1 p2 μ) hs1) lX10_186 (hG.lt (by decide)) sh57 ⟨_, _, rfl⟩ dX10_dry_31 (by decide) (Nat.le_of_ble_eq_true rfl) rfl (Nat.le_of_ble_eq_true rfl) ?_
    refine r_mu (muX10_dry_3 p1 p2 μ) rfl ?_
    refine r_if_eq 39 dX10_dry_34 (by decide) (fun c1 => ?_) (fun c1 => ?_)
    · replace hP := hP.1 c1
      refine r_iconst 0 dX10_dry_39 rfl ?_
      refine r_istore_n [(3, _), (0, _), (1, _), (2, _)] dX10_dry_40 (Nat.le_of_ble_eq_true rfl) rfl ?_
      refine r_iconst 0 dX10_dry_41 rfl ?_
      refine r_istore [(4, _), (3, _), (0, _), (1, _), (2, _)] dX10_dry_42 (Nat.le_of_ble_eq_true rfl) rfl ?_
      have hs2 := hP.1
      replace hP := hP.2
      refine r_sub [2, 3, 4, 1, 0] rfl ?_
      refine lp_X10_dry_44 hG p1 p2 (muX10_dry_3 p1 p2 μ) 0 ((NX10_dry_44 p1 p2 μ)) (SX10_dry_44 p1 p2 μ) rfl hs2 ?_
      refine r_iload dX10_dry_44 4 rfl ?_
      refine r_iload_n dX10_dry_46 2 rfl ?_
      refine r_icmp_ge 140 dX10_dry_47 (by decide) (fun c2 => ?_) (fun c2 => ?_)
      · replace hP := hP.1 c2
        refine r_iload_n dX10_dry_140 3 rfl ?_
        exact r_ireturn _ dX10_dry_141 rfl rfl ⟨congrArg (fun z => some (Value.int z)) (by unfold F_X10_dry; rw [if_pos c1]), rfl⟩
      · replace hP := hP.2 c2
        refine r_iconst 1 dX10_dry_50 rfl ?_
        refine r_istore [(5, _), (0, _), (1, _), (2, _), (3, _), (4, _)] dX10_dry_51 (Nat.le_of_ble_eq_true rfl) rfl ?_
        refine r_iconst 0 dX10_dry_53 rfl ?_
        refine r_istore [(6, _), (5, _), (0, _), (1, _), (2, _), (3, _), (4, _)] dX10_dry_54 (Nat.le_of_ble_eq_true rfl) rfl ?_
        have hs8 := hP.1
        replace hP := hP.2
        refine r_sub [2, 3, 4, 5, 6, 1, 0] rfl ?_
        refine lp_X10_dry_56 hG p1 p2 (SX10_dry_44 p1 p2 μ) (nI (NX10_dry_44 p1 p2 μ)) (muX10_dry_3 p1 p2 μ) 1 ((NX10_dry_56 p1 p2 μ)) (SX10_dry_56 p1 p2 μ) rfl hs8 ?_
        refine r_iload dX10_dry_56 6 rfl ?_
        refine r_aload_n dX10_dry_58 0 rfl ?_
        refine r_getR 61 fX10_23 (hG.lt (by decide)) sh57 fs57_12 dX10_dry_59 ?_
        refine r_iconst 0 dX10_dry_62 rfl ?_
        refine r_ialdK 0 rfl (hG.lt (by decide)) sh61 (vp_of (by decide) (by decide)) dX10_dry_63 ?_
        refine r_icmp_ge 121 dX10_dry_64 (by decide) (fun c3 => ?_) (fun c3 => ?_)
        · replace hP := hP.1 c3
          refine r_iload_n dX10_dry_121 3 rfl ?_
          refine r_iload dX10_dry_122 5 rfl ?_
          refine r_join 132 [(0, .ref (ga G 57)), (1, .int p1), (2, .int p2), (3, .int (SX10_dry_44 p1 p2 μ)), (4, .int (nI (NX10_dry_44 p1 p2 μ))), (5, .int (SX10_dry_56 p1 p2 μ)), (6, .int (nI (NX10_dry_56 p1 p2 μ)))] [.int (VX10_dry_4 p1 p2 μ), .int (SX10_dry_44 p1 p2 μ)] (muX10_dry_3 p1 p2 μ) ?_ (fun hJ => ?_)
          · refine r_iadd dX10_dry_132 ?_
            refine r_istore_n [(3, _), (0, _), (1, _), (2, _), (4, _), (5, _), (6, _)] dX10_dry_133 (Nat.le_of_ble_eq_true rfl) rfl ?_
            refine r_iinc ((nI (NX10_dry_44 p1 p2 μ)) + 1) [(4, _), (3, _), (0, _), (1, _), (2, _), (5, _), (6, _)] dX10_dry_134 4 rfl rfl (Nat.le_of_ble_eq_true rfl) rfl ?_
            refine r_goto 44 dX10_dry_137 (by decide) ?_
            exact hP.elim
          · refine r_if_eq 131 dX10_dry_124 (by decide) (fun c4 => ?_) (fun c4 => ?_)
            · refine r_iconst 0 dX10_dry_131 rfl ?_
              have e : (VX10_dry_4 p1 p2 μ) = 0 := by unfold VX10_dry_4; rw [if_pos c4]
              rw [e] at hJ
              exact r_sub [0, 1, 2, 3, 4, 5, 6] rfl hJ
            · refine r_iconst 1 dX10_dry_127 rfl ?_
              refine r_goto 132 dX10_dry_128 (by decide) ?_
              have e : (VX10_dry_4 p1 p2 μ) = 1 := by unfold VX10_dry_4; rw [if_neg c4]
              rw [e] at hJ
              exact r_sub [0, 1, 2, 3, 4, 5, 6] rfl hJ
        · replace hP := hP.2 c3
          refine r_iload dX10_dry_67 5 rfl ?_
          refine r_join 113 [(0, .ref (ga G 57)), (1, .int p1), (2, .int p2), (3, .int (SX10_dry_44 p1 p2 μ)), (4, .int (nI (NX10_dry_44 p1 p2 μ))), (5, .int (SX10_dry_56 p1 p2 μ)), (6, .int (nI (NX10_dry_56 p1 p2 μ)))] [.int (VX10_dry_5 p1 p2 μ)] (muX10_dry_3 p1 p2 μ) ?_ (fun hJ => ?_)
          · replace hP := hP.2
            refine r_istore [(5, _), (0, _), (1, _), (2, _), (3, _), (4, _), (6, _)] dX10_dry_113 (Nat.le_of_ble_eq_true rfl) rfl ?_
            refine r_iinc ((nI (NX10_dry_56 p1 p2 μ)) + 1) [(6, _), (5, _), (0, _), (1, _), (2, _), (3, _), (4, _)] dX10_dry_115 6 rfl rfl (Nat.le_of_ble_eq_true rfl) rfl ?_
            refine r_goto 56 dX10_dry_118 (by decide) ?_
            exact hP.elim
          · replace hP := hP.1
            refine r_if_eq 112 dX10_dry_69 (by decide) (fun c4 => ?_) (fun c4 => ?_)
            · replace hP := hP.1 c4
              refine r_iconst 0 dX10_dry_112 rfl ?_
              have e : (VX10_dry_5 p1 p2 μ) = 0 := by unfold VX10_dry_5; rw [if_pos c4]
              rw [e] at hJ
              exact r_sub [0, 1, 2, 3, 4, 5, 6] rfl hJ
            · replace hP := hP.2 c4
              refine r_iload_n dX10_dry_72 1 rfl ?_
              refine r_iload dX10_dry_73 6 rfl ?_
              refine r_csI (ok_X10_has hG p1 (nI (NX10_dry_56 p1 p2 μ)) (muX10_dry_3 p1 p2 μ)) lX10_268 dX10_dry_75 (by decide) (Nat.le_of_ble_eq_true rfl) rfl (Nat.le_of_ble_eq_true rfl) ?_
              refine r_if_eq 108 dX10_dry_78 (by decide) (fun c5 => ?_) (fun c5 => ?_)
              · replace hP := hP.1 c5
                refine r_iconst 1 dX10_dry_108 rfl ?_
                refine r_goto 113 dX10_dry_109 (by decide) ?_
                have e : (VX10_dry_5 p1 p2 μ) = 1 := by unfold VX10_dry_5; rw [if_neg c4, if_pos c5]
                rw [e] at hJ
                exact r_sub [0, 1, 2, 3, 4, 5, 6] rfl hJ
              · replace hP := hP.2 c5
                refine r_aload_n dX10_dry_81 0 rfl ?_
                refine r_aload_n dX10_dry_82 0 rfl ?_
                refine r_getR 521 fX10_73 (hG.lt (by decide)) sh57 fs57_31 dX10_dry_83 ?_
                refine r_iload dX10_dry_86 6 rfl ?_
                refine r_aload_n dX10_dry_88 0 rfl ?_
                refine r_aload_n dX10_dry_89 0 rfl ?_
                refine r_getR 521 fX10_73 (hG.lt (by decide)) sh57 fs57_31 dX10_dry_90 ?_
                refine r_bipush 62 dX10_dry_93 rfl ?_
                refine r_ialdK 62 rfl (hG.lt (by decide)) sh521 (vp_of (by decide) (by decide)) dX10_dry_95 ?_
                refine r_iload dX10_dry_96 4 rfl ?_
                refine r_iadd dX10_dry_98 ?_
                have hs11 := hP.1
                replace hP := hP.2
                refine r_cvI (ok_X10_heightIn hG (((muX10_dry_3 p1 p2 μ) 521 62) + (nI (NX10_dry_44 p1 p2 μ))) (muX10_dry_3 p1 p2 μ) hs11) lX10_276 (hG.lt (by decide)) sh57 ⟨_, _, rfl⟩ dX10_dry_99 (by decide) (Nat.le_of_ble_eq_true rfl) rfl (Nat.le_of_ble_eq_true rfl) ?_
                have hs12 := hP
                refine r_cvI (ok_X10_waterBy hG (hG.lt (by decide)) sh521 (nI (NX10_dry_56 p1 p2 μ)) (F_X10_heightIn (((muX10_dry_3 p1 p2 μ) 521 62) + (nI (NX10_dry_44 p1 p2 μ))) (muX10_dry_3 p1 p2 μ)) (muX10_dry_3 p1 p2 μ) hs12) lX10_282 (hG.lt (by decide)) sh57 ⟨_, _, rfl⟩ dX10_dry_102 (by decide) (Nat.le_of_ble_eq_true rfl) rfl (Nat.le_of_ble_eq_true rfl) ?_
                refine r_if_ne 112 dX10_dry_105 (by decide) (fun c6 => ?_) (fun c6 => ?_)
                · refine r_iconst 0 dX10_dry_112 rfl ?_
                  have e : (VX10_dry_5 p1 p2 μ) = 0 := by unfold VX10_dry_5; rw [if_neg c4, if_neg c5, if_pos c6]
                  rw [e] at hJ
                  exact r_sub [0, 1, 2, 3, 4, 5, 6] rfl hJ
                · refine r_iconst 1 dX10_dry_108 rfl ?_
                  refine r_goto 113 dX10_dry_109 (by decide) ?_
                  have e : (VX10_dry_5 p1 p2 μ) = 1 := by unfold VX10_dry_5; rw [if_neg c4, if_neg c5, if_neg (not_not_intro c6)]
                  rw [e] at hJ
                  exact r_sub [0, 1, 2, 3, 4, 5, 6] rfl hJ
    · replace hP := hP.2 c1
      refine r_iconst 0 dX10_dry_37 rfl ?_
      exact r_ireturn _ dX10_dry_38 rfl rfl ⟨congrArg (fun z => some (Value.int z)) (by unfold F_X10_dry; rw [if_neg c1]), rfl⟩
  · refine r_if_eq 24 dX10_dry_11 (by decide) (fun c1 => ?_) (fun c1 => ?_)
    · refine r_iconst 1 dX10_dry_24 rfl ?_
      refine r_goto 29 dX10_dry_25 (by decide) ?_
      have e : (VX10_dry_2 p1 p2 μ) = 1 := by unfold VX10_dry_2; rw [if_pos c1]
      rw [e] at hJ
      exact r_sub [0, 1, 2] rfl hJ
    · refine r_iload_n dX10_dry_14 2 rfl ?_
      refine r_iconst 0 dX10_dry_15 rfl ?_
      refine r_bipush 60 dX10_dry_16 rfl ?_
      refine r_csI (ok_X10_isIn hG p2 0 60 (muX10_dry_1 p1 p2 μ)) lX10_137 dX10_dry_18 (by decide) (Nat.le_of_ble_eq_true rfl) rfl (Nat.le_of_ble_eq_true rfl) ?_
      refine r_if_ne 28 dX10_dry_21 (by decide) (fun c2 => ?_) (fun c2 => ?_)
      · refine r_iconst 0 dX10_dry_28 rfl ?_
        have e : (VX10_dry_2 p1 p2 μ) = 0 := by unfold VX10_dry_2; rw [if_neg c1, if_pos c2]
        rw [e] at hJ
        exact r_sub [0, 1, 2] rfl hJ
      · refine r_iconst 1 dX10_dry_24 rfl ?_
        refine r_goto 29 dX10_dry_25 (by decide) ?_
        have e : (VX10_dry_2 p1 p2 μ) = 1 := by unfold VX10_dry_2; rw [if_neg c1, if_neg (not_not_intro c2)]
        rw [e] at hJ
        exact r_sub [0, 1, 2] rfl hJ
def VX10_free_4_1 (μ : Mem) (i : Nat) (s : Int32) : Int32 := (if (μ 521 (ix (0 + (nI i)))) = (-1) then 0 else (if (μ 521 (ix (10 + (nI i)))) ≠ 0 then 0 else (if (μ 521 (ix (20 + (nI i)))) ≠ 0 then 0 else ((1 : Int32) <<< ((nI i) &&& 31)))))
def g_X10_free_4 (μ : Mem) (i : Nat) (s : Int32) : Int32 := (s ||| (VX10_free_4_1 μ i s))
def Pb_X10_free_4 (μ : Mem) (i : Nat) (s : Int32) : Prop := (((μ 61 1) ≤ (nI i) → False) ∧ ((nI i) < (μ 61 1) → (vp_in (0 + (nI i)) 63) ∧ (((μ 521 (ix (0 + (nI i)))) = (-1) → True) ∧ (¬ (μ 521 (ix (0 + (nI i)))) = (-1) → (vp_in (10 + (nI i)) 63) ∧ (((μ 521 (ix (10 + (nI i)))) ≠ 0 → True) ∧ ((μ 521 (ix (10 + (nI i)))) = 0 → vp_in (20 + (nI i)) 63))))))
set_option maxRecDepth 20000 in
set_option maxHeartbeats 2000000 in
theorem lp_X10_free_4 {G : SG} (hG : GK 548 G)  (μ : Mem) (s0 : Int32) (N : Nat) (sN : Int32) (eN : sN = fo N (g_X10_free_4 μ) s0) (hN : ∀ i, i < N → Pb_X10_free_4 μ i (fo i (g_X10_free_4 μ) s0)) {t : Nat} {Q : PQ} {X : PX} (h : R G mX10_free 4 [(0, .ref (ga G 57)), (1, .int sN), (2, .int (nI N))] [] μ t Q X) : R G mX10_free 4 [(0, .ref (ga G 57)), (1, .int s0), (2, .int 0)] [] μ t Q X := by
  subst eN
  refine down_i N (fun i => R G mX10_free 4 [(0, .ref (ga G 57)), (1, .int (fo i (g_X10_free_4 μ) s0)), (2, .int (nI i))] [] μ t Q X) h (fun i hi hS => ?_)
  have hP := hN i hi
  rw [fo_succ] at hS
  rw [nI_succ] at hS
  generalize fo i (g_X10_free_4 μ) s0 = s at hS hP ⊢
  unfold Pb_X10_free_4 at hP
  refine r_iload_n dX10_free_4 2 rfl ?_
  refine r_aload_n dX10_free_5 0 rfl ?_
  refine r_getR 61 fX10_23 (hG.lt (by decide)) sh57 fs57_12 dX10_free_6 ?_
  refine r_iconst 1 dX10_free_9 rfl ?_
  refine r_ialdK 1 rfl (hG.lt (by decide)) sh61 (vp_of (by decide) (by decide)) dX10_free_10 ?_
  refine r_icmp_ge 66 dX10_free_11 (by decide) (fun c1 => ?_) (fun c1 => ?_)
  · replace hP := hP.1 c1
    exact hP.elim
  · replace hP := hP.2 c1
    refine r_iload_n dX10_free_14 1 rfl ?_
    refine r_aload_n dX10_free_15 0 rfl ?_
    refine r_getR 521 fX10_73 (hG.lt (by decide)) sh57 fs57_31 dX10_free_16 ?_
    refine r_iconst 0 dX10_free_19 rfl ?_
    refine r_iload_n dX10_free_20 2 rfl ?_
    refine r_iadd dX10_free_21 ?_
    have hs1 := hP.1
    replace hP := hP.2
    refine r_iald (hG.lt (by decide)) sh521 hs1 dX10_free_22 ?_
    refine r_iconst (-1) dX10_free_23 rfl ?_
    refine r_join 58 [(0, .ref (ga G 57)), (1, .int s), (2, .int (nI i))] [.int (VX10_free_4_1 μ i s), .int s] μ ?_ (fun hJ => ?_)
    · refine r_ior dX10_free_58 ?_
      refine r_istore_n [(1, _), (0, _), (2, _)] dX10_free_59 (Nat.le_of_ble_eq_true rfl) rfl ?_
      refine r_iinc ((nI i) + 1) [(2, _), (1, _), (0, _)] dX10_free_60 2 rfl rfl (Nat.le_of_ble_eq_true rfl) rfl ?_
      refine r_goto 4 dX10_free_63 (by decide) ?_
      have e : g_X10_free_4 μ i s = (s ||| (VX10_free_4_1 μ i s)) := by unfold g_X10_free_4; rfl
      rw [e] at hS
      exact r_sub [2, 1, 0] rfl hS
    · refine r_icmp_eq 57 dX10_free_24 (by decide) (fun c2 => ?_) (fun c2 => ?_)
      · replace hP := hP.1 c2
        refine r_iconst 0 dX10_free_57 rfl ?_
        have e : (VX10_free_4_1 μ i s) = 0 := by unfold VX10_free_4_1; rw [if_pos c2]
        rw [e] at hJ
        exact r_sub [0, 1, 2] rfl hJ
      · replace hP := hP.2 c2
        refine r_aload_n dX10_free_27 0 rfl ?_
        refine r_getR 521 fX10_73 (hG.lt (by decide)) sh57 fs57_31 dX10_free_28 ?_
        refine r_bipush 10 dX10_free_31 rfl ?_
        refine r_iload_n dX10_free_33 2 rfl ?_
        refine r_iadd dX10_free_34 ?_
        have hs2 := hP.1
        replace hP := hP.2
        refine r_iald (hG.lt (by decide)) sh521 hs2 dX10_free_35 ?_
        refine r_if_ne 57 dX10_free_36 (by decide) (fun c3 => ?_) (fun c3 => ?_)
        · replace hP := hP.1 c3
          refine r_iconst 0 dX10_free_57 rfl ?_
          have e : (VX10_free_4_1 μ i s) = 0 := by unfold VX10_free_4_1; rw [if_neg c2, if_pos c3]
          rw [e] at hJ
          exact r_sub [0, 1, 2] rfl hJ
        · replace hP := hP.2 c3
          refine r_aload_n dX10_free_39 0 rfl ?_
          refine r_getR 521 fX10_73 (hG.lt (by decide)) sh57 fs57_31 dX10_free_40 ?_
          refine r_bipush 20 dX10_free_43 rfl ?_
          refine r_iload_n dX10_free_45 2 rfl ?_
          refine r_iadd dX10_free_46 ?_
          have hs3 := hP
          refine r_iald (hG.lt (by decide)) sh521 hs3 dX10_free_47 ?_
          refine r_if_ne 57 dX10_free_48 (by decide) (fun c4 => ?_) (fun c4 => ?_)
          · refine r_iconst 0 dX10_free_57 rfl ?_
            have e : (VX10_free_4_1 μ i s) = 0 := by unfold VX10_free_4_1; rw [if_neg c2, if_neg (not_not_intro c3), if_pos c4]
            rw [e] at hJ
            exact r_sub [0, 1, 2] rfl hJ
          · refine r_iconst 1 dX10_free_51 rfl ?_
            refine r_iload_n dX10_free_52 2 rfl ?_
            refine r_ishl dX10_free_53 rfl ?_
            refine r_goto 58 dX10_free_54 (by decide) ?_
            have e : (VX10_free_4_1 μ i s) = ((1 : Int32) <<< ((nI i) &&& 31)) := by unfold VX10_free_4_1; rw [if_neg c2, if_neg (not_not_intro c3), if_neg (not_not_intro c4)]
            rw [e] at hJ
            exact r_sub [0, 1, 2] rfl hJ
def NX10_free_4 (μ : Mem) : Nat := ix (μ 61 1)
def SX10_free_4 (μ : Mem) : Int32 := fo (NX10_free_4 μ) (g_X10_free_4 μ) 0
def VX10_free_1 (μ : Mem) : Int32 := (if (μ 521 (ix (0 + (nI (NX10_free_4 μ))))) = (-1) then 0 else (if (μ 521 (ix (10 + (nI (NX10_free_4 μ))))) ≠ 0 then 0 else (if (μ 521 (ix (20 + (nI (NX10_free_4 μ))))) ≠ 0 then 0 else ((1 : Int32) <<< ((nI (NX10_free_4 μ)) &&& 31)))))
def F_X10_free  (μ : Mem) : Int32 := (SX10_free_4 μ)
def P_X10_free  (μ : Mem) : Prop := ((∀ j9, j9 < (NX10_free_4 μ) → Pb_X10_free_4 μ j9 (fo j9 (g_X10_free_4 μ) 0)) ∧ (((μ 61 1) ≤ (nI (NX10_free_4 μ)) → True) ∧ ((nI (NX10_free_4 μ)) < (μ 61 1) → ((vp_in (0 + (nI (NX10_free_4 μ))) 63) ∧ ((((μ 521 (ix (0 + (nI (NX10_free_4 μ))))) = (-1) → True) ∧ (¬ (μ 521 (ix (0 + (nI (NX10_free_4 μ))))) = (-1) → ((vp_in (10 + (nI (NX10_free_4 μ))) 63) ∧ (((μ 521 (ix (10 + (nI (NX10_free_4 μ))))) ≠ 0 → True) ∧ ((μ 521 (ix (10 + (nI (NX10_free_4 μ))))) = 0 → (vp_in (20 + (nI (NX10_free_4 μ))) 63)))))) ∧ False)))))
set_option maxRecDepth 20000 in
set_option maxHeartbeats 2000000 in
theorem ok_X10_free {G : SG} (hG : GK 548 G)  (μ : Mem) (hP : P_X10_free  μ) : OkF G mX10_free [.ref (ga G 57)] μ (some (.int (F_X10_free  μ))) μ := by
  refine okF_of hG rfl rfl (Nat.le_of_ble_eq_true rfl) ?_
  unfold P_X10_free at hP
  refine r_iconst 0 dX10_free_0 rfl ?_
  refine r_istore_n [(1, _), (0, _)] dX10_free_1 (Nat.le_of_ble_eq_true rfl) rfl ?_
  refine r_iconst 0 dX10_free_2 rfl ?_
  refine r_istore_n [(2, _), (1, _), (0, _)] dX10_free_3 (Nat.le_of_ble_eq_true rfl) rfl ?_
  have hs1 := hP.1
  replace hP := hP.2
  refine r_sub [2, 1, 0] rfl ?_
  refine lp_X10_free_4 hG μ 0 ((NX10_free_4 μ)) (SX10_free_4 μ) rfl hs1 ?_
  refine r_iload_n dX10_free_4 2 rfl ?_
  refine r_aload_n dX10_free_5 0 rfl ?_
  refine r_getR 61 fX10_23 (hG.lt (by decide)) sh57 fs57_12 dX10_free_6 ?_
  refine r_iconst 1 dX10_free_9 rfl ?_
  refine r_ialdK 1 rfl (hG.lt (by decide)) sh61 (vp_of (by decide) (by decide)) dX10_free_10 ?_
  refine r_icmp_ge 66 dX10_free_11 (by decide) (fun c1 => ?_) (fun c1 => ?_)
  · replace hP := hP.1 c1
    refine r_iload_n dX10_free_66 1 rfl ?_
    exact r_ireturn _ dX10_free_67 rfl rfl ⟨congrArg (fun z => some (Value.int z)) (rfl), rfl⟩
  · replace hP := hP.2 c1
    refine r_iload_n dX10_free_14 1 rfl ?_
    refine r_aload_n dX10_free_15 0 rfl ?_
    refine r_getR 521 fX10_73 (hG.lt (by decide)) sh57 fs57_31 dX10_free_16 ?_
    refine r_iconst 0 dX10_free_19 rfl ?_
    refine r_iload_n dX10_free_20 2 rfl ?_
    refine r_iadd dX10_free_21 ?_
    have hs5 := hP.1
    replace hP := hP.2
    refine r_iald (hG.lt (by decide)) sh521 hs5 dX10_free_22 ?_
    refine r_iconst (-1) dX10_free_23 rfl ?_
    refine r_join 58 [(0, .ref (ga G 57)), (1, .int (SX10_free_4 μ)), (2, .int (nI (NX10_free_4 μ)))] [.int (VX10_free_1 μ), .int (SX10_free_4 μ)] μ ?_ (fun hJ => ?_)
    · replace hP := hP.2
      refine r_ior dX10_free_58 ?_
      refine r_istore_n [(1, _), (0, _), (2, _)] dX10_free_59 (Nat.le_of_ble_eq_true rfl) rfl ?_
      refine r_iinc ((nI (NX10_free_4 μ)) + 1) [(2, _), (1, _), (0, _)] dX10_free_60 2 rfl rfl (Nat.le_of_ble_eq_true rfl) rfl ?_
      refine r_goto 4 dX10_free_63 (by decide) ?_
      exact hP.elim
    · replace hP := hP.1
      refine r_icmp_eq 57 dX10_free_24 (by decide) (fun c2 => ?_) (fun c2 => ?_)
      · replace hP := hP.1 c2
        refine r_iconst 0 dX10_free_57 rfl ?_
        have e : (VX10_free_1 μ) = 0 := by unfold VX10_free_1; rw [if_pos c2]
        rw [e] at hJ
        exact r_sub [0, 1, 2] rfl hJ
      · replace hP := hP.2 c2
        refine r_aload_n dX10_free_27 0 rfl ?_
        refine r_getR 521 fX10_73 (hG.lt (by decide)) sh57 fs57_31 dX10_free_28 ?_
        refine r_bipush 10 dX10_free_31 rfl ?_
        refine r_iload_n dX10_free_33 2 rfl ?_
        refine r_iadd dX10_free_34 ?_
        have hs6 := hP.1
        replace hP := hP.2
        refine r_iald (hG.lt (by decide)) sh521 hs6 dX10_free_35 ?_
        refine r_if_ne 57 dX10_free_36 (by decide) (fun c3 => ?_) (fun c3 => ?_)
        · replace hP := hP.1 c3
          refine r_iconst 0 dX10_free_57 rfl ?_
          have e : (VX10_free_1 μ) = 0 := by unfold VX10_free_1; rw [if_neg c2, if_pos c3]
          rw [e] at hJ
          exact r_sub [0, 1, 2] rfl hJ
        · replace hP := hP.2 c3
          refine r_aload_n dX10_free_39 0 rfl ?_
          refine r_getR 521 fX10_73 (hG.lt (by decide)) sh57 fs57_31 dX10_free_40 ?_
          refine r_bipush 20 dX10_free_43 rfl ?_
          refine r_iload_n dX10_free_45 2 rfl ?_
          refine r_iadd dX10_free_46 ?_
          have hs7 := hP
          refine r_iald (hG.lt (by decide)) sh521 hs7 dX10_free_47 ?_
          refine r_if_ne 57 dX10_free_48 (by decide) (fun c4 => ?_) (fun c4 => ?_)
          · refine r_iconst 0 dX10_free_57 rfl ?_
            have e : (VX10_free_1 μ) = 0 := by unfold VX10_free_1; rw [if_neg c2, if_neg (not_not_intro c3), if_pos c4]
            rw [e] at hJ
            exact r_sub [0, 1, 2] rfl hJ
          · refine r_iconst 1 dX10_free_51 rfl ?_
            refine r_iload_n dX10_free_52 2 rfl ?_
            refine r_ishl dX10_free_53 rfl ?_
            refine r_goto 58 dX10_free_54 (by decide) ?_
            have e : (VX10_free_1 μ) = ((1 : Int32) <<< ((nI (NX10_free_4 μ)) &&& 31)) := by unfold VX10_free_1; rw [if_neg c2, if_neg (not_not_intro c3), if_neg (not_not_intro c4)]
            rw [e] at hJ
            exact r_sub [0, 1, 2] rfl hJ
def VX10_weightOf_4_1 (v1 : Int32) (μ : Mem) (i : Nat) (s : Int32) : Int32 := (if (F_X10_has v1 (nI i) μ) = 0 then 0 else (μ (78 + (ix (nI i))) 1))
def g_X10_weightOf_4 (v1 : Int32) (μ : Mem) (i : Nat) (s : Int32) : Int32 := (s + (VX10_weightOf_4_1 v1 μ i s))
def Pb_X10_weightOf_4 (v1 : Int32) (μ : Mem) (i : Nat) (s : Int32) : Prop := (((μ 61 1) ≤ (nI i) → False) ∧ ((nI i) < (μ 61 1) → (((F_X10_has v1 (nI i) μ) = 0 → True) ∧ (¬ (F_X10_has v1 (nI i) μ) = 0 → vp_in (nI i) 10))))
set_option maxRecDepth 20000 in
set_option maxHeartbeats 2000000 in
theorem lp_X10_weightOf_4 {G : SG} (hG : GK 548 G)  (v1 : Int32) (μ : Mem) (s0 : Int32) (N : Nat) (sN : Int32) (eN : sN = fo N (g_X10_weightOf_4 v1 μ) s0) (hN : ∀ i, i < N → Pb_X10_weightOf_4 v1 μ i (fo i (g_X10_weightOf_4 v1 μ) s0)) {t : Nat} {Q : PQ} {X : PX} (h : R G mX10_weightOf 4 [(0, .ref (ga G 57)), (1, .int v1), (2, .int sN), (3, .int (nI N))] [] μ t Q X) : R G mX10_weightOf 4 [(0, .ref (ga G 57)), (1, .int v1), (2, .int s0), (3, .int 0)] [] μ t Q X := by
  subst eN
  refine down_i N (fun i => R G mX10_weightOf 4 [(0, .ref (ga G 57)), (1, .int v1), (2, .int (fo i (g_X10_weightOf_4 v1 μ) s0)), (3, .int (nI i))] [] μ t Q X) h (fun i hi hS => ?_)
  have hP := hN i hi
  rw [fo_succ] at hS
  rw [nI_succ] at hS
  generalize fo i (g_X10_weightOf_4 v1 μ) s0 = s at hS hP ⊢
  unfold Pb_X10_weightOf_4 at hP
  refine r_iload_n dX10_weightOf_4 3 rfl ?_
  refine r_aload_n dX10_weightOf_5 0 rfl ?_
  refine r_getR 61 fX10_23 (hG.lt (by decide)) sh57 fs57_12 dX10_weightOf_6 ?_
  refine r_iconst 1 dX10_weightOf_9 rfl ?_
  refine r_ialdK 1 rfl (hG.lt (by decide)) sh61 (vp_of (by decide) (by decide)) dX10_weightOf_10 ?_
  refine r_icmp_ge 43 dX10_weightOf_11 (by decide) (fun c1 => ?_) (fun c1 => ?_)
  · replace hP := hP.1 c1
    exact hP.elim
  · replace hP := hP.2 c1
    refine r_iload_n dX10_weightOf_14 2 rfl ?_
    refine r_iload_n dX10_weightOf_15 1 rfl ?_
    refine r_iload_n dX10_weightOf_16 3 rfl ?_
    refine r_csI (ok_X10_has hG v1 (nI i) μ) lX10_268 dX10_weightOf_17 (by decide) (Nat.le_of_ble_eq_true rfl) rfl (Nat.le_of_ble_eq_true rfl) ?_
    refine r_join 35 [(0, .ref (ga G 57)), (1, .int v1), (2, .int s), (3, .int (nI i))] [.int (VX10_weightOf_4_1 v1 μ i s), .int s] μ ?_ (fun hJ => ?_)
    · refine r_iadd dX10_weightOf_35 ?_
      refine r_istore_n [(2, _), (0, _), (1, _), (3, _)] dX10_weightOf_36 (Nat.le_of_ble_eq_true rfl) rfl ?_
      refine r_iinc ((nI i) + 1) [(3, _), (2, _), (0, _), (1, _)] dX10_weightOf_37 3 rfl rfl (Nat.le_of_ble_eq_true rfl) rfl ?_
      refine r_goto 4 dX10_weightOf_40 (by decide) ?_
      have e : g_X10_weightOf_4 v1 μ i s = (s + (VX10_weightOf_4_1 v1 μ i s)) := by unfold g_X10_weightOf_4; rfl
      rw [e] at hS
      exact r_sub [2, 3, 1, 0] rfl hS
    · refine r_if_eq 34 dX10_weightOf_20 (by decide) (fun c2 => ?_) (fun c2 => ?_)
      · replace hP := hP.1 c2
        refine r_iconst 0 dX10_weightOf_34 rfl ?_
        have e : (VX10_weightOf_4_1 v1 μ i s) = 0 := by unfold VX10_weightOf_4_1; rw [if_pos c2]
        rw [e] at hJ
        exact r_sub [0, 1, 2, 3] rfl hJ
      · replace hP := hP.2 c2
        refine r_aload_n dX10_weightOf_23 0 rfl ?_
        refine r_getR 77 fX10_43 (hG.lt (by decide)) sh57 fs57_18 dX10_weightOf_24 ?_
        refine r_iload_n dX10_weightOf_27 3 rfl ?_
        have hs1 := hP
        refine r_aald (hG.lt (by decide)) sh77 hs1 dX10_weightOf_28 ?_
        refine r_iconst 1 dX10_weightOf_29 rfl ?_
        refine r_ialdK 1 rfl (ltR (vp_ix hs1) (by decide) hG) (shr77 _ (vp_ix hs1)) (vp_of (by decide) (by decide)) dX10_weightOf_30 ?_
        refine r_goto 35 dX10_weightOf_31 (by decide) ?_
        have e : (VX10_weightOf_4_1 v1 μ i s) = (μ (78 + (ix (nI i))) 1) := by unfold VX10_weightOf_4_1; rw [if_neg c2]
        rw [e] at hJ
        exact r_sub [0, 1, 2, 3] rfl hJ
def NX10_weightOf_4 (p1 : Int32) (μ : Mem) : Nat := ix (μ 61 1)
def SX10_weightOf_4 (p1 : Int32) (μ : Mem) : Int32 := fo (NX10_weightOf_4 p1 μ) (g_X10_weightOf_4 p1 μ) 0
def VX10_weightOf_1 (p1 : Int32) (μ : Mem) : Int32 := (if (F_X10_has p1 (nI (NX10_weightOf_4 p1 μ)) μ) = 0 then 0 else (μ (78 + (ix (nI (NX10_weightOf_4 p1 μ)))) 1))
def F_X10_weightOf (p1 : Int32) (μ : Mem) : Int32 := (SX10_weightOf_4 p1 μ)
def P_X10_weightOf (p1 : Int32) (μ : Mem) : Prop := ((∀ j9, j9 < (NX10_weightOf_4 p1 μ) → Pb_X10_weightOf_4 p1 μ j9 (fo j9 (g_X10_weightOf_4 p1 μ) 0)) ∧ (((μ 61 1) ≤ (nI (NX10_weightOf_4 p1 μ)) → True) ∧ ((nI (NX10_weightOf_4 p1 μ)) < (μ 61 1) → ((((F_X10_has p1 (nI (NX10_weightOf_4 p1 μ)) μ) = 0 → True) ∧ (¬ (F_X10_has p1 (nI (NX10_weightOf_4 p1 μ)) μ) = 0 → (vp_in (nI (NX10_weightOf_4 p1 μ)) 10))) ∧ False))))
set_option maxRecDepth 20000 in
set_option maxHeartbeats 2000000 in
theorem ok_X10_weightOf {G : SG} (hG : GK 548 G) (p1 : Int32) (μ : Mem) (hP : P_X10_weightOf p1 μ) : OkF G mX10_weightOf [.ref (ga G 57), .int p1] μ (some (.int (F_X10_weightOf p1 μ))) μ := by
  refine okF_of hG rfl rfl (Nat.le_of_ble_eq_true rfl) ?_
  unfold P_X10_weightOf at hP
  refine r_iconst 0 dX10_weightOf_0 rfl ?_
  refine r_istore_n [(2, _), (0, _), (1, _)] dX10_weightOf_1 (Nat.le_of_ble_eq_true rfl) rfl ?_
  refine r_iconst 0 dX10_weightOf_2 rfl ?_
  refine r_istore_n [(3, _), (2, _), (0, _), (1, _)] dX10_weightOf_3 (Nat.le_of_ble_eq_true rfl) rfl ?_
  have hs1 := hP.1
  replace hP := hP.2
  refine r_sub [2, 3, 1, 0] rfl ?_
  refine lp_X10_weightOf_4 hG p1 μ 0 ((NX10_weightOf_4 p1 μ)) (SX10_weightOf_4 p1 μ) rfl hs1 ?_
  refine r_iload_n dX10_weightOf_4 3 rfl ?_
  refine r_aload_n dX10_weightOf_5 0 rfl ?_
  refine r_getR 61 fX10_23 (hG.lt (by decide)) sh57 fs57_12 dX10_weightOf_6 ?_
  refine r_iconst 1 dX10_weightOf_9 rfl ?_
  refine r_ialdK 1 rfl (hG.lt (by decide)) sh61 (vp_of (by decide) (by decide)) dX10_weightOf_10 ?_
  refine r_icmp_ge 43 dX10_weightOf_11 (by decide) (fun c1 => ?_) (fun c1 => ?_)
  · replace hP := hP.1 c1
    refine r_iload_n dX10_weightOf_43 2 rfl ?_
    exact r_ireturn _ dX10_weightOf_44 rfl rfl ⟨congrArg (fun z => some (Value.int z)) (rfl), rfl⟩
  · replace hP := hP.2 c1
    refine r_iload_n dX10_weightOf_14 2 rfl ?_
    refine r_iload_n dX10_weightOf_15 1 rfl ?_
    refine r_iload_n dX10_weightOf_16 3 rfl ?_
    refine r_csI (ok_X10_has hG p1 (nI (NX10_weightOf_4 p1 μ)) μ) lX10_268 dX10_weightOf_17 (by decide) (Nat.le_of_ble_eq_true rfl) rfl (Nat.le_of_ble_eq_true rfl) ?_
    refine r_join 35 [(0, .ref (ga G 57)), (1, .int p1), (2, .int (SX10_weightOf_4 p1 μ)), (3, .int (nI (NX10_weightOf_4 p1 μ)))] [.int (VX10_weightOf_1 p1 μ), .int (SX10_weightOf_4 p1 μ)] μ ?_ (fun hJ => ?_)
    · replace hP := hP.2
      refine r_iadd dX10_weightOf_35 ?_
      refine r_istore_n [(2, _), (0, _), (1, _), (3, _)] dX10_weightOf_36 (Nat.le_of_ble_eq_true rfl) rfl ?_
      refine r_iinc ((nI (NX10_weightOf_4 p1 μ)) + 1) [(3, _), (2, _), (0, _), (1, _)] dX10_weightOf_37 3 rfl rfl (Nat.le_of_ble_eq_true rfl) rfl ?_
      refine r_goto 4 dX10_weightOf_40 (by decide) ?_
      exact hP.elim
    · replace hP := hP.1
      refine r_if_eq 34 dX10_weightOf_20 (by decide) (fun c2 => ?_) (fun c2 => ?_)
      · replace hP := hP.1 c2
        refine r_iconst 0 dX10_weightOf_34 rfl ?_
        have e : (VX10_weightOf_1 p1 μ) = 0 := by unfold VX10_weightOf_1; rw [if_pos c2]
        rw [e] at hJ
        exact r_sub [0, 1, 2, 3] rfl hJ
      · replace hP := hP.2 c2
        refine r_aload_n dX10_weightOf_23 0 rfl ?_
        refine r_getR 77 fX10_43 (hG.lt (by decide)) sh57 fs57_18 dX10_weightOf_24 ?_
        refine r_iload_n dX10_weightOf_27 3 rfl ?_
        have hs3 := hP
        refine r_aald (hG.lt (by decide)) sh77 hs3 dX10_weightOf_28 ?_
        refine r_iconst 1 dX10_weightOf_29 rfl ?_
        refine r_ialdK 1 rfl (ltR (vp_ix hs3) (by decide) hG) (shr77 _ (vp_ix hs3)) (vp_of (by decide) (by decide)) dX10_weightOf_30 ?_
        refine r_goto 35 dX10_weightOf_31 (by decide) ?_
        have e : (VX10_weightOf_1 p1 μ) = (μ (78 + (ix (nI (NX10_weightOf_4 p1 μ)))) 1) := by unfold VX10_weightOf_1; rw [if_neg c2]
        rw [e] at hJ
        exact r_sub [0, 1, 2, 3] rfl hJ
def muX10_carry_1 (p1 : Int32) (p2 : Int32) (p3 : Int32) (μ : Mem) : Mem := (upm μ 57 0 0)
def VX10_carry_2 (p1 : Int32) (p2 : Int32) (p3 : Int32) (μ : Mem) : Int32 := (if (F_X10_isIn p1 0 99 (muX10_carry_1 p1 p2 p3 μ)) = 0 then 1 else (if (F_X10_isIn p2 0 24 (muX10_carry_1 p1 p2 p3 μ)) = 0 then 1 else (if (F_X10_isIn p3 0 1 (muX10_carry_1 p1 p2 p3 μ)) ≠ 0 then 0 else 1)))
theorem bo_VX10_carry_2 (p1 : Int32) (p2 : Int32) (p3 : Int32) (μ : Mem) : (VX10_carry_2 p1 p2 p3 μ) = 0 ∨ (VX10_carry_2 p1 p2 p3 μ) = 1 := by
  unfold VX10_carry_2
  split
  · exact Or.inr rfl
  · split
    · exact Or.inr rfl
    · split
      · exact Or.inl rfl
      · exact Or.inr rfl
def muX10_carry_3 (p1 : Int32) (p2 : Int32) (p3 : Int32) (μ : Mem) : Mem := (M_X10_bad (VX10_carry_2 p1 p2 p3 μ) 1 1 (muX10_carry_1 p1 p2 p3 μ))
def muX10_carry_65_1 (v1 : Int32) (v2 : Int32) (v3 : Int32) (v6 : Int32) (i : Nat) (s : Int32 × Int32 × Mem) : Mem := (M_X10_copies 521 522 s.2.2)
def VX10_carry_115_1 (v1 : Int32) (v2 : Int32) (v3 : Int32) (v4 : Int32) (v5 : Int32) (v6 : Int32) (v7 : Int32) (i : Nat) (s : Mem) : Int32 := (if (F_X10_has v7 (nI i) s) = 0 then (s 522 (ix (10 + (nI i)))) else 1)
def muX10_carry_115_2 (v1 : Int32) (v2 : Int32) (v3 : Int32) (v4 : Int32) (v5 : Int32) (v6 : Int32) (v7 : Int32) (i : Nat) (s : Mem) : Mem := (upm s 522 (ix (10 + (nI i))) (VX10_carry_115_1 v1 v2 v3 v4 v5 v6 v7 i s))
def g_X10_carry_115 (v1 : Int32) (v2 : Int32) (v3 : Int32) (v4 : Int32) (v5 : Int32) (v6 : Int32) (v7 : Int32) (i : Nat) (s : Mem) : Mem := (muX10_carry_115_2 v1 v2 v3 v4 v5 v6 v7 i s)
def Pb_X10_carry_115 (v1 : Int32) (v2 : Int32) (v3 : Int32) (v4 : Int32) (v5 : Int32) (v6 : Int32) (v7 : Int32) (i : Nat) (s : Mem) : Prop := (((s 61 1) ≤ (nI i) → False) ∧ ((nI i) < (s 61 1) → ((((F_X10_has v7 (nI i) s) = 0 → vp_in (10 + (nI i)) 63) ∧ (¬ (F_X10_has v7 (nI i) s) = 0 → True)) ∧ vp_in (10 + (nI i)) 63)))
set_option maxRecDepth 20000 in
set_option maxHeartbeats 2000000 in
theorem lp_X10_carry_115 {G : SG} (hG : GK 548 G)  (v1 : Int32) (v2 : Int32) (v3 : Int32) (v4 : Int32) (v5 : Int32) (v6 : Int32) (v7 : Int32) (s0 : Mem) (N : Nat) (sN : Mem) (eN : sN = fo N (g_X10_carry_115 v1 v2 v3 v4 v5 v6 v7) s0) (hN : ∀ i, i < N → Pb_X10_carry_115 v1 v2 v3 v4 v5 v6 v7 i (fo i (g_X10_carry_115 v1 v2 v3 v4 v5 v6 v7) s0)) {t : Nat} {Q : PQ} {X : PX} (h : R G mX10_carry 115 [(0, .ref (ga G 57)), (1, .int v1), (2, .int v2), (3, .int v3), (4, .int v4), (5, .int v5), (6, .int v6), (7, .int v7), (8, .int (nI N))] [] sN t Q X) : R G mX10_carry 115 [(0, .ref (ga G 57)), (1, .int v1), (2, .int v2), (3, .int v3), (4, .int v4), (5, .int v5), (6, .int v6), (7, .int v7), (8, .int 0)] [] s0 t Q X := by
  subst eN
  refine down_i N (fun i => R G mX10_carry 115 [(0, .ref (ga G 57)), (1, .int v1), (2, .int v2), (3, .int v3), (4, .int v4), (5, .int v5), (6, .int v6), (7, .int v7), (8, .int (nI i))] [] (fo i (g_X10_carry_115 v1 v2 v3 v4 v5 v6 v7) s0) t Q X) h (fun i hi hS => ?_)
  have hP := hN i hi
  rw [fo_succ] at hS
  rw [nI_succ] at hS
  generalize fo i (g_X10_carry_115 v1 v2 v3 v4 v5 v6 v7) s0 = s at hS hP ⊢
  unfold Pb_X10_carry_115 at hP
  refine r_iload dX10_carry_115 8 rfl ?_
  refine r_aload_n dX10_carry_117 0 rfl ?_
  refine r_getR 61 fX10_23 (hG.lt (by decide)) sh57 fs57_12 dX10_carry_118 ?_
  refine r_iconst 1 dX10_carry_121 rfl ?_
  refine r_ialdK 1 rfl (hG.lt (by decide)) sh61 (vp_of (by decide) (by decide)) dX10_carry_122 ?_
  refine r_icmp_ge 166 dX10_carry_123 (by decide) (fun c1 => ?_) (fun c1 => ?_)
  · replace hP := hP.1 c1
    exact hP.elim
  · replace hP := hP.2 c1
    refine r_aload_n dX10_carry_126 0 rfl ?_
    refine r_getR 522 fX10_76 (hG.lt (by decide)) sh57 fs57_32 dX10_carry_127 ?_
    refine r_bipush 10 dX10_carry_130 rfl ?_
    refine r_iload dX10_carry_132 8 rfl ?_
    refine r_iadd dX10_carry_134 ?_
    refine r_iload dX10_carry_135 7 rfl ?_
    refine r_iload dX10_carry_137 8 rfl ?_
    refine r_csI (ok_X10_has hG v7 (nI i) s) lX10_268 dX10_carry_139 (by decide) (Nat.le_of_ble_eq_true rfl) rfl (Nat.le_of_ble_eq_true rfl) ?_
    refine r_join 159 [(0, .ref (ga G 57)), (1, .int v1), (2, .int v2), (3, .int v3), (4, .int v4), (5, .int v5), (6, .int v6), (7, .int v7), (8, .int (nI i))] [.int (VX10_carry_115_1 v1 v2 v3 v4 v5 v6 v7 i s), .int (10 + (nI i)), .ref (ga G 522)] s ?_ (fun hJ => ?_)
    · replace hP := hP.2
      have hs2 := hP
      refine r_iast (hG.lt (by decide)) sh522 hs2 dX10_carry_159 ?_
      refine r_mu (muX10_carry_115_2 v1 v2 v3 v4 v5 v6 v7 i s) rfl ?_
      refine r_iinc ((nI i) + 1) [(8, _), (0, _), (1, _), (2, _), (3, _), (4, _), (5, _), (6, _), (7, _)] dX10_carry_160 8 rfl rfl (Nat.le_of_ble_eq_true rfl) rfl ?_
      refine r_goto 115 dX10_carry_163 (by decide) ?_
      have e : g_X10_carry_115 v1 v2 v3 v4 v5 v6 v7 i s = (muX10_carry_115_2 v1 v2 v3 v4 v5 v6 v7 i s) := by unfold g_X10_carry_115; rfl
      rw [e] at hS
      exact r_sub [1, 2, 3, 4, 5, 6, 7, 8, 0] rfl hS
    · replace hP := hP.1
      refine r_if_eq 149 dX10_carry_142 (by decide) (fun c2 => ?_) (fun c2 => ?_)
      · replace hP := hP.1 c2
        refine r_aload_n dX10_carry_149 0 rfl ?_
        refine r_getR 522 fX10_76 (hG.lt (by decide)) sh57 fs57_32 dX10_carry_150 ?_
        refine r_bipush 10 dX10_carry_153 rfl ?_
        refine r_iload dX10_carry_155 8 rfl ?_
        refine r_iadd dX10_carry_157 ?_
        have hs1 := hP
        refine r_iald (hG.lt (by decide)) sh522 hs1 dX10_carry_158 ?_
        have e : (VX10_carry_115_1 v1 v2 v3 v4 v5 v6 v7 i s) = (s 522 (ix (10 + (nI i)))) := by unfold VX10_carry_115_1; rw [if_pos c2]
        rw [e] at hJ
        exact r_sub [0, 1, 2, 3, 4, 5, 6, 7, 8] rfl hJ
      · replace hP := hP.2 c2
        refine r_iconst 1 dX10_carry_145 rfl ?_
        refine r_goto 159 dX10_carry_146 (by decide) ?_
        have e : (VX10_carry_115_1 v1 v2 v3 v4 v5 v6 v7 i s) = 1 := by unfold VX10_carry_115_1; rw [if_neg c2]
        rw [e] at hJ
        exact r_sub [0, 1, 2, 3, 4, 5, 6, 7, 8] rfl hJ
def NX10_carry_65_115 (v1 : Int32) (v2 : Int32) (v3 : Int32) (v6 : Int32) (i : Nat) (s : Int32 × Int32 × Mem) : Nat := ix ((muX10_carry_65_1 v1 v2 v3 v6 i s) 61 1)
def SX10_carry_65_115 (v1 : Int32) (v2 : Int32) (v3 : Int32) (v6 : Int32) (i : Nat) (s : Int32 × Int32 × Mem) : Mem := fo (NX10_carry_65_115 v1 v2 v3 v6 i s) (g_X10_carry_115 v1 v2 v3 s.1 s.2.1 v6 (nI i)) (muX10_carry_65_1 v1 v2 v3 v6 i s)
def muX10_carry_65_2 (v1 : Int32) (v2 : Int32) (v3 : Int32) (v6 : Int32) (i : Nat) (s : Int32 × Int32 × Mem) : Mem := (M_X10_goesOn v2 (SX10_carry_65_115 v1 v2 v3 v6 i s))
def VX10_carry_65_3 (v1 : Int32) (v2 : Int32) (v3 : Int32) (v6 : Int32) (i : Nat) (s : Int32 × Int32 × Mem) : Int32 := (if s.2.1 < (F_X10_worthIn 522 (muX10_carry_65_2 v1 v2 v3 v6 i s)) then (F_X10_worthIn 522 (muX10_carry_65_2 v1 v2 v3 v6 i s)) else s.2.1)
def VX10_carry_65_4 (v1 : Int32) (v2 : Int32) (v3 : Int32) (v6 : Int32) (i : Nat) (s : Int32 × Int32 × Mem) : Int32 := (if s.2.1 < (F_X10_worthIn 522 (muX10_carry_65_2 v1 v2 v3 v6 i s)) then (nI i) else s.1)
def VX10_carry_65_5 (v1 : Int32) (v2 : Int32) (v3 : Int32) (v6 : Int32) (i : Nat) (s : Int32 × Int32 × Mem) : Int32 := (if (F_X10_has (nI i) (nI (NX10_carry_65_115 v1 v2 v3 v6 i s)) (SX10_carry_65_115 v1 v2 v3 v6 i s)) = 0 then ((SX10_carry_65_115 v1 v2 v3 v6 i s) 522 (ix (10 + (nI (NX10_carry_65_115 v1 v2 v3 v6 i s))))) else 1)
def muX10_carry_65_6 (v1 : Int32) (v2 : Int32) (v3 : Int32) (v6 : Int32) (i : Nat) (s : Int32 × Int32 × Mem) : Mem := (upm (SX10_carry_65_115 v1 v2 v3 v6 i s) 522 (ix (10 + (nI (NX10_carry_65_115 v1 v2 v3 v6 i s)))) (VX10_carry_65_5 v1 v2 v3 v6 i s))
def g_X10_carry_65 (v1 : Int32) (v2 : Int32) (v3 : Int32) (v6 : Int32) (i : Nat) (s : Int32 × Int32 × Mem) : Int32 × Int32 × Mem := (if ((nI i) &&& (v6 ^^^ ((-1) : Int32))) ≠ 0 then (s.1, s.2.1, s.2.2) else (if (F_X10_weightOf (nI i) s.2.2) ≤ v1 then ((VX10_carry_65_4 v1 v2 v3 v6 i s), (VX10_carry_65_3 v1 v2 v3 v6 i s), (muX10_carry_65_2 v1 v2 v3 v6 i s)) else (s.1, s.2.1, s.2.2)))
def Pb_X10_carry_65 (v1 : Int32) (v2 : Int32) (v3 : Int32) (v6 : Int32) (i : Nat) (s : Int32 × Int32 × Mem) : Prop := ((((1 : Int32) <<< ((s.2.2 61 1) &&& 31)) ≤ (nI i) → False) ∧ ((nI i) < ((1 : Int32) <<< ((s.2.2 61 1) &&& 31)) → ((((nI i) &&& (v6 ^^^ ((-1) : Int32))) ≠ 0 → True) ∧ (((nI i) &&& (v6 ^^^ ((-1) : Int32))) = 0 → (P_X10_weightOf (nI i) s.2.2) ∧ (((F_X10_weightOf (nI i) s.2.2) ≤ v1 → (P_X10_copies 521 522 s.2.2) ∧ (∀ j9, j9 < (NX10_carry_65_115 v1 v2 v3 v6 i s) → Pb_X10_carry_115 v1 v2 v3 s.1 s.2.1 v6 (nI i) j9 (fo j9 (g_X10_carry_115 v1 v2 v3 s.1 s.2.1 v6 (nI i)) (muX10_carry_65_1 v1 v2 v3 v6 i s))) ∧ ((((SX10_carry_65_115 v1 v2 v3 v6 i s) 61 1) ≤ (nI (NX10_carry_65_115 v1 v2 v3 v6 i s)) → (P_X10_goesOn v2 (SX10_carry_65_115 v1 v2 v3 v6 i s)) ∧ (P_X10_worthIn 522 (muX10_carry_65_2 v1 v2 v3 v6 i s)) ∧ ((s.2.1 < (F_X10_worthIn 522 (muX10_carry_65_2 v1 v2 v3 v6 i s)) → P_X10_worthIn 522 (muX10_carry_65_2 v1 v2 v3 v6 i s)) ∧ ((F_X10_worthIn 522 (muX10_carry_65_2 v1 v2 v3 v6 i s)) ≤ s.2.1 → True))) ∧ ((nI (NX10_carry_65_115 v1 v2 v3 v6 i s)) < ((SX10_carry_65_115 v1 v2 v3 v6 i s) 61 1) → ((((F_X10_has (nI i) (nI (NX10_carry_65_115 v1 v2 v3 v6 i s)) (SX10_carry_65_115 v1 v2 v3 v6 i s)) = 0 → vp_in (10 + (nI (NX10_carry_65_115 v1 v2 v3 v6 i s))) 63) ∧ (¬ (F_X10_has (nI i) (nI (NX10_carry_65_115 v1 v2 v3 v6 i s)) (SX10_carry_65_115 v1 v2 v3 v6 i s)) = 0 → True)) ∧ (vp_in (10 + (nI (NX10_carry_65_115 v1 v2 v3 v6 i s))) 63) ∧ False)))) ∧ (v1 < (F_X10_weightOf (nI i) s.2.2) → True))))))
set_option maxRecDepth 20000 in
set_option maxHeartbeats 2000000 in
theorem lp_X10_carry_65 {G : SG} (hG : GK 548 G)  (v1 : Int32) (v2 : Int32) (v3 : Int32) (v6 : Int32) (s0 : Int32 × Int32 × Mem) (N : Nat) (sN : Int32 × Int32 × Mem) (eN : sN = fo N (g_X10_carry_65 v1 v2 v3 v6) s0) (hN : ∀ i, i < N → Pb_X10_carry_65 v1 v2 v3 v6 i (fo i (g_X10_carry_65 v1 v2 v3 v6) s0)) {t : Nat} {Q : PQ} {X : PX} (h : R G mX10_carry 65 [(0, .ref (ga G 57)), (1, .int v1), (2, .int v2), (3, .int v3), (4, .int (sN).1), (5, .int (sN).2.1), (6, .int v6), (7, .int (nI N))] [] (sN).2.2 t Q X) : R G mX10_carry 65 [(0, .ref (ga G 57)), (1, .int v1), (2, .int v2), (3, .int v3), (4, .int (s0).1), (5, .int (s0).2.1), (6, .int v6), (7, .int 0)] [] (s0).2.2 t Q X := by
  subst eN
  refine down_i N (fun i => R G mX10_carry 65 [(0, .ref (ga G 57)), (1, .int v1), (2, .int v2), (3, .int v3), (4, .int ((fo i (g_X10_carry_65 v1 v2 v3 v6) s0)).1), (5, .int ((fo i (g_X10_carry_65 v1 v2 v3 v6) s0)).2.1), (6, .int v6), (7, .int (nI i))] [] ((fo i (g_X10_carry_65 v1 v2 v3 v6) s0)).2.2 t Q X) h (fun i hi hS => ?_)
  have hP := hN i hi
  rw [fo_succ] at hS
  rw [nI_succ] at hS
  generalize fo i (g_X10_carry_65 v1 v2 v3 v6) s0 = s at hS hP ⊢
  unfold Pb_X10_carry_65 at hP
  refine r_iload dX10_carry_65 7 rfl ?_
  refine r_iconst 1 dX10_carry_67 rfl ?_
  refine r_aload_n dX10_carry_68 0 rfl ?_
  refine r_getR 61 fX10_23 (hG.lt (by decide)) sh57 fs57_12 dX10_carry_69 ?_
  refine r_iconst 1 dX10_carry_72 rfl ?_
  refine r_ialdK 1 rfl (hG.lt (by decide)) sh61 (vp_of (by decide) (by decide)) dX10_carry_73 ?_
  refine r_ishl dX10_carry_74 rfl ?_
  refine r_icmp_ge 207 dX10_carry_75 (by decide) (fun c1 => ?_) (fun c1 => ?_)
  · replace hP := hP.1 c1
    exact hP.elim
  · replace hP := hP.2 c1
    refine r_iload dX10_carry_78 7 rfl ?_
    refine r_iload dX10_carry_80 6 rfl ?_
    refine r_iconst (-1) dX10_carry_82 rfl ?_
    refine r_ixor dX10_carry_83 ?_
    refine r_iand dX10_carry_84 ?_
    refine r_if_ne 201 dX10_carry_85 (by decide) (fun c2 => ?_) (fun c2 => ?_)
    · replace hP := hP.1 c2
      refine r_iinc ((nI i) + 1) [(7, _), (0, _), (1, _), (2, _), (3, _), (4, _), (5, _), (6, _)] dX10_carry_201 7 rfl rfl (Nat.le_of_ble_eq_true rfl) rfl ?_
      refine r_goto 65 dX10_carry_204 (by decide) ?_
      have e : g_X10_carry_65 v1 v2 v3 v6 i s = (s.1, s.2.1, s.2.2) := by unfold g_X10_carry_65; rw [if_pos c2]
      rw [e] at hS
      dsimp only at hS
      exact r_sub [1, 2, 3, 4, 5, 6, 7, 0] rfl hS
    · replace hP := hP.2 c2
      refine r_aload_n dX10_carry_88 0 rfl ?_
      refine r_iload dX10_carry_89 7 rfl ?_
      have hs11 := hP.1
      replace hP := hP.2
      refine r_cvI (ok_X10_weightOf hG (nI i) s.2.2 hs11) lX10_368 (hG.lt (by decide)) sh57 ⟨_, _, rfl⟩ dX10_carry_91 (by decide) (Nat.le_of_ble_eq_true rfl) rfl (Nat.le_of_ble_eq_true rfl) ?_
      refine r_iload_n dX10_carry_94 1 rfl ?_
      refine r_icmp_le 101 dX10_carry_95 (by decide) (fun c3 => ?_) (fun c3 => ?_)
      · replace hP := hP.1 c3
        refine r_aload_n dX10_carry_101 0 rfl ?_
        refine r_getR 521 fX10_73 (hG.lt (by decide)) sh57 fs57_31 dX10_carry_102 ?_
        refine r_aload_n dX10_carry_105 0 rfl ?_
        refine r_getR 522 fX10_76 (hG.lt (by decide)) sh57 fs57_32 dX10_carry_106 ?_
        have hs21 := hP.1
        replace hP := hP.2
        refine r_csV (ok_X10_copies hG (hG.lt (by decide)) sh521 (hG.lt (by decide)) sh522 s.2.2 hs21) lX10_333 dX10_carry_109 (by decide) (Nat.le_of_ble_eq_true rfl) rfl (Nat.le_of_ble_eq_true rfl) ?_
        refine r_mu (muX10_carry_65_1 v1 v2 v3 v6 i s) rfl ?_
        refine r_iconst 0 dX10_carry_112 rfl ?_
        refine r_istore [(8, _), (0, _), (1, _), (2, _), (3, _), (4, _), (5, _), (6, _), (7, _)] dX10_carry_113 (Nat.le_of_ble_eq_true rfl) rfl ?_
        have hs22 := hP.1
        replace hP := hP.2
        refine r_sub [1, 2, 3, 4, 5, 6, 7, 8, 0] rfl ?_
        refine lp_X10_carry_115 hG v1 v2 v3 s.1 s.2.1 v6 (nI i) (muX10_carry_65_1 v1 v2 v3 v6 i s) ((NX10_carry_65_115 v1 v2 v3 v6 i s)) (SX10_carry_65_115 v1 v2 v3 v6 i s) rfl hs22 ?_
        refine r_iload dX10_carry_115 8 rfl ?_
        refine r_aload_n dX10_carry_117 0 rfl ?_
        refine r_getR 61 fX10_23 (hG.lt (by decide)) sh57 fs57_12 dX10_carry_118 ?_
        refine r_iconst 1 dX10_carry_121 rfl ?_
        refine r_ialdK 1 rfl (hG.lt (by decide)) sh61 (vp_of (by decide) (by decide)) dX10_carry_122 ?_
        refine r_icmp_ge 166 dX10_carry_123 (by decide) (fun c4 => ?_) (fun c4 => ?_)
        · replace hP := hP.1 c4
          refine r_aload_n dX10_carry_166 0 rfl ?_
          refine r_iload_n dX10_carry_167 2 rfl ?_
          have hs25 := hP.1
          replace hP := hP.2
          refine r_cvV (ok_X10_goesOn hG v2 (SX10_carry_65_115 v1 v2 v3 v6 i s) hs25) lX10_353 (hG.lt (by decide)) sh57 ⟨_, _, rfl⟩ dX10_carry_168 (by decide) (Nat.le_of_ble_eq_true rfl) rfl (Nat.le_of_ble_eq_true rfl) ?_
          refine r_mu (muX10_carry_65_2 v1 v2 v3 v6 i s) rfl ?_
          refine r_aload_n dX10_carry_171 0 rfl ?_
          refine r_aload_n dX10_carry_172 0 rfl ?_
          refine r_getR 522 fX10_76 (hG.lt (by decide)) sh57 fs57_32 dX10_carry_173 ?_
          have hs26 := hP.1
          replace hP := hP.2
          refine r_cvI (ok_X10_worthIn hG (hG.lt (by decide)) sh522 (muX10_carry_65_2 v1 v2 v3 v6 i s) hs26) lX10_341 (hG.lt (by decide)) sh57 ⟨_, _, rfl⟩ dX10_carry_176 (by decide) (Nat.le_of_ble_eq_true rfl) rfl (Nat.le_of_ble_eq_true rfl) ?_
          refine r_iload dX10_carry_179 5 rfl ?_
          refine r_join 201 [(5, .int (VX10_carry_65_3 v1 v2 v3 v6 i s)), (4, .int (VX10_carry_65_4 v1 v2 v3 v6 i s)), (0, .ref (ga G 57)), (1, .int v1), (2, .int v2), (3, .int v3), (6, .int v6), (7, .int (nI i)), (8, .int (nI (NX10_carry_65_115 v1 v2 v3 v6 i s)))] [] (muX10_carry_65_2 v1 v2 v3 v6 i s) ?_ (fun hJ => ?_)
          · refine r_iinc ((nI i) + 1) [(7, _), (5, _), (4, _), (0, _), (1, _), (2, _), (3, _), (6, _), (8, _)] dX10_carry_201 7 rfl rfl (Nat.le_of_ble_eq_true rfl) rfl ?_
            refine r_goto 65 dX10_carry_204 (by decide) ?_
            have e : g_X10_carry_65 v1 v2 v3 v6 i s = ((VX10_carry_65_4 v1 v2 v3 v6 i s), (VX10_carry_65_3 v1 v2 v3 v6 i s), (muX10_carry_65_2 v1 v2 v3 v6 i s)) := by unfold g_X10_carry_65; rw [if_neg (not_not_intro c2), if_pos c3]
            rw [e] at hS
            dsimp only at hS
            exact r_sub [3, 4, 5, 6, 2, 1, 7, 0] rfl hS
          · refine r_icmp_gt 187 dX10_carry_181 (by decide) (fun c5 => ?_) (fun c5 => ?_)
            · replace hP := hP.1 c5
              refine r_iload dX10_carry_187 7 rfl ?_
              refine r_istore [(4, _), (0, _), (1, _), (2, _), (3, _), (5, _), (6, _), (7, _), (8, _)] dX10_carry_189 (Nat.le_of_ble_eq_true rfl) rfl ?_
              refine r_aload_n dX10_carry_191 1 rfl ?_
              refine r_aload_n dX10_carry_192 1 rfl ?_
              refine r_getR 522 fX10_76 (hG.lt (by decide)) sh57 fs57_32 dX10_carry_193 ?_
              have hs27 := hP
              refine r_cvI (ok_X10_worthIn hG (hG.lt (by decide)) sh522 (muX10_carry_65_2 v1 v2 v3 v6 i s) hs27) lX10_341 (hG.lt (by decide)) sh57 ⟨_, _, rfl⟩ dX10_carry_196 (by decide) (Nat.le_of_ble_eq_true rfl) rfl (Nat.le_of_ble_eq_true rfl) ?_
              refine r_istore [(5, _), (4, _), (0, _), (1, _), (2, _), (3, _), (6, _), (7, _), (8, _)] dX10_carry_199 (Nat.le_of_ble_eq_true rfl) rfl ?_
              have e : (VX10_carry_65_3 v1 v2 v3 v6 i s) = (F_X10_worthIn 522 (muX10_carry_65_2 v1 v2 v3 v6 i s)) := by unfold VX10_carry_65_3; rw [if_pos c5]
              rw [e] at hJ
              clear e
              have e : (VX10_carry_65_4 v1 v2 v3 v6 i s) = (nI i) := by unfold VX10_carry_65_4; rw [if_pos c5]
              rw [e] at hJ
              exact r_sub [0, 1, 2, 3, 4, 5, 6, 7, 8] rfl hJ
            · replace hP := hP.2 c5
              refine r_goto 201 dX10_carry_184 (by decide) ?_
              have e : (VX10_carry_65_3 v1 v2 v3 v6 i s) = s.2.1 := by unfold VX10_carry_65_3; rw [if_neg (i32_nl c5)]
              rw [e] at hJ
              clear e
              have e : (VX10_carry_65_4 v1 v2 v3 v6 i s) = s.1 := by unfold VX10_carry_65_4; rw [if_neg (i32_nl c5)]
              rw [e] at hJ
              exact r_sub [5, 4, 0, 1, 2, 3, 6, 7, 8] rfl hJ
        · replace hP := hP.2 c4
          refine r_aload_n dX10_carry_126 0 rfl ?_
          refine r_getR 522 fX10_76 (hG.lt (by decide)) sh57 fs57_32 dX10_carry_127 ?_
          refine r_bipush 10 dX10_carry_130 rfl ?_
          refine r_iload dX10_carry_132 8 rfl ?_
          refine r_iadd dX10_carry_134 ?_
          refine r_iload dX10_carry_135 7 rfl ?_
          refine r_iload dX10_carry_137 8 rfl ?_
          refine r_csI (ok_X10_has hG (nI i) (nI (NX10_carry_65_115 v1 v2 v3 v6 i s)) (SX10_carry_65_115 v1 v2 v3 v6 i s)) lX10_268 dX10_carry_139 (by decide) (Nat.le_of_ble_eq_true rfl) rfl (Nat.le_of_ble_eq_true rfl) ?_
          refine r_join 159 [(0, .ref (ga G 57)), (1, .int v1), (2, .int v2), (3, .int v3), (4, .int s.1), (5, .int s.2.1), (6, .int v6), (7, .int (nI i)), (8, .int (nI (NX10_carry_65_115 v1 v2 v3 v6 i s)))] [.int (VX10_carry_65_5 v1 v2 v3 v6 i s), .int (10 + (nI (NX10_carry_65_115 v1 v2 v3 v6 i s))), .ref (ga G 522)] (SX10_carry_65_115 v1 v2 v3 v6 i s) ?_ (fun hJ => ?_)
          · replace hP := hP.2
            have hs29 := hP.1
            replace hP := hP.2
            refine r_iast (hG.lt (by decide)) sh522 hs29 dX10_carry_159 ?_
            refine r_mu (muX10_carry_65_6 v1 v2 v3 v6 i s) rfl ?_
            refine r_iinc ((nI (NX10_carry_65_115 v1 v2 v3 v6 i s)) + 1) [(8, _), (0, _), (1, _), (2, _), (3, _), (4, _), (5, _), (6, _), (7, _)] dX10_carry_160 8 rfl rfl (Nat.le_of_ble_eq_true rfl) rfl ?_
            refine r_goto 115 dX10_carry_163 (by decide) ?_
            exact hP.elim
          · replace hP := hP.1
            refine r_if_eq 149 dX10_carry_142 (by decide) (fun c5 => ?_) (fun c5 => ?_)
            · replace hP := hP.1 c5
              refine r_aload_n dX10_carry_149 0 rfl ?_
              refine r_getR 522 fX10_76 (hG.lt (by decide)) sh57 fs57_32 dX10_carry_150 ?_
              refine r_bipush 10 dX10_carry_153 rfl ?_
              refine r_iload dX10_carry_155 8 rfl ?_
              refine r_iadd dX10_carry_157 ?_
              have hs28 := hP
              refine r_iald (hG.lt (by decide)) sh522 hs28 dX10_carry_158 ?_
              have e : (VX10_carry_65_5 v1 v2 v3 v6 i s) = ((SX10_carry_65_115 v1 v2 v3 v6 i s) 522 (ix (10 + (nI (NX10_carry_65_115 v1 v2 v3 v6 i s))))) := by unfold VX10_carry_65_5; rw [if_pos c5]
              rw [e] at hJ
              exact r_sub [0, 1, 2, 3, 4, 5, 6, 7, 8] rfl hJ
            · replace hP := hP.2 c5
              refine r_iconst 1 dX10_carry_145 rfl ?_
              refine r_goto 159 dX10_carry_146 (by decide) ?_
              have e : (VX10_carry_65_5 v1 v2 v3 v6 i s) = 1 := by unfold VX10_carry_65_5; rw [if_neg c5]
              rw [e] at hJ
              exact r_sub [0, 1, 2, 3, 4, 5, 6, 7, 8] rfl hJ
      · replace hP := hP.2 c3
        refine r_goto 201 dX10_carry_98 (by decide) ?_
        refine r_iinc ((nI i) + 1) [(7, _), (0, _), (1, _), (2, _), (3, _), (4, _), (5, _), (6, _)] dX10_carry_201 7 rfl rfl (Nat.le_of_ble_eq_true rfl) rfl ?_
        refine r_goto 65 dX10_carry_204 (by decide) ?_
        have e : g_X10_carry_65 v1 v2 v3 v6 i s = (s.1, s.2.1, s.2.2) := by unfold g_X10_carry_65; rw [if_neg (not_not_intro c2), if_neg (i32_ng c3)]
        rw [e] at hS
        dsimp only at hS
        exact r_sub [1, 2, 3, 4, 5, 6, 7, 0] rfl hS
def NX10_carry_65 (p1 : Int32) (p2 : Int32) (p3 : Int32) (μ : Mem) : Nat := 2 ^ ix ((muX10_carry_3 p1 p2 p3 μ) 61 1)
def SX10_carry_65 (p1 : Int32) (p2 : Int32) (p3 : Int32) (μ : Mem) : Int32 × Int32 × Mem := fo (NX10_carry_65 p1 p2 p3 μ) (g_X10_carry_65 p1 p2 p3 (F_X10_free  (muX10_carry_3 p1 p2 p3 μ))) (0, (-1), (muX10_carry_3 p1 p2 p3 μ))
def muX10_carry_4 (p1 : Int32) (p2 : Int32) (p3 : Int32) (μ : Mem) : Mem := (M_X10_copies 521 522 (SX10_carry_65 p1 p2 p3 μ).2.2)
def NX10_carry_115 (p1 : Int32) (p2 : Int32) (p3 : Int32) (μ : Mem) : Nat := ix ((muX10_carry_4 p1 p2 p3 μ) 61 1)
def SX10_carry_115 (p1 : Int32) (p2 : Int32) (p3 : Int32) (μ : Mem) : Mem := fo (NX10_carry_115 p1 p2 p3 μ) (g_X10_carry_115 p1 p2 p3 (SX10_carry_65 p1 p2 p3 μ).1 (SX10_carry_65 p1 p2 p3 μ).2.1 (F_X10_free  (muX10_carry_3 p1 p2 p3 μ)) (nI (NX10_carry_65 p1 p2 p3 μ))) (muX10_carry_4 p1 p2 p3 μ)
def muX10_carry_5 (p1 : Int32) (p2 : Int32) (p3 : Int32) (μ : Mem) : Mem := (M_X10_goesOn p2 (SX10_carry_115 p1 p2 p3 μ))
def VX10_carry_6 (p1 : Int32) (p2 : Int32) (p3 : Int32) (μ : Mem) : Int32 := (if (SX10_carry_65 p1 p2 p3 μ).2.1 < (F_X10_worthIn 522 (muX10_carry_5 p1 p2 p3 μ)) then (F_X10_worthIn 522 (muX10_carry_5 p1 p2 p3 μ)) else (SX10_carry_65 p1 p2 p3 μ).2.1)
def VX10_carry_7 (p1 : Int32) (p2 : Int32) (p3 : Int32) (μ : Mem) : Int32 := (if (SX10_carry_65 p1 p2 p3 μ).2.1 < (F_X10_worthIn 522 (muX10_carry_5 p1 p2 p3 μ)) then (nI (NX10_carry_65 p1 p2 p3 μ)) else (SX10_carry_65 p1 p2 p3 μ).1)
def VX10_carry_8 (p1 : Int32) (p2 : Int32) (p3 : Int32) (μ : Mem) : Int32 := (if (F_X10_has (nI (NX10_carry_65 p1 p2 p3 μ)) (nI (NX10_carry_115 p1 p2 p3 μ)) (SX10_carry_115 p1 p2 p3 μ)) = 0 then ((SX10_carry_115 p1 p2 p3 μ) 522 (ix (10 + (nI (NX10_carry_115 p1 p2 p3 μ))))) else 1)
def muX10_carry_9 (p1 : Int32) (p2 : Int32) (p3 : Int32) (μ : Mem) : Mem := (upm (SX10_carry_115 p1 p2 p3 μ) 522 (ix (10 + (nI (NX10_carry_115 p1 p2 p3 μ)))) (VX10_carry_8 p1 p2 p3 μ))
def F_X10_carry (p1 : Int32) (p2 : Int32) (p3 : Int32) (μ : Mem) : Int32 := (if (F_X10_bad (VX10_carry_2 p1 p2 p3 μ) 1 1 (muX10_carry_1 p1 p2 p3 μ)) = 0 then (if p3 ≠ 0 then (SX10_carry_65 p1 p2 p3 μ).1 else (SX10_carry_65 p1 p2 p3 μ).2.1) else 0)
def M_X10_carry (p1 : Int32) (p2 : Int32) (p3 : Int32) (μ : Mem) : Mem := (if (F_X10_bad (VX10_carry_2 p1 p2 p3 μ) 1 1 (muX10_carry_1 p1 p2 p3 μ)) = 0 then (SX10_carry_65 p1 p2 p3 μ).2.2 else (muX10_carry_3 p1 p2 p3 μ))
def P_X10_carry (p1 : Int32) (p2 : Int32) (p3 : Int32) (μ : Mem) : Prop := ((P_X10_bad (VX10_carry_2 p1 p2 p3 μ) 1 1 (muX10_carry_1 p1 p2 p3 μ)) ∧ (((F_X10_bad (VX10_carry_2 p1 p2 p3 μ) 1 1 (muX10_carry_1 p1 p2 p3 μ)) = 0 → ((P_X10_free  (muX10_carry_3 p1 p2 p3 μ)) ∧ ((∀ j9, j9 < (NX10_carry_65 p1 p2 p3 μ) → Pb_X10_carry_65 p1 p2 p3 (F_X10_free  (muX10_carry_3 p1 p2 p3 μ)) j9 (fo j9 (g_X10_carry_65 p1 p2 p3 (F_X10_free  (muX10_carry_3 p1 p2 p3 μ))) (0, (-1), (muX10_carry_3 p1 p2 p3 μ)))) ∧ ((((1 : Int32) <<< (((SX10_carry_65 p1 p2 p3 μ).2.2 61 1) &&& 31)) ≤ (nI (NX10_carry_65 p1 p2 p3 μ)) → True) ∧ ((nI (NX10_carry_65 p1 p2 p3 μ)) < ((1 : Int32) <<< (((SX10_carry_65 p1 p2 p3 μ).2.2 61 1) &&& 31)) → ((((nI (NX10_carry_65 p1 p2 p3 μ)) &&& ((F_X10_free  (muX10_carry_3 p1 p2 p3 μ)) ^^^ ((-1) : Int32))) ≠ 0 → False) ∧ (((nI (NX10_carry_65 p1 p2 p3 μ)) &&& ((F_X10_free  (muX10_carry_3 p1 p2 p3 μ)) ^^^ ((-1) : Int32))) = 0 → ((P_X10_weightOf (nI (NX10_carry_65 p1 p2 p3 μ)) (SX10_carry_65 p1 p2 p3 μ).2.2) ∧ (((F_X10_weightOf (nI (NX10_carry_65 p1 p2 p3 μ)) (SX10_carry_65 p1 p2 p3 μ).2.2) ≤ p1 → ((P_X10_copies 521 522 (SX10_carry_65 p1 p2 p3 μ).2.2) ∧ ((∀ j9, j9 < (NX10_carry_115 p1 p2 p3 μ) → Pb_X10_carry_115 p1 p2 p3 (SX10_carry_65 p1 p2 p3 μ).1 (SX10_carry_65 p1 p2 p3 μ).2.1 (F_X10_free  (muX10_carry_3 p1 p2 p3 μ)) (nI (NX10_carry_65 p1 p2 p3 μ)) j9 (fo j9 (g_X10_carry_115 p1 p2 p3 (SX10_carry_65 p1 p2 p3 μ).1 (SX10_carry_65 p1 p2 p3 μ).2.1 (F_X10_free  (muX10_carry_3 p1 p2 p3 μ)) (nI (NX10_carry_65 p1 p2 p3 μ))) (muX10_carry_4 p1 p2 p3 μ))) ∧ ((((SX10_carry_115 p1 p2 p3 μ) 61 1) ≤ (nI (NX10_carry_115 p1 p2 p3 μ)) → ((P_X10_goesOn p2 (SX10_carry_115 p1 p2 p3 μ)) ∧ ((P_X10_worthIn 522 (muX10_carry_5 p1 p2 p3 μ)) ∧ ((((SX10_carry_65 p1 p2 p3 μ).2.1 < (F_X10_worthIn 522 (muX10_carry_5 p1 p2 p3 μ)) → (P_X10_worthIn 522 (muX10_carry_5 p1 p2 p3 μ))) ∧ ((F_X10_worthIn 522 (muX10_carry_5 p1 p2 p3 μ)) ≤ (SX10_carry_65 p1 p2 p3 μ).2.1 → True)) ∧ False)))) ∧ ((nI (NX10_carry_115 p1 p2 p3 μ)) < ((SX10_carry_115 p1 p2 p3 μ) 61 1) → ((((F_X10_has (nI (NX10_carry_65 p1 p2 p3 μ)) (nI (NX10_carry_115 p1 p2 p3 μ)) (SX10_carry_115 p1 p2 p3 μ)) = 0 → (vp_in (10 + (nI (NX10_carry_115 p1 p2 p3 μ))) 63)) ∧ (¬ (F_X10_has (nI (NX10_carry_65 p1 p2 p3 μ)) (nI (NX10_carry_115 p1 p2 p3 μ)) (SX10_carry_115 p1 p2 p3 μ)) = 0 → True)) ∧ ((vp_in (10 + (nI (NX10_carry_115 p1 p2 p3 μ))) 63) ∧ False))))))) ∧ (p1 < (F_X10_weightOf (nI (NX10_carry_65 p1 p2 p3 μ)) (SX10_carry_65 p1 p2 p3 μ).2.2) → False)))))))))) ∧ (¬ (F_X10_bad (VX10_carry_2 p1 p2 p3 μ) 1 1 (muX10_carry_1 p1 p2 p3 μ)) = 0 → True)))
set_option maxRecDepth 20000 in
set_option maxHeartbeats 2000000 in
theorem ok_X10_carry {G : SG} (hG : GK 548 G) (p1 : Int32) (p2 : Int32) (p3 : Int32) (μ : Mem) (hP : P_X10_carry p1 p2 p3 μ) : OkF G mX10_carry [.ref (ga G 57), .int p1, .int p2, .int p3] μ (some (.int (F_X10_carry p1 p2 p3 μ))) (M_X10_carry p1 p2 p3 μ) := by
  refine okF_of hG rfl rfl (Nat.le_of_ble_eq_true rfl) ?_
  unfold P_X10_carry at hP
  refine r_aload_n dX10_carry_0 0 rfl ?_
  refine r_iconst 0 dX10_carry_1 rfl ?_
  refine r_put fiX10_103 (hG.lt (by decide)) sh57 fs57_0 dX10_carry_2 ?_
  refine r_mu (muX10_carry_1 p1 p2 p3 μ) rfl ?_
  refine r_aload_n dX10_carry_5 0 rfl ?_
  refine r_iload_n dX10_carry_6 1 rfl ?_
  refine r_iconst 0 dX10_carry_7 rfl ?_
  refine r_bipush 99 dX10_carry_8 rfl ?_
  refine r_csI (ok_X10_isIn hG p1 0 99 (muX10_carry_1 p1 p2 p3 μ)) lX10_137 dX10_carry_10 (by decide) (Nat.le_of_ble_eq_true rfl) rfl (Nat.le_of_ble_eq_true rfl) ?_
  refine r_join 40 [(0, .ref (ga G 57)), (1, .int p1), (2, .int p2), (3, .int p3)] [.int (VX10_carry_2 p1 p2 p3 μ), .ref (ga G 57)] (muX10_carry_1 p1 p2 p3 μ) ?_ (fun hJ => ?_)
  · refine r_iconst 1 dX10_carry_40 rfl ?_
    refine r_iconst 1 dX10_carry_41 rfl ?_
    have hs1 := hP.1
    replace hP := hP.2
    refine r_cvI (ok_X10_bad hG (VX10_carry_2 p1 p2 p3 μ) 1 1 (muX10_carry_1 p1 p2 p3 μ) hs1) lX10_186 (hG.lt (by decide)) sh57 ⟨_, _, rfl⟩ dX10_carry_42 (by decide) (Nat.le_of_ble_eq_true rfl) rfl (Nat.le_of_ble_eq_true rfl) ?_
    refine r_mu (muX10_carry_3 p1 p2 p3 μ) rfl ?_
    refine r_if_eq 50 dX10_carry_45 (by decide) (fun c1 => ?_) (fun c1 => ?_)
    · replace hP := hP.1 c1
      refine r_iconst 0 dX10_carry_50 rfl ?_
      refine r_istore [(4, _), (0, _), (1, _), (2, _), (3, _)] dX10_carry_51 (Nat.le_of_ble_eq_true rfl) rfl ?_
      refine r_iconst (-1) dX10_carry_53 rfl ?_
      refine r_istore [(5, _), (4, _), (0, _), (1, _), (2, _), (3, _)] dX10_carry_54 (Nat.le_of_ble_eq_true rfl) rfl ?_
      refine r_aload_n dX10_carry_56 2 rfl ?_
      have hs2 := hP.1
      replace hP := hP.2
      refine r_cvI (ok_X10_free hG  (muX10_carry_3 p1 p2 p3 μ) hs2) lX10_365 (hG.lt (by decide)) sh57 ⟨_, _, rfl⟩ dX10_carry_57 (by decide) (Nat.le_of_ble_eq_true rfl) rfl (Nat.le_of_ble_eq_true rfl) ?_
      refine r_istore [(6, _), (5, _), (4, _), (0, _), (1, _), (2, _), (3, _)] dX10_carry_60 (Nat.le_of_ble_eq_true rfl) rfl ?_
      refine r_iconst 0 dX10_carry_62 rfl ?_
      refine r_istore [(7, _), (6, _), (5, _), (4, _), (0, _), (1, _), (2, _), (3, _)] dX10_carry_63 (Nat.le_of_ble_eq_true rfl) rfl ?_
      have hs3 := hP.1
      replace hP := hP.2
      refine r_sub [4, 5, 6, 7, 3, 2, 1, 0] rfl ?_
      refine lp_X10_carry_65 hG p1 p2 p3 (F_X10_free  (muX10_carry_3 p1 p2 p3 μ)) (0, (-1), (muX10_carry_3 p1 p2 p3 μ)) ((NX10_carry_65 p1 p2 p3 μ)) (SX10_carry_65 p1 p2 p3 μ) rfl hs3 ?_
      refine r_iload dX10_carry_65 7 rfl ?_
      refine r_iconst 1 dX10_carry_67 rfl ?_
      refine r_aload_n dX10_carry_68 0 rfl ?_
      refine r_getR 61 fX10_23 (hG.lt (by decide)) sh57 fs57_12 dX10_carry_69 ?_
      refine r_iconst 1 dX10_carry_72 rfl ?_
      refine r_ialdK 1 rfl (hG.lt (by decide)) sh61 (vp_of (by decide) (by decide)) dX10_carry_73 ?_
      refine r_ishl dX10_carry_74 rfl ?_
      refine r_icmp_ge 207 dX10_carry_75 (by decide) (fun c2 => ?_) (fun c2 => ?_)
      · replace hP := hP.1 c2
        refine r_iload_n dX10_carry_207 3 rfl ?_
        refine r_if_ne 216 dX10_carry_208 (by decide) (fun c3 => ?_) (fun c3 => ?_)
        · refine r_iload dX10_carry_216 4 rfl ?_
          exact r_ireturn _ dX10_carry_218 rfl rfl ⟨congrArg (fun z => some (Value.int z)) (by unfold F_X10_carry; rw [if_pos c1, if_pos c3]), by unfold M_X10_carry; rw [if_pos c1]⟩
        · refine r_iload dX10_carry_211 5 rfl ?_
          refine r_goto 218 dX10_carry_213 (by decide) ?_
          exact r_ireturn _ dX10_carry_218 rfl rfl ⟨congrArg (fun z => some (Value.int z)) (by unfold F_X10_carry; rw [if_pos c1, if_neg (not_not_intro c3)]), by unfold M_X10_carry; rw [if_pos c1]⟩
      · replace hP := hP.2 c2
        refine r_iload dX10_carry_78 7 rfl ?_
        refine r_iload dX10_carry_80 6 rfl ?_
        refine r_iconst (-1) dX10_carry_82 rfl ?_
        refine r_ixor dX10_carry_83 ?_
        refine r_iand dX10_carry_84 ?_
        refine r_if_ne 201 dX10_carry_85 (by decide) (fun c3 => ?_) (fun c3 => ?_)
        · replace hP := hP.1 c3
          refine r_iinc ((nI (NX10_carry_65 p1 p2 p3 μ)) + 1) [(7, _), (0, _), (1, _), (2, _), (3, _), (4, _), (5, _), (6, _)] dX10_carry_201 7 rfl rfl (Nat.le_of_ble_eq_true rfl) rfl ?_
          refine r_goto 65 dX10_carry_204 (by decide) ?_
          exact hP.elim
        · replace hP := hP.2 c3
          refine r_aload_n dX10_carry_88 0 rfl ?_
          refine r_iload dX10_carry_89 7 rfl ?_
          have hs43 := hP.1
          replace hP := hP.2
          refine r_cvI (ok_X10_weightOf hG (nI (NX10_carry_65 p1 p2 p3 μ)) (SX10_carry_65 p1 p2 p3 μ).2.2 hs43) lX10_368 (hG.lt (by decide)) sh57 ⟨_, _, rfl⟩ dX10_carry_91 (by decide) (Nat.le_of_ble_eq_true rfl) rfl (Nat.le_of_ble_eq_true rfl) ?_
          refine r_iload_n dX10_carry_94 1 rfl ?_
          refine r_icmp_le 101 dX10_carry_95 (by decide) (fun c4 => ?_) (fun c4 => ?_)
          · replace hP := hP.1 c4
            refine r_aload_n dX10_carry_101 0 rfl ?_
            refine r_getR 521 fX10_73 (hG.lt (by decide)) sh57 fs57_31 dX10_carry_102 ?_
            refine r_aload_n dX10_carry_105 0 rfl ?_
            refine r_getR 522 fX10_76 (hG.lt (by decide)) sh57 fs57_32 dX10_carry_106 ?_
            have hs53 := hP.1
            replace hP := hP.2
            refine r_csV (ok_X10_copies hG (hG.lt (by decide)) sh521 (hG.lt (by decide)) sh522 (SX10_carry_65 p1 p2 p3 μ).2.2 hs53) lX10_333 dX10_carry_109 (by decide) (Nat.le_of_ble_eq_true rfl) rfl (Nat.le_of_ble_eq_true rfl) ?_
            refine r_mu (muX10_carry_4 p1 p2 p3 μ) rfl ?_
            refine r_iconst 0 dX10_carry_112 rfl ?_
            refine r_istore [(8, _), (0, _), (1, _), (2, _), (3, _), (4, _), (5, _), (6, _), (7, _)] dX10_carry_113 (Nat.le_of_ble_eq_true rfl) rfl ?_
            have hs54 := hP.1
            replace hP := hP.2
            refine r_sub [1, 2, 3, 4, 5, 6, 7, 8, 0] rfl ?_
            refine lp_X10_carry_115 hG p1 p2 p3 (SX10_carry_65 p1 p2 p3 μ).1 (SX10_carry_65 p1 p2 p3 μ).2.1 (F_X10_free  (muX10_carry_3 p1 p2 p3 μ)) (nI (NX10_carry_65 p1 p2 p3 μ)) (muX10_carry_4 p1 p2 p3 μ) ((NX10_carry_115 p1 p2 p3 μ)) (SX10_carry_115 p1 p2 p3 μ) rfl hs54 ?_
            refine r_iload dX10_carry_115 8 rfl ?_
            refine r_aload_n dX10_carry_117 0 rfl ?_
            refine r_getR 61 fX10_23 (hG.lt (by decide)) sh57 fs57_12 dX10_carry_118 ?_
            refine r_iconst 1 dX10_carry_121 rfl ?_
            refine r_ialdK 1 rfl (hG.lt (by decide)) sh61 (vp_of (by decide) (by decide)) dX10_carry_122 ?_
            refine r_icmp_ge 166 dX10_carry_123 (by decide) (fun c5 => ?_) (fun c5 => ?_)
            · replace hP := hP.1 c5
              refine r_aload_n dX10_carry_166 0 rfl ?_
              refine r_iload_n dX10_carry_167 2 rfl ?_
              have hs57 := hP.1
              replace hP := hP.2
              refine r_cvV (ok_X10_goesOn hG p2 (SX10_carry_115 p1 p2 p3 μ) hs57) lX10_353 (hG.lt (by decide)) sh57 ⟨_, _, rfl⟩ dX10_carry_168 (by decide) (Nat.le_of_ble_eq_true rfl) rfl (Nat.le_of_ble_eq_true rfl) ?_
              refine r_mu (muX10_carry_5 p1 p2 p3 μ) rfl ?_
              refine r_aload_n dX10_carry_171 0 rfl ?_
              refine r_aload_n dX10_carry_172 0 rfl ?_
              refine r_getR 522 fX10_76 (hG.lt (by decide)) sh57 fs57_32 dX10_carry_173 ?_
              have hs58 := hP.1
              replace hP := hP.2
              refine r_cvI (ok_X10_worthIn hG (hG.lt (by decide)) sh522 (muX10_carry_5 p1 p2 p3 μ) hs58) lX10_341 (hG.lt (by decide)) sh57 ⟨_, _, rfl⟩ dX10_carry_176 (by decide) (Nat.le_of_ble_eq_true rfl) rfl (Nat.le_of_ble_eq_true rfl) ?_
              refine r_iload dX10_carry_179 5 rfl ?_
              refine r_join 201 [(5, .int (VX10_carry_6 p1 p2 p3 μ)), (4, .int (VX10_carry_7 p1 p2 p3 μ)), (0, .ref (ga G 57)), (1, .int p1), (2, .int p2), (3, .int p3), (6, .int (F_X10_free  (muX10_carry_3 p1 p2 p3 μ))), (7, .int (nI (NX10_carry_65 p1 p2 p3 μ))), (8, .int (nI (NX10_carry_115 p1 p2 p3 μ)))] [] (muX10_carry_5 p1 p2 p3 μ) ?_ (fun hJ => ?_)
              · replace hP := hP.2
                refine r_iinc ((nI (NX10_carry_65 p1 p2 p3 μ)) + 1) [(7, _), (5, _), (4, _), (0, _), (1, _), (2, _), (3, _), (6, _), (8, _)] dX10_carry_201 7 rfl rfl (Nat.le_of_ble_eq_true rfl) rfl ?_
                refine r_goto 65 dX10_carry_204 (by decide) ?_
                exact hP.elim
              · replace hP := hP.1
                refine r_icmp_gt 187 dX10_carry_181 (by decide) (fun c6 => ?_) (fun c6 => ?_)
                · replace hP := hP.1 c6
                  refine r_iload dX10_carry_187 7 rfl ?_
                  refine r_istore [(4, _), (0, _), (1, _), (2, _), (3, _), (5, _), (6, _), (7, _), (8, _)] dX10_carry_189 (Nat.le_of_ble_eq_true rfl) rfl ?_
                  refine r_aload_n dX10_carry_191 1 rfl ?_
                  refine r_aload_n dX10_carry_192 1 rfl ?_
                  refine r_getR 522 fX10_76 (hG.lt (by decide)) sh57 fs57_32 dX10_carry_193 ?_
                  have hs59 := hP
                  refine r_cvI (ok_X10_worthIn hG (hG.lt (by decide)) sh522 (muX10_carry_5 p1 p2 p3 μ) hs59) lX10_341 (hG.lt (by decide)) sh57 ⟨_, _, rfl⟩ dX10_carry_196 (by decide) (Nat.le_of_ble_eq_true rfl) rfl (Nat.le_of_ble_eq_true rfl) ?_
                  refine r_istore [(5, _), (4, _), (0, _), (1, _), (2, _), (3, _), (6, _), (7, _), (8, _)] dX10_carry_199 (Nat.le_of_ble_eq_true rfl) rfl ?_
                  have e : (VX10_carry_6 p1 p2 p3 μ) = (F_X10_worthIn 522 (muX10_carry_5 p1 p2 p3 μ)) := by unfold VX10_carry_6; rw [if_pos c6]
                  rw [e] at hJ
                  clear e
                  have e : (VX10_carry_7 p1 p2 p3 μ) = (nI (NX10_carry_65 p1 p2 p3 μ)) := by unfold VX10_carry_7; rw [if_pos c6]
                  rw [e] at hJ
                  exact r_sub [0, 1, 2, 3, 4, 5, 6, 7, 8] rfl hJ
                · replace hP := hP.2 c6
                  refine r_goto 201 dX10_carry_184 (by decide) ?_
                  have e : (VX10_carry_6 p1 p2 p3 μ) = (SX10_carry_65 p1 p2 p3 μ).2.1 := by unfold VX10_carry_6; rw [if_neg (i32_nl c6)]
                  rw [e] at hJ
                  clear e
                  have e : (VX10_carry_7 p1 p2 p3 μ) = (SX10_carry_65 p1 p2 p3 μ).1 := by unfold VX10_carry_7; rw [if_neg (i32_nl c6)]
                  rw [e] at hJ
                  exact r_sub [5, 4, 0, 1, 2, 3, 6, 7, 8] rfl hJ
            · replace hP := hP.2 c5
              refine r_aload_n dX10_carry_126 0 rfl ?_
              refine r_getR 522 fX10_76 (hG.lt (by decide)) sh57 fs57_32 dX10_carry_127 ?_
              refine r_bipush 10 dX10_carry_130 rfl ?_
              refine r_iload dX10_carry_132 8 rfl ?_
              refine r_iadd dX10_carry_134 ?_
              refine r_iload dX10_carry_135 7 rfl ?_
              refine r_iload dX10_carry_137 8 rfl ?_
              refine r_csI (ok_X10_has hG (nI (NX10_carry_65 p1 p2 p3 μ)) (nI (NX10_carry_115 p1 p2 p3 μ)) (SX10_carry_115 p1 p2 p3 μ)) lX10_268 dX10_carry_139 (by decide) (Nat.le_of_ble_eq_true rfl) rfl (Nat.le_of_ble_eq_true rfl) ?_
              refine r_join 159 [(0, .ref (ga G 57)), (1, .int p1), (2, .int p2), (3, .int p3), (4, .int (SX10_carry_65 p1 p2 p3 μ).1), (5, .int (SX10_carry_65 p1 p2 p3 μ).2.1), (6, .int (F_X10_free  (muX10_carry_3 p1 p2 p3 μ))), (7, .int (nI (NX10_carry_65 p1 p2 p3 μ))), (8, .int (nI (NX10_carry_115 p1 p2 p3 μ)))] [.int (VX10_carry_8 p1 p2 p3 μ), .int (10 + (nI (NX10_carry_115 p1 p2 p3 μ))), .ref (ga G 522)] (SX10_carry_115 p1 p2 p3 μ) ?_ (fun hJ => ?_)
              · replace hP := hP.2
                have hs61 := hP.1
                replace hP := hP.2
                refine r_iast (hG.lt (by decide)) sh522 hs61 dX10_carry_159 ?_
                refine r_mu (muX10_carry_9 p1 p2 p3 μ) rfl ?_
                refine r_iinc ((nI (NX10_carry_115 p1 p2 p3 μ)) + 1) [(8, _), (0, _), (1, _), (2, _), (3, _), (4, _), (5, _), (6, _), (7, _)] dX10_carry_160 8 rfl rfl (Nat.le_of_ble_eq_true rfl) rfl ?_
                refine r_goto 115 dX10_carry_163 (by decide) ?_
                exact hP.elim
              · replace hP := hP.1
                refine r_if_eq 149 dX10_carry_142 (by decide) (fun c6 => ?_) (fun c6 => ?_)
                · replace hP := hP.1 c6
                  refine r_aload_n dX10_carry_149 0 rfl ?_
                  refine r_getR 522 fX10_76 (hG.lt (by decide)) sh57 fs57_32 dX10_carry_150 ?_
                  refine r_bipush 10 dX10_carry_153 rfl ?_
                  refine r_iload dX10_carry_155 8 rfl ?_
                  refine r_iadd dX10_carry_157 ?_
                  have hs60 := hP
                  refine r_iald (hG.lt (by decide)) sh522 hs60 dX10_carry_158 ?_
                  have e : (VX10_carry_8 p1 p2 p3 μ) = ((SX10_carry_115 p1 p2 p3 μ) 522 (ix (10 + (nI (NX10_carry_115 p1 p2 p3 μ))))) := by unfold VX10_carry_8; rw [if_pos c6]
                  rw [e] at hJ
                  exact r_sub [0, 1, 2, 3, 4, 5, 6, 7, 8] rfl hJ
                · replace hP := hP.2 c6
                  refine r_iconst 1 dX10_carry_145 rfl ?_
                  refine r_goto 159 dX10_carry_146 (by decide) ?_
                  have e : (VX10_carry_8 p1 p2 p3 μ) = 1 := by unfold VX10_carry_8; rw [if_neg c6]
                  rw [e] at hJ
                  exact r_sub [0, 1, 2, 3, 4, 5, 6, 7, 8] rfl hJ
          · replace hP := hP.2 c4
            refine r_goto 201 dX10_carry_98 (by decide) ?_
            refine r_iinc ((nI (NX10_carry_65 p1 p2 p3 μ)) + 1) [(7, _), (0, _), (1, _), (2, _), (3, _), (4, _), (5, _), (6, _)] dX10_carry_201 7 rfl rfl (Nat.le_of_ble_eq_true rfl) rfl ?_
            refine r_goto 65 dX10_carry_204 (by decide) ?_
            exact hP.elim
    · replace hP := hP.2 c1
      refine r_iconst 0 dX10_carry_48 rfl ?_
      exact r_ireturn _ dX10_carry_49 rfl rfl ⟨congrArg (fun z => some (Value.int z)) (by unfold F_X10_carry; rw [if_neg c1]), by unfold M_X10_carry; rw [if_neg c1]⟩
  · refine r_if_eq 35 dX10_carry_13 (by decide) (fun c1 => ?_) (fun c1 => ?_)
    · refine r_iconst 1 dX10_carry_35 rfl ?_
      refine r_goto 40 dX10_carry_36 (by decide) ?_
      have e : (VX10_carry_2 p1 p2 p3 μ) = 1 := by unfold VX10_carry_2; rw [if_pos c1]
      rw [e] at hJ
      exact r_sub [0, 1, 2, 3] rfl hJ
    · refine r_iload_n dX10_carry_16 2 rfl ?_
      refine r_iconst 0 dX10_carry_17 rfl ?_
      refine r_bipush 24 dX10_carry_18 rfl ?_
      refine r_csI (ok_X10_isIn hG p2 0 24 (muX10_carry_1 p1 p2 p3 μ)) lX10_137 dX10_carry_20 (by decide) (Nat.le_of_ble_eq_true rfl) rfl (Nat.le_of_ble_eq_true rfl) ?_
      refine r_if_eq 35 dX10_carry_23 (by decide) (fun c2 => ?_) (fun c2 => ?_)
      · refine r_iconst 1 dX10_carry_35 rfl ?_
        refine r_goto 40 dX10_carry_36 (by decide) ?_
        have e : (VX10_carry_2 p1 p2 p3 μ) = 1 := by unfold VX10_carry_2; rw [if_neg c1, if_pos c2]
        rw [e] at hJ
        exact r_sub [0, 1, 2, 3] rfl hJ
      · refine r_iload_n dX10_carry_26 3 rfl ?_
        refine r_iconst 0 dX10_carry_27 rfl ?_
        refine r_iconst 1 dX10_carry_28 rfl ?_
        refine r_csI (ok_X10_isIn hG p3 0 1 (muX10_carry_1 p1 p2 p3 μ)) lX10_137 dX10_carry_29 (by decide) (Nat.le_of_ble_eq_true rfl) rfl (Nat.le_of_ble_eq_true rfl) ?_
        refine r_if_ne 39 dX10_carry_32 (by decide) (fun c3 => ?_) (fun c3 => ?_)
        · refine r_iconst 0 dX10_carry_39 rfl ?_
          have e : (VX10_carry_2 p1 p2 p3 μ) = 0 := by unfold VX10_carry_2; rw [if_neg c1, if_neg c2, if_pos c3]
          rw [e] at hJ
          exact r_sub [0, 1, 2, 3] rfl hJ
        · refine r_iconst 1 dX10_carry_35 rfl ?_
          refine r_goto 40 dX10_carry_36 (by decide) ?_
          have e : (VX10_carry_2 p1 p2 p3 μ) = 1 := by unfold VX10_carry_2; rw [if_neg c1, if_neg c2, if_neg (not_not_intro c3)]
          rw [e] at hJ
          exact r_sub [0, 1, 2, 3] rfl hJ
