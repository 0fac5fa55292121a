def F_X10_isHouse (p1 : Int32) (μ : Mem) : Int32 := (F_X10_isIn p1 0 ((μ 61 0) - 1) μ)
theorem bo_X10_isHouse (p1 : Int32) (μ : Mem) : F_X10_isHouse p1 μ = 0 ∨ F_X10_isHouse p1 μ = 1 := by
  unfold F_X10_isHouse
  exact (bo_X10_isIn p1 0 ((μ 61 0) - 1) μ)
set_option maxRecDepth 20000 in
set_option maxHeartbeats 2000000 in
theorem ok_X10_isHouse {G : SG} (hG : GK 548 G) (p1 : Int32) (μ : Mem) : OkF G mX10_isHouse [.ref (ga G 57), .int p1] μ (some (.int (F_X10_isHouse p1 μ))) μ := by
  refine okF_of hG rfl rfl (Nat.le_of_ble_eq_true rfl) ?_
  refine r_iload_n dX10_isHouse_0 1 rfl ?_
  refine r_iconst 0 dX10_isHouse_1 rfl ?_
  refine r_aload_n dX10_isHouse_2 0 rfl ?_
  refine r_getR 61 fX10_23 (hG.lt (by decide)) sh57 fs57_12 dX10_isHouse_3 ?_
  refine r_iconst 0 dX10_isHouse_6 rfl ?_
  refine r_ialdK 0 rfl (hG.lt (by decide)) sh61 (vp_of (by decide) (by decide)) dX10_isHouse_7 ?_
  refine r_iconst 1 dX10_isHouse_8 rfl ?_
  refine r_isub dX10_isHouse_9 ?_
  refine r_csI (ok_X10_isIn hG p1 0 ((μ 61 0) - 1) μ) lX10_137 dX10_isHouse_10 (by decide) (Nat.le_of_ble_eq_true rfl) rfl (Nat.le_of_ble_eq_true rfl) ?_
  exact r_ireturn _ dX10_isHouse_13 rfl (nb01 ((bo_X10_isIn p1 0 ((μ 61 0) - 1) μ))) ⟨congrArg (fun z => some (Value.int z)) (rfl), rfl⟩
def F_X10_isThing (p1 : Int32) (μ : Mem) : Int32 := (F_X10_isIn p1 0 ((μ 61 1) - 1) μ)
theorem bo_X10_isThing (p1 : Int32) (μ : Mem) : F_X10_isThing p1 μ = 0 ∨ F_X10_isThing p1 μ = 1 := by
  unfold F_X10_isThing
  exact (bo_X10_isIn p1 0 ((μ 61 1) - 1) μ)
set_option maxRecDepth 20000 in
set_option maxHeartbeats 2000000 in
theorem ok_X10_isThing {G : SG} (hG : GK 548 G) (p1 : Int32) (μ : Mem) : OkF G mX10_isThing [.ref (ga G 57), .int p1] μ (some (.int (F_X10_isThing p1 μ))) μ := by
  refine okF_of hG rfl rfl (Nat.le_of_ble_eq_true rfl) ?_
  refine r_iload_n dX10_isThing_0 1 rfl ?_
  refine r_iconst 0 dX10_isThing_1 rfl ?_
  refine r_aload_n dX10_isThing_2 0 rfl ?_
  refine r_getR 61 fX10_23 (hG.lt (by decide)) sh57 fs57_12 dX10_isThing_3 ?_
  refine r_iconst 1 dX10_isThing_6 rfl ?_
  refine r_ialdK 1 rfl (hG.lt (by decide)) sh61 (vp_of (by decide) (by decide)) dX10_isThing_7 ?_
  refine r_iconst 1 dX10_isThing_8 rfl ?_
  refine r_isub dX10_isThing_9 ?_
  refine r_csI (ok_X10_isIn hG p1 0 ((μ 61 1) - 1) μ) lX10_137 dX10_isThing_10 (by decide) (Nat.le_of_ble_eq_true rfl) rfl (Nat.le_of_ble_eq_true rfl) ?_
  exact r_ireturn _ dX10_isThing_13 rfl (nb01 ((bo_X10_isIn p1 0 ((μ 61 1) - 1) μ))) ⟨congrArg (fun z => some (Value.int z)) (rfl), rfl⟩
def muX10_house_1 (p1 : Int32) (p2 : Int32) (μ : Mem) : Mem := (upm μ 57 0 0)
def VX10_house_2 (p1 : Int32) (p2 : Int32) (μ : Mem) : Int32 := (if (F_X10_isHouse p1 (muX10_house_1 p1 p2 μ)) ≠ 0 then 0 else 1)
theorem bo_VX10_house_2 (p1 : Int32) (p2 : Int32) (μ : Mem) : (VX10_house_2 p1 p2 μ) = 0 ∨ (VX10_house_2 p1 p2 μ) = 1 := by
  unfold VX10_house_2
  split
  · exact Or.inl rfl
  · exact Or.inr rfl
def muX10_house_3 (p1 : Int32) (p2 : Int32) (μ : Mem) : Mem := (M_X10_bad (VX10_house_2 p1 p2 μ) 1 0 (muX10_house_1 p1 p2 μ))
def VX10_house_4 (p1 : Int32) (p2 : Int32) (μ : Mem) : Int32 := (if (F_X10_isIn p2 0 4 (muX10_house_3 p1 p2 μ)) ≠ 0 then 0 else 1)
theorem bo_VX10_house_4 (p1 : Int32) (p2 : Int32) (μ : Mem) : (VX10_house_4 p1 p2 μ) = 0 ∨ (VX10_house_4 p1 p2 μ) = 1 := by
  unfold VX10_house_4
  split
  · exact Or.inl rfl
  · exact Or.inr rfl
def muX10_house_5 (p1 : Int32) (p2 : Int32) (μ : Mem) : Mem := (M_X10_bad (VX10_house_4 p1 p2 μ) 2 1 (muX10_house_3 p1 p2 μ))
def VX10_house_57_1 (v1 : Int32) (v2 : Int32) (μ : Mem) (i : Nat) (s : Int32) : Int32 := (if (μ 521 (ix (0 + (nI i)))) ≠ v1 then 0 else ((1 : Int32) <<< ((nI i) &&& 31)))
def g_X10_house_57 (v1 : Int32) (v2 : Int32) (μ : Mem) (i : Nat) (s : Int32) : Int32 := (s ||| (VX10_house_57_1 v1 v2 μ i s))
def Pb_X10_house_57 (v1 : Int32) (v2 : Int32) (μ : Mem) (i : Nat) (s : Int32) : Prop := (((μ 61 1) ≤ (nI i) → False) ∧ ((nI i) < (μ 61 1) → vp_in (0 + (nI i)) 63))
set_option maxRecDepth 20000 in
set_option maxHeartbeats 2000000 in
theorem lp_X10_house_57 {G : SG} (hG : GK 548 G)  (v1 : Int32) (v2 : Int32) (μ : Mem) (s0 : Int32) (N : Nat) (sN : Int32) (eN : sN = fo N (g_X10_house_57 v1 v2 μ) s0) (hN : ∀ i, i < N → Pb_X10_house_57 v1 v2 μ i (fo i (g_X10_house_57 v1 v2 μ) s0)) {t : Nat} {Q : PQ} {X : PX} (h : R G mX10_house 57 [(0, .ref (ga G 57)), (1, .int v1), (2, .int v2), (3, .int sN), (4, .int (nI N))] [] μ t Q X) : R G mX10_house 57 [(0, .ref (ga G 57)), (1, .int v1), (2, .int v2), (3, .int s0), (4, .int 0)] [] μ t Q X := by
  subst eN
  refine down_i N (fun i => R G mX10_house 57 [(0, .ref (ga G 57)), (1, .int v1), (2, .int v2), (3, .int (fo i (g_X10_house_57 v1 v2 μ) s0)), (4, .int (nI i))] [] μ t Q X) h (fun i hi hS => ?_)
  have hP := hN i hi
  rw [fo_succ] at hS
  rw [nI_succ] at hS
  generalize fo i (g_X10_house_57 v1 v2 μ) s0 = s at hS hP ⊢
  unfold Pb_X10_house_57 at hP
  refine r_iload dX10_house_57 4 rfl ?_
  refine r_aload_n dX10_house_59 0 rfl ?_
  refine r_getR 61 fX10_23 (hG.lt (by decide)) sh57 fs57_12 dX10_house_60 ?_
  refine r_iconst 1 dX10_house_63 rfl ?_
  refine r_ialdK 1 rfl (hG.lt (by decide)) sh61 (vp_of (by decide) (by decide)) dX10_house_64 ?_
  refine r_icmp_ge 98 dX10_house_65 (by decide) (fun c1 => ?_) (fun c1 => ?_)
  · replace hP := hP.1 c1
    exact hP.elim
  · replace hP := hP.2 c1
    refine r_iload_n dX10_house_68 3 rfl ?_
    refine r_aload_n dX10_house_69 0 rfl ?_
    refine r_getR 521 fX10_73 (hG.lt (by decide)) sh57 fs57_31 dX10_house_70 ?_
    refine r_iconst 0 dX10_house_73 rfl ?_
    refine r_iload dX10_house_74 4 rfl ?_
    refine r_iadd dX10_house_76 ?_
    have hs1 := hP
    refine r_iald (hG.lt (by decide)) sh521 hs1 dX10_house_77 ?_
    refine r_iload_n dX10_house_78 1 rfl ?_
    refine r_join 90 [(0, .ref (ga G 57)), (1, .int v1), (2, .int v2), (3, .int s), (4, .int (nI i))] [.int (VX10_house_57_1 v1 v2 μ i s), .int s] μ ?_ (fun hJ => ?_)
    · refine r_ior dX10_house_90 ?_
      refine r_istore_n [(3, _), (0, _), (1, _), (2, _), (4, _)] dX10_house_91 (Nat.le_of_ble_eq_true rfl) rfl ?_
      refine r_iinc ((nI i) + 1) [(4, _), (3, _), (0, _), (1, _), (2, _)] dX10_house_92 4 rfl rfl (Nat.le_of_ble_eq_true rfl) rfl ?_
      refine r_goto 57 dX10_house_95 (by decide) ?_
      have e : g_X10_house_57 v1 v2 μ i s = (s ||| (VX10_house_57_1 v1 v2 μ i s)) := by unfold g_X10_house_57; rfl
      rw [e] at hS
      exact r_sub [2, 3, 4, 1, 0] rfl hS
    · refine r_icmp_ne 89 dX10_house_79 (by decide) (fun c2 => ?_) (fun c2 => ?_)
      · refine r_iconst 0 dX10_house_89 rfl ?_
        have e : (VX10_house_57_1 v1 v2 μ i s) = 0 := by unfold VX10_house_57_1; rw [if_pos c2]
        rw [e] at hJ
        exact r_sub [0, 1, 2, 3, 4] rfl hJ
      · refine r_iconst 1 dX10_house_82 rfl ?_
        refine r_iload dX10_house_83 4 rfl ?_
        refine r_ishl dX10_house_85 rfl ?_
        refine r_goto 90 dX10_house_86 (by decide) ?_
        have e : (VX10_house_57_1 v1 v2 μ i s) = ((1 : Int32) <<< ((nI i) &&& 31)) := by unfold VX10_house_57_1; rw [if_neg (not_not_intro c2)]
        rw [e] at hJ
        exact r_sub [0, 1, 2, 3, 4] rfl hJ
def NX10_house_57 (p1 : Int32) (p2 : Int32) (μ : Mem) : Nat := ix ((muX10_house_5 p1 p2 μ) 61 1)
def SX10_house_57 (p1 : Int32) (p2 : Int32) (μ : Mem) : Int32 := fo (NX10_house_57 p1 p2 μ) (g_X10_house_57 p1 p2 (muX10_house_5 p1 p2 μ)) 0
def VX10_house_6 (p1 : Int32) (p2 : Int32) (μ : Mem) : Int32 := (if ((muX10_house_5 p1 p2 μ) 521 (ix (0 + (nI (NX10_house_57 p1 p2 μ))))) ≠ p1 then 0 else ((1 : Int32) <<< ((nI (NX10_house_57 p1 p2 μ)) &&& 31)))
def F_X10_house (p1 : Int32) (p2 : Int32) (μ : Mem) : Int32 := (if (F_X10_bad (VX10_house_2 p1 p2 μ) 1 0 (muX10_house_1 p1 p2 μ)) ≠ 0 then 0 else (if (F_X10_bad (VX10_house_4 p1 p2 μ) 2 1 (muX10_house_3 p1 p2 μ)) = 0 then (if p2 = 0 then (F_X10_sillOf 521 p1 (muX10_house_5 p1 p2 μ)) else (if p2 = 1 then ((muX10_house_5 p1 p2 μ) 521 (ix (50 + p1))) else (if p2 = 2 then (F_X10_waterIn 521 p1 (muX10_house_5 p1 p2 μ)) else (if p2 = 3 then (SX10_house_57 p1 p2 μ) else ((muX10_house_5 p1 p2 μ) 521 (ix (56 + p1))))))) else 0))
def M_X10_house (p1 : Int32) (p2 : Int32) (μ : Mem) : Mem := (if (F_X10_bad (VX10_house_2 p1 p2 μ) 1 0 (muX10_house_1 p1 p2 μ)) ≠ 0 then (muX10_house_3 p1 p2 μ) else (muX10_house_5 p1 p2 μ))
def P_X10_house (p1 : Int32) (p2 : Int32) (μ : Mem) : Prop := ((P_X10_bad (VX10_house_2 p1 p2 μ) 1 0 (muX10_house_1 p1 p2 μ)) ∧ (((F_X10_bad (VX10_house_2 p1 p2 μ) 1 0 (muX10_house_1 p1 p2 μ)) ≠ 0 → True) ∧ ((F_X10_bad (VX10_house_2 p1 p2 μ) 1 0 (muX10_house_1 p1 p2 μ)) = 0 → ((P_X10_bad (VX10_house_4 p1 p2 μ) 2 1 (muX10_house_3 p1 p2 μ)) ∧ (((F_X10_bad (VX10_house_4 p1 p2 μ) 2 1 (muX10_house_3 p1 p2 μ)) = 0 → ((∀ j9, j9 < (NX10_house_57 p1 p2 μ) → Pb_X10_house_57 p1 p2 (muX10_house_5 p1 p2 μ) j9 (fo j9 (g_X10_house_57 p1 p2 (muX10_house_5 p1 p2 μ)) 0)) ∧ ((((muX10_house_5 p1 p2 μ) 61 1) ≤ (nI (NX10_house_57 p1 p2 μ)) → ((p2 = 0 → (P_X10_sillOf 521 p1 (muX10_house_5 p1 p2 μ))) ∧ (p2 = 1 → (vp_in (50 + p1) 63)) ∧ (p2 = 2 → (P_X10_waterIn 521 p1 (muX10_house_5 p1 p2 μ))) ∧ (p2 = 3 → True) ∧ (¬ p2 = 0 ∧ ¬ p2 = 1 ∧ ¬ p2 = 2 ∧ ¬ p2 = 3 → (vp_in (56 + p1) 63)))) ∧ ((nI (NX10_house_57 p1 p2 μ)) < ((muX10_house_5 p1 p2 μ) 61 1) → ((vp_in (0 + (nI (NX10_house_57 p1 p2 μ))) 63) ∧ False))))) ∧ (¬ (F_X10_bad (VX10_house_4 p1 p2 μ) 2 1 (muX10_house_3 p1 p2 μ)) = 0 → True))))))
set_option maxRecDepth 20000 in
set_option maxHeartbeats 2000000 in
theorem ok_X10_house {G : SG} (hG : GK 548 G) (p1 : Int32) (p2 : Int32) (μ : Mem) (hP : P_X10_house p1 p2 μ) : OkF G mX10_house [.ref (ga G 57), .int p1, .int p2] μ (some (.int (F_X10_house p1 p2 μ))) (M_X10_house p1 p2 μ) := by
  refine okF_of hG rfl rfl (Nat.le_of_ble_eq_true rfl) ?_
  unfold P_X10_house at hP
  refine r_aload_n dX10_house_0 0 rfl ?_
  refine r_iconst 0 dX10_house_1 rfl ?_
  refine r_put fiX10_103 (hG.lt (by decide)) sh57 fs57_0 dX10_house_2 ?_
  refine r_mu (muX10_house_1 p1 p2 μ) rfl ?_
  refine r_aload_n dX10_house_5 0 rfl ?_
  refine r_aload_n dX10_house_6 0 rfl ?_
  refine r_iload_n dX10_house_7 1 rfl ?_
  refine r_cvI (ok_X10_isHouse hG p1 (muX10_house_1 p1 p2 μ)) lX10_347 (hG.lt (by decide)) sh57 ⟨_, _, rfl⟩ dX10_house_8 (by decide) (Nat.le_of_ble_eq_true rfl) rfl (Nat.le_of_ble_eq_true rfl) ?_
  refine r_join 19 [(0, .ref (ga G 57)), (1, .int p1), (2, .int p2)] [.int (VX10_house_2 p1 p2 μ), .ref (ga G 57)] (muX10_house_1 p1 p2 μ) ?_ (fun hJ => ?_)
  · refine r_iconst 1 dX10_house_19 rfl ?_
    refine r_iconst 0 dX10_house_20 rfl ?_
    have hs1 := hP.1
    replace hP := hP.2
    refine r_cvI (ok_X10_bad hG (VX10_house_2 p1 p2 μ) 1 0 (muX10_house_1 p1 p2 μ) hs1) lX10_186 (hG.lt (by decide)) sh57 ⟨_, _, rfl⟩ dX10_house_21 (by decide) (Nat.le_of_ble_eq_true rfl) rfl (Nat.le_of_ble_eq_true rfl) ?_
    refine r_mu (muX10_house_3 p1 p2 μ) rfl ?_
    refine r_if_ne 50 dX10_house_24 (by decide) (fun c1 => ?_) (fun c1 => ?_)
    · replace hP := hP.1 c1
      refine r_iconst 0 dX10_house_50 rfl ?_
      exact r_ireturn _ dX10_house_51 rfl rfl ⟨congrArg (fun z => some (Value.int z)) (by unfold F_X10_house; rw [if_pos c1]), by unfold M_X10_house; rw [if_pos c1]⟩
    · replace hP := hP.2 c1
      refine r_aload_n dX10_house_27 0 rfl ?_
      refine r_iload_n dX10_house_28 2 rfl ?_
      refine r_iconst 0 dX10_house_29 rfl ?_
      refine r_iconst 4 dX10_house_30 rfl ?_
      refine r_csI (ok_X10_isIn hG p2 0 4 (muX10_house_3 p1 p2 μ)) lX10_137 dX10_house_31 (by decide) (Nat.le_of_ble_eq_true rfl) rfl (Nat.le_of_ble_eq_true rfl) ?_
      refine r_join 42 [(0, .ref (ga G 57)), (1, .int p1), (2, .int p2)] [.int (VX10_house_4 p1 p2 μ), .ref (ga G 57)] (muX10_house_3 p1 p2 μ) ?_ (fun hJ => ?_)
      · refine r_iconst 2 dX10_house_42 rfl ?_
        refine r_iconst 1 dX10_house_43 rfl ?_
        have hs2 := hP.1
        replace hP := hP.2
        refine r_cvI (ok_X10_bad hG (VX10_house_4 p1 p2 μ) 2 1 (muX10_house_3 p1 p2 μ) hs2) lX10_186 (hG.lt (by decide)) sh57 ⟨_, _, rfl⟩ dX10_house_44 (by decide) (Nat.le_of_ble_eq_true rfl) rfl (Nat.le_of_ble_eq_true rfl) ?_
        refine r_mu (muX10_house_5 p1 p2 μ) rfl ?_
        refine r_if_eq 52 dX10_house_47 (by decide) (fun c2 => ?_) (fun c2 => ?_)
        · replace hP := hP.1 c2
          refine r_iconst 0 dX10_house_52 rfl ?_
          refine r_istore_n [(3, _), (0, _), (1, _), (2, _)] dX10_house_53 (Nat.le_of_ble_eq_true rfl) rfl ?_
          refine r_iconst 0 dX10_house_54 rfl ?_
          refine r_istore [(4, _), (3, _), (0, _), (1, _), (2, _)] dX10_house_55 (Nat.le_of_ble_eq_true rfl) rfl ?_
          have hs3 := hP.1
          replace hP := hP.2
          refine r_sub [2, 3, 4, 1, 0] rfl ?_
          refine lp_X10_house_57 hG p1 p2 (muX10_house_5 p1 p2 μ) 0 ((NX10_house_57 p1 p2 μ)) (SX10_house_57 p1 p2 μ) rfl hs3 ?_
          refine r_iload dX10_house_57 4 rfl ?_
          refine r_aload_n dX10_house_59 0 rfl ?_
          refine r_getR 61 fX10_23 (hG.lt (by decide)) sh57 fs57_12 dX10_house_60 ?_
          refine r_iconst 1 dX10_house_63 rfl ?_
          refine r_ialdK 1 rfl (hG.lt (by decide)) sh61 (vp_of (by decide) (by decide)) dX10_house_64 ?_
          refine r_icmp_ge 98 dX10_house_65 (by decide) (fun c3 => ?_) (fun c3 => ?_)
          · replace hP := hP.1 c3
            refine r_iload_n dX10_house_98 2 rfl ?_
            by_cases c4 : p2 = 0
            · replace hP := hP.1 c4
              refine r_tableIn (29) 128 dX10_house_99 (by rw [c4]; decide) (by rw [c4]; decide) (by rw [c4]; rfl) (by decide) ?_
              refine r_aload_n dX10_house_128 0 rfl ?_
              refine r_aload_n dX10_house_129 0 rfl ?_
              refine r_getR 521 fX10_73 (hG.lt (by decide)) sh57 fs57_31 dX10_house_130 ?_
              refine r_iload_n dX10_house_133 1 rfl ?_
              have hs5 := hP
              refine r_cvI (ok_X10_sillOf hG (hG.lt (by decide)) sh521 p1 (muX10_house_5 p1 p2 μ) hs5) lX10_272 (hG.lt (by decide)) sh57 ⟨_, _, rfl⟩ dX10_house_134 (by decide) (Nat.le_of_ble_eq_true rfl) rfl (Nat.le_of_ble_eq_true rfl) ?_
              exact r_ireturn _ dX10_house_137 rfl rfl ⟨congrArg (fun z => some (Value.int z)) (by unfold F_X10_house; rw [if_neg (not_not_intro c1), if_pos c2, if_pos c4]), by unfold M_X10_house; rw [if_neg (not_not_intro c1)]⟩
            by_cases c5 : p2 = 1
            · replace hP := hP.2.1 c5
              refine r_tableIn (39) 138 dX10_house_99 (by rw [c5]; decide) (by rw [c5]; decide) (by rw [c5]; rfl) (by decide) ?_
              refine r_aload_n dX10_house_138 0 rfl ?_
              refine r_getR 521 fX10_73 (hG.lt (by decide)) sh57 fs57_31 dX10_house_139 ?_
              refine r_bipush 50 dX10_house_142 rfl ?_
              refine r_iload_n dX10_house_144 1 rfl ?_
              refine r_iadd dX10_house_145 ?_
              have hs6 := hP
              refine r_iald (hG.lt (by decide)) sh521 hs6 dX10_house_146 ?_
              exact r_ireturn _ dX10_house_147 rfl rfl ⟨congrArg (fun z => some (Value.int z)) (by unfold F_X10_house; rw [if_neg (not_not_intro c1), if_pos c2, if_neg c4, if_pos c5]), by unfold M_X10_house; rw [if_neg (not_not_intro c1)]⟩
            by_cases c6 : p2 = 2
            · replace hP := hP.2.2.1 c6
              refine r_tableIn (49) 148 dX10_house_99 (by rw [c6]; decide) (by rw [c6]; decide) (by rw [c6]; rfl) (by decide) ?_
              refine r_aload_n dX10_house_148 0 rfl ?_
              refine r_aload_n dX10_house_149 0 rfl ?_
              refine r_getR 521 fX10_73 (hG.lt (by decide)) sh57 fs57_31 dX10_house_150 ?_
              refine r_iload_n dX10_house_153 1 rfl ?_
              have hs7 := hP
              refine r_cvI (ok_X10_waterIn hG (hG.lt (by decide)) sh521 p1 (muX10_house_5 p1 p2 μ) hs7) lX10_286 (hG.lt (by decide)) sh57 ⟨_, _, rfl⟩ dX10_house_154 (by decide) (Nat.le_of_ble_eq_true rfl) rfl (Nat.le_of_ble_eq_true rfl) ?_
              exact r_ireturn _ dX10_house_157 rfl rfl ⟨congrArg (fun z => some (Value.int z)) (by unfold F_X10_house; rw [if_neg (not_not_intro c1), if_pos c2, if_neg c4, if_neg c5, if_pos c6]), by unfold M_X10_house; rw [if_neg (not_not_intro c1)]⟩
            by_cases c7 : p2 = 3
            · replace hP := hP.2.2.2.1 c7
              refine r_tableIn (59) 158 dX10_house_99 (by rw [c7]; decide) (by rw [c7]; decide) (by rw [c7]; rfl) (by decide) ?_
              refine r_iload_n dX10_house_158 3 rfl ?_
              exact r_ireturn _ dX10_house_159 rfl rfl ⟨congrArg (fun z => some (Value.int z)) (by unfold F_X10_house; rw [if_neg (not_not_intro c1), if_pos c2, if_neg c4, if_neg c5, if_neg c6, if_pos c7]), by unfold M_X10_house; rw [if_neg (not_not_intro c1)]⟩
            replace hP := hP.2.2.2.2 ⟨c4, c5, c6, c7⟩
            have ec4 := i32_ti c4
            have ec5 := i32_ti c5
            have ec6 := i32_ti c6
            have ec7 := i32_ti c7
            refine r_tableOut 160 dX10_house_99 (by simp only [Int32.reduceToInt] at ec4 ec5 ec6 ec7; omega) (by decide) ?_
            refine r_aload_n dX10_house_160 0 rfl ?_
            refine r_getR 521 fX10_73 (hG.lt (by decide)) sh57 fs57_31 dX10_house_161 ?_
            refine r_bipush 56 dX10_house_164 rfl ?_
            refine r_iload_n dX10_house_166 1 rfl ?_
            refine r_iadd dX10_house_167 ?_
            have hs8 := hP
            refine r_iald (hG.lt (by decide)) sh521 hs8 dX10_house_168 ?_
            exact r_ireturn _ dX10_house_169 rfl rfl ⟨congrArg (fun z => some (Value.int z)) (by unfold F_X10_house; rw [if_neg (not_not_intro c1), if_pos c2, if_neg c4, if_neg c5, if_neg c6, if_neg c7]), by unfold M_X10_house; rw [if_neg (not_not_intro c1)]⟩
          · replace hP := hP.2 c3
            refine r_iload_n dX10_house_68 3 rfl ?_
            refine r_aload_n dX10_house_69 0 rfl ?_
            refine r_getR 521 fX10_73 (hG.lt (by decide)) sh57 fs57_31 dX10_house_70 ?_
            refine r_iconst 0 dX10_house_73 rfl ?_
            refine r_iload dX10_house_74 4 rfl ?_
            refine r_iadd dX10_house_76 ?_
            have hs9 := hP.1
            replace hP := hP.2
            refine r_iald (hG.lt (by decide)) sh521 hs9 dX10_house_77 ?_
            refine r_iload_n dX10_house_78 1 rfl ?_
            refine r_join 90 [(0, .ref (ga G 57)), (1, .int p1), (2, .int p2), (3, .int (SX10_house_57 p1 p2 μ)), (4, .int (nI (NX10_house_57 p1 p2 μ)))] [.int (VX10_house_6 p1 p2 μ), .int (SX10_house_57 p1 p2 μ)] (muX10_house_5 p1 p2 μ) ?_ (fun hJ => ?_)
            · refine r_ior dX10_house_90 ?_
              refine r_istore_n [(3, _), (0, _), (1, _), (2, _), (4, _)] dX10_house_91 (Nat.le_of_ble_eq_true rfl) rfl ?_
              refine r_iinc ((nI (NX10_house_57 p1 p2 μ)) + 1) [(4, _), (3, _), (0, _), (1, _), (2, _)] dX10_house_92 4 rfl rfl (Nat.le_of_ble_eq_true rfl) rfl ?_
              refine r_goto 57 dX10_house_95 (by decide) ?_
              exact hP.elim
            · refine r_icmp_ne 89 dX10_house_79 (by decide) (fun c4 => ?_) (fun c4 => ?_)
              · refine r_iconst 0 dX10_house_89 rfl ?_
                have e : (VX10_house_6 p1 p2 μ) = 0 := by unfold VX10_house_6; rw [if_pos c4]
                rw [e] at hJ
                exact r_sub [0, 1, 2, 3, 4] rfl hJ
              · refine r_iconst 1 dX10_house_82 rfl ?_
                refine r_iload dX10_house_83 4 rfl ?_
                refine r_ishl dX10_house_85 rfl ?_
                refine r_goto 90 dX10_house_86 (by decide) ?_
                have e : (VX10_house_6 p1 p2 μ) = ((1 : Int32) <<< ((nI (NX10_house_57 p1 p2 μ)) &&& 31)) := by unfold VX10_house_6; rw [if_neg (not_not_intro c4)]
                rw [e] at hJ
                exact r_sub [0, 1, 2, 3, 4] rfl hJ
        · replace hP := hP.2 c2
          refine r_iconst 0 dX10_house_50 rfl ?_
          exact r_ireturn _ dX10_house_51 rfl rfl ⟨congrArg (fun z => some (Value.int z)) (by unfold F_X10_house; rw [if_neg (not_not_intro c1), if_neg c2]), by unfold M_X10_house; rw [if_neg (not_not_intro c1)]⟩
      · refine r_if_ne 41 dX10_house_34 (by decide) (fun c2 => ?_) (fun c2 => ?_)
        · refine r_iconst 0 dX10_house_41 rfl ?_
          have e : (VX10_house_4 p1 p2 μ) = 0 := by unfold VX10_house_4; rw [if_pos c2]
          rw [e] at hJ
          exact r_sub [0, 1, 2] rfl hJ
        · refine r_iconst 1 dX10_house_37 rfl ?_
          refine r_goto 42 dX10_house_38 (by decide) ?_
          have e : (VX10_house_4 p1 p2 μ) = 1 := by unfold VX10_house_4; rw [if_neg (not_not_intro c2)]
          rw [e] at hJ
          exact r_sub [0, 1, 2] rfl hJ
  · refine r_if_ne 18 dX10_house_11 (by decide) (fun c1 => ?_) (fun c1 => ?_)
    · refine r_iconst 0 dX10_house_18 rfl ?_
      have e : (VX10_house_2 p1 p2 μ) = 0 := by unfold VX10_house_2; rw [if_pos c1]
      rw [e] at hJ
      exact r_sub [0, 1, 2] rfl hJ
    · refine r_iconst 1 dX10_house_14 rfl ?_
      refine r_goto 19 dX10_house_15 (by decide) ?_
      have e : (VX10_house_2 p1 p2 μ) = 1 := by unfold VX10_house_2; rw [if_neg (not_not_intro c1)]
      rw [e] at hJ
      exact r_sub [0, 1, 2] rfl hJ
def muX10_thing_1 (p1 : Int32) (p2 : Int32) (μ : Mem) : Mem := (upm μ 57 0 0)
def VX10_thing_2 (p1 : Int32) (p2 : Int32) (μ : Mem) : Int32 := (if (F_X10_isThing p1 (muX10_thing_1 p1 p2 μ)) ≠ 0 then 0 else 1)
theorem bo_VX10_thing_2 (p1 : Int32) (p2 : Int32) (μ : Mem) : (VX10_thing_2 p1 p2 μ) = 0 ∨ (VX10_thing_2 p1 p2 μ) = 1 := by
  unfold VX10_thing_2
  split
  · exact Or.inl rfl
  · exact Or.inr rfl
def muX10_thing_3 (p1 : Int32) (p2 : Int32) (μ : Mem) : Mem := (M_X10_bad (VX10_thing_2 p1 p2 μ) 1 0 (muX10_thing_1 p1 p2 μ))
def VX10_thing_4 (p1 : Int32) (p2 : Int32) (μ : Mem) : Int32 := (if (F_X10_isIn p2 0 6 (muX10_thing_3 p1 p2 μ)) ≠ 0 then 0 else 1)
theorem bo_VX10_thing_4 (p1 : Int32) (p2 : Int32) (μ : Mem) : (VX10_thing_4 p1 p2 μ) = 0 ∨ (VX10_thing_4 p1 p2 μ) = 1 := by
  unfold VX10_thing_4
  split
  · exact Or.inl rfl
  · exact Or.inr rfl
def muX10_thing_5 (p1 : Int32) (p2 : Int32) (μ : Mem) : Mem := (M_X10_bad (VX10_thing_4 p1 p2 μ) 2 1 (muX10_thing_3 p1 p2 μ))
def F_X10_thing (p1 : Int32) (p2 : Int32) (μ : Mem) : Int32 := (if (F_X10_bad (VX10_thing_2 p1 p2 μ) 1 0 (muX10_thing_1 p1 p2 μ)) ≠ 0 then 0 else (if (F_X10_bad (VX10_thing_4 p1 p2 μ) 2 1 (muX10_thing_3 p1 p2 μ)) = 0 then (if p2 = 0 then ((muX10_thing_5 p1 p2 μ) (78 + (ix p1)) (ix (1 + p2))) else (if p2 = 1 then ((muX10_thing_5 p1 p2 μ) (78 + (ix p1)) (ix (1 + p2))) else (if p2 = 2 then ((muX10_thing_5 p1 p2 μ) 521 (ix (40 + p1))) else (if p2 = 3 then ((muX10_thing_5 p1 p2 μ) 521 (ix (0 + p1))) else (if p2 = 4 then ((muX10_thing_5 p1 p2 μ) 521 (ix (10 + p1))) else (if p2 = 5 then ((muX10_thing_5 p1 p2 μ) 521 (ix (20 + p1))) else ((muX10_thing_5 p1 p2 μ) 521 (ix (30 + p1))))))))) else 0))
def M_X10_thing (p1 : Int32) (p2 : Int32) (μ : Mem) : Mem := (if (F_X10_bad (VX10_thing_2 p1 p2 μ) 1 0 (muX10_thing_1 p1 p2 μ)) ≠ 0 then (muX10_thing_3 p1 p2 μ) else (muX10_thing_5 p1 p2 μ))
def P_X10_thing (p1 : Int32) (p2 : Int32) (μ : Mem) : Prop := ((P_X10_bad (VX10_thing_2 p1 p2 μ) 1 0 (muX10_thing_1 p1 p2 μ)) ∧ (((F_X10_bad (VX10_thing_2 p1 p2 μ) 1 0 (muX10_thing_1 p1 p2 μ)) ≠ 0 → True) ∧ ((F_X10_bad (VX10_thing_2 p1 p2 μ) 1 0 (muX10_thing_1 p1 p2 μ)) = 0 → ((P_X10_bad (VX10_thing_4 p1 p2 μ) 2 1 (muX10_thing_3 p1 p2 μ)) ∧ (((F_X10_bad (VX10_thing_4 p1 p2 μ) 2 1 (muX10_thing_3 p1 p2 μ)) = 0 → ((p2 = 0 → ((vp_in p1 10) ∧ (vp_in (1 + p2) 4))) ∧ (p2 = 1 → ((vp_in p1 10) ∧ (vp_in (1 + p2) 4))) ∧ (p2 = 2 → (vp_in (40 + p1) 63)) ∧ (p2 = 3 → (vp_in (0 + p1) 63)) ∧ (p2 = 4 → (vp_in (10 + p1) 63)) ∧ (p2 = 5 → (vp_in (20 + p1) 63)) ∧ (¬ p2 = 0 ∧ ¬ p2 = 1 ∧ ¬ p2 = 2 ∧ ¬ p2 = 3 ∧ ¬ p2 = 4 ∧ ¬ p2 = 5 → (vp_in (30 + p1) 63)))) ∧ (¬ (F_X10_bad (VX10_thing_4 p1 p2 μ) 2 1 (muX10_thing_3 p1 p2 μ)) = 0 → True))))))
set_option maxRecDepth 20000 in
set_option maxHeartbeats 2000000 in
theorem ok_X10_thing {G : SG} (hG : GK 548 G) (p1 : Int32) (p2 : Int32) (μ : Mem) (hP : P_X10_thing p1 p2 μ) : OkF G mX10_thing [.ref (ga G 57), .int p1, .int p2] μ (some (.int (F_X10_thing p1 p2 μ))) (M_X10_thing p1 p2 μ) := by
  refine okF_of hG rfl rfl (Nat.le_of_ble_eq_true rfl) ?_
  unfold P_X10_thing at hP
  refine r_aload_n dX10_thing_0 0 rfl ?_
  refine r_iconst 0 dX10_thing_1 rfl ?_
  refine r_put fiX10_103 (hG.lt (by decide)) sh57 fs57_0 dX10_thing_2 ?_
  refine r_mu (muX10_thing_1 p1 p2 μ) rfl ?_
  refine r_aload_n dX10_thing_5 0 rfl ?_
  refine r_aload_n dX10_thing_6 0 rfl ?_
  refine r_iload_n dX10_thing_7 1 rfl ?_
  refine r_cvI (ok_X10_isThing hG p1 (muX10_thing_1 p1 p2 μ)) lX10_350 (hG.lt (by decide)) sh57 ⟨_, _, rfl⟩ dX10_thing_8 (by decide) (Nat.le_of_ble_eq_true rfl) rfl (Nat.le_of_ble_eq_true rfl) ?_
  refine r_join 19 [(0, .ref (ga G 57)), (1, .int p1), (2, .int p2)] [.int (VX10_thing_2 p1 p2 μ), .ref (ga G 57)] (muX10_thing_1 p1 p2 μ) ?_ (fun hJ => ?_)
  · refine r_iconst 1 dX10_thing_19 rfl ?_
    refine r_iconst 0 dX10_thing_20 rfl ?_
    have hs1 := hP.1
    replace hP := hP.2
    refine r_cvI (ok_X10_bad hG (VX10_thing_2 p1 p2 μ) 1 0 (muX10_thing_1 p1 p2 μ) hs1) lX10_186 (hG.lt (by decide)) sh57 ⟨_, _, rfl⟩ dX10_thing_21 (by decide) (Nat.le_of_ble_eq_true rfl) rfl (Nat.le_of_ble_eq_true rfl) ?_
    refine r_mu (muX10_thing_3 p1 p2 μ) rfl ?_
    refine r_if_ne 51 dX10_thing_24 (by decide) (fun c1 => ?_) (fun c1 => ?_)
    · replace hP := hP.1 c1
      refine r_iconst 0 dX10_thing_51 rfl ?_
      exact r_ireturn _ dX10_thing_52 rfl rfl ⟨congrArg (fun z => some (Value.int z)) (by unfold F_X10_thing; rw [if_pos c1]), by unfold M_X10_thing; rw [if_pos c1]⟩
    · replace hP := hP.2 c1
      refine r_aload_n dX10_thing_27 0 rfl ?_
      refine r_iload_n dX10_thing_28 2 rfl ?_
      refine r_iconst 0 dX10_thing_29 rfl ?_
      refine r_bipush 6 dX10_thing_30 rfl ?_
      refine r_csI (ok_X10_isIn hG p2 0 6 (muX10_thing_3 p1 p2 μ)) lX10_137 dX10_thing_32 (by decide) (Nat.le_of_ble_eq_true rfl) rfl (Nat.le_of_ble_eq_true rfl) ?_
      refine r_join 43 [(0, .ref (ga G 57)), (1, .int p1), (2, .int p2)] [.int (VX10_thing_4 p1 p2 μ), .ref (ga G 57)] (muX10_thing_3 p1 p2 μ) ?_ (fun hJ => ?_)
      · refine r_iconst 2 dX10_thing_43 rfl ?_
        refine r_iconst 1 dX10_thing_44 rfl ?_
        have hs2 := hP.1
        replace hP := hP.2
        refine r_cvI (ok_X10_bad hG (VX10_thing_4 p1 p2 μ) 2 1 (muX10_thing_3 p1 p2 μ) hs2) lX10_186 (hG.lt (by decide)) sh57 ⟨_, _, rfl⟩ dX10_thing_45 (by decide) (Nat.le_of_ble_eq_true rfl) rfl (Nat.le_of_ble_eq_true rfl) ?_
        refine r_mu (muX10_thing_5 p1 p2 μ) rfl ?_
        refine r_if_eq 53 dX10_thing_48 (by decide) (fun c2 => ?_) (fun c2 => ?_)
        · replace hP := hP.1 c2
          refine r_iload_n dX10_thing_53 2 rfl ?_
          by_cases c3 : p2 = 0
          · replace hP := hP.1 c3
            refine r_tableIn (38) 92 dX10_thing_54 (by rw [c3]; decide) (by rw [c3]; decide) (by rw [c3]; rfl) (by decide) ?_
            refine r_aload_n dX10_thing_92 0 rfl ?_
            refine r_getR 77 fX10_43 (hG.lt (by decide)) sh57 fs57_18 dX10_thing_93 ?_
            refine r_iload_n dX10_thing_96 1 rfl ?_
            have hs3 := hP.1
            replace hP := hP.2
            refine r_aald (hG.lt (by decide)) sh77 hs3 dX10_thing_97 ?_
            refine r_iconst 1 dX10_thing_98 rfl ?_
            refine r_iload_n dX10_thing_99 2 rfl ?_
            refine r_iadd dX10_thing_100 ?_
            have hs4 := hP
            refine r_iald (ltR (vp_ix hs3) (by decide) hG) (shr77 _ (vp_ix hs3)) hs4 dX10_thing_101 ?_
            exact r_ireturn _ dX10_thing_102 rfl rfl ⟨congrArg (fun z => some (Value.int z)) (by unfold F_X10_thing; rw [if_neg (not_not_intro c1), if_pos c2, if_pos c3]), by unfold M_X10_thing; rw [if_neg (not_not_intro c1)]⟩
          by_cases c4 : p2 = 1
          · replace hP := hP.2.1 c4
            refine r_tableIn (38) 92 dX10_thing_54 (by rw [c4]; decide) (by rw [c4]; decide) (by rw [c4]; rfl) (by decide) ?_
            refine r_aload_n dX10_thing_92 0 rfl ?_
            refine r_getR 77 fX10_43 (hG.lt (by decide)) sh57 fs57_18 dX10_thing_93 ?_
            refine r_iload_n dX10_thing_96 1 rfl ?_
            have hs5 := hP.1
            replace hP := hP.2
            refine r_aald (hG.lt (by decide)) sh77 hs5 dX10_thing_97 ?_
            refine r_iconst 1 dX10_thing_98 rfl ?_
            refine r_iload_n dX10_thing_99 2 rfl ?_
            refine r_iadd dX10_thing_100 ?_
            have hs6 := hP
            refine r_iald (ltR (vp_ix hs5) (by decide) hG) (shr77 _ (vp_ix hs5)) hs6 dX10_thing_101 ?_
            exact r_ireturn _ dX10_thing_102 rfl rfl ⟨congrArg (fun z => some (Value.int z)) (by unfold F_X10_thing; rw [if_neg (not_not_intro c1), if_pos c2, if_neg c3, if_pos c4]), by unfold M_X10_thing; rw [if_neg (not_not_intro c1)]⟩
          by_cases c5 : p2 = 2
          · replace hP := hP.2.2.1 c5
            refine r_tableIn (49) 103 dX10_thing_54 (by rw [c5]; decide) (by rw [c5]; decide) (by rw [c5]; rfl) (by decide) ?_
            refine r_aload_n dX10_thing_103 0 rfl ?_
            refine r_getR 521 fX10_73 (hG.lt (by decide)) sh57 fs57_31 dX10_thing_104 ?_
            refine r_bipush 40 dX10_thing_107 rfl ?_
            refine r_iload_n dX10_thing_109 1 rfl ?_
            refine r_iadd dX10_thing_110 ?_
            have hs7 := hP
            refine r_iald (hG.lt (by decide)) sh521 hs7 dX10_thing_111 ?_
            exact r_ireturn _ dX10_thing_112 rfl rfl ⟨congrArg (fun z => some (Value.int z)) (by unfold F_X10_thing; rw [if_neg (not_not_intro c1), if_pos c2, if_neg c3, if_neg c4, if_pos c5]), by unfold M_X10_thing; rw [if_neg (not_not_intro c1)]⟩
          by_cases c6 : p2 = 3
          · replace hP := hP.2.2.2.1 c6
            refine r_tableIn (59) 113 dX10_thing_54 (by rw [c6]; decide) (by rw [c6]; decide) (by rw [c6]; rfl) (by decide) ?_
            refine r_aload_n dX10_thing_113 0 rfl ?_
            refine r_getR 521 fX10_73 (hG.lt (by decide)) sh57 fs57_31 dX10_thing_114 ?_
            refine r_iconst 0 dX10_thing_117 rfl ?_
            refine r_iload_n dX10_thing_118 1 rfl ?_
            refine r_iadd dX10_thing_119 ?_
            have hs8 := hP
            refine r_iald (hG.lt (by decide)) sh521 hs8 dX10_thing_120 ?_
            exact r_ireturn _ dX10_thing_121 rfl rfl ⟨congrArg (fun z => some (Value.int z)) (by unfold F_X10_thing; rw [if_neg (not_not_intro c1), if_pos c2, if_neg c3, if_neg c4, if_neg c5, if_pos c6]), by unfold M_X10_thing; rw [if_neg (not_not_intro c1)]⟩
          by_cases c7 : p2 = 4
          · replace hP := hP.2.2.2.2.1 c7
            refine r_tableIn (68) 122 dX10_thing_54 (by rw [c7]; decide) (by rw [c7]; decide) (by rw [c7]; rfl) (by decide) ?_
            refine r_aload_n dX10_thing_122 0 rfl ?_
            refine r_getR 521 fX10_73 (hG.lt (by decide)) sh57 fs57_31 dX10_thing_123 ?_
            refine r_bipush 10 dX10_thing_126 rfl ?_
            refine r_iload_n dX10_thing_128 1 rfl ?_
            refine r_iadd dX10_thing_129 ?_
            have hs9 := hP
            refine r_iald (hG.lt (by decide)) sh521 hs9 dX10_thing_130 ?_
            exact r_ireturn _ dX10_thing_131 rfl rfl ⟨congrArg (fun z => some (Value.int z)) (by unfold F_X10_thing; rw [if_neg (not_not_intro c1), if_pos c2, if_neg c3, if_neg c4, if_neg c5, if_neg c6, if_pos c7]), by unfold M_X10_thing; rw [if_neg (not_not_intro c1)]⟩
          by_cases c8 : p2 = 5
          · replace hP := hP.2.2.2.2.2.1 c8
            refine r_tableIn (78) 132 dX10_thing_54 (by rw [c8]; decide) (by rw [c8]; decide) (by rw [c8]; rfl) (by decide) ?_
            refine r_aload_n dX10_thing_132 0 rfl ?_
            refine r_getR 521 fX10_73 (hG.lt (by decide)) sh57 fs57_31 dX10_thing_133 ?_
            refine r_bipush 20 dX10_thing_136 rfl ?_
            refine r_iload_n dX10_thing_138 1 rfl ?_
            refine r_iadd dX10_thing_139 ?_
            have hs10 := hP
            refine r_iald (hG.lt (by decide)) sh521 hs10 dX10_thing_140 ?_
            exact r_ireturn _ dX10_thing_141 rfl rfl ⟨congrArg (fun z => some (Value.int z)) (by unfold F_X10_thing; rw [if_neg (not_not_intro c1), if_pos c2, if_neg c3, if_neg c4, if_neg c5, if_neg c6, if_neg c7, if_pos c8]), by unfold M_X10_thing; rw [if_neg (not_not_intro c1)]⟩
          replace hP := hP.2.2.2.2.2.2 ⟨c3, c4, c5, c6, c7, c8⟩
          have ec3 := i32_ti c3
          have ec4 := i32_ti c4
          have ec5 := i32_ti c5
          have ec6 := i32_ti c6
          have ec7 := i32_ti c7
          have ec8 := i32_ti c8
          refine r_tableOut 142 dX10_thing_54 (by simp only [Int32.reduceToInt] at ec3 ec4 ec5 ec6 ec7 ec8; omega) (by decide) ?_
          refine r_aload_n dX10_thing_142 0 rfl ?_
          refine r_getR 521 fX10_73 (hG.lt (by decide)) sh57 fs57_31 dX10_thing_143 ?_
          refine r_bipush 30 dX10_thing_146 rfl ?_
          refine r_iload_n dX10_thing_148 1 rfl ?_
          refine r_iadd dX10_thing_149 ?_
          have hs11 := hP
          refine r_iald (hG.lt (by decide)) sh521 hs11 dX10_thing_150 ?_
          exact r_ireturn _ dX10_thing_151 rfl rfl ⟨congrArg (fun z => some (Value.int z)) (by unfold F_X10_thing; rw [if_neg (not_not_intro c1), if_pos c2, if_neg c3, if_neg c4, if_neg c5, if_neg c6, if_neg c7, if_neg c8]), by unfold M_X10_thing; rw [if_neg (not_not_intro c1)]⟩
        · replace hP := hP.2 c2
          refine r_iconst 0 dX10_thing_51 rfl ?_
          exact r_ireturn _ dX10_thing_52 rfl rfl ⟨congrArg (fun z => some (Value.int z)) (by unfold F_X10_thing; rw [if_neg (not_not_intro c1), if_neg c2]), by unfold M_X10_thing; rw [if_neg (not_not_intro c1)]⟩
      · refine r_if_ne 42 dX10_thing_35 (by decide) (fun c2 => ?_) (fun c2 => ?_)
        · refine r_iconst 0 dX10_thing_42 rfl ?_
          have e : (VX10_thing_4 p1 p2 μ) = 0 := by unfold VX10_thing_4; rw [if_pos c2]
          rw [e] at hJ
          exact r_sub [0, 1, 2] rfl hJ
        · refine r_iconst 1 dX10_thing_38 rfl ?_
          refine r_goto 43 dX10_thing_39 (by decide) ?_
          have e : (VX10_thing_4 p1 p2 μ) = 1 := by unfold VX10_thing_4; rw [if_neg (not_not_intro c2)]
          rw [e] at hJ
          exact r_sub [0, 1, 2] rfl hJ
  · refine r_if_ne 18 dX10_thing_11 (by decide) (fun c1 => ?_) (fun c1 => ?_)
    · refine r_iconst 0 dX10_thing_18 rfl ?_
      have e : (VX10_thing_2 p1 p2 μ) = 0 := by unfold VX10_thing_2; rw [if_pos c1]
      rw [e] at hJ
      exact r_sub [0, 1, 2] rfl hJ
    · refine r_iconst 1 dX10_thing_14 rfl ?_
      refine r_goto 19 dX10_thing_15 (by decide) ?_
      have e : (VX10_thing_2 p1 p2 μ) = 1 := by unfold VX10_thing_2; rw [if_neg (not_not_intro c1)]
      rw [e] at hJ
      exact r_sub [0, 1, 2] rfl hJ
def muX10_height_1 (p1 : Int32) (μ : Mem) : Mem := (upm μ 57 0 0)
def VX10_height_2 (p1 : Int32) (μ : Mem) : Int32 := (if (F_X10_isIn p1 0 99 (muX10_height_1 p1 μ)) ≠ 0 then 0 else 1)
theorem bo_VX10_height_2 (p1 : Int32) (μ : Mem) : (VX10_height_2 p1 μ) = 0 ∨ (VX10_height_2 p1 μ) = 1 := by
  unfold VX10_height_2
  split
  · exact Or.inl rfl
  · exact Or.inr rfl
def muX10_height_3 (p1 : Int32) (μ : Mem) : Mem := (M_X10_bad (VX10_height_2 p1 μ) 1 1 (muX10_height_1 p1 μ))
def F_X10_height (p1 : Int32) (μ : Mem) : Int32 := (if (F_X10_bad (VX10_height_2 p1 μ) 1 1 (muX10_height_1 p1 μ)) = 0 then (F_X10_heightIn (((muX10_height_3 p1 μ) 521 62) + p1) (muX10_height_3 p1 μ)) else 0)
def M_X10_height (p1 : Int32) (μ : Mem) : Mem := (muX10_height_3 p1 μ)
def P_X10_height (p1 : Int32) (μ : Mem) : Prop := ((P_X10_bad (VX10_height_2 p1 μ) 1 1 (muX10_height_1 p1 μ)) ∧ (((F_X10_bad (VX10_height_2 p1 μ) 1 1 (muX10_height_1 p1 μ)) = 0 → (P_X10_heightIn (((muX10_height_3 p1 μ) 521 62) + p1) (muX10_height_3 p1 μ))) ∧ (¬ (F_X10_bad (VX10_height_2 p1 μ) 1 1 (muX10_height_1 p1 μ)) = 0 → True)))
set_option maxRecDepth 20000 in
set_option maxHeartbeats 2000000 in
theorem ok_X10_height {G : SG} (hG : GK 548 G) (p1 : Int32) (μ : Mem) (hP : P_X10_height p1 μ) : OkF G mX10_height [.ref (ga G 57), .int p1] μ (some (.int (F_X10_height p1 μ))) (M_X10_height p1 μ) := by
  refine okF_of hG rfl rfl (Nat.le_of_ble_eq_true rfl) ?_
  unfold P_X10_height at hP
  refine r_aload_n dX10_height_0 0 rfl ?_
  refine r_iconst 0 dX10_height_1 rfl ?_
  refine r_put fiX10_103 (hG.lt (by decide)) sh57 fs57_0 dX10_height_2 ?_
  refine r_mu (muX10_height_1 p1 μ) rfl ?_
  refine r_aload_n dX10_height_5 0 rfl ?_
  refine r_iload_n dX10_height_6 1 rfl ?_
  refine r_iconst 0 dX10_height_7 rfl ?_
  refine r_bipush 99 dX10_height_8 rfl ?_
  refine r_csI (ok_X10_isIn hG p1 0 99 (muX10_height_1 p1 μ)) lX10_137 dX10_height_10 (by decide) (Nat.le_of_ble_eq_true rfl) rfl (Nat.le_of_ble_eq_true rfl) ?_
  refine r_join 21 [(0, .ref (ga G 57)), (1, .int p1)] [.int (VX10_height_2 p1 μ), .ref (ga G 57)] (muX10_height_1 p1 μ) ?_ (fun hJ => ?_)
  · refine r_iconst 1 dX10_height_21 rfl ?_
    refine r_iconst 1 dX10_height_22 rfl ?_
    have hs1 := hP.1
    replace hP := hP.2
    refine r_cvI (ok_X10_bad hG (VX10_height_2 p1 μ) 1 1 (muX10_height_1 p1 μ) hs1) lX10_186 (hG.lt (by decide)) sh57 ⟨_, _, rfl⟩ dX10_height_23 (by decide) (Nat.le_of_ble_eq_true rfl) rfl (Nat.le_of_ble_eq_true rfl) ?_
    refine r_mu (muX10_height_3 p1 μ) rfl ?_
    refine r_if_eq 31 dX10_height_26 (by decide) (fun c1 => ?_) (fun c1 => ?_)
    · replace hP := hP.1 c1
      refine r_aload_n dX10_height_31 0 rfl ?_
      refine r_aload_n dX10_height_32 0 rfl ?_
      refine r_getR 521 fX10_73 (hG.lt (by decide)) sh57 fs57_31 dX10_height_33 ?_
      refine r_bipush 62 dX10_height_36 rfl ?_
      refine r_ialdK 62 rfl (hG.lt (by decide)) sh521 (vp_of (by decide) (by decide)) dX10_height_38 ?_
      refine r_iload_n dX10_height_39 1 rfl ?_
      refine r_iadd dX10_height_40 ?_
      have hs2 := hP
      refine r_cvI (ok_X10_heightIn hG (((muX10_height_3 p1 μ) 521 62) + p1) (muX10_height_3 p1 μ) hs2) lX10_276 (hG.lt (by decide)) sh57 ⟨_, _, rfl⟩ dX10_height_41 (by decide) (Nat.le_of_ble_eq_true rfl) rfl (Nat.le_of_ble_eq_true rfl) ?_
      exact r_ireturn _ dX10_height_44 rfl rfl ⟨congrArg (fun z => some (Value.int z)) (by unfold F_X10_height; rw [if_pos c1]), rfl⟩
    · replace hP := hP.2 c1
      refine r_iconst 0 dX10_height_29 rfl ?_
      exact r_ireturn _ dX10_height_30 rfl rfl ⟨congrArg (fun z => some (Value.int z)) (by unfold F_X10_height; rw [if_neg c1]), rfl⟩
  · refine r_if_ne 20 dX10_height_13 (by decide) (fun c1 => ?_) (fun c1 => ?_)
    · refine r_iconst 0 dX10_height_20 rfl ?_
      have e : (VX10_height_2 p1 μ) = 0 := by unfold VX10_height_2; rw [if_pos c1]
      rw [e] at hJ
      exact r_sub [0, 1] rfl hJ
    · refine r_iconst 1 dX10_height_16 rfl ?_
      refine r_goto 21 dX10_height_17 (by decide) ?_
      have e : (VX10_height_2 p1 μ) = 1 := by unfold VX10_height_2; rw [if_neg (not_not_intro c1)]
      rw [e] at hJ
      exact r_sub [0, 1] rfl hJ
def muX10_find_1 (p1 : Int32) (p2 : Int32) (μ : Mem) : Mem := (upm μ 57 0 0)
def VX10_find_2 (p1 : Int32) (p2 : Int32) (μ : Mem) : Int32 := (if (F_X10_isIn p1 0 (((muX10_find_1 p1 p2 μ) 61 3) - 1) (muX10_find_1 p1 p2 μ)) ≠ 0 then 0 else 1)
theorem bo_VX10_find_2 (p1 : Int32) (p2 : Int32) (μ : Mem) : (VX10_find_2 p1 p2 μ) = 0 ∨ (VX10_find_2 p1 p2 μ) = 1 := by
  unfold VX10_find_2
  split
  · exact Or.inl rfl
  · exact Or.inr rfl
def muX10_find_3 (p1 : Int32) (p2 : Int32) (μ : Mem) : Mem := (M_X10_bad (VX10_find_2 p1 p2 μ) 1 0 (muX10_find_1 p1 p2 μ))
def VX10_find_4 (p1 : Int32) (p2 : Int32) (μ : Mem) : Int32 := (if (F_X10_isIn p2 0 1 (muX10_find_3 p1 p2 μ)) ≠ 0 then 0 else 1)
theorem bo_VX10_find_4 (p1 : Int32) (p2 : Int32) (μ : Mem) : (VX10_find_4 p1 p2 μ) = 0 ∨ (VX10_find_4 p1 p2 μ) = 1 := by
  unfold VX10_find_4
  split
  · exact Or.inl rfl
  · exact Or.inr rfl
def muX10_find_5 (p1 : Int32) (p2 : Int32) (μ : Mem) : Mem := (M_X10_bad (VX10_find_4 p1 p2 μ) 2 1 (muX10_find_3 p1 p2 μ))
def F_X10_find (p1 : Int32) (p2 : Int32) (μ : Mem) : Int32 := (if (F_X10_bad (VX10_find_2 p1 p2 μ) 1 0 (muX10_find_1 p1 p2 μ)) ≠ 0 then 0 else (if (F_X10_bad (VX10_find_4 p1 p2 μ) 2 1 (muX10_find_3 p1 p2 μ)) = 0 then ((muX10_find_5 p1 p2 μ) (96 + (ix p1)) (ix p2)) else 0))
def M_X10_find (p1 : Int32) (p2 : Int32) (μ : Mem) : Mem := (if (F_X10_bad (VX10_find_2 p1 p2 μ) 1 0 (muX10_find_1 p1 p2 μ)) ≠ 0 then (muX10_find_3 p1 p2 μ) else (muX10_find_5 p1 p2 μ))
def P_X10_find (p1 : Int32) (p2 : Int32) (μ : Mem) : Prop := ((P_X10_bad (VX10_find_2 p1 p2 μ) 1 0 (muX10_find_1 p1 p2 μ)) ∧ (((F_X10_bad (VX10_find_2 p1 p2 μ) 1 0 (muX10_find_1 p1 p2 μ)) ≠ 0 → True) ∧ ((F_X10_bad (VX10_find_2 p1 p2 μ) 1 0 (muX10_find_1 p1 p2 μ)) = 0 → ((P_X10_bad (VX10_find_4 p1 p2 μ) 2 1 (muX10_find_3 p1 p2 μ)) ∧ (((F_X10_bad (VX10_find_4 p1 p2 μ) 2 1 (muX10_find_3 p1 p2 μ)) = 0 → ((vp_in p1 6) ∧ (vp_in p2 2))) ∧ (¬ (F_X10_bad (VX10_find_4 p1 p2 μ) 2 1 (muX10_find_3 p1 p2 μ)) = 0 → True))))))
set_option maxRecDepth 20000 in
set_option maxHeartbeats 2000000 in
theorem ok_X10_find {G : SG} (hG : GK 548 G) (p1 : Int32) (p2 : Int32) (μ : Mem) (hP : P_X10_find p1 p2 μ) : OkF G mX10_find [.ref (ga G 57), .int p1, .int p2] μ (some (.int (F_X10_find p1 p2 μ))) (M_X10_find p1 p2 μ) := by
  refine okF_of hG rfl rfl (Nat.le_of_ble_eq_true rfl) ?_
  unfold P_X10_find at hP
  refine r_aload_n dX10_find_0 0 rfl ?_
  refine r_iconst 0 dX10_find_1 rfl ?_
  refine r_put fiX10_103 (hG.lt (by decide)) sh57 fs57_0 dX10_find_2 ?_
  refine r_mu (muX10_find_1 p1 p2 μ) rfl ?_
  refine r_aload_n dX10_find_5 0 rfl ?_
  refine r_iload_n dX10_find_6 1 rfl ?_
  refine r_iconst 0 dX10_find_7 rfl ?_
  refine r_aload_n dX10_find_8 0 rfl ?_
  refine r_getR 61 fX10_23 (hG.lt (by decide)) sh57 fs57_12 dX10_find_9 ?_
  refine r_iconst 3 dX10_find_12 rfl ?_
  refine r_ialdK 3 rfl (hG.lt (by decide)) sh61 (vp_of (by decide) (by decide)) dX10_find_13 ?_
  refine r_iconst 1 dX10_find_14 rfl ?_
  refine r_isub dX10_find_15 ?_
  refine r_csI (ok_X10_isIn hG p1 0 (((muX10_find_1 p1 p2 μ) 61 3) - 1) (muX10_find_1 p1 p2 μ)) lX10_137 dX10_find_16 (by decide) (Nat.le_of_ble_eq_true rfl) rfl (Nat.le_of_ble_eq_true rfl) ?_
  refine r_join 27 [(0, .ref (ga G 57)), (1, .int p1), (2, .int p2)] [.int (VX10_find_2 p1 p2 μ), .ref (ga G 57)] (muX10_find_1 p1 p2 μ) ?_ (fun hJ => ?_)
  · refine r_iconst 1 dX10_find_27 rfl ?_
    refine r_iconst 0 dX10_find_28 rfl ?_
    have hs1 := hP.1
    replace hP := hP.2
    refine r_cvI (ok_X10_bad hG (VX10_find_2 p1 p2 μ) 1 0 (muX10_find_1 p1 p2 μ) hs1) lX10_186 (hG.lt (by decide)) sh57 ⟨_, _, rfl⟩ dX10_find_29 (by decide) (Nat.le_of_ble_eq_true rfl) rfl (Nat.le_of_ble_eq_true rfl) ?_
    refine r_mu (muX10_find_3 p1 p2 μ) rfl ?_
    refine r_if_ne 58 dX10_find_32 (by decide) (fun c1 => ?_) (fun c1 => ?_)
    · replace hP := hP.1 c1
      refine r_iconst 0 dX10_find_58 rfl ?_
      exact r_ireturn _ dX10_find_59 rfl rfl ⟨congrArg (fun z => some (Value.int z)) (by unfold F_X10_find; rw [if_pos c1]), by unfold M_X10_find; rw [if_pos c1]⟩
    · replace hP := hP.2 c1
      refine r_aload_n dX10_find_35 0 rfl ?_
      refine r_iload_n dX10_find_36 2 rfl ?_
      refine r_iconst 0 dX10_find_37 rfl ?_
      refine r_iconst 1 dX10_find_38 rfl ?_
      refine r_csI (ok_X10_isIn hG p2 0 1 (muX10_find_3 p1 p2 μ)) lX10_137 dX10_find_39 (by decide) (Nat.le_of_ble_eq_true rfl) rfl (Nat.le_of_ble_eq_true rfl) ?_
      refine r_join 50 [(0, .ref (ga G 57)), (1, .int p1), (2, .int p2)] [.int (VX10_find_4 p1 p2 μ), .ref (ga G 57)] (muX10_find_3 p1 p2 μ) ?_ (fun hJ => ?_)
      · refine r_iconst 2 dX10_find_50 rfl ?_
        refine r_iconst 1 dX10_find_51 rfl ?_
        have hs2 := hP.1
        replace hP := hP.2
        refine r_cvI (ok_X10_bad hG (VX10_find_4 p1 p2 μ) 2 1 (muX10_find_3 p1 p2 μ) hs2) lX10_186 (hG.lt (by decide)) sh57 ⟨_, _, rfl⟩ dX10_find_52 (by decide) (Nat.le_of_ble_eq_true rfl) rfl (Nat.le_of_ble_eq_true rfl) ?_
        refine r_mu (muX10_find_5 p1 p2 μ) rfl ?_
        refine r_if_eq 60 dX10_find_55 (by decide) (fun c2 => ?_) (fun c2 => ?_)
        · replace hP := hP.1 c2
          refine r_aload_n dX10_find_60 0 rfl ?_
          refine r_getR 95 fX10_49 (hG.lt (by decide)) sh57 fs57_20 dX10_find_61 ?_
          refine r_iload_n dX10_find_64 1 rfl ?_
          have hs3 := hP.1
          replace hP := hP.2
          refine r_aald (hG.lt (by decide)) sh95 hs3 dX10_find_65 ?_
          refine r_iload_n dX10_find_66 2 rfl ?_
          have hs4 := hP
          refine r_iald (ltR (vp_ix hs3) (by decide) hG) (shr95 _ (vp_ix hs3)) hs4 dX10_find_67 ?_
          exact r_ireturn _ dX10_find_68 rfl rfl ⟨congrArg (fun z => some (Value.int z)) (by unfold F_X10_find; rw [if_neg (not_not_intro c1), if_pos c2]), by unfold M_X10_find; rw [if_neg (not_not_intro c1)]⟩
        · replace hP := hP.2 c2
          refine r_iconst 0 dX10_find_58 rfl ?_
          exact r_ireturn _ dX10_find_59 rfl rfl ⟨congrArg (fun z => some (Value.int z)) (by unfold F_X10_find; rw [if_neg (not_not_intro c1), if_neg c2]), by unfold M_X10_find; rw [if_neg (not_not_intro c1)]⟩
      · refine r_if_ne 49 dX10_find_42 (by decide) (fun c2 => ?_) (fun c2 => ?_)
        · refine r_iconst 0 dX10_find_49 rfl ?_
          have e : (VX10_find_4 p1 p2 μ) = 0 := by unfold VX10_find_4; rw [if_pos c2]
          rw [e] at hJ
          exact r_sub [0, 1, 2] rfl hJ
        · refine r_iconst 1 dX10_find_45 rfl ?_
          refine r_goto 50 dX10_find_46 (by decide) ?_
          have e : (VX10_find_4 p1 p2 μ) = 1 := by unfold VX10_find_4; rw [if_neg (not_not_intro c2)]
          rw [e] at hJ
          exact r_sub [0, 1, 2] rfl hJ
  · refine r_if_ne 26 dX10_find_19 (by decide) (fun c1 => ?_) (fun c1 => ?_)
    · refine r_iconst 0 dX10_find_26 rfl ?_
      have e : (VX10_find_2 p1 p2 μ) = 0 := by unfold VX10_find_2; rw [if_pos c1]
      rw [e] at hJ
      exact r_sub [0, 1, 2] rfl hJ
    · refine r_iconst 1 dX10_find_22 rfl ?_
      refine r_goto 27 dX10_find_23 (by decide) ?_
      have e : (VX10_find_2 p1 p2 μ) = 1 := by unfold VX10_find_2; rw [if_neg (not_not_intro c1)]
      rw [e] at hJ
      exact r_sub [0, 1, 2] rfl hJ
def muX10_due_1 (p1 : Int32) (μ : Mem) : Mem := (upm μ 57 0 0)
def VX10_due_2 (p1 : Int32) (μ : Mem) : Int32 := (if (F_X10_isHouse p1 (muX10_due_1 p1 μ)) ≠ 0 then 0 else 1)
theorem bo_VX10_due_2 (p1 : Int32) (μ : Mem) : (VX10_due_2 p1 μ) = 0 ∨ (VX10_due_2 p1 μ) = 1 := by
  unfold VX10_due_2
  split
  · exact Or.inl rfl
  · exact Or.inr rfl
def muX10_due_3 (p1 : Int32) (μ : Mem) : Mem := (M_X10_bad (VX10_due_2 p1 μ) 1 0 (muX10_due_1 p1 μ))
def muX10_due_4 (p1 : Int32) (μ : Mem) : Mem := (M_X10_counts 521 (muX10_due_3 p1 μ))
def muX10_due_5 (p1 : Int32) (μ : Mem) : Mem := (M_X10_dueOf 521 p1 (muX10_due_4 p1 μ))
def F_X10_due (p1 : Int32) (μ : Mem) : Int32 := (if (F_X10_bad (VX10_due_2 p1 μ) 1 0 (muX10_due_1 p1 μ)) = 0 then (F_X10_dueOf 521 p1 (muX10_due_4 p1 μ)) else 0)
def M_X10_due (p1 : Int32) (μ : Mem) : Mem := (if (F_X10_bad (VX10_due_2 p1 μ) 1 0 (muX10_due_1 p1 μ)) = 0 then (muX10_due_5 p1 μ) else (muX10_due_3 p1 μ))
def P_X10_due (p1 : Int32) (μ : Mem) : Prop := ((P_X10_bad (VX10_due_2 p1 μ) 1 0 (muX10_due_1 p1 μ)) ∧ (((F_X10_bad (VX10_due_2 p1 μ) 1 0 (muX10_due_1 p1 μ)) = 0 → ((P_X10_counts 521 (muX10_due_3 p1 μ)) ∧ (P_X10_dueOf 521 p1 (muX10_due_4 p1 μ)))) ∧ (¬ (F_X10_bad (VX10_due_2 p1 μ) 1 0 (muX10_due_1 p1 μ)) = 0 → True)))
set_option maxRecDepth 20000 in
set_option maxHeartbeats 2000000 in
theorem ok_X10_due {G : SG} (hG : GK 548 G) (p1 : Int32) (μ : Mem) (hP : P_X10_due p1 μ) : OkF G mX10_due [.ref (ga G 57), .int p1] μ (some (.int (F_X10_due p1 μ))) (M_X10_due p1 μ) := by
  refine okF_of hG rfl rfl (Nat.le_of_ble_eq_true rfl) ?_
  unfold P_X10_due at hP
  refine r_aload_n dX10_due_0 0 rfl ?_
  refine r_iconst 0 dX10_due_1 rfl ?_
  refine r_put fiX10_103 (hG.lt (by decide)) sh57 fs57_0 dX10_due_2 ?_
  refine r_mu (muX10_due_1 p1 μ) rfl ?_
  refine r_aload_n dX10_due_5 0 rfl ?_
  refine r_aload_n dX10_due_6 0 rfl ?_
  refine r_iload_n dX10_due_7 1 rfl ?_
  refine r_cvI (ok_X10_isHouse hG p1 (muX10_due_1 p1 μ)) lX10_347 (hG.lt (by decide)) sh57 ⟨_, _, rfl⟩ dX10_due_8 (by decide) (Nat.le_of_ble_eq_true rfl) rfl (Nat.le_of_ble_eq_true rfl) ?_
  refine r_join 19 [(0, .ref (ga G 57)), (1, .int p1)] [.int (VX10_due_2 p1 μ), .ref (ga G 57)] (muX10_due_1 p1 μ) ?_ (fun hJ => ?_)
  · refine r_iconst 1 dX10_due_19 rfl ?_
    refine r_iconst 0 dX10_due_20 rfl ?_
    have hs1 := hP.1
    replace hP := hP.2
    refine r_cvI (ok_X10_bad hG (VX10_due_2 p1 μ) 1 0 (muX10_due_1 p1 μ) hs1) lX10_186 (hG.lt (by decide)) sh57 ⟨_, _, rfl⟩ dX10_due_21 (by decide) (Nat.le_of_ble_eq_true rfl) rfl (Nat.le_of_ble_eq_true rfl) ?_
    refine r_mu (muX10_due_3 p1 μ) rfl ?_
    refine r_if_eq 29 dX10_due_24 (by decide) (fun c1 => ?_) (fun c1 => ?_)
    · replace hP := hP.1 c1
      refine r_aload_n dX10_due_29 0 rfl ?_
      refine r_aload_n dX10_due_30 0 rfl ?_
      refine r_getR 521 fX10_73 (hG.lt (by decide)) sh57 fs57_31 dX10_due_31 ?_
      have hs2 := hP.1
      replace hP := hP.2
      refine r_cvV (ok_X10_counts hG (hG.lt (by decide)) sh521 (muX10_due_3 p1 μ) hs2) lX10_303 (hG.lt (by decide)) sh57 ⟨_, _, rfl⟩ dX10_due_34 (by decide) (Nat.le_of_ble_eq_true rfl) rfl (Nat.le_of_ble_eq_true rfl) ?_
      refine r_mu (muX10_due_4 p1 μ) rfl ?_
      refine r_aload_n dX10_due_37 0 rfl ?_
      refine r_aload_n dX10_due_38 0 rfl ?_
      refine r_getR 521 fX10_73 (hG.lt (by decide)) sh57 fs57_31 dX10_due_39 ?_
      refine r_iload_n dX10_due_42 1 rfl ?_
      have hs3 := hP
      refine r_cvI (ok_X10_dueOf hG (hG.lt (by decide)) sh521 p1 (muX10_due_4 p1 μ) hs3) lX10_307 (hG.lt (by decide)) sh57 ⟨_, _, rfl⟩ dX10_due_43 (by decide) (Nat.le_of_ble_eq_true rfl) rfl (Nat.le_of_ble_eq_true rfl) ?_
      refine r_mu (muX10_due_5 p1 μ) rfl ?_
      exact r_ireturn _ dX10_due_46 rfl rfl ⟨congrArg (fun z => some (Value.int z)) (by unfold F_X10_due; rw [if_pos c1]), by unfold M_X10_due; rw [if_pos c1]⟩
    · replace hP := hP.2 c1
      refine r_iconst 0 dX10_due_27 rfl ?_
      exact r_ireturn _ dX10_due_28 rfl rfl ⟨congrArg (fun z => some (Value.int z)) (by unfold F_X10_due; rw [if_neg c1]), by unfold M_X10_due; rw [if_neg c1]⟩
  · refine r_if_ne 18 dX10_due_11 (by decide) (fun c1 => ?_) (fun c1 => ?_)
    · refine r_iconst 0 dX10_due_18 rfl ?_
      have e : (VX10_due_2 p1 μ) = 0 := by unfold VX10_due_2; rw [if_pos c1]
      rw [e] at hJ
      exact r_sub [0, 1] rfl hJ
    · refine r_iconst 1 dX10_due_14 rfl ?_
      refine r_goto 19 dX10_due_15 (by decide) ?_
      have e : (VX10_due_2 p1 μ) = 1 := by unfold VX10_due_2; rw [if_neg (not_not_intro c1)]
      rw [e] at hJ
      exact r_sub [0, 1] rfl hJ
def muX10_would_1 (p1 : Int32) (p2 : Int32) (p3 : Int32) (p4 : Int32) (p5 : Int32) (p6 : Int32) (μ : Mem) : Mem := (upm μ 57 0 0)
def VX10_would_2 (p1 : Int32) (p2 : Int32) (p3 : Int32) (p4 : Int32) (p5 : Int32) (p6 : Int32) (μ : Mem) : Int32 := (if (F_X10_isIn p1 1 60 (muX10_would_1 p1 p2 p3 p4 p5 p6 μ)) = 0 then 1 else (if (F_X10_isIn p2 0 10 (muX10_would_1 p1 p2 p3 p4 p5 p6 μ)) = 0 then 1 else (if (F_X10_isIn p3 0 10 (muX10_would_1 p1 p2 p3 p4 p5 p6 μ)) = 0 then 1 else (if (F_X10_isIn p4 0 999 (muX10_would_1 p1 p2 p3 p4 p5 p6 μ)) = 0 then 1 else (if (F_X10_isIn p5 0 40 (muX10_would_1 p1 p2 p3 p4 p5 p6 μ)) = 0 then 1 else (if (F_X10_isIn p6 0 5 (muX10_would_1 p1 p2 p3 p4 p5 p6 μ)) ≠ 0 then 0 else 1))))))
theorem bo_VX10_would_2 (p1 : Int32) (p2 : Int32) (p3 : Int32) (p4 : Int32) (p5 : Int32) (p6 : Int32) (μ : Mem) : (VX10_would_2 p1 p2 p3 p4 p5 p6 μ) = 0 ∨ (VX10_would_2 p1 p2 p3 p4 p5 p6 μ) = 1 := by
  unfold VX10_would_2
  split
  · exact Or.inr rfl
  · split
    · exact Or.inr rfl
    · split
      · exact Or.inr rfl
      · split
        · exact Or.inr rfl
        · split
          · exact Or.inr rfl
          · split
            · exact Or.inl rfl
            · exact Or.inr rfl
def muX10_would_3 (p1 : Int32) (p2 : Int32) (p3 : Int32) (p4 : Int32) (p5 : Int32) (p6 : Int32) (μ : Mem) : Mem := (M_X10_bad (VX10_would_2 p1 p2 p3 p4 p5 p6 μ) 1 1 (muX10_would_1 p1 p2 p3 p4 p5 p6 μ))
def muX10_would_4 (p1 : Int32) (p2 : Int32) (p3 : Int32) (p4 : Int32) (p5 : Int32) (p6 : Int32) (μ : Mem) : Mem := (M_X10_dueBy p1 p2 p3 p4 p5 p6 (muX10_would_3 p1 p2 p3 p4 p5 p6 μ))
def F_X10_would (p1 : Int32) (p2 : Int32) (p3 : Int32) (p4 : Int32) (p5 : Int32) (p6 : Int32) (μ : Mem) : Int32 := (if (F_X10_bad (VX10_would_2 p1 p2 p3 p4 p5 p6 μ) 1 1 (muX10_would_1 p1 p2 p3 p4 p5 p6 μ)) = 0 then (F_X10_dueBy p1 p2 p3 p4 p5 p6 (muX10_would_3 p1 p2 p3 p4 p5 p6 μ)) else 0)
def M_X10_would (p1 : Int32) (p2 : Int32) (p3 : Int32) (p4 : Int32) (p5 : Int32) (p6 : Int32) (μ : Mem) : Mem := (if (F_X10_bad (VX10_would_2 p1 p2 p3 p4 p5 p6 μ) 1 1 (muX10_would_1 p1 p2 p3 p4 p5 p6 μ)) = 0 then (muX10_would_4 p1 p2 p3 p4 p5 p6 μ) else (muX10_would_3 p1 p2 p3 p4 p5 p6 μ))
def P_X10_would (p1 : Int32) (p2 : Int32) (p3 : Int32) (p4 : Int32) (p5 : Int32) (p6 : Int32) (μ : Mem) : Prop := ((P_X10_bad (VX10_would_2 p1 p2 p3 p4 p5 p6 μ) 1 1 (muX10_would_1 p1 p2 p3 p4 p5 p6 μ)) ∧ (((F_X10_bad (VX10_would_2 p1 p2 p3 p4 p5 p6 μ) 1 1 (muX10_would_1 p1 p2 p3 p4 p5 p6 μ)) = 0 → (P_X10_dueBy p1 p2 p3 p4 p5 p6 (muX10_would_3 p1 p2 p3 p4 p5 p6 μ))) ∧ (¬ (F_X10_bad (VX10_would_2 p1 p2 p3 p4 p5 p6 μ) 1 1 (muX10_would_1 p1 p2 p3 p4 p5 p6 μ)) = 0 → True)))
set_option maxRecDepth 20000 in
set_option maxHeartbeats 2000000 in
theorem ok_X10_would {G : SG} (hG : GK 548 G) (p1 : Int32) (p2 : Int32) (p3 : Int32) (p4 : Int32) (p5 : Int32) (p6 : Int32) (μ : Mem) (hP : P_X10_would p1 p2 p3 p4 p5 p6 μ) : OkF G mX10_would [.ref (ga G 57), .int p1, .int p2, .int p3, .int p4, .int p5, .int p6] μ (some (.int (F_X10_would p1 p2 p3 p4 p5 p6 μ))) (M_X10_would p1 p2 p3 p4 p5 p6 μ) := by
  refine okF_of hG rfl rfl (Nat.le_of_ble_eq_true rfl) ?_
  unfold P_X10_would at hP
  refine r_aload_n dX10_would_0 0 rfl ?_
  refine r_iconst 0 dX10_would_1 rfl ?_
  refine r_put fiX10_103 (hG.lt (by decide)) sh57 fs57_0 dX10_would_2 ?_
  refine r_mu (muX10_would_1 p1 p2 p3 p4 p5 p6 μ) rfl ?_
  refine r_aload_n dX10_would_5 0 rfl ?_
  refine r_iload_n dX10_would_6 1 rfl ?_
  refine r_iconst 1 dX10_would_7 rfl ?_
  refine r_bipush 60 dX10_would_8 rfl ?_
  refine r_csI (ok_X10_isIn hG p1 1 60 (muX10_would_1 p1 p2 p3 p4 p5 p6 μ)) lX10_137 dX10_would_10 (by decide) (Nat.le_of_ble_eq_true rfl) rfl (Nat.le_of_ble_eq_true rfl) ?_
  refine r_join 74 [(0, .ref (ga G 57)), (1, .int p1), (2, .int p2), (3, .int p3), (4, .int p4), (5, .int p5), (6, .int p6)] [.int (VX10_would_2 p1 p2 p3 p4 p5 p6 μ), .ref (ga G 57)] (muX10_would_1 p1 p2 p3 p4 p5 p6 μ) ?_ (fun hJ => ?_)
  · refine r_iconst 1 dX10_would_74 rfl ?_
    refine r_iconst 1 dX10_would_75 rfl ?_
    have hs1 := hP.1
    replace hP := hP.2
    refine r_cvI (ok_X10_bad hG (VX10_would_2 p1 p2 p3 p4 p5 p6 μ) 1 1 (muX10_would_1 p1 p2 p3 p4 p5 p6 μ) hs1) lX10_186 (hG.lt (by decide)) sh57 ⟨_, _, rfl⟩ dX10_would_76 (by decide) (Nat.le_of_ble_eq_true rfl) rfl (Nat.le_of_ble_eq_true rfl) ?_
    refine r_mu (muX10_would_3 p1 p2 p3 p4 p5 p6 μ) rfl ?_
    refine r_if_eq 84 dX10_would_79 (by decide) (fun c1 => ?_) (fun c1 => ?_)
    · replace hP := hP.1 c1
      refine r_aload_n dX10_would_84 0 rfl ?_
      refine r_iload_n dX10_would_85 1 rfl ?_
      refine r_iload_n dX10_would_86 2 rfl ?_
      refine r_iload_n dX10_would_87 3 rfl ?_
      refine r_iload dX10_would_88 4 rfl ?_
      refine r_iload dX10_would_90 5 rfl ?_
      refine r_iload dX10_would_92 6 rfl ?_
      have hs2 := hP
      refine r_cvI (ok_X10_dueBy hG p1 p2 p3 p4 p5 p6 (muX10_would_3 p1 p2 p3 p4 p5 p6 μ) hs2) lX10_299 (hG.lt (by decide)) sh57 ⟨_, _, rfl⟩ dX10_would_94 (by decide) (Nat.le_of_ble_eq_true rfl) rfl (Nat.le_of_ble_eq_true rfl) ?_
      refine r_mu (muX10_would_4 p1 p2 p3 p4 p5 p6 μ) rfl ?_
      exact r_ireturn _ dX10_would_97 rfl rfl ⟨congrArg (fun z => some (Value.int z)) (by unfold F_X10_would; rw [if_pos c1]), by unfold M_X10_would; rw [if_pos c1]⟩
    · replace hP := hP.2 c1
      refine r_iconst 0 dX10_would_82 rfl ?_
      exact r_ireturn _ dX10_would_83 rfl rfl ⟨congrArg (fun z => some (Value.int z)) (by unfold F_X10_would; rw [if_neg c1]), by unfold M_X10_would; rw [if_neg c1]⟩
  · refine r_if_eq 69 dX10_would_13 (by decide) (fun c1 => ?_) (fun c1 => ?_)
    · refine r_iconst 1 dX10_would_69 rfl ?_
      refine r_goto 74 dX10_would_70 (by decide) ?_
      have e : (VX10_would_2 p1 p2 p3 p4 p5 p6 μ) = 1 := by unfold VX10_would_2; rw [if_pos c1]
      rw [e] at hJ
      exact r_sub [0, 1, 2, 3, 4, 5, 6] rfl hJ
    · refine r_iload_n dX10_would_16 2 rfl ?_
      refine r_iconst 0 dX10_would_17 rfl ?_
      refine r_bipush 10 dX10_would_18 rfl ?_
      refine r_csI (ok_X10_isIn hG p2 0 10 (muX10_would_1 p1 p2 p3 p4 p5 p6 μ)) lX10_137 dX10_would_20 (by decide) (Nat.le_of_ble_eq_true rfl) rfl (Nat.le_of_ble_eq_true rfl) ?_
      refine r_if_eq 69 dX10_would_23 (by decide) (fun c2 => ?_) (fun c2 => ?_)
      · refine r_iconst 1 dX10_would_69 rfl ?_
        refine r_goto 74 dX10_would_70 (by decide) ?_
        have e : (VX10_would_2 p1 p2 p3 p4 p5 p6 μ) = 1 := by unfold VX10_would_2; rw [if_neg c1, if_pos c2]
        rw [e] at hJ
        exact r_sub [0, 1, 2, 3, 4, 5, 6] rfl hJ
      · refine r_iload_n dX10_would_26 3 rfl ?_
        refine r_iconst 0 dX10_would_27 rfl ?_
        refine r_bipush 10 dX10_would_28 rfl ?_
        refine r_csI (ok_X10_isIn hG p3 0 10 (muX10_would_1 p1 p2 p3 p4 p5 p6 μ)) lX10_137 dX10_would_30 (by decide) (Nat.le_of_ble_eq_true rfl) rfl (Nat.le_of_ble_eq_true rfl) ?_
        refine r_if_eq 69 dX10_would_33 (by decide) (fun c3 => ?_) (fun c3 => ?_)
        · refine r_iconst 1 dX10_would_69 rfl ?_
          refine r_goto 74 dX10_would_70 (by decide) ?_
          have e : (VX10_would_2 p1 p2 p3 p4 p5 p6 μ) = 1 := by unfold VX10_would_2; rw [if_neg c1, if_neg c2, if_pos c3]
          rw [e] at hJ
          exact r_sub [0, 1, 2, 3, 4, 5, 6] rfl hJ
        · refine r_iload dX10_would_36 4 rfl ?_
          refine r_iconst 0 dX10_would_38 rfl ?_
          refine r_sipush 999 dX10_would_39 rfl ?_
          refine r_csI (ok_X10_isIn hG p4 0 999 (muX10_would_1 p1 p2 p3 p4 p5 p6 μ)) lX10_137 dX10_would_42 (by decide) (Nat.le_of_ble_eq_true rfl) rfl (Nat.le_of_ble_eq_true rfl) ?_
          refine r_if_eq 69 dX10_would_45 (by decide) (fun c4 => ?_) (fun c4 => ?_)
          · refine r_iconst 1 dX10_would_69 rfl ?_
            refine r_goto 74 dX10_would_70 (by decide) ?_
            have e : (VX10_would_2 p1 p2 p3 p4 p5 p6 μ) = 1 := by unfold VX10_would_2; rw [if_neg c1, if_neg c2, if_neg c3, if_pos c4]
            rw [e] at hJ
            exact r_sub [0, 1, 2, 3, 4, 5, 6] rfl hJ
          · refine r_iload dX10_would_48 5 rfl ?_
            refine r_iconst 0 dX10_would_50 rfl ?_
            refine r_bipush 40 dX10_would_51 rfl ?_
            refine r_csI (ok_X10_isIn hG p5 0 40 (muX10_would_1 p1 p2 p3 p4 p5 p6 μ)) lX10_137 dX10_would_53 (by decide) (Nat.le_of_ble_eq_true rfl) rfl (Nat.le_of_ble_eq_true rfl) ?_
            refine r_if_eq 69 dX10_would_56 (by decide) (fun c5 => ?_) (fun c5 => ?_)
            · refine r_iconst 1 dX10_would_69 rfl ?_
              refine r_goto 74 dX10_would_70 (by decide) ?_
              have e : (VX10_would_2 p1 p2 p3 p4 p5 p6 μ) = 1 := by unfold VX10_would_2; rw [if_neg c1, if_neg c2, if_neg c3, if_neg c4, if_pos c5]
              rw [e] at hJ
              exact r_sub [0, 1, 2, 3, 4, 5, 6] rfl hJ
            · refine r_iload dX10_would_59 6 rfl ?_
              refine r_iconst 0 dX10_would_61 rfl ?_
              refine r_iconst 5 dX10_would_62 rfl ?_
              refine r_csI (ok_X10_isIn hG p6 0 5 (muX10_would_1 p1 p2 p3 p4 p5 p6 μ)) lX10_137 dX10_would_63 (by decide) (Nat.le_of_ble_eq_true rfl) rfl (Nat.le_of_ble_eq_true rfl) ?_
              refine r_if_ne 73 dX10_would_66 (by decide) (fun c6 => ?_) (fun c6 => ?_)
              · refine r_iconst 0 dX10_would_73 rfl ?_
                have e : (VX10_would_2 p1 p2 p3 p4 p5 p6 μ) = 0 := by unfold VX10_would_2; rw [if_neg c1, if_neg c2, if_neg c3, if_neg c4, if_neg c5, if_pos c6]
                rw [e] at hJ
                exact r_sub [0, 1, 2, 3, 4, 5, 6] rfl hJ
              · refine r_iconst 1 dX10_would_69 rfl ?_
                refine r_goto 74 dX10_would_70 (by decide) ?_
                have e : (VX10_would_2 p1 p2 p3 p4 p5 p6 μ) = 1 := by unfold VX10_would_2; rw [if_neg c1, if_neg c2, if_neg c3, if_neg c4, if_neg c5, if_neg (not_not_intro c6)]
                rw [e] at hJ
                exact r_sub [0, 1, 2, 3, 4, 5, 6] rfl hJ
def muX10_goesOn_2_1 (v1 : Int32) (i : Nat) (s : Mem) : Mem := (M_X10_tideComes 522 s)
def g_X10_goesOn_2 (v1 : Int32) (i : Nat) (s : Mem) : Mem := (muX10_goesOn_2_1 v1 i s)
def Pb_X10_goesOn_2 (v1 : Int32) (i : Nat) (s : Mem) : Prop := ((v1 ≤ (nI i) → False) ∧ ((nI i) < v1 → P_X10_tideComes 522 s))
set_option maxRecDepth 20000 in
set_option maxHeartbeats 2000000 in
theorem lp_X10_goesOn_2 {G : SG} (hG : GK 548 G)  (v1 : Int32) (s0 : Mem) (N : Nat) (sN : Mem) (eN : sN = fo N (g_X10_goesOn_2 v1) s0) (hN : ∀ i, i < N → Pb_X10_goesOn_2 v1 i (fo i (g_X10_goesOn_2 v1) s0)) {t : Nat} {Q : PQ} {X : PX} (h : R G mX10_goesOn 2 [(0, .ref (ga G 57)), (1, .int v1), (2, .int (nI N))] [] sN t Q X) : R G mX10_goesOn 2 [(0, .ref (ga G 57)), (1, .int v1), (2, .int 0)] [] s0 t Q X := by
  subst eN
  refine down_i N (fun i => R G mX10_goesOn 2 [(0, .ref (ga G 57)), (1, .int v1), (2, .int (nI i))] [] (fo i (g_X10_goesOn_2 v1) s0) t Q X) h (fun i hi hS => ?_)
  have hP := hN i hi
  rw [fo_succ] at hS
  rw [nI_succ] at hS
  generalize fo i (g_X10_goesOn_2 v1) s0 = s at hS hP ⊢
  unfold Pb_X10_goesOn_2 at hP
  refine r_iload_n dX10_goesOn_2 2 rfl ?_
  refine r_iload_n dX10_goesOn_3 1 rfl ?_
  refine r_icmp_ge 21 dX10_goesOn_4 (by decide) (fun c1 => ?_) (fun c1 => ?_)
  · replace hP := hP.1 c1
    exact hP.elim
  · replace hP := hP.2 c1
    refine r_aload_n dX10_goesOn_7 0 rfl ?_
    refine r_aload_n dX10_goesOn_8 0 rfl ?_
    refine r_getR 522 fX10_76 (hG.lt (by decide)) sh57 fs57_32 dX10_goesOn_9 ?_
    have hs1 := hP
    refine r_cvV (ok_X10_tideComes hG (hG.lt (by decide)) sh522 s hs1) lX10_317 (hG.lt (by decide)) sh57 ⟨_, _, rfl⟩ dX10_goesOn_12 (by decide) (Nat.le_of_ble_eq_true rfl) rfl (Nat.le_of_ble_eq_true rfl) ?_
    refine r_mu (muX10_goesOn_2_1 v1 i s) rfl ?_
    refine r_iinc ((nI i) + 1) [(2, _), (0, _), (1, _)] dX10_goesOn_15 2 rfl rfl (Nat.le_of_ble_eq_true rfl) rfl ?_
    refine r_goto 2 dX10_goesOn_18 (by decide) ?_
    have e : g_X10_goesOn_2 v1 i s = (muX10_goesOn_2_1 v1 i s) := by unfold g_X10_goesOn_2; rfl
    rw [e] at hS
    exact r_sub [1, 2, 0] rfl hS
def NX10_goesOn_2 (p1 : Int32) (μ : Mem) : Nat := ix p1
def SX10_goesOn_2 (p1 : Int32) (μ : Mem) : Mem := fo (NX10_goesOn_2 p1 μ) (g_X10_goesOn_2 p1) μ
def muX10_goesOn_1 (p1 : Int32) (μ : Mem) : Mem := (M_X10_tideComes 522 (SX10_goesOn_2 p1 μ))
def M_X10_goesOn (p1 : Int32) (μ : Mem) : Mem := (SX10_goesOn_2 p1 μ)
def P_X10_goesOn (p1 : Int32) (μ : Mem) : Prop := ((∀ j9, j9 < (NX10_goesOn_2 p1 μ) → Pb_X10_goesOn_2 p1 j9 (fo j9 (g_X10_goesOn_2 p1) μ)) ∧ ((p1 ≤ (nI (NX10_goesOn_2 p1 μ)) → True) ∧ ((nI (NX10_goesOn_2 p1 μ)) < p1 → ((P_X10_tideComes 522 (SX10_goesOn_2 p1 μ)) ∧ False))))
set_option maxRecDepth 20000 in
set_option maxHeartbeats 2000000 in
theorem ok_X10_goesOn {G : SG} (hG : GK 548 G) (p1 : Int32) (μ : Mem) (hP : P_X10_goesOn p1 μ) : OkF G mX10_goesOn [.ref (ga G 57), .int p1] μ none (M_X10_goesOn p1 μ) := by
  refine okF_of hG rfl rfl (Nat.le_of_ble_eq_true rfl) ?_
  unfold P_X10_goesOn at hP
  refine r_iconst 0 dX10_goesOn_0 rfl ?_
  refine r_istore_n [(2, _), (0, _), (1, _)] dX10_goesOn_1 (Nat.le_of_ble_eq_true rfl) rfl ?_
  have hs1 := hP.1
  replace hP := hP.2
  refine r_sub [1, 2, 0] rfl ?_
  refine lp_X10_goesOn_2 hG p1 μ ((NX10_goesOn_2 p1 μ)) (SX10_goesOn_2 p1 μ) rfl hs1 ?_
  refine r_iload_n dX10_goesOn_2 2 rfl ?_
  refine r_iload_n dX10_goesOn_3 1 rfl ?_
  refine r_icmp_ge 21 dX10_goesOn_4 (by decide) (fun c1 => ?_) (fun c1 => ?_)
  · replace hP := hP.1 c1
    exact r_return dX10_goesOn_21 rfl ⟨rfl, rfl⟩
  · replace hP := hP.2 c1
    refine r_aload_n dX10_goesOn_7 0 rfl ?_
    refine r_aload_n dX10_goesOn_8 0 rfl ?_
    refine r_getR 522 fX10_76 (hG.lt (by decide)) sh57 fs57_32 dX10_goesOn_9 ?_
    have hs2 := hP.1
    replace hP := hP.2
    refine r_cvV (ok_X10_tideComes hG (hG.lt (by decide)) sh522 (SX10_goesOn_2 p1 μ) hs2) lX10_317 (hG.lt (by decide)) sh57 ⟨_, _, rfl⟩ dX10_goesOn_12 (by decide) (Nat.le_of_ble_eq_true rfl) rfl (Nat.le_of_ble_eq_true rfl) ?_
    refine r_mu (muX10_goesOn_1 p1 μ) rfl ?_
    refine r_iinc ((nI (NX10_goesOn_2 p1 μ)) + 1) [(2, _), (0, _), (1, _)] dX10_goesOn_15 2 rfl rfl (Nat.le_of_ble_eq_true rfl) rfl ?_
    refine r_goto 2 dX10_goesOn_18 (by decide) ?_
    exact hP.elim
def muX10_ahead_1 (p1 : Int32) (p2 : Int32) (μ : Mem) : Mem := (upm μ 57 0 0)
def VX10_ahead_2 (p1 : Int32) (p2 : Int32) (μ : Mem) : Int32 := (if (F_X10_isIn p1 0 60 (muX10_ahead_1 p1 p2 μ)) = 0 then 1 else (if (F_X10_isIn p2 0 3 (muX10_ahead_1 p1 p2 μ)) ≠ 0 then 0 else 1))
theorem bo_VX10_ahead_2 (p1 : Int32) (p2 : Int32) (μ : Mem) : (VX10_ahead_2 p1 p2 μ) = 0 ∨ (VX10_ahead_2 p1 p2 μ) = 1 := by
  unfold VX10_ahead_2
  split
  · exact Or.inr rfl
  · split
    · exact Or.inl rfl
    · exact Or.inr rfl
def muX10_ahead_3 (p1 : Int32) (p2 : Int32) (μ : Mem) : Mem := (M_X10_bad (VX10_ahead_2 p1 p2 μ) 1 1 (muX10_ahead_1 p1 p2 μ))
def muX10_ahead_4 (p1 : Int32) (p2 : Int32) (μ : Mem) : Mem := (M_X10_copies 521 522 (muX10_ahead_3 p1 p2 μ))
def VX10_ahead_65_1 (v1 : Int32) (v2 : Int32) (v4 : Int32) (μ : Mem) (i : Nat) (s : Int32) : Int32 := (if (F_X10_waterIn 522 (nI i) μ) ≤ 0 then 0 else 1)
theorem bo_VX10_ahead_65_1 (v1 : Int32) (v2 : Int32) (v4 : Int32) (μ : Mem) (i : Nat) (s : Int32) : (VX10_ahead_65_1 v1 v2 v4 μ i s) = 0 ∨ (VX10_ahead_65_1 v1 v2 v4 μ i s) = 1 := by
  unfold VX10_ahead_65_1
  split
  · exact Or.inl rfl
  · exact Or.inr rfl
def g_X10_ahead_65 (v1 : Int32) (v2 : Int32) (v4 : Int32) (μ : Mem) (i : Nat) (s : Int32) : Int32 := (s + (VX10_ahead_65_1 v1 v2 v4 μ i s))
def Pb_X10_ahead_65 (v1 : Int32) (v2 : Int32) (v4 : Int32) (μ : Mem) (i : Nat) (s : Int32) : Prop := (((μ 61 0) ≤ (nI i) → False) ∧ ((nI i) < (μ 61 0) → P_X10_waterIn 522 (nI i) μ))
set_option maxRecDepth 20000 in
set_option maxHeartbeats 2000000 in
theorem lp_X10_ahead_65 {G : SG} (hG : GK 548 G)  (v1 : Int32) (v2 : Int32) (v4 : Int32) (μ : Mem) (s0 : Int32) (N : Nat) (sN : Int32) (eN : sN = fo N (g_X10_ahead_65 v1 v2 v4 μ) s0) (hN : ∀ i, i < N → Pb_X10_ahead_65 v1 v2 v4 μ i (fo i (g_X10_ahead_65 v1 v2 v4 μ) s0)) {t : Nat} {Q : PQ} {X : PX} (h : R G mX10_ahead 65 [(0, .ref (ga G 57)), (1, .int v1), (2, .int v2), (3, .int sN), (4, .int v4), (5, .int (nI N))] [] μ t Q X) : R G mX10_ahead 65 [(0, .ref (ga G 57)), (1, .int v1), (2, .int v2), (3, .int s0), (4, .int v4), (5, .int 0)] [] μ t Q X := by
  subst eN
  refine down_i N (fun i => R G mX10_ahead 65 [(0, .ref (ga G 57)), (1, .int v1), (2, .int v2), (3, .int (fo i (g_X10_ahead_65 v1 v2 v4 μ) s0)), (4, .int v4), (5, .int (nI i))] [] μ t Q X) h (fun i hi hS => ?_)
  have hP := hN i hi
  rw [fo_succ] at hS
  rw [nI_succ] at hS
  generalize fo i (g_X10_ahead_65 v1 v2 v4 μ) s0 = s at hS hP ⊢
  unfold Pb_X10_ahead_65 at hP
  refine r_iload dX10_ahead_65 5 rfl ?_
  refine r_aload_n dX10_ahead_67 0 rfl ?_
  refine r_getR 61 fX10_23 (hG.lt (by decide)) sh57 fs57_12 dX10_ahead_68 ?_
  refine r_iconst 0 dX10_ahead_71 rfl ?_
  refine r_ialdK 0 rfl (hG.lt (by decide)) sh61 (vp_of (by decide) (by decide)) dX10_ahead_72 ?_
  refine r_icmp_ge 103 dX10_ahead_73 (by decide) (fun c1 => ?_) (fun c1 => ?_)
  · replace hP := hP.1 c1
    exact hP.elim
  · replace hP := hP.2 c1
    refine r_iload_n dX10_ahead_76 3 rfl ?_
    refine r_aload_n dX10_ahead_77 0 rfl ?_
    refine r_aload_n dX10_ahead_78 0 rfl ?_
    refine r_getR 522 fX10_76 (hG.lt (by decide)) sh57 fs57_32 dX10_ahead_79 ?_
    refine r_iload dX10_ahead_82 5 rfl ?_
    have hs1 := hP
    refine r_cvI (ok_X10_waterIn hG (hG.lt (by decide)) sh522 (nI i) μ hs1) lX10_286 (hG.lt (by decide)) sh57 ⟨_, _, rfl⟩ dX10_ahead_84 (by decide) (Nat.le_of_ble_eq_true rfl) rfl (Nat.le_of_ble_eq_true rfl) ?_
    refine r_join 95 [(0, .ref (ga G 57)), (1, .int v1), (2, .int v2), (3, .int s), (4, .int v4), (5, .int (nI i))] [.int (VX10_ahead_65_1 v1 v2 v4 μ i s), .int s] μ ?_ (fun hJ => ?_)
    · refine r_iadd dX10_ahead_95 ?_
      refine r_istore_n [(3, _), (0, _), (1, _), (2, _), (4, _), (5, _)] dX10_ahead_96 (Nat.le_of_ble_eq_true rfl) rfl ?_
      refine r_iinc ((nI i) + 1) [(5, _), (3, _), (0, _), (1, _), (2, _), (4, _)] dX10_ahead_97 5 rfl rfl (Nat.le_of_ble_eq_true rfl) rfl ?_
      refine r_goto 65 dX10_ahead_100 (by decide) ?_
      have e : g_X10_ahead_65 v1 v2 v4 μ i s = (s + (VX10_ahead_65_1 v1 v2 v4 μ i s)) := by unfold g_X10_ahead_65; rfl
      rw [e] at hS
      exact r_sub [2, 3, 4, 1, 5, 0] rfl hS
    · refine r_if_le 94 dX10_ahead_87 (by decide) (fun c2 => ?_) (fun c2 => ?_)
      · refine r_iconst 0 dX10_ahead_94 rfl ?_
        have e : (VX10_ahead_65_1 v1 v2 v4 μ i s) = 0 := by unfold VX10_ahead_65_1; rw [if_pos c2]
        rw [e] at hJ
        exact r_sub [0, 1, 2, 3, 4, 5] rfl hJ
      · refine r_iconst 1 dX10_ahead_90 rfl ?_
        refine r_goto 95 dX10_ahead_91 (by decide) ?_
        have e : (VX10_ahead_65_1 v1 v2 v4 μ i s) = 1 := by unfold VX10_ahead_65_1; rw [if_neg (i32_ng c2)]
        rw [e] at hJ
        exact r_sub [0, 1, 2, 3, 4, 5] rfl hJ
def NX10_ahead_56_65 (v1 : Int32) (v2 : Int32) (i : Nat) (s : Int32 × Mem) : Nat := ix (s.2 61 0)
def SX10_ahead_56_65 (v1 : Int32) (v2 : Int32) (i : Nat) (s : Int32 × Mem) : Int32 := fo (NX10_ahead_56_65 v1 v2 i s) (g_X10_ahead_65 v1 v2 (nI i) s.2) s.1
def muX10_ahead_56_1 (v1 : Int32) (v2 : Int32) (i : Nat) (s : Int32 × Mem) : Mem := (M_X10_tideComes 522 s.2)
def VX10_ahead_56_2 (v1 : Int32) (v2 : Int32) (i : Nat) (s : Int32 × Mem) : Int32 := (if (F_X10_waterIn 522 (nI (NX10_ahead_56_65 v1 v2 i s)) s.2) ≤ 0 then 0 else 1)
theorem bo_VX10_ahead_56_2 (v1 : Int32) (v2 : Int32) (i : Nat) (s : Int32 × Mem) : (VX10_ahead_56_2 v1 v2 i s) = 0 ∨ (VX10_ahead_56_2 v1 v2 i s) = 1 := by
  unfold VX10_ahead_56_2
  split
  · exact Or.inl rfl
  · exact Or.inr rfl
def g_X10_ahead_56 (v1 : Int32) (v2 : Int32) (i : Nat) (s : Int32 × Mem) : Int32 × Mem := ((SX10_ahead_56_65 v1 v2 i s), (muX10_ahead_56_1 v1 v2 i s))
def Pb_X10_ahead_56 (v1 : Int32) (v2 : Int32) (i : Nat) (s : Int32 × Mem) : Prop := ((v1 ≤ (nI i) → False) ∧ ((nI i) < v1 → (∀ j9, j9 < (NX10_ahead_56_65 v1 v2 i s) → Pb_X10_ahead_65 v1 v2 (nI i) s.2 j9 (fo j9 (g_X10_ahead_65 v1 v2 (nI i) s.2) s.1)) ∧ (((s.2 61 0) ≤ (nI (NX10_ahead_56_65 v1 v2 i s)) → P_X10_tideComes 522 s.2) ∧ ((nI (NX10_ahead_56_65 v1 v2 i s)) < (s.2 61 0) → (P_X10_waterIn 522 (nI (NX10_ahead_56_65 v1 v2 i s)) s.2) ∧ False))))
set_option maxRecDepth 20000 in
set_option maxHeartbeats 2000000 in
theorem lp_X10_ahead_56 {G : SG} (hG : GK 548 G)  (v1 : Int32) (v2 : Int32) (s0 : Int32 × Mem) (N : Nat) (sN : Int32 × Mem) (eN : sN = fo N (g_X10_ahead_56 v1 v2) s0) (hN : ∀ i, i < N → Pb_X10_ahead_56 v1 v2 i (fo i (g_X10_ahead_56 v1 v2) s0)) {t : Nat} {Q : PQ} {X : PX} (h : R G mX10_ahead 56 [(0, .ref (ga G 57)), (1, .int v1), (2, .int v2), (3, .int (sN).1), (4, .int (nI N))] [] (sN).2 t Q X) : R G mX10_ahead 56 [(0, .ref (ga G 57)), (1, .int v1), (2, .int v2), (3, .int (s0).1), (4, .int 0)] [] (s0).2 t Q X := by
  subst eN
  refine down_i N (fun i => R G mX10_ahead 56 [(0, .ref (ga G 57)), (1, .int v1), (2, .int v2), (3, .int ((fo i (g_X10_ahead_56 v1 v2) s0)).1), (4, .int (nI i))] [] ((fo i (g_X10_ahead_56 v1 v2) s0)).2 t Q X) h (fun i hi hS => ?_)
  have hP := hN i hi
  rw [fo_succ] at hS
  rw [nI_succ] at hS
  generalize fo i (g_X10_ahead_56 v1 v2) s0 = s at hS hP ⊢
  unfold Pb_X10_ahead_56 at hP
  refine r_iload dX10_ahead_56 4 rfl ?_
  refine r_iload_n dX10_ahead_58 1 rfl ?_
  refine r_icmp_ge 117 dX10_ahead_59 (by decide) (fun c1 => ?_) (fun c1 => ?_)
  · replace hP := hP.1 c1
    exact hP.elim
  · replace hP := hP.2 c1
    refine r_iconst 0 dX10_ahead_62 rfl ?_
    refine r_istore [(5, _), (0, _), (1, _), (2, _), (3, _), (4, _)] dX10_ahead_63 (Nat.le_of_ble_eq_true rfl) rfl ?_
    have hs1 := hP.1
    replace hP := hP.2
    refine r_sub [1, 2, 3, 4, 5, 0] rfl ?_
    refine lp_X10_ahead_65 hG v1 v2 (nI i) s.2 s.1 ((NX10_ahead_56_65 v1 v2 i s)) (SX10_ahead_56_65 v1 v2 i s) rfl hs1 ?_
    refine r_iload dX10_ahead_65 5 rfl ?_
    refine r_aload_n dX10_ahead_67 0 rfl ?_
    refine r_getR 61 fX10_23 (hG.lt (by decide)) sh57 fs57_12 dX10_ahead_68 ?_
    refine r_iconst 0 dX10_ahead_71 rfl ?_
    refine r_ialdK 0 rfl (hG.lt (by decide)) sh61 (vp_of (by decide) (by decide)) dX10_ahead_72 ?_
    refine r_icmp_ge 103 dX10_ahead_73 (by decide) (fun c2 => ?_) (fun c2 => ?_)
    · replace hP := hP.1 c2
      refine r_aload_n dX10_ahead_103 0 rfl ?_
      refine r_aload_n dX10_ahead_104 0 rfl ?_
      refine r_getR 522 fX10_76 (hG.lt (by decide)) sh57 fs57_32 dX10_ahead_105 ?_
      have hs3 := hP
      refine r_cvV (ok_X10_tideComes hG (hG.lt (by decide)) sh522 s.2 hs3) lX10_317 (hG.lt (by decide)) sh57 ⟨_, _, rfl⟩ dX10_ahead_108 (by decide) (Nat.le_of_ble_eq_true rfl) rfl (Nat.le_of_ble_eq_true rfl) ?_
      refine r_mu (muX10_ahead_56_1 v1 v2 i s) rfl ?_
      refine r_iinc ((nI i) + 1) [(4, _), (0, _), (1, _), (2, _), (3, _), (5, _)] dX10_ahead_111 4 rfl rfl (Nat.le_of_ble_eq_true rfl) rfl ?_
      refine r_goto 56 dX10_ahead_114 (by decide) ?_
      have e : g_X10_ahead_56 v1 v2 i s = ((SX10_ahead_56_65 v1 v2 i s), (muX10_ahead_56_1 v1 v2 i s)) := by unfold g_X10_ahead_56; rfl
      rw [e] at hS
      dsimp only at hS
      exact r_sub [1, 2, 3, 4, 0] rfl hS
    · replace hP := hP.2 c2
      refine r_iload_n dX10_ahead_76 3 rfl ?_
      refine r_aload_n dX10_ahead_77 0 rfl ?_
      refine r_aload_n dX10_ahead_78 0 rfl ?_
      refine r_getR 522 fX10_76 (hG.lt (by decide)) sh57 fs57_32 dX10_ahead_79 ?_
      refine r_iload dX10_ahead_82 5 rfl ?_
      have hs4 := hP.1
      replace hP := hP.2
      refine r_cvI (ok_X10_waterIn hG (hG.lt (by decide)) sh522 (nI (NX10_ahead_56_65 v1 v2 i s)) s.2 hs4) lX10_286 (hG.lt (by decide)) sh57 ⟨_, _, rfl⟩ dX10_ahead_84 (by decide) (Nat.le_of_ble_eq_true rfl) rfl (Nat.le_of_ble_eq_true rfl) ?_
      refine r_join 95 [(0, .ref (ga G 57)), (1, .int v1), (2, .int v2), (3, .int (SX10_ahead_56_65 v1 v2 i s)), (4, .int (nI i)), (5, .int (nI (NX10_ahead_56_65 v1 v2 i s)))] [.int (VX10_ahead_56_2 v1 v2 i s), .int (SX10_ahead_56_65 v1 v2 i s)] s.2 ?_ (fun hJ => ?_)
      · refine r_iadd dX10_ahead_95 ?_
        refine r_istore_n [(3, _), (0, _), (1, _), (2, _), (4, _), (5, _)] dX10_ahead_96 (Nat.le_of_ble_eq_true rfl) rfl ?_
        refine r_iinc ((nI (NX10_ahead_56_65 v1 v2 i s)) + 1) [(5, _), (3, _), (0, _), (1, _), (2, _), (4, _)] dX10_ahead_97 5 rfl rfl (Nat.le_of_ble_eq_true rfl) rfl ?_
        refine r_goto 65 dX10_ahead_100 (by decide) ?_
        exact hP.elim
      · refine r_if_le 94 dX10_ahead_87 (by decide) (fun c3 => ?_) (fun c3 => ?_)
        · refine r_iconst 0 dX10_ahead_94 rfl ?_
          have e : (VX10_ahead_56_2 v1 v2 i s) = 0 := by unfold VX10_ahead_56_2; rw [if_pos c3]
          rw [e] at hJ
          exact r_sub [0, 1, 2, 3, 4, 5] rfl hJ
        · refine r_iconst 1 dX10_ahead_90 rfl ?_
          refine r_goto 95 dX10_ahead_91 (by decide) ?_
          have e : (VX10_ahead_56_2 v1 v2 i s) = 1 := by unfold VX10_ahead_56_2; rw [if_neg (i32_ng c3)]
          rw [e] at hJ
          exact r_sub [0, 1, 2, 3, 4, 5] rfl hJ
def NX10_ahead_56 (p1 : Int32) (p2 : Int32) (μ : Mem) : Nat := ix p1
def SX10_ahead_56 (p1 : Int32) (p2 : Int32) (μ : Mem) : Int32 × Mem := fo (NX10_ahead_56 p1 p2 μ) (g_X10_ahead_56 p1 p2) (0, (muX10_ahead_4 p1 p2 μ))
def NX10_ahead_65 (p1 : Int32) (p2 : Int32) (μ : Mem) : Nat := ix ((SX10_ahead_56 p1 p2 μ).2 61 0)
def SX10_ahead_65 (p1 : Int32) (p2 : Int32) (μ : Mem) : Int32 := fo (NX10_ahead_65 p1 p2 μ) (g_X10_ahead_65 p1 p2 (nI (NX10_ahead_56 p1 p2 μ)) (SX10_ahead_56 p1 p2 μ).2) (SX10_ahead_56 p1 p2 μ).1
def muX10_ahead_5 (p1 : Int32) (p2 : Int32) (μ : Mem) : Mem := (M_X10_tideComes 522 (SX10_ahead_56 p1 p2 μ).2)
def VX10_ahead_6 (p1 : Int32) (p2 : Int32) (μ : Mem) : Int32 := (if (F_X10_waterIn 522 (nI (NX10_ahead_65 p1 p2 μ)) (SX10_ahead_56 p1 p2 μ).2) ≤ 0 then 0 else 1)
theorem bo_VX10_ahead_6 (p1 : Int32) (p2 : Int32) (μ : Mem) : (VX10_ahead_6 p1 p2 μ) = 0 ∨ (VX10_ahead_6 p1 p2 μ) = 1 := by
  unfold VX10_ahead_6
  split
  · exact Or.inl rfl
  · exact Or.inr rfl
def F_X10_ahead (p1 : Int32) (p2 : Int32) (μ : Mem) : Int32 := (if (F_X10_bad (VX10_ahead_2 p1 p2 μ) 1 1 (muX10_ahead_1 p1 p2 μ)) = 0 then (if p2 = 0 then (F_X10_worthIn 522 (SX10_ahead_56 p1 p2 μ).2) else (if p2 = 1 then (F_X10_goneIn 522 (SX10_ahead_56 p1 p2 μ).2) else (if p2 = 2 then ((F_X10_paidIn 522 (SX10_ahead_56 p1 p2 μ).2) - (F_X10_paidIn 521 (SX10_ahead_56 p1 p2 μ).2)) else (SX10_ahead_56 p1 p2 μ).1))) else 0)
def M_X10_ahead (p1 : Int32) (p2 : Int32) (μ : Mem) : Mem := (if (F_X10_bad (VX10_ahead_2 p1 p2 μ) 1 1 (muX10_ahead_1 p1 p2 μ)) = 0 then (SX10_ahead_56 p1 p2 μ).2 else (muX10_ahead_3 p1 p2 μ))
def P_X10_ahead (p1 : Int32) (p2 : Int32) (μ : Mem) : Prop := ((P_X10_bad (VX10_ahead_2 p1 p2 μ) 1 1 (muX10_ahead_1 p1 p2 μ)) ∧ (((F_X10_bad (VX10_ahead_2 p1 p2 μ) 1 1 (muX10_ahead_1 p1 p2 μ)) = 0 → ((P_X10_copies 521 522 (muX10_ahead_3 p1 p2 μ)) ∧ ((∀ j9, j9 < (NX10_ahead_56 p1 p2 μ) → Pb_X10_ahead_56 p1 p2 j9 (fo j9 (g_X10_ahead_56 p1 p2) (0, (muX10_ahead_4 p1 p2 μ)))) ∧ ((p1 ≤ (nI (NX10_ahead_56 p1 p2 μ)) → ((p2 = 0 → (P_X10_worthIn 522 (SX10_ahead_56 p1 p2 μ).2)) ∧ (p2 = 1 → (P_X10_goneIn 522 (SX10_ahead_56 p1 p2 μ).2)) ∧ (p2 = 2 → ((P_X10_paidIn 522 (SX10_ahead_56 p1 p2 μ).2) ∧ (P_X10_paidIn 521 (SX10_ahead_56 p1 p2 μ).2))) ∧ (¬ p2 = 0 ∧ ¬ p2 = 1 ∧ ¬ p2 = 2 → True))) ∧ ((nI (NX10_ahead_56 p1 p2 μ)) < p1 → ((∀ j9, j9 < (NX10_ahead_65 p1 p2 μ) → Pb_X10_ahead_65 p1 p2 (nI (NX10_ahead_56 p1 p2 μ)) (SX10_ahead_56 p1 p2 μ).2 j9 (fo j9 (g_X10_ahead_65 p1 p2 (nI (NX10_ahead_56 p1 p2 μ)) (SX10_ahead_56 p1 p2 μ).2) (SX10_ahead_56 p1 p2 μ).1)) ∧ ((((SX10_ahead_56 p1 p2 μ).2 61 0) ≤ (nI (NX10_ahead_65 p1 p2 μ)) → ((P_X10_tideComes 522 (SX10_ahead_56 p1 p2 μ).2) ∧ False)) ∧ ((nI (NX10_ahead_65 p1 p2 μ)) < ((SX10_ahead_56 p1 p2 μ).2 61 0) → ((P_X10_waterIn 522 (nI (NX10_ahead_65 p1 p2 μ)) (SX10_ahead_56 p1 p2 μ).2) ∧ False))))))))) ∧ (¬ (F_X10_bad (VX10_ahead_2 p1 p2 μ) 1 1 (muX10_ahead_1 p1 p2 μ)) = 0 → True)))
set_option maxRecDepth 20000 in
set_option maxHeartbeats 2000000 in
theorem ok_X10_ahead {G : SG} (hG : GK 548 G) (p1 : Int32) (p2 : Int32) (μ : Mem) (hP : P_X10_ahead p1 p2 μ) : OkF G mX10_ahead [.ref (ga G 57), .int p1, .int p2] μ (some (.int (F_X10_ahead p1 p2 μ))) (M_X10_ahead p1 p2 μ) := by
  refine okF_of hG rfl rfl (Nat.le_of_ble_eq_true rfl) ?_
  unfold P_X10_ahead at hP
  refine r_aload_n dX10_ahead_0 0 rfl ?_
  refine r_iconst 0 dX10_ahead_1 rfl ?_
  refine r_put fiX10_103 (hG.lt (by decide)) sh57 fs57_0 dX10_ahead_2 ?_
  refine r_mu (muX10_ahead_1 p1 p2 μ) rfl ?_
  refine r_aload_n dX10_ahead_5 0 rfl ?_
  refine r_iload_n dX10_ahead_6 1 rfl ?_
  refine r_iconst 0 dX10_ahead_7 rfl ?_
  refine r_bipush 60 dX10_ahead_8 rfl ?_
  refine r_csI (ok_X10_isIn hG p1 0 60 (muX10_ahead_1 p1 p2 μ)) lX10_137 dX10_ahead_10 (by decide) (Nat.le_of_ble_eq_true rfl) rfl (Nat.le_of_ble_eq_true rfl) ?_
  refine r_join 30 [(0, .ref (ga G 57)), (1, .int p1), (2, .int p2)] [.int (VX10_ahead_2 p1 p2 μ), .ref (ga G 57)] (muX10_ahead_1 p1 p2 μ) ?_ (fun hJ => ?_)
  · refine r_iconst 1 dX10_ahead_30 rfl ?_
    refine r_iconst 1 dX10_ahead_31 rfl ?_
    have hs1 := hP.1
    replace hP := hP.2
    refine r_cvI (ok_X10_bad hG (VX10_ahead_2 p1 p2 μ) 1 1 (muX10_ahead_1 p1 p2 μ) hs1) lX10_186 (hG.lt (by decide)) sh57 ⟨_, _, rfl⟩ dX10_ahead_32 (by decide) (Nat.le_of_ble_eq_true rfl) rfl (Nat.le_of_ble_eq_true rfl) ?_
    refine r_mu (muX10_ahead_3 p1 p2 μ) rfl ?_
    refine r_if_eq 40 dX10_ahead_35 (by decide) (fun c1 => ?_) (fun c1 => ?_)
    · replace hP := hP.1 c1
      refine r_iconst 0 dX10_ahead_40 rfl ?_
      refine r_istore_n [(3, _), (0, _), (1, _), (2, _)] dX10_ahead_41 (Nat.le_of_ble_eq_true rfl) rfl ?_
      refine r_aload_n dX10_ahead_42 1 rfl ?_
      refine r_getR 521 fX10_73 (hG.lt (by decide)) sh57 fs57_31 dX10_ahead_43 ?_
      refine r_aload_n dX10_ahead_46 1 rfl ?_
      refine r_getR 522 fX10_76 (hG.lt (by decide)) sh57 fs57_32 dX10_ahead_47 ?_
      have hs2 := hP.1
      replace hP := hP.2
      refine r_csV (ok_X10_copies hG (hG.lt (by decide)) sh521 (hG.lt (by decide)) sh522 (muX10_ahead_3 p1 p2 μ) hs2) lX10_333 dX10_ahead_50 (by decide) (Nat.le_of_ble_eq_true rfl) rfl (Nat.le_of_ble_eq_true rfl) ?_
      refine r_mu (muX10_ahead_4 p1 p2 μ) rfl ?_
      refine r_iconst 0 dX10_ahead_53 rfl ?_
      refine r_istore [(4, _), (3, _), (0, _), (1, _), (2, _)] dX10_ahead_54 (Nat.le_of_ble_eq_true rfl) rfl ?_
      have hs3 := hP.1
      replace hP := hP.2
      refine r_sub [2, 3, 4, 1, 0] rfl ?_
      refine lp_X10_ahead_56 hG p1 p2 (0, (muX10_ahead_4 p1 p2 μ)) ((NX10_ahead_56 p1 p2 μ)) (SX10_ahead_56 p1 p2 μ) rfl hs3 ?_
      refine r_iload dX10_ahead_56 4 rfl ?_
      refine r_iload_n dX10_ahead_58 1 rfl ?_
      refine r_icmp_ge 117 dX10_ahead_59 (by decide) (fun c2 => ?_) (fun c2 => ?_)
      · replace hP := hP.1 c2
        refine r_iload_n dX10_ahead_117 2 rfl ?_
        by_cases c3 : p2 = 0
        · replace hP := hP.1 c3
          refine r_tableIn (26) 144 dX10_ahead_118 (by rw [c3]; decide) (by rw [c3]; decide) (by rw [c3]; rfl) (by decide) ?_
          refine r_aload_n dX10_ahead_144 0 rfl ?_
          refine r_aload_n dX10_ahead_145 0 rfl ?_
          refine r_getR 522 fX10_76 (hG.lt (by decide)) sh57 fs57_32 dX10_ahead_146 ?_
          have hs8 := hP
          refine r_cvI (ok_X10_worthIn hG (hG.lt (by decide)) sh522 (SX10_ahead_56 p1 p2 μ).2 hs8) lX10_341 (hG.lt (by decide)) sh57 ⟨_, _, rfl⟩ dX10_ahead_149 (by decide) (Nat.le_of_ble_eq_true rfl) rfl (Nat.le_of_ble_eq_true rfl) ?_
          exact r_ireturn _ dX10_ahead_152 rfl rfl ⟨congrArg (fun z => some (Value.int z)) (by unfold F_X10_ahead; rw [if_pos c1, if_pos c3]), by unfold M_X10_ahead; rw [if_pos c1]⟩
        by_cases c4 : p2 = 1
        · replace hP := hP.2.1 c4
          refine r_tableIn (35) 153 dX10_ahead_118 (by rw [c4]; decide) (by rw [c4]; decide) (by rw [c4]; rfl) (by decide) ?_
          refine r_aload_n dX10_ahead_153 0 rfl ?_
          refine r_aload_n dX10_ahead_154 0 rfl ?_
          refine r_getR 522 fX10_76 (hG.lt (by decide)) sh57 fs57_32 dX10_ahead_155 ?_
          have hs9 := hP
          refine r_cvI (ok_X10_goneIn hG (hG.lt (by decide)) sh522 (SX10_ahead_56 p1 p2 μ).2 hs9) lX10_337 (hG.lt (by decide)) sh57 ⟨_, _, rfl⟩ dX10_ahead_158 (by decide) (Nat.le_of_ble_eq_true rfl) rfl (Nat.le_of_ble_eq_true rfl) ?_
          exact r_ireturn _ dX10_ahead_161 rfl rfl ⟨congrArg (fun z => some (Value.int z)) (by unfold F_X10_ahead; rw [if_pos c1, if_neg c3, if_pos c4]), by unfold M_X10_ahead; rw [if_pos c1]⟩
        by_cases c5 : p2 = 2
        · replace hP := hP.2.2.1 c5
          refine r_tableIn (44) 162 dX10_ahead_118 (by rw [c5]; decide) (by rw [c5]; decide) (by rw [c5]; rfl) (by decide) ?_
          refine r_aload_n dX10_ahead_162 0 rfl ?_
          refine r_aload_n dX10_ahead_163 0 rfl ?_
          refine r_getR 522 fX10_76 (hG.lt (by decide)) sh57 fs57_32 dX10_ahead_164 ?_
          have hs10 := hP.1
          replace hP := hP.2
          refine r_cvI (ok_X10_paidIn hG (hG.lt (by decide)) sh522 (SX10_ahead_56 p1 p2 μ).2 hs10) lX10_344 (hG.lt (by decide)) sh57 ⟨_, _, rfl⟩ dX10_ahead_167 (by decide) (Nat.le_of_ble_eq_true rfl) rfl (Nat.le_of_ble_eq_true rfl) ?_
          refine r_aload_n dX10_ahead_170 0 rfl ?_
          refine r_aload_n dX10_ahead_171 0 rfl ?_
          refine r_getR 521 fX10_73 (hG.lt (by decide)) sh57 fs57_31 dX10_ahead_172 ?_
          have hs11 := hP
          refine r_cvI (ok_X10_paidIn hG (hG.lt (by decide)) sh521 (SX10_ahead_56 p1 p2 μ).2 hs11) lX10_344 (hG.lt (by decide)) sh57 ⟨_, _, rfl⟩ dX10_ahead_175 (by decide) (Nat.le_of_ble_eq_true rfl) rfl (Nat.le_of_ble_eq_true rfl) ?_
          refine r_isub dX10_ahead_178 ?_
          exact r_ireturn _ dX10_ahead_179 rfl rfl ⟨congrArg (fun z => some (Value.int z)) (by unfold F_X10_ahead; rw [if_pos c1, if_neg c3, if_neg c4, if_pos c5]), by unfold M_X10_ahead; rw [if_pos c1]⟩
        replace hP := hP.2.2.2 ⟨c3, c4, c5⟩
        have ec3 := i32_ti c3
        have ec4 := i32_ti c4
        have ec5 := i32_ti c5
        refine r_tableOut 180 dX10_ahead_118 (by simp only [Int32.reduceToInt] at ec3 ec4 ec5; omega) (by decide) ?_
        refine r_iload_n dX10_ahead_180 3 rfl ?_
        exact r_ireturn _ dX10_ahead_181 rfl rfl ⟨congrArg (fun z => some (Value.int z)) (by unfold F_X10_ahead; rw [if_pos c1, if_neg c3, if_neg c4, if_neg c5]), by unfold M_X10_ahead; rw [if_pos c1]⟩
      · replace hP := hP.2 c2
        refine r_iconst 0 dX10_ahead_62 rfl ?_
        refine r_istore [(5, _), (0, _), (1, _), (2, _), (3, _), (4, _)] dX10_ahead_63 (Nat.le_of_ble_eq_true rfl) rfl ?_
        have hs12 := hP.1
        replace hP := hP.2
        refine r_sub [1, 2, 3, 4, 5, 0] rfl ?_
        refine lp_X10_ahead_65 hG p1 p2 (nI (NX10_ahead_56 p1 p2 μ)) (SX10_ahead_56 p1 p2 μ).2 (SX10_ahead_56 p1 p2 μ).1 ((NX10_ahead_65 p1 p2 μ)) (SX10_ahead_65 p1 p2 μ) rfl hs12 ?_
        refine r_iload dX10_ahead_65 5 rfl ?_
        refine r_aload_n dX10_ahead_67 0 rfl ?_
        refine r_getR 61 fX10_23 (hG.lt (by decide)) sh57 fs57_12 dX10_ahead_68 ?_
        refine r_iconst 0 dX10_ahead_71 rfl ?_
        refine r_ialdK 0 rfl (hG.lt (by decide)) sh61 (vp_of (by decide) (by decide)) dX10_ahead_72 ?_
        refine r_icmp_ge 103 dX10_ahead_73 (by decide) (fun c3 => ?_) (fun c3 => ?_)
        · replace hP := hP.1 c3
          refine r_aload_n dX10_ahead_103 0 rfl ?_
          refine r_aload_n dX10_ahead_104 0 rfl ?_
          refine r_getR 522 fX10_76 (hG.lt (by decide)) sh57 fs57_32 dX10_ahead_105 ?_
          have hs14 := hP.1
          replace hP := hP.2
          refine r_cvV (ok_X10_tideComes hG (hG.lt (by decide)) sh522 (SX10_ahead_56 p1 p2 μ).2 hs14) lX10_317 (hG.lt (by decide)) sh57 ⟨_, _, rfl⟩ dX10_ahead_108 (by decide) (Nat.le_of_ble_eq_true rfl) rfl (Nat.le_of_ble_eq_true rfl) ?_
          refine r_mu (muX10_ahead_5 p1 p2 μ) rfl ?_
          refine r_iinc ((nI (NX10_ahead_56 p1 p2 μ)) + 1) [(4, _), (0, _), (1, _), (2, _), (3, _), (5, _)] dX10_ahead_111 4 rfl rfl (Nat.le_of_ble_eq_true rfl) rfl ?_
          refine r_goto 56 dX10_ahead_114 (by decide) ?_
          exact hP.elim
        · replace hP := hP.2 c3
          refine r_iload_n dX10_ahead_76 3 rfl ?_
          refine r_aload_n dX10_ahead_77 0 rfl ?_
          refine r_aload_n dX10_ahead_78 0 rfl ?_
          refine r_getR 522 fX10_76 (hG.lt (by decide)) sh57 fs57_32 dX10_ahead_79 ?_
          refine r_iload dX10_ahead_82 5 rfl ?_
          have hs15 := hP.1
          replace hP := hP.2
          refine r_cvI (ok_X10_waterIn hG (hG.lt (by decide)) sh522 (nI (NX10_ahead_65 p1 p2 μ)) (SX10_ahead_56 p1 p2 μ).2 hs15) lX10_286 (hG.lt (by decide)) sh57 ⟨_, _, rfl⟩ dX10_ahead_84 (by decide) (Nat.le_of_ble_eq_true rfl) rfl (Nat.le_of_ble_eq_true rfl) ?_
          refine r_join 95 [(0, .ref (ga G 57)), (1, .int p1), (2, .int p2), (3, .int (SX10_ahead_65 p1 p2 μ)), (4, .int (nI (NX10_ahead_56 p1 p2 μ))), (5, .int (nI (NX10_ahead_65 p1 p2 μ)))] [.int (VX10_ahead_6 p1 p2 μ), .int (SX10_ahead_65 p1 p2 μ)] (SX10_ahead_56 p1 p2 μ).2 ?_ (fun hJ => ?_)
          · refine r_iadd dX10_ahead_95 ?_
            refine r_istore_n [(3, _), (0, _), (1, _), (2, _), (4, _), (5, _)] dX10_ahead_96 (Nat.le_of_ble_eq_true rfl) rfl ?_
            refine r_iinc ((nI (NX10_ahead_65 p1 p2 μ)) + 1) [(5, _), (3, _), (0, _), (1, _), (2, _), (4, _)] dX10_ahead_97 5 rfl rfl (Nat.le_of_ble_eq_true rfl) rfl ?_
            refine r_goto 65 dX10_ahead_100 (by decide) ?_
            exact hP.elim
          · refine r_if_le 94 dX10_ahead_87 (by decide) (fun c4 => ?_) (fun c4 => ?_)
            · refine r_iconst 0 dX10_ahead_94 rfl ?_
              have e : (VX10_ahead_6 p1 p2 μ) = 0 := by unfold VX10_ahead_6; rw [if_pos c4]
              rw [e] at hJ
              exact r_sub [0, 1, 2, 3, 4, 5] rfl hJ
            · refine r_iconst 1 dX10_ahead_90 rfl ?_
              refine r_goto 95 dX10_ahead_91 (by decide) ?_
              have e : (VX10_ahead_6 p1 p2 μ) = 1 := by unfold VX10_ahead_6; rw [if_neg (i32_ng c4)]
              rw [e] at hJ
              exact r_sub [0, 1, 2, 3, 4, 5] rfl hJ
    · replace hP := hP.2 c1
      refine r_iconst 0 dX10_ahead_38 rfl ?_
      exact r_ireturn _ dX10_ahead_39 rfl rfl ⟨congrArg (fun z => some (Value.int z)) (by unfold F_X10_ahead; rw [if_neg c1]), by unfold M_X10_ahead; rw [if_neg c1]⟩
  · refine r_if_eq 25 dX10_ahead_13 (by decide) (fun c1 => ?_) (fun c1 => ?_)
    · refine r_iconst 1 dX10_ahead_25 rfl ?_
      refine r_goto 30 dX10_ahead_26 (by decide) ?_
      have e : (VX10_ahead_2 p1 p2 μ) = 1 := by unfold VX10_ahead_2; rw [if_pos c1]
      rw [e] at hJ
      exact r_sub [0, 1, 2] rfl hJ
    · refine r_iload_n dX10_ahead_16 2 rfl ?_
      refine r_iconst 0 dX10_ahead_17 rfl ?_
      refine r_iconst 3 dX10_ahead_18 rfl ?_
      refine r_csI (ok_X10_isIn hG p2 0 3 (muX10_ahead_1 p1 p2 μ)) lX10_137 dX10_ahead_19 (by decide) (Nat.le_of_ble_eq_true rfl) rfl (Nat.le_of_ble_eq_true rfl) ?_
      refine r_if_ne 29 dX10_ahead_22 (by decide) (fun c2 => ?_) (fun c2 => ?_)
      · refine r_iconst 0 dX10_ahead_29 rfl ?_
        have e : (VX10_ahead_2 p1 p2 μ) = 0 := by unfold VX10_ahead_2; rw [if_neg c1, if_pos c2]
        rw [e] at hJ
        exact r_sub [0, 1, 2] rfl hJ
      · refine r_iconst 1 dX10_ahead_25 rfl ?_
        refine r_goto 30 dX10_ahead_26 (by decide) ?_
        have e : (VX10_ahead_2 p1 p2 μ) = 1 := by unfold VX10_ahead_2; rw [if_neg c1, if_neg (not_not_intro c2)]
        rw [e] at hJ
        exact r_sub [0, 1, 2] rfl hJ
def muX10_comes_1 (p1 : Int32) (μ : Mem) : Mem := (upm μ 57 0 0)
def VX10_comes_2 (p1 : Int32) (μ : Mem) : Int32 := (if (F_X10_isHouse p1 (muX10_comes_1 p1 μ)) ≠ 0 then 0 else 1)
theorem bo_VX10_comes_2 (p1 : Int32) (μ : Mem) : (VX10_comes_2 p1 μ) = 0 ∨ (VX10_comes_2 p1 μ) = 1 := by
  unfold VX10_comes_2
  split
  · exact Or.inl rfl
  · exact Or.inr rfl
def muX10_comes_3 (p1 : Int32) (μ : Mem) : Mem := (M_X10_bad (VX10_comes_2 p1 μ) 1 0 (muX10_comes_1 p1 μ))
def g_X10_comes_31 (v1 : Int32) (μ : Mem) (i : Nat) (s : Unit) : Unit := ()
def Pb_X10_comes_31 (v1 : Int32) (μ : Mem) (i : Nat) (s : Unit) : Prop := ((60 ≤ (nI i) → False) ∧ ((nI i) < 60 → (P_X10_heightIn ((μ 521 62) + (nI i)) μ) ∧ (P_X10_waterBy 521 v1 (F_X10_heightIn ((μ 521 62) + (nI i)) μ) μ) ∧ (((F_X10_waterBy 521 v1 (F_X10_heightIn ((μ 521 62) + (nI i)) μ) μ) ≤ 0 → True) ∧ (0 < (F_X10_waterBy 521 v1 (F_X10_heightIn ((μ 521 62) + (nI i)) μ) μ) → False))))
def Cb_X10_comes_31 (v1 : Int32) (μ : Mem) (i : Nat) (s : Unit) : Bool := (if 60 ≤ (nI i) then false else (if (F_X10_waterBy 521 v1 (F_X10_heightIn ((μ 521 62) + (nI i)) μ) μ) ≤ 0 then true else false))
set_option maxRecDepth 20000 in
set_option maxHeartbeats 2000000 in
theorem lp_X10_comes_31 {G : SG} (hG : GK 548 G)  (v1 : Int32) (μ : Mem) (s0 : Unit) (N : Nat) (sN : Unit) (eN : sN = fo N (g_X10_comes_31 v1 μ) s0) (hN : ∀ i, i < N → Pb_X10_comes_31 v1 μ i (fo i (g_X10_comes_31 v1 μ) s0)) {t : Nat} {Q : PQ} {X : PX} (h : R G mX10_comes 31 [(0, .ref (ga G 57)), (1, .int v1), (2, .int (nI N))] [] μ t Q X) : R G mX10_comes 31 [(0, .ref (ga G 57)), (1, .int v1), (2, .int 0)] [] μ t Q X := by
  subst eN
  refine down_i N (fun i => R G mX10_comes 31 [(0, .ref (ga G 57)), (1, .int v1), (2, .int (nI i))] [] μ t Q X) h (fun i hi hS => ?_)
  have hP := hN i hi
  rw [nI_succ] at hS
  generalize fo i (g_X10_comes_31 v1 μ) s0 = s at hS hP ⊢
  unfold Pb_X10_comes_31 at hP
  refine r_iload_n dX10_comes_31 2 rfl ?_
  refine r_bipush 60 dX10_comes_32 rfl ?_
  refine r_icmp_ge 70 dX10_comes_34 (by decide) (fun c1 => ?_) (fun c1 => ?_)
  · replace hP := hP.1 c1
    exact hP.elim
  · replace hP := hP.2 c1
    refine r_aload_n dX10_comes_37 0 rfl ?_
    refine r_aload_n dX10_comes_38 0 rfl ?_
    refine r_getR 521 fX10_73 (hG.lt (by decide)) sh57 fs57_31 dX10_comes_39 ?_
    refine r_iload_n dX10_comes_42 1 rfl ?_
    refine r_aload_n dX10_comes_43 0 rfl ?_
    refine r_aload_n dX10_comes_44 0 rfl ?_
    refine r_getR 521 fX10_73 (hG.lt (by decide)) sh57 fs57_31 dX10_comes_45 ?_
    refine r_bipush 62 dX10_comes_48 rfl ?_
    refine r_ialdK 62 rfl (hG.lt (by decide)) sh521 (vp_of (by decide) (by decide)) dX10_comes_50 ?_
    refine r_iload_n dX10_comes_51 2 rfl ?_
    refine r_iadd dX10_comes_52 ?_
    have hs1 := hP.1
    replace hP := hP.2
    refine r_cvI (ok_X10_heightIn hG ((μ 521 62) + (nI i)) μ hs1) lX10_276 (hG.lt (by decide)) sh57 ⟨_, _, rfl⟩ dX10_comes_53 (by decide) (Nat.le_of_ble_eq_true rfl) rfl (Nat.le_of_ble_eq_true rfl) ?_
    have hs2 := hP.1
    replace hP := hP.2
    refine r_cvI (ok_X10_waterBy hG (hG.lt (by decide)) sh521 v1 (F_X10_heightIn ((μ 521 62) + (nI i)) μ) μ hs2) lX10_282 (hG.lt (by decide)) sh57 ⟨_, _, rfl⟩ dX10_comes_56 (by decide) (Nat.le_of_ble_eq_true rfl) rfl (Nat.le_of_ble_eq_true rfl) ?_
    refine r_if_le 64 dX10_comes_59 (by decide) (fun c2 => ?_) (fun c2 => ?_)
    · replace hP := hP.1 c2
      refine r_iinc ((nI i) + 1) [(2, _), (0, _), (1, _)] dX10_comes_64 2 rfl rfl (Nat.le_of_ble_eq_true rfl) rfl ?_
      refine r_goto 31 dX10_comes_67 (by decide) ?_
      exact r_sub [1, 2, 0] rfl hS
    · replace hP := hP.2 c2
      refine r_iload_n dX10_comes_62 2 rfl ?_
      exact hP.elim
def NX10_comes_31 (p1 : Int32) (μ : Mem) : Nat := (fst 61 (fun j9 => !Cb_X10_comes_31 p1 (muX10_comes_3 p1 μ) j9 (fo j9 (g_X10_comes_31 p1 (muX10_comes_3 p1 μ)) ())))
def SX10_comes_31 (p1 : Int32) (μ : Mem) : Unit := fo (NX10_comes_31 p1 μ) (g_X10_comes_31 p1 (muX10_comes_3 p1 μ)) ()
def F_X10_comes (p1 : Int32) (μ : Mem) : Int32 := (if (F_X10_bad (VX10_comes_2 p1 μ) 1 0 (muX10_comes_1 p1 μ)) = 0 then (if 60 ≤ (nI (NX10_comes_31 p1 μ)) then (-1) else (nI (NX10_comes_31 p1 μ))) else 0)
def M_X10_comes (p1 : Int32) (μ : Mem) : Mem := (muX10_comes_3 p1 μ)
def P_X10_comes (p1 : Int32) (μ : Mem) : Prop := ((P_X10_bad (VX10_comes_2 p1 μ) 1 0 (muX10_comes_1 p1 μ)) ∧ (((F_X10_bad (VX10_comes_2 p1 μ) 1 0 (muX10_comes_1 p1 μ)) = 0 → ((∀ j9, j9 < (NX10_comes_31 p1 μ) → Pb_X10_comes_31 p1 (muX10_comes_3 p1 μ) j9 (fo j9 (g_X10_comes_31 p1 (muX10_comes_3 p1 μ)) ())) ∧ ((60 ≤ (nI (NX10_comes_31 p1 μ)) → True) ∧ ((nI (NX10_comes_31 p1 μ)) < 60 → ((P_X10_heightIn (((muX10_comes_3 p1 μ) 521 62) + (nI (NX10_comes_31 p1 μ))) (muX10_comes_3 p1 μ)) ∧ ((P_X10_waterBy 521 p1 (F_X10_heightIn (((muX10_comes_3 p1 μ) 521 62) + (nI (NX10_comes_31 p1 μ))) (muX10_comes_3 p1 μ)) (muX10_comes_3 p1 μ)) ∧ (((F_X10_waterBy 521 p1 (F_X10_heightIn (((muX10_comes_3 p1 μ) 521 62) + (nI (NX10_comes_31 p1 μ))) (muX10_comes_3 p1 μ)) (muX10_comes_3 p1 μ)) ≤ 0 → False) ∧ (0 < (F_X10_waterBy 521 p1 (F_X10_heightIn (((muX10_comes_3 p1 μ) 521 62) + (nI (NX10_comes_31 p1 μ))) (muX10_comes_3 p1 μ)) (muX10_comes_3 p1 μ)) → True)))))))) ∧ (¬ (F_X10_bad (VX10_comes_2 p1 μ) 1 0 (muX10_comes_1 p1 μ)) = 0 → True)))
set_option maxRecDepth 20000 in
set_option maxHeartbeats 2000000 in
theorem ok_X10_comes {G : SG} (hG : GK 548 G) (p1 : Int32) (μ : Mem) (hP : P_X10_comes p1 μ) : OkF G mX10_comes [.ref (ga G 57), .int p1] μ (some (.int (F_X10_comes p1 μ))) (M_X10_comes p1 μ) := by
  refine okF_of hG rfl rfl (Nat.le_of_ble_eq_true rfl) ?_
  unfold P_X10_comes at hP
  refine r_aload_n dX10_comes_0 0 rfl ?_
  refine r_iconst 0 dX10_comes_1 rfl ?_
  refine r_put fiX10_103 (hG.lt (by decide)) sh57 fs57_0 dX10_comes_2 ?_
  refine r_mu (muX10_comes_1 p1 μ) rfl ?_
  refine r_aload_n dX10_comes_5 0 rfl ?_
  refine r_aload_n dX10_comes_6 0 rfl ?_
  refine r_iload_n dX10_comes_7 1 rfl ?_
  refine r_cvI (ok_X10_isHouse hG p1 (muX10_comes_1 p1 μ)) lX10_347 (hG.lt (by decide)) sh57 ⟨_, _, rfl⟩ dX10_comes_8 (by decide) (Nat.le_of_ble_eq_true rfl) rfl (Nat.le_of_ble_eq_true rfl) ?_
  refine r_join 19 [(0, .ref (ga G 57)), (1, .int p1)] [.int (VX10_comes_2 p1 μ), .ref (ga G 57)] (muX10_comes_1 p1 μ) ?_ (fun hJ => ?_)
  · refine r_iconst 1 dX10_comes_19 rfl ?_
    refine r_iconst 0 dX10_comes_20 rfl ?_
    have hs1 := hP.1
    replace hP := hP.2
    refine r_cvI (ok_X10_bad hG (VX10_comes_2 p1 μ) 1 0 (muX10_comes_1 p1 μ) hs1) lX10_186 (hG.lt (by decide)) sh57 ⟨_, _, rfl⟩ dX10_comes_21 (by decide) (Nat.le_of_ble_eq_true rfl) rfl (Nat.le_of_ble_eq_true rfl) ?_
    refine r_mu (muX10_comes_3 p1 μ) rfl ?_
    refine r_if_eq 29 dX10_comes_24 (by decide) (fun c1 => ?_) (fun c1 => ?_)
    · replace hP := hP.1 c1
      refine r_iconst 0 dX10_comes_29 rfl ?_
      refine r_istore_n [(2, _), (0, _), (1, _)] dX10_comes_30 (Nat.le_of_ble_eq_true rfl) rfl ?_
      have hs2 := hP.1
      replace hP := hP.2
      refine r_sub [1, 2, 0] rfl ?_
      refine lp_X10_comes_31 hG p1 (muX10_comes_3 p1 μ) () ((NX10_comes_31 p1 μ)) (SX10_comes_31 p1 μ) rfl hs2 ?_
      refine r_iload_n dX10_comes_31 2 rfl ?_
      refine r_bipush 60 dX10_comes_32 rfl ?_
      refine r_icmp_ge 70 dX10_comes_34 (by decide) (fun c2 => ?_) (fun c2 => ?_)
      · replace hP := hP.1 c2
        refine r_iconst (-1) dX10_comes_70 rfl ?_
        exact r_ireturn _ dX10_comes_71 rfl rfl ⟨congrArg (fun z => some (Value.int z)) (by unfold F_X10_comes; rw [if_pos c1, if_pos c2]), rfl⟩
      · replace hP := hP.2 c2
        refine r_aload_n dX10_comes_37 0 rfl ?_
        refine r_aload_n dX10_comes_38 0 rfl ?_
        refine r_getR 521 fX10_73 (hG.lt (by decide)) sh57 fs57_31 dX10_comes_39 ?_
        refine r_iload_n dX10_comes_42 1 rfl ?_
        refine r_aload_n dX10_comes_43 0 rfl ?_
        refine r_aload_n dX10_comes_44 0 rfl ?_
        refine r_getR 521 fX10_73 (hG.lt (by decide)) sh57 fs57_31 dX10_comes_45 ?_
        refine r_bipush 62 dX10_comes_48 rfl ?_
        refine r_ialdK 62 rfl (hG.lt (by decide)) sh521 (vp_of (by decide) (by decide)) dX10_comes_50 ?_
        refine r_iload_n dX10_comes_51 2 rfl ?_
        refine r_iadd dX10_comes_52 ?_
        have hs3 := hP.1
        replace hP := hP.2
        refine r_cvI (ok_X10_heightIn hG (((muX10_comes_3 p1 μ) 521 62) + (nI (NX10_comes_31 p1 μ))) (muX10_comes_3 p1 μ) hs3) lX10_276 (hG.lt (by decide)) sh57 ⟨_, _, rfl⟩ dX10_comes_53 (by decide) (Nat.le_of_ble_eq_true rfl) rfl (Nat.le_of_ble_eq_true rfl) ?_
        have hs4 := hP.1
        replace hP := hP.2
        refine r_cvI (ok_X10_waterBy hG (hG.lt (by decide)) sh521 p1 (F_X10_heightIn (((muX10_comes_3 p1 μ) 521 62) + (nI (NX10_comes_31 p1 μ))) (muX10_comes_3 p1 μ)) (muX10_comes_3 p1 μ) hs4) lX10_282 (hG.lt (by decide)) sh57 ⟨_, _, rfl⟩ dX10_comes_56 (by decide) (Nat.le_of_ble_eq_true rfl) rfl (Nat.le_of_ble_eq_true rfl) ?_
        refine r_if_le 64 dX10_comes_59 (by decide) (fun c3 => ?_) (fun c3 => ?_)
        · replace hP := hP.1 c3
          refine r_iinc ((nI (NX10_comes_31 p1 μ)) + 1) [(2, _), (0, _), (1, _)] dX10_comes_64 2 rfl rfl (Nat.le_of_ble_eq_true rfl) rfl ?_
          refine r_goto 31 dX10_comes_67 (by decide) ?_
          exact hP.elim
        · replace hP := hP.2 c3
          refine r_iload_n dX10_comes_62 2 rfl ?_
          exact r_ireturn _ dX10_comes_63 rfl rfl ⟨congrArg (fun z => some (Value.int z)) (by unfold F_X10_comes; rw [if_pos c1, if_neg (i32_ng c2)]), rfl⟩
    · replace hP := hP.2 c1
      refine r_iconst 0 dX10_comes_27 rfl ?_
      exact r_ireturn _ dX10_comes_28 rfl rfl ⟨congrArg (fun z => some (Value.int z)) (by unfold F_X10_comes; rw [if_neg c1]), rfl⟩
  · refine r_if_ne 18 dX10_comes_11 (by decide) (fun c1 => ?_) (fun c1 => ?_)
    · refine r_iconst 0 dX10_comes_18 rfl ?_
      have e : (VX10_comes_2 p1 μ) = 0 := by unfold VX10_comes_2; rw [if_pos c1]
      rw [e] at hJ
      exact r_sub [0, 1] rfl hJ
    · refine r_iconst 1 dX10_comes_14 rfl ?_
      refine r_goto 19 dX10_comes_15 (by decide) ?_
      have e : (VX10_comes_2 p1 μ) = 1 := by unfold VX10_comes_2; rw [if_neg (not_not_intro c1)]
      rw [e] at hJ
      exact r_sub [0, 1] rfl hJ
