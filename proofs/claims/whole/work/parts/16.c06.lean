def muX6_read_1 (μ : Mem) : Mem := (upm μ 31 5 0)
def muX6_read_2 (μ : Mem) : Mem := (upm (muX6_read_1 μ) 31 6 0)
def muX6_read_12_1 (i : Nat) (s : Mem) : Mem := (M_X8_isEnded  s)
def muX6_read_12_2 (i : Nat) (s : Mem) : Mem := (M_X8_peek  (muX6_read_12_1 i s))
def VX6_read_12_3 (i : Nat) (s : Mem) : Int32 := (if ((muX6_read_12_1 i s) 31 6) ≤ 0 then 0 else (if (F_X8_peek  (muX6_read_12_1 i s)) ≠ 93 then 0 else 1))
theorem bo_VX6_read_12_3 (i : Nat) (s : Mem) : (VX6_read_12_3 i s) = 0 ∨ (VX6_read_12_3 i s) = 1 := by
  unfold VX6_read_12_3
  split
  · exact Or.inl rfl
  · split
    · exact Or.inl rfl
    · exact Or.inr rfl
def VX6_read_12_4 (i : Nat) (s : Mem) : Mem := (if ((muX6_read_12_1 i s) 31 6) ≤ 0 then (muX6_read_12_1 i s) else (muX6_read_12_2 i s))
def muX6_read_12_5 (i : Nat) (s : Mem) : Mem := (M_X6_readStep  (VX6_read_12_4 i s))
def muX6_read_12_6 (i : Nat) (s : Mem) : Mem := (M_X6_readEnd  (VX6_read_12_4 i s))
def muX6_read_12_7 (i : Nat) (s : Mem) : Mem := (M_X8_failHere 1 (muX6_read_12_1 i s))
def g_X6_read_12  (i : Nat) (s : Mem) : Mem := (if (VX6_read_12_3 i s) = 0 then (muX6_read_12_5 i s) else (muX6_read_12_6 i s))
def Pb_X6_read_12  (i : Nat) (s : Mem) : Prop := ((150 < (nI i) → False) ∧ ((nI i) ≤ 150 → (P_X8_isEnded  s) ∧ (((F_X8_isEnded  s) = 0 → (((((muX6_read_12_1 i s) 31 6) ≤ 0 → True) ∧ (0 < ((muX6_read_12_1 i s) 31 6) → P_X8_peek  (muX6_read_12_1 i s))) ∧ (((VX6_read_12_3 i s) = 0 → (P_X6_readStep  (VX6_read_12_4 i s)) ∧ (((F_X6_readStep  (VX6_read_12_4 i s)) ≠ 0 → True) ∧ ((F_X6_readStep  (VX6_read_12_4 i s)) = 0 → False))) ∧ (¬ (VX6_read_12_3 i s) = 0 → (P_X6_readEnd  (VX6_read_12_4 i s)) ∧ (((F_X6_readEnd  (VX6_read_12_4 i s)) ≠ 0 → True) ∧ ((F_X6_readEnd  (VX6_read_12_4 i s)) = 0 → False)))))) ∧ (¬ (F_X8_isEnded  s) = 0 → ((((muX6_read_12_1 i s) 31 6) = 0 → False) ∧ (¬ ((muX6_read_12_1 i s) 31 6) = 0 → (((F_X8_failHere 1 (muX6_read_12_1 i s)) = 0 → False) ∧ (¬ (F_X8_failHere 1 (muX6_read_12_1 i s)) = 0 → False))))))))
def Cb_X6_read_12  (i : Nat) (s : Mem) : Bool := (if 150 < (nI i) then false else (if (F_X8_isEnded  s) = 0 then (if (VX6_read_12_3 i s) = 0 then (if (F_X6_readStep  (VX6_read_12_4 i s)) ≠ 0 then true else false) else (if (F_X6_readEnd  (VX6_read_12_4 i s)) ≠ 0 then true else false)) else false))
set_option maxRecDepth 20000 in
set_option maxHeartbeats 2000000 in
theorem lp_X6_read_12 {G : SG} (hG : GK 57 G)   (s0 : Mem) (N : Nat) (sN : Mem) (eN : sN = fo N g_X6_read_12 s0) (hN : ∀ i, i < N → Pb_X6_read_12  i (fo i g_X6_read_12 s0)) {t : Nat} {Q : PQ} {X : PX} (h : R G mX6_read 12 [(0, .ref (ga G 31)), (1, .ref (ga G 1)), (2, .ref (ga G 3)), (3, .int (nI N))] [] sN t Q X) : R G mX6_read 12 [(0, .ref (ga G 31)), (1, .ref (ga G 1)), (2, .ref (ga G 3)), (3, .int 0)] [] s0 t Q X := by
  subst eN
  refine down_i N (fun i => R G mX6_read 12 [(0, .ref (ga G 31)), (1, .ref (ga G 1)), (2, .ref (ga G 3)), (3, .int (nI i))] [] (fo i g_X6_read_12 s0) t Q X) h (fun i hi hS => ?_)
  have hP := hN i hi
  rw [fo_succ] at hS
  rw [nI_succ] at hS
  generalize fo i g_X6_read_12 s0 = s at hS hP ⊢
  unfold Pb_X6_read_12 at hP
  refine r_iload_n dX6_read_12 3 rfl ?_
  refine r_sipush 150 dX6_read_13 rfl ?_
  refine r_icmp_gt 103 dX6_read_16 (by decide) (fun c1 => ?_) (fun c1 => ?_)
  · replace hP := hP.1 c1
    exact hP.elim
  · replace hP := hP.2 c1
    refine r_aload_n dX6_read_19 1 rfl ?_
    have hs1 := hP.1
    replace hP := hP.2
    refine r_cvI (ok_X8_isEnded hG  s hs1) lX6_38 (hG.lt (by decide)) sh1 ⟨_, _, rfl⟩ dX6_read_20 (by decide) (Nat.le_of_ble_eq_true rfl) rfl (Nat.le_of_ble_eq_true rfl) ?_
    refine r_mu (muX6_read_12_1 i s) rfl ?_
    refine r_if_eq 47 dX6_read_23 (by decide) (fun c2 => ?_) (fun c2 => ?_)
    · replace hP := hP.1 c2
      refine r_aload_n dX6_read_47 0 rfl ?_
      refine r_getI fX6_35 (hG.lt (by decide)) sh31 fs31_6 dX6_read_48 ?_
      refine r_join 68 [(0, .ref (ga G 31)), (1, .ref (ga G 1)), (2, .ref (ga G 3)), (3, .int (nI i))] [.int (VX6_read_12_3 i s)] (VX6_read_12_4 i s) ?_ (fun hJ => ?_)
      · replace hP := hP.2
        refine r_istore [(4, _), (0, _), (1, _), (2, _), (3, _)] dX6_read_68 (Nat.le_of_ble_eq_true rfl) rfl ?_
        refine r_iload dX6_read_70 0 rfl ?_
        refine r_if_eq 86 dX6_read_72 (by decide) (fun c3 => ?_) (fun c3 => ?_)
        · replace hP := hP.1 c3
          refine r_aload_n dX6_read_86 1 rfl ?_
          refine r_aload_n dX6_read_87 2 rfl ?_
          refine r_aload_n dX6_read_88 3 rfl ?_
          have hs3 := hP.1
          replace hP := hP.2
          refine r_cvI (ok_X6_readStep hG  (VX6_read_12_4 i s) hs3) lX6_56 (hG.lt (by decide)) sh31 ⟨_, _, rfl⟩ dX6_read_89 (by decide) (Nat.le_of_ble_eq_true rfl) rfl (Nat.le_of_ble_eq_true rfl) ?_
          refine r_mu (muX6_read_12_5 i s) rfl ?_
          refine r_if_ne 97 dX6_read_92 (by decide) (fun c4 => ?_) (fun c4 => ?_)
          · replace hP := hP.1 c4
            refine r_iinc ((nI i) + 1) [(3, _), (4, _), (0, _), (1, _), (2, _)] dX6_read_97 4 rfl rfl (Nat.le_of_ble_eq_true rfl) rfl ?_
            refine r_goto 12 dX6_read_100 (by decide) ?_
            have e : g_X6_read_12  i s = (muX6_read_12_5 i s) := by unfold g_X6_read_12; rw [if_pos c3]
            rw [e] at hS
            exact r_sub [2, 3, 4, 0] rfl hS
          · replace hP := hP.2 c4
            refine r_iconst 0 dX6_read_95 rfl ?_
            exact hP.elim
        · replace hP := hP.2 c3
          refine r_aload_n dX6_read_75 1 rfl ?_
          refine r_aload_n dX6_read_76 2 rfl ?_
          have hs4 := hP.1
          replace hP := hP.2
          refine r_cvI (ok_X6_readEnd hG  (VX6_read_12_4 i s) hs4) lX6_52 (hG.lt (by decide)) sh31 ⟨_, _, rfl⟩ dX6_read_77 (by decide) (Nat.le_of_ble_eq_true rfl) rfl (Nat.le_of_ble_eq_true rfl) ?_
          refine r_mu (muX6_read_12_6 i s) rfl ?_
          refine r_if_ne 97 dX6_read_80 (by decide) (fun c4 => ?_) (fun c4 => ?_)
          · replace hP := hP.1 c4
            refine r_iinc ((nI i) + 1) [(3, _), (4, _), (0, _), (1, _), (2, _)] dX6_read_97 4 rfl rfl (Nat.le_of_ble_eq_true rfl) rfl ?_
            refine r_goto 12 dX6_read_100 (by decide) ?_
            have e : g_X6_read_12  i s = (muX6_read_12_6 i s) := by unfold g_X6_read_12; rw [if_neg c3]
            rw [e] at hS
            exact r_sub [2, 3, 4, 0] rfl hS
          · replace hP := hP.2 c4
            refine r_goto 95 dX6_read_83 (by decide) ?_
            refine r_iconst 0 dX6_read_95 rfl ?_
            exact hP.elim
      · replace hP := hP.1
        refine r_if_le 67 dX6_read_51 (by decide) (fun c3 => ?_) (fun c3 => ?_)
        · replace hP := hP.1 c3
          refine r_iconst 0 dX6_read_67 rfl ?_
          have e : (VX6_read_12_3 i s) = 0 := by unfold VX6_read_12_3; rw [if_pos c3]
          rw [e] at hJ
          clear e
          have e : (VX6_read_12_4 i s) = (muX6_read_12_1 i s) := by unfold VX6_read_12_4; rw [if_pos c3]
          rw [e] at hJ
          exact r_sub [0, 1, 2, 3] rfl hJ
        · replace hP := hP.2 c3
          refine r_aload_n dX6_read_54 1 rfl ?_
          have hs2 := hP
          refine r_cvI (ok_X8_peek hG  (muX6_read_12_1 i s) hs2) lX6_48 (hG.lt (by decide)) sh1 ⟨_, _, rfl⟩ dX6_read_55 (by decide) (Nat.le_of_ble_eq_true rfl) rfl (Nat.le_of_ble_eq_true rfl) ?_
          refine r_mu (muX6_read_12_2 i s) rfl ?_
          refine r_bipush 93 dX6_read_58 rfl ?_
          refine r_icmp_ne 67 dX6_read_60 (by decide) (fun c4 => ?_) (fun c4 => ?_)
          · refine r_iconst 0 dX6_read_67 rfl ?_
            have e : (VX6_read_12_3 i s) = 0 := by unfold VX6_read_12_3; rw [if_neg (i32_ng c3), if_pos c4]
            rw [e] at hJ
            clear e
            have e : (VX6_read_12_4 i s) = (muX6_read_12_2 i s) := by unfold VX6_read_12_4; rw [if_neg (i32_ng c3)]
            rw [e] at hJ
            exact r_sub [0, 1, 2, 3] rfl hJ
          · refine r_iconst 1 dX6_read_63 rfl ?_
            refine r_goto 68 dX6_read_64 (by decide) ?_
            have e : (VX6_read_12_3 i s) = 1 := by unfold VX6_read_12_3; rw [if_neg (i32_ng c3), if_neg (not_not_intro c4)]
            rw [e] at hJ
            clear e
            have e : (VX6_read_12_4 i s) = (muX6_read_12_2 i s) := by unfold VX6_read_12_4; rw [if_neg (i32_ng c3)]
            rw [e] at hJ
            exact r_sub [0, 1, 2, 3] rfl hJ
    · replace hP := hP.2 c2
      refine r_aload_n dX6_read_26 0 rfl ?_
      refine r_getI fX6_35 (hG.lt (by decide)) sh31 fs31_6 dX6_read_27 ?_
      refine r_if_eq 41 dX6_read_30 (by decide) (fun c3 => ?_) (fun c3 => ?_)
      · replace hP := hP.1 c3
        refine r_iconst 1 dX6_read_41 rfl ?_
        refine r_goto 46 dX6_read_42 (by decide) ?_
        exact hP.elim
      · replace hP := hP.2 c3
        refine r_aload_n dX6_read_33 1 rfl ?_
        refine r_iconst 1 dX6_read_34 rfl ?_
        refine r_cvI (ok_X8_failHere hG 1 (muX6_read_12_1 i s)) lX6_44 (hG.lt (by decide)) sh1 ⟨_, _, rfl⟩ dX6_read_35 (by decide) (Nat.le_of_ble_eq_true rfl) rfl (Nat.le_of_ble_eq_true rfl) ?_
        refine r_mu (muX6_read_12_7 i s) rfl ?_
        refine r_if_eq 45 dX6_read_38 (by decide) (fun c4 => ?_) (fun c4 => ?_)
        · replace hP := hP.1 c4
          refine r_iconst 0 dX6_read_45 rfl ?_
          exact hP.elim
        · replace hP := hP.2 c4
          refine r_iconst 1 dX6_read_41 rfl ?_
          refine r_goto 46 dX6_read_42 (by decide) ?_
          exact hP.elim
def NX6_read_12 (μ : Mem) : Nat := (fst 152 (fun j9 => !Cb_X6_read_12  j9 (fo j9 g_X6_read_12 (muX6_read_2 μ))))
def SX6_read_12 (μ : Mem) : Mem := fo (NX6_read_12 μ) g_X6_read_12 (muX6_read_2 μ)
def muX6_read_3 (μ : Mem) : Mem := (M_X8_isEnded  (SX6_read_12 μ))
def muX6_read_4 (μ : Mem) : Mem := (M_X8_peek  (muX6_read_3 μ))
def VX6_read_5 (μ : Mem) : Int32 := (if ((muX6_read_3 μ) 31 6) ≤ 0 then 0 else (if (F_X8_peek  (muX6_read_3 μ)) ≠ 93 then 0 else 1))
theorem bo_VX6_read_5 (μ : Mem) : (VX6_read_5 μ) = 0 ∨ (VX6_read_5 μ) = 1 := by
  unfold VX6_read_5
  split
  · exact Or.inl rfl
  · split
    · exact Or.inl rfl
    · exact Or.inr rfl
def VX6_read_6 (μ : Mem) : Mem := (if ((muX6_read_3 μ) 31 6) ≤ 0 then (muX6_read_3 μ) else (muX6_read_4 μ))
def muX6_read_7 (μ : Mem) : Mem := (M_X6_readStep  (VX6_read_6 μ))
def muX6_read_8 (μ : Mem) : Mem := (M_X6_readEnd  (VX6_read_6 μ))
def muX6_read_9 (μ : Mem) : Mem := (M_X8_failHere 1 (muX6_read_3 μ))
def F_X6_read  (μ : Mem) : Int32 := (if 150 < (nI (NX6_read_12 μ)) then 0 else (if (F_X8_isEnded  (SX6_read_12 μ)) = 0 then 0 else (if ((muX6_read_3 μ) 31 6) = 0 then 1 else (if (F_X8_failHere 1 (muX6_read_3 μ)) = 0 then 0 else 1))))
def M_X6_read  (μ : Mem) : Mem := (if 150 < (nI (NX6_read_12 μ)) then (SX6_read_12 μ) else (if (F_X8_isEnded  (SX6_read_12 μ)) = 0 then (if (VX6_read_5 μ) = 0 then (muX6_read_7 μ) else (muX6_read_8 μ)) else (if ((muX6_read_3 μ) 31 6) = 0 then (muX6_read_3 μ) else (muX6_read_9 μ))))
def P_X6_read  (μ : Mem) : Prop := ((∀ j9, j9 < (NX6_read_12 μ) → Pb_X6_read_12  j9 (fo j9 g_X6_read_12 (muX6_read_2 μ))) ∧ ((150 < (nI (NX6_read_12 μ)) → True) ∧ ((nI (NX6_read_12 μ)) ≤ 150 → ((P_X8_isEnded  (SX6_read_12 μ)) ∧ (((F_X8_isEnded  (SX6_read_12 μ)) = 0 → (((((muX6_read_3 μ) 31 6) ≤ 0 → True) ∧ (0 < ((muX6_read_3 μ) 31 6) → (P_X8_peek  (muX6_read_3 μ)))) ∧ (((VX6_read_5 μ) = 0 → ((P_X6_readStep  (VX6_read_6 μ)) ∧ (((F_X6_readStep  (VX6_read_6 μ)) ≠ 0 → False) ∧ ((F_X6_readStep  (VX6_read_6 μ)) = 0 → True)))) ∧ (¬ (VX6_read_5 μ) = 0 → ((P_X6_readEnd  (VX6_read_6 μ)) ∧ (((F_X6_readEnd  (VX6_read_6 μ)) ≠ 0 → False) ∧ ((F_X6_readEnd  (VX6_read_6 μ)) = 0 → True))))))) ∧ (¬ (F_X8_isEnded  (SX6_read_12 μ)) = 0 → True))))))
theorem bo_X6_read  (μ : Mem) : F_X6_read  μ = 0 ∨ F_X6_read  μ = 1 := by
  unfold F_X6_read
  split
  · exact Or.inl rfl
  · split
    · exact Or.inl rfl
    · split
      · exact Or.inr rfl
      · split
        · exact Or.inl rfl
        · exact Or.inr rfl
set_option maxRecDepth 20000 in
set_option maxHeartbeats 2000000 in
theorem ok_X6_read {G : SG} (hG : GK 57 G)  (μ : Mem) (hP : P_X6_read  μ) : OkF G mX6_read [.ref (ga G 31), .ref (ga G 1), .ref (ga G 3)] μ (some (.int (F_X6_read  μ))) (M_X6_read  μ) := by
  refine okF_of hG rfl rfl (Nat.le_of_ble_eq_true rfl) ?_
  unfold P_X6_read at hP
  refine r_aload_n dX6_read_0 0 rfl ?_
  refine r_iconst 0 dX6_read_1 rfl ?_
  refine r_put fiX6_27 (hG.lt (by decide)) sh31 fs31_5 dX6_read_2 ?_
  refine r_mu (muX6_read_1 μ) rfl ?_
  refine r_aload_n dX6_read_5 0 rfl ?_
  refine r_iconst 0 dX6_read_6 rfl ?_
  refine r_put fiX6_35 (hG.lt (by decide)) sh31 fs31_6 dX6_read_7 ?_
  refine r_mu (muX6_read_2 μ) rfl ?_
  refine r_iconst 0 dX6_read_10 rfl ?_
  refine r_istore_n [(3, _), (0, _), (1, _), (2, _)] dX6_read_11 (Nat.le_of_ble_eq_true rfl) rfl ?_
  have hs1 := hP.1
  replace hP := hP.2
  refine r_sub [1, 2, 3, 0] rfl ?_
  refine lp_X6_read_12 hG (muX6_read_2 μ) ((NX6_read_12 μ)) (SX6_read_12 μ) rfl hs1 ?_
  refine r_iload_n dX6_read_12 3 rfl ?_
  refine r_sipush 150 dX6_read_13 rfl ?_
  refine r_icmp_gt 103 dX6_read_16 (by decide) (fun c1 => ?_) (fun c1 => ?_)
  · replace hP := hP.1 c1
    refine r_iconst 0 dX6_read_103 rfl ?_
    exact r_ireturn _ dX6_read_104 rfl rfl ⟨congrArg (fun z => some (Value.int z)) (by unfold F_X6_read; rw [if_pos c1]), by unfold M_X6_read; rw [if_pos c1]⟩
  · replace hP := hP.2 c1
    refine r_aload_n dX6_read_19 1 rfl ?_
    have hs2 := hP.1
    replace hP := hP.2
    refine r_cvI (ok_X8_isEnded hG  (SX6_read_12 μ) hs2) lX6_38 (hG.lt (by decide)) sh1 ⟨_, _, rfl⟩ dX6_read_20 (by decide) (Nat.le_of_ble_eq_true rfl) rfl (Nat.le_of_ble_eq_true rfl) ?_
    refine r_mu (muX6_read_3 μ) rfl ?_
    refine r_if_eq 47 dX6_read_23 (by decide) (fun c2 => ?_) (fun c2 => ?_)
    · replace hP := hP.1 c2
      refine r_aload_n dX6_read_47 0 rfl ?_
      refine r_getI fX6_35 (hG.lt (by decide)) sh31 fs31_6 dX6_read_48 ?_
      refine r_join 68 [(0, .ref (ga G 31)), (1, .ref (ga G 1)), (2, .ref (ga G 3)), (3, .int (nI (NX6_read_12 μ)))] [.int (VX6_read_5 μ)] (VX6_read_6 μ) ?_ (fun hJ => ?_)
      · replace hP := hP.2
        refine r_istore [(4, _), (0, _), (1, _), (2, _), (3, _)] dX6_read_68 (Nat.le_of_ble_eq_true rfl) rfl ?_
        refine r_iload dX6_read_70 0 rfl ?_
        refine r_if_eq 86 dX6_read_72 (by decide) (fun c3 => ?_) (fun c3 => ?_)
        · replace hP := hP.1 c3
          refine r_aload_n dX6_read_86 1 rfl ?_
          refine r_aload_n dX6_read_87 2 rfl ?_
          refine r_aload_n dX6_read_88 3 rfl ?_
          have hs4 := hP.1
          replace hP := hP.2
          refine r_cvI (ok_X6_readStep hG  (VX6_read_6 μ) hs4) lX6_56 (hG.lt (by decide)) sh31 ⟨_, _, rfl⟩ dX6_read_89 (by decide) (Nat.le_of_ble_eq_true rfl) rfl (Nat.le_of_ble_eq_true rfl) ?_
          refine r_mu (muX6_read_7 μ) rfl ?_
          refine r_if_ne 97 dX6_read_92 (by decide) (fun c4 => ?_) (fun c4 => ?_)
          · replace hP := hP.1 c4
            refine r_iinc ((nI (NX6_read_12 μ)) + 1) [(3, _), (4, _), (0, _), (1, _), (2, _)] dX6_read_97 4 rfl rfl (Nat.le_of_ble_eq_true rfl) rfl ?_
            refine r_goto 12 dX6_read_100 (by decide) ?_
            exact hP.elim
          · replace hP := hP.2 c4
            refine r_iconst 0 dX6_read_95 rfl ?_
            exact r_ireturn _ dX6_read_96 rfl rfl ⟨congrArg (fun z => some (Value.int z)) (by unfold F_X6_read; rw [if_neg (i32_nl c1), if_pos c2]), by unfold M_X6_read; rw [if_neg (i32_nl c1), if_pos c2, if_pos c3]⟩
        · replace hP := hP.2 c3
          refine r_aload_n dX6_read_75 1 rfl ?_
          refine r_aload_n dX6_read_76 2 rfl ?_
          have hs5 := hP.1
          replace hP := hP.2
          refine r_cvI (ok_X6_readEnd hG  (VX6_read_6 μ) hs5) lX6_52 (hG.lt (by decide)) sh31 ⟨_, _, rfl⟩ dX6_read_77 (by decide) (Nat.le_of_ble_eq_true rfl) rfl (Nat.le_of_ble_eq_true rfl) ?_
          refine r_mu (muX6_read_8 μ) rfl ?_
          refine r_if_ne 97 dX6_read_80 (by decide) (fun c4 => ?_) (fun c4 => ?_)
          · replace hP := hP.1 c4
            refine r_iinc ((nI (NX6_read_12 μ)) + 1) [(3, _), (4, _), (0, _), (1, _), (2, _)] dX6_read_97 4 rfl rfl (Nat.le_of_ble_eq_true rfl) rfl ?_
            refine r_goto 12 dX6_read_100 (by decide) ?_
            exact hP.elim
          · replace hP := hP.2 c4
            refine r_goto 95 dX6_read_83 (by decide) ?_
            refine r_iconst 0 dX6_read_95 rfl ?_
            exact r_ireturn _ dX6_read_96 rfl rfl ⟨congrArg (fun z => some (Value.int z)) (by unfold F_X6_read; rw [if_neg (i32_nl c1), if_pos c2]), by unfold M_X6_read; rw [if_neg (i32_nl c1), if_pos c2, if_neg c3]⟩
      · replace hP := hP.1
        refine r_if_le 67 dX6_read_51 (by decide) (fun c3 => ?_) (fun c3 => ?_)
        · replace hP := hP.1 c3
          refine r_iconst 0 dX6_read_67 rfl ?_
          have e : (VX6_read_5 μ) = 0 := by unfold VX6_read_5; rw [if_pos c3]
          rw [e] at hJ
          clear e
          have e : (VX6_read_6 μ) = (muX6_read_3 μ) := by unfold VX6_read_6; rw [if_pos c3]
          rw [e] at hJ
          exact r_sub [0, 1, 2, 3] rfl hJ
        · replace hP := hP.2 c3
          refine r_aload_n dX6_read_54 1 rfl ?_
          have hs3 := hP
          refine r_cvI (ok_X8_peek hG  (muX6_read_3 μ) hs3) lX6_48 (hG.lt (by decide)) sh1 ⟨_, _, rfl⟩ dX6_read_55 (by decide) (Nat.le_of_ble_eq_true rfl) rfl (Nat.le_of_ble_eq_true rfl) ?_
          refine r_mu (muX6_read_4 μ) rfl ?_
          refine r_bipush 93 dX6_read_58 rfl ?_
          refine r_icmp_ne 67 dX6_read_60 (by decide) (fun c4 => ?_) (fun c4 => ?_)
          · refine r_iconst 0 dX6_read_67 rfl ?_
            have e : (VX6_read_5 μ) = 0 := by unfold VX6_read_5; rw [if_neg (i32_ng c3), if_pos c4]
            rw [e] at hJ
            clear e
            have e : (VX6_read_6 μ) = (muX6_read_4 μ) := by unfold VX6_read_6; rw [if_neg (i32_ng c3)]
            rw [e] at hJ
            exact r_sub [0, 1, 2, 3] rfl hJ
          · refine r_iconst 1 dX6_read_63 rfl ?_
            refine r_goto 68 dX6_read_64 (by decide) ?_
            have e : (VX6_read_5 μ) = 1 := by unfold VX6_read_5; rw [if_neg (i32_ng c3), if_neg (not_not_intro c4)]
            rw [e] at hJ
            clear e
            have e : (VX6_read_6 μ) = (muX6_read_4 μ) := by unfold VX6_read_6; rw [if_neg (i32_ng c3)]
            rw [e] at hJ
            exact r_sub [0, 1, 2, 3] rfl hJ
    · replace hP := hP.2 c2
      refine r_aload_n dX6_read_26 0 rfl ?_
      refine r_getI fX6_35 (hG.lt (by decide)) sh31 fs31_6 dX6_read_27 ?_
      refine r_if_eq 41 dX6_read_30 (by decide) (fun c3 => ?_) (fun c3 => ?_)
      · refine r_iconst 1 dX6_read_41 rfl ?_
        refine r_goto 46 dX6_read_42 (by decide) ?_
        exact r_ireturn _ dX6_read_46 rfl rfl ⟨congrArg (fun z => some (Value.int z)) (by unfold F_X6_read; rw [if_neg (i32_nl c1), if_neg c2, if_pos c3]), by unfold M_X6_read; rw [if_neg (i32_nl c1), if_neg c2, if_pos c3]⟩
      · refine r_aload_n dX6_read_33 1 rfl ?_
        refine r_iconst 1 dX6_read_34 rfl ?_
        refine r_cvI (ok_X8_failHere hG 1 (muX6_read_3 μ)) lX6_44 (hG.lt (by decide)) sh1 ⟨_, _, rfl⟩ dX6_read_35 (by decide) (Nat.le_of_ble_eq_true rfl) rfl (Nat.le_of_ble_eq_true rfl) ?_
        refine r_mu (muX6_read_9 μ) rfl ?_
        refine r_if_eq 45 dX6_read_38 (by decide) (fun c4 => ?_) (fun c4 => ?_)
        · refine r_iconst 0 dX6_read_45 rfl ?_
          exact r_ireturn _ dX6_read_46 rfl rfl ⟨congrArg (fun z => some (Value.int z)) (by unfold F_X6_read; rw [if_neg (i32_nl c1), if_neg c2, if_neg c3, if_pos c4]), by unfold M_X6_read; rw [if_neg (i32_nl c1), if_neg c2, if_neg c3]⟩
        · refine r_iconst 1 dX6_read_41 rfl ?_
          refine r_goto 46 dX6_read_42 (by decide) ?_
          exact r_ireturn _ dX6_read_46 rfl rfl ⟨congrArg (fun z => some (Value.int z)) (by unfold F_X6_read; rw [if_neg (i32_nl c1), if_neg c2, if_neg c3, if_neg c4]), by unfold M_X6_read; rw [if_neg (i32_nl c1), if_neg c2, if_neg c3]⟩
def muX6_doStep_1 (p0 : Int32) (p1 : Int32) (μ : Mem) : Mem := (M_X5_lift 43 p1 μ)
def muX6_doStep_2 (p0 : Int32) (p1 : Int32) (μ : Mem) : Mem := (M_X5_lower 43 p1 μ)
def muX6_doStep_3 (p0 : Int32) (p1 : Int32) (μ : Mem) : Mem := (M_X5_tie 43 p1 μ)
def muX6_doStep_4 (p0 : Int32) (p1 : Int32) (μ : Mem) : Mem := (M_X5_untie 43 p1 μ)
def muX6_doStep_5 (p0 : Int32) (p1 : Int32) (μ : Mem) : Mem := (M_X5_addBag 43 p1 μ)
def muX6_doStep_6 (p0 : Int32) (p1 : Int32) (μ : Mem) : Mem := (M_X5_comeIn 43 μ)
def F_X6_doStep (p0 : Int32) (p1 : Int32) (μ : Mem) : Int32 := (if p0 = 0 then (F_X5_lift 43 p1 μ) else (if p0 = 1 then (F_X5_lower 43 p1 μ) else (if p0 = 2 then (F_X5_tie 43 p1 μ) else (if p0 = 3 then (F_X5_untie 43 p1 μ) else (if p0 = 4 then (F_X5_addBag 43 p1 μ) else (F_X5_comeIn 43 μ))))))
def M_X6_doStep (p0 : Int32) (p1 : Int32) (μ : Mem) : Mem := (if p0 = 0 then (muX6_doStep_1 p0 p1 μ) else (if p0 = 1 then (muX6_doStep_2 p0 p1 μ) else (if p0 = 2 then (muX6_doStep_3 p0 p1 μ) else (if p0 = 3 then (muX6_doStep_4 p0 p1 μ) else (if p0 = 4 then (muX6_doStep_5 p0 p1 μ) else (muX6_doStep_6 p0 p1 μ))))))
def P_X6_doStep (p0 : Int32) (p1 : Int32) (μ : Mem) : Prop := ((p0 = 0 → True) ∧ (p0 = 1 → True) ∧ (p0 = 2 → True) ∧ (p0 = 3 → True) ∧ (p0 = 4 → True) ∧ (¬ p0 = 0 ∧ ¬ p0 = 1 ∧ ¬ p0 = 2 ∧ ¬ p0 = 3 ∧ ¬ p0 = 4 → (P_X5_comeIn 43 μ)))
theorem bo_X6_doStep (p0 : Int32) (p1 : Int32) (μ : Mem) : F_X6_doStep p0 p1 μ = 0 ∨ F_X6_doStep p0 p1 μ = 1 := by
  unfold F_X6_doStep
  split
  · exact (bo_X5_lift 43 p1 μ)
  split
  · exact (bo_X5_lower 43 p1 μ)
  split
  · exact (bo_X5_tie 43 p1 μ)
  split
  · exact (bo_X5_untie 43 p1 μ)
  split
  · exact (bo_X5_addBag 43 p1 μ)
  exact (bo_X5_comeIn 43 μ)
set_option maxRecDepth 20000 in
set_option maxHeartbeats 2000000 in
theorem ok_X6_doStep {G : SG} (hG : GK 57 G) (p0 : Int32) (p1 : Int32) (μ : Mem) (hP : P_X6_doStep p0 p1 μ) : OkF G mX6_doStep [.int p0, .int p1, .ref (ga G 43), .ref (ga G 3), .ref (ga G 21)] μ (some (.int (F_X6_doStep p0 p1 μ))) (M_X6_doStep p0 p1 μ) := by
  refine okF_of hG rfl rfl (Nat.le_of_ble_eq_true rfl) ?_
  unfold P_X6_doStep at hP
  refine r_iload_n dX6_doStep_0 0 rfl ?_
  by_cases c1 : p0 = 0
  · replace hP := hP.1 c1
    refine r_tableIn (35) 36 dX6_doStep_1 (by rw [c1]; decide) (by rw [c1]; decide) (by rw [c1]; rfl) (by decide) ?_
    refine r_aload_n dX6_doStep_36 2 rfl ?_
    refine r_iload_n dX6_doStep_37 1 rfl ?_
    refine r_cvI (ok_X5_lift hG (IsSt.of43) p1 μ) lX6_124 (hG.lt (by decide)) sh43 ⟨_, _, rfl⟩ dX6_doStep_38 (by decide) (Nat.le_of_ble_eq_true rfl) rfl (Nat.le_of_ble_eq_true rfl) ?_
    refine r_mu (muX6_doStep_1 p0 p1 μ) rfl ?_
    exact r_ireturn _ dX6_doStep_41 rfl (nb01 ((bo_X5_lift 43 p1 μ))) ⟨congrArg (fun z => some (Value.int z)) (by unfold F_X6_doStep; rw [if_pos c1]), by unfold M_X6_doStep; rw [if_pos c1]⟩
  by_cases c2 : p0 = 1
  · replace hP := hP.2.1 c2
    refine r_tableIn (41) 42 dX6_doStep_1 (by rw [c2]; decide) (by rw [c2]; decide) (by rw [c2]; rfl) (by decide) ?_
    refine r_aload_n dX6_doStep_42 2 rfl ?_
    refine r_iload_n dX6_doStep_43 1 rfl ?_
    refine r_cvI (ok_X5_lower hG (IsSt.of43) p1 μ) lX6_128 (hG.lt (by decide)) sh43 ⟨_, _, rfl⟩ dX6_doStep_44 (by decide) (Nat.le_of_ble_eq_true rfl) rfl (Nat.le_of_ble_eq_true rfl) ?_
    refine r_mu (muX6_doStep_2 p0 p1 μ) rfl ?_
    exact r_ireturn _ dX6_doStep_47 rfl (nb01 ((bo_X5_lower 43 p1 μ))) ⟨congrArg (fun z => some (Value.int z)) (by unfold F_X6_doStep; rw [if_neg c1, if_pos c2]), by unfold M_X6_doStep; rw [if_neg c1, if_pos c2]⟩
  by_cases c3 : p0 = 2
  · replace hP := hP.2.2.1 c3
    refine r_tableIn (47) 48 dX6_doStep_1 (by rw [c3]; decide) (by rw [c3]; decide) (by rw [c3]; rfl) (by decide) ?_
    refine r_aload_n dX6_doStep_48 2 rfl ?_
    refine r_iload_n dX6_doStep_49 1 rfl ?_
    refine r_cvI (ok_X5_tie hG (IsSt.of43) p1 μ) lX6_130 (hG.lt (by decide)) sh43 ⟨_, _, rfl⟩ dX6_doStep_50 (by decide) (Nat.le_of_ble_eq_true rfl) rfl (Nat.le_of_ble_eq_true rfl) ?_
    refine r_mu (muX6_doStep_3 p0 p1 μ) rfl ?_
    exact r_ireturn _ dX6_doStep_53 rfl (nb01 ((bo_X5_tie 43 p1 μ))) ⟨congrArg (fun z => some (Value.int z)) (by unfold F_X6_doStep; rw [if_neg c1, if_neg c2, if_pos c3]), by unfold M_X6_doStep; rw [if_neg c1, if_neg c2, if_pos c3]⟩
  by_cases c4 : p0 = 3
  · replace hP := hP.2.2.2.1 c4
    refine r_tableIn (53) 54 dX6_doStep_1 (by rw [c4]; decide) (by rw [c4]; decide) (by rw [c4]; rfl) (by decide) ?_
    refine r_aload_n dX6_doStep_54 2 rfl ?_
    refine r_iload_n dX6_doStep_55 1 rfl ?_
    refine r_cvI (ok_X5_untie hG (IsSt.of43) p1 μ) lX6_132 (hG.lt (by decide)) sh43 ⟨_, _, rfl⟩ dX6_doStep_56 (by decide) (Nat.le_of_ble_eq_true rfl) rfl (Nat.le_of_ble_eq_true rfl) ?_
    refine r_mu (muX6_doStep_4 p0 p1 μ) rfl ?_
    exact r_ireturn _ dX6_doStep_59 rfl (nb01 ((bo_X5_untie 43 p1 μ))) ⟨congrArg (fun z => some (Value.int z)) (by unfold F_X6_doStep; rw [if_neg c1, if_neg c2, if_neg c3, if_pos c4]), by unfold M_X6_doStep; rw [if_neg c1, if_neg c2, if_neg c3, if_pos c4]⟩
  by_cases c5 : p0 = 4
  · replace hP := hP.2.2.2.2.1 c5
    refine r_tableIn (59) 60 dX6_doStep_1 (by rw [c5]; decide) (by rw [c5]; decide) (by rw [c5]; rfl) (by decide) ?_
    refine r_aload_n dX6_doStep_60 2 rfl ?_
    refine r_iload_n dX6_doStep_61 1 rfl ?_
    refine r_cvI (ok_X5_addBag hG (IsSt.of43) p1 μ) lX6_134 (hG.lt (by decide)) sh43 ⟨_, _, rfl⟩ dX6_doStep_62 (by decide) (Nat.le_of_ble_eq_true rfl) rfl (Nat.le_of_ble_eq_true rfl) ?_
    refine r_mu (muX6_doStep_5 p0 p1 μ) rfl ?_
    exact r_ireturn _ dX6_doStep_65 rfl (nb01 ((bo_X5_addBag 43 p1 μ))) ⟨congrArg (fun z => some (Value.int z)) (by unfold F_X6_doStep; rw [if_neg c1, if_neg c2, if_neg c3, if_neg c4, if_pos c5]), by unfold M_X6_doStep; rw [if_neg c1, if_neg c2, if_neg c3, if_neg c4, if_pos c5]⟩
  replace hP := hP.2.2.2.2.2 ⟨c1, c2, c3, c4, c5⟩
  have ec1 := i32_ti c1
  have ec2 := i32_ti c2
  have ec3 := i32_ti c3
  have ec4 := i32_ti c4
  have ec5 := i32_ti c5
  refine r_tableOut 66 dX6_doStep_1 (by simp only [Int32.reduceToInt] at ec1 ec2 ec3 ec4 ec5; omega) (by decide) ?_
  refine r_aload_n dX6_doStep_66 2 rfl ?_
  refine r_aload_n dX6_doStep_67 3 rfl ?_
  refine r_aload dX6_doStep_68 4 rfl ?_
  have hs1 := hP
  refine r_cvI (ok_X5_comeIn hG (IsSt.of43) μ hs1) lX6_137 (hG.lt (by decide)) sh43 ⟨_, _, rfl⟩ dX6_doStep_70 (by decide) (Nat.le_of_ble_eq_true rfl) rfl (Nat.le_of_ble_eq_true rfl) ?_
  refine r_mu (muX6_doStep_6 p0 p1 μ) rfl ?_
  exact r_ireturn _ dX6_doStep_73 rfl (nb01 ((bo_X5_comeIn 43 μ))) ⟨congrArg (fun z => some (Value.int z)) (by unfold F_X6_doStep; rw [if_neg c1, if_neg c2, if_neg c3, if_neg c4, if_neg c5]), by unfold M_X6_doStep; rw [if_neg c1, if_neg c2, if_neg c3, if_neg c4, if_neg c5]⟩
def muX6_doAll_1 (μ : Mem) : Mem := (upm μ 31 7 0)
def muX6_doAll_20_1 (i : Nat) (s : Int32 × Int32 × Int32 × Int32 × Mem) : Mem := (M_X6_doStep (F_X9_at 32 150 s.2.2.2.1 s.2.2.2.2) (F_X9_at 33 150 s.2.2.2.1 s.2.2.2.2) s.2.2.2.2)
def muX6_doAll_20_2 (i : Nat) (s : Int32 × Int32 × Int32 × Int32 × Mem) : Mem := (upm (muX6_doAll_20_1 i s) 31 7 (((muX6_doAll_20_1 i s) 31 7) + 1))
def muX6_doAll_20_3 (i : Nat) (s : Int32 × Int32 × Int32 × Int32 × Mem) : Mem := (M_X9_put 36 6 s.2.2.1 (F_X9_at 33 150 s.2.2.2.1 s.2.2.2.2) s.2.2.2.2)
def muX6_doAll_20_4 (i : Nat) (s : Int32 × Int32 × Int32 × Int32 × Mem) : Mem := (M_X6_doStep (F_X9_at 32 150 s.2.2.2.1 s.2.2.2.2) (F_X9_at 33 150 s.2.2.2.1 s.2.2.2.2) s.2.2.2.2)
def muX6_doAll_20_5 (i : Nat) (s : Int32 × Int32 × Int32 × Int32 × Mem) : Mem := (upm (muX6_doAll_20_4 i s) 31 7 (((muX6_doAll_20_4 i s) 31 7) + 1))
def muX6_doAll_20_6 (i : Nat) (s : Int32 × Int32 × Int32 × Int32 × Mem) : Mem := (M_X9_put 36 6 s.2.2.1 (F_X9_at 33 150 s.2.2.2.1 s.2.2.2.2) s.2.2.2.2)
def VX6_doAll_20_7 (i : Nat) (s : Int32 × Int32 × Int32 × Int32 × Mem) : Int32 := (if (F_X9_at 32 150 s.2.2.2.1 s.2.2.2.2) ≠ 6 then (if (F_X9_at 32 150 s.2.2.2.1 s.2.2.2.2) ≠ 6 then (if (F_X6_doStep (F_X9_at 32 150 s.2.2.2.1 s.2.2.2.2) (F_X9_at 33 150 s.2.2.2.1 s.2.2.2.2) s.2.2.2.2) = 0 then s.1 else (s.1 + 1)) else s.1) else (if (F_X9_at 33 150 s.2.2.2.1 s.2.2.2.2) ≠ 0 then (if (F_X9_at 32 150 s.2.2.2.1 s.2.2.2.2) ≠ 6 then (if (F_X6_doStep (F_X9_at 32 150 s.2.2.2.1 s.2.2.2.2) (F_X9_at 33 150 s.2.2.2.1 s.2.2.2.2) s.2.2.2.2) = 0 then s.1 else (s.1 + 1)) else s.1) else s.1))
def VX6_doAll_20_8 (i : Nat) (s : Int32 × Int32 × Int32 × Int32 × Mem) : Int32 := (if (F_X9_at 32 150 s.2.2.2.1 s.2.2.2.2) ≠ 6 then (if (F_X9_at 32 150 s.2.2.2.1 s.2.2.2.2) ≠ 6 then s.2.2.1 else (s.2.2.1 + 1)) else (if (F_X9_at 33 150 s.2.2.2.1 s.2.2.2.2) ≠ 0 then (if (F_X9_at 32 150 s.2.2.2.1 s.2.2.2.2) ≠ 6 then s.2.2.1 else (s.2.2.1 + 1)) else s.2.2.1))
def VX6_doAll_20_9 (i : Nat) (s : Int32 × Int32 × Int32 × Int32 × Mem) : Int32 := (if (F_X9_at 32 150 s.2.2.2.1 s.2.2.2.2) ≠ 6 then s.2.2.2.1 else (if (F_X9_at 33 150 s.2.2.2.1 s.2.2.2.2) ≠ 0 then s.2.2.2.1 else (F_X9_at 34 150 s.2.2.2.1 s.2.2.2.2)))
def VX6_doAll_20_10 (i : Nat) (s : Int32 × Int32 × Int32 × Int32 × Mem) : Mem := (if (F_X9_at 32 150 s.2.2.2.1 s.2.2.2.2) ≠ 6 then (if (F_X9_at 32 150 s.2.2.2.1 s.2.2.2.2) ≠ 6 then (if (F_X6_doStep (F_X9_at 32 150 s.2.2.2.1 s.2.2.2.2) (F_X9_at 33 150 s.2.2.2.1 s.2.2.2.2) s.2.2.2.2) = 0 then (muX6_doAll_20_2 i s) else (muX6_doAll_20_1 i s)) else (muX6_doAll_20_3 i s)) else (if (F_X9_at 33 150 s.2.2.2.1 s.2.2.2.2) ≠ 0 then (if (F_X9_at 32 150 s.2.2.2.1 s.2.2.2.2) ≠ 6 then (if (F_X6_doStep (F_X9_at 32 150 s.2.2.2.1 s.2.2.2.2) (F_X9_at 33 150 s.2.2.2.1 s.2.2.2.2) s.2.2.2.2) = 0 then (muX6_doAll_20_5 i s) else (muX6_doAll_20_4 i s)) else (muX6_doAll_20_6 i s)) else s.2.2.2.2))
def muX6_doAll_20_11 (i : Nat) (s : Int32 × Int32 × Int32 × Int32 × Mem) : Mem := (M_X9_put 36 6 (s.2.2.1 - 1) ((F_X9_at 36 6 (s.2.2.1 - 1) s.2.2.2.2) - 1) s.2.2.2.2)
def VX6_doAll_20_12 (i : Nat) (s : Int32 × Int32 × Int32 × Int32 × Mem) : Int32 := (if ((F_X9_at 36 6 (s.2.2.1 - 1) s.2.2.2.2) - 1) ≤ 0 then 1 else 0)
theorem bo_VX6_doAll_20_12 (i : Nat) (s : Int32 × Int32 × Int32 × Int32 × Mem) : (VX6_doAll_20_12 i s) = 0 ∨ (VX6_doAll_20_12 i s) = 1 := by
  unfold VX6_doAll_20_12
  split
  · exact Or.inr rfl
  · exact Or.inl rfl
def VX6_doAll_20_13 (i : Nat) (s : Int32 × Int32 × Int32 × Int32 × Mem) : Int32 := (if ((F_X9_at 36 6 (s.2.2.1 - 1) s.2.2.2.2) - 1) ≤ 0 then (s.2.2.2.1 + 1) else ((F_X9_at 34 150 s.2.2.2.1 (muX6_doAll_20_11 i s)) + 1))
def g_X6_doAll_20  (i : Nat) (s : Int32 × Int32 × Int32 × Int32 × Mem) : Int32 × Int32 × Int32 × Int32 × Mem := (if (F_X9_at 32 150 s.2.2.2.1 s.2.2.2.2) ≠ 7 then ((VX6_doAll_20_7 i s), (s.2.1 + 1), (VX6_doAll_20_8 i s), ((VX6_doAll_20_9 i s) + 1), (VX6_doAll_20_10 i s)) else (s.1, s.2.1, (s.2.2.1 - (VX6_doAll_20_12 i s)), (VX6_doAll_20_13 i s), (muX6_doAll_20_11 i s)))
def Pb_X6_doAll_20  (i : Nat) (s : Int32 × Int32 × Int32 × Int32 × Mem) : Prop := ((10000 ≤ (nI i) → False) ∧ ((nI i) < 10000 → (((s.2.2.2.2 31 5) ≤ s.2.2.2.1 → False) ∧ (s.2.2.2.1 < (s.2.2.2.2 31 5) → (((F_X9_at 32 150 s.2.2.2.1 s.2.2.2.2) ≠ 7 → ((s.2.1 ≠ 200 → (((F_X9_at 32 150 s.2.2.2.1 s.2.2.2.2) ≠ 6 → (((F_X9_at 32 150 s.2.2.2.1 s.2.2.2.2) ≠ 6 → P_X6_doStep (F_X9_at 32 150 s.2.2.2.1 s.2.2.2.2) (F_X9_at 33 150 s.2.2.2.1 s.2.2.2.2) s.2.2.2.2) ∧ ((F_X9_at 32 150 s.2.2.2.1 s.2.2.2.2) = 6 → True))) ∧ ((F_X9_at 32 150 s.2.2.2.1 s.2.2.2.2) = 6 → (((F_X9_at 33 150 s.2.2.2.1 s.2.2.2.2) ≠ 0 → (((F_X9_at 32 150 s.2.2.2.1 s.2.2.2.2) ≠ 6 → P_X6_doStep (F_X9_at 32 150 s.2.2.2.1 s.2.2.2.2) (F_X9_at 33 150 s.2.2.2.1 s.2.2.2.2) s.2.2.2.2) ∧ ((F_X9_at 32 150 s.2.2.2.1 s.2.2.2.2) = 6 → True))) ∧ ((F_X9_at 33 150 s.2.2.2.1 s.2.2.2.2) = 0 → True))))) ∧ (s.2.1 = 200 → False))) ∧ ((F_X9_at 32 150 s.2.2.2.1 s.2.2.2.2) = 7 → True))))))
def Cb_X6_doAll_20  (i : Nat) (s : Int32 × Int32 × Int32 × Int32 × Mem) : Bool := (if 10000 ≤ (nI i) then false else (if (s.2.2.2.2 31 5) ≤ s.2.2.2.1 then false else (if (F_X9_at 32 150 s.2.2.2.1 s.2.2.2.2) ≠ 7 then (if s.2.1 ≠ 200 then true else false) else true)))
set_option maxRecDepth 20000 in
set_option maxHeartbeats 2000000 in
theorem lp_X6_doAll_20 {G : SG} (hG : GK 57 G)   (s0 : Int32 × Int32 × Int32 × Int32 × Mem) (N : Nat) (sN : Int32 × Int32 × Int32 × Int32 × Mem) (eN : sN = fo N g_X6_doAll_20 s0) (hN : ∀ i, i < N → Pb_X6_doAll_20  i (fo i g_X6_doAll_20 s0)) {t : Nat} {Q : PQ} {X : PX} (h : R G mX6_doAll 20 [(0, .ref (ga G 31)), (1, .ref (ga G 43)), (2, .ref (ga G 3)), (3, .ref (ga G 21)), (4, .int (sN).1), (5, .int (sN).2.1), (6, .int (sN).2.2.1), (7, .int (sN).2.2.2.1), (8, .int (nI N))] [] (sN).2.2.2.2 t Q X) : R G mX6_doAll 20 [(0, .ref (ga G 31)), (1, .ref (ga G 43)), (2, .ref (ga G 3)), (3, .ref (ga G 21)), (4, .int (s0).1), (5, .int (s0).2.1), (6, .int (s0).2.2.1), (7, .int (s0).2.2.2.1), (8, .int 0)] [] (s0).2.2.2.2 t Q X := by
  subst eN
  refine down_i N (fun i => R G mX6_doAll 20 [(0, .ref (ga G 31)), (1, .ref (ga G 43)), (2, .ref (ga G 3)), (3, .ref (ga G 21)), (4, .int ((fo i g_X6_doAll_20 s0)).1), (5, .int ((fo i g_X6_doAll_20 s0)).2.1), (6, .int ((fo i g_X6_doAll_20 s0)).2.2.1), (7, .int ((fo i g_X6_doAll_20 s0)).2.2.2.1), (8, .int (nI i))] [] ((fo i g_X6_doAll_20 s0)).2.2.2.2 t Q X) h (fun i hi hS => ?_)
  have hP := hN i hi
  rw [fo_succ] at hS
  rw [nI_succ] at hS
  generalize fo i g_X6_doAll_20 s0 = s at hS hP ⊢
  unfold Pb_X6_doAll_20 at hP
  refine r_iload dX6_doAll_20 8 rfl ?_
  refine r_sipush 10000 dX6_doAll_22 rfl ?_
  refine r_icmp_ge 239 dX6_doAll_25 (by decide) (fun c1 => ?_) (fun c1 => ?_)
  · replace hP := hP.1 c1
    exact hP.elim
  · replace hP := hP.2 c1
    refine r_iload dX6_doAll_28 7 rfl ?_
    refine r_aload_n dX6_doAll_30 0 rfl ?_
    refine r_getI fX6_27 (hG.lt (by decide)) sh31 fs31_5 dX6_doAll_31 ?_
    refine r_icmp_ge 239 dX6_doAll_34 (by decide) (fun c2 => ?_) (fun c2 => ?_)
    · replace hP := hP.1 c2
      exact hP.elim
    · replace hP := hP.2 c2
      refine r_aload_n dX6_doAll_37 0 rfl ?_
      refine r_getR 32 fX6_9 (hG.lt (by decide)) sh31 fs31_0 dX6_doAll_38 ?_
      refine r_iload dX6_doAll_41 7 rfl ?_
      refine r_csI (ok_X9_at hG (hG.lt (by decide)) sh32 s.2.2.2.1 s.2.2.2.2) lX6_63 dX6_doAll_43 (by decide) (Nat.le_of_ble_eq_true rfl) rfl (Nat.le_of_ble_eq_true rfl) ?_
      refine r_istore [(9, _), (0, _), (1, _), (2, _), (3, _), (4, _), (5, _), (6, _), (7, _), (8, _)] dX6_doAll_46 (Nat.le_of_ble_eq_true rfl) rfl ?_
      refine r_iload dX6_doAll_48 0 rfl ?_
      refine r_bipush 7 dX6_doAll_50 rfl ?_
      refine r_icmp_ne 126 dX6_doAll_52 (by decide) (fun c3 => ?_) (fun c3 => ?_)
      · replace hP := hP.1 c3
        refine r_iload dX6_doAll_126 6 rfl ?_
        refine r_sipush 200 dX6_doAll_128 rfl ?_
        refine r_icmp_ne 137 dX6_doAll_131 (by decide) (fun c4 => ?_) (fun c4 => ?_)
        · replace hP := hP.1 c4
          refine r_iinc (s.2.1 + 1) [(5, _), (9, _), (0, _), (1, _), (2, _), (3, _), (4, _), (6, _), (7, _), (8, _)] dX6_doAll_137 6 rfl rfl (Nat.le_of_ble_eq_true rfl) rfl ?_
          refine r_aload_n dX6_doAll_140 2 rfl ?_
          refine r_getR 33 fX6_15 (hG.lt (by decide)) sh31 fs31_1 dX6_doAll_141 ?_
          refine r_iload dX6_doAll_144 8 rfl ?_
          refine r_csI (ok_X9_at hG (hG.lt (by decide)) sh33 s.2.2.2.1 s.2.2.2.2) lX6_63 dX6_doAll_146 (by decide) (Nat.le_of_ble_eq_true rfl) rfl (Nat.le_of_ble_eq_true rfl) ?_
          refine r_istore [(10, _), (5, _), (9, _), (0, _), (1, _), (2, _), (3, _), (4, _), (6, _), (7, _), (8, _)] dX6_doAll_149 (Nat.le_of_ble_eq_true rfl) rfl ?_
          refine r_iload dX6_doAll_151 2 rfl ?_
          refine r_bipush 6 dX6_doAll_153 rfl ?_
          refine r_join 230 [(10, .int (F_X9_at 33 150 s.2.2.2.1 s.2.2.2.2)), (5, .int (s.2.1 + 1)), (9, .int (F_X9_at 32 150 s.2.2.2.1 s.2.2.2.2)), (0, .ref (ga G 31)), (1, .ref (ga G 43)), (2, .ref (ga G 3)), (3, .ref (ga G 21)), (4, .int (VX6_doAll_20_7 i s)), (6, .int (VX6_doAll_20_8 i s)), (7, .int (VX6_doAll_20_9 i s)), (8, .int (nI i))] [] (VX6_doAll_20_10 i s) ?_ (fun hJ => ?_)
          · refine r_iinc ((VX6_doAll_20_9 i s) + 1) [(7, _), (10, _), (5, _), (9, _), (0, _), (1, _), (2, _), (3, _), (4, _), (6, _), (8, _)] dX6_doAll_230 9 rfl rfl (Nat.le_of_ble_eq_true rfl) rfl ?_
            refine r_iinc ((nI i) + 1) [(8, _), (7, _), (10, _), (5, _), (9, _), (0, _), (1, _), (2, _), (3, _), (4, _), (6, _)] dX6_doAll_233 10 rfl rfl (Nat.le_of_ble_eq_true rfl) rfl ?_
            refine r_goto 20 dX6_doAll_236 (by decide) ?_
            have e : g_X6_doAll_20  i s = ((VX6_doAll_20_7 i s), (s.2.1 + 1), (VX6_doAll_20_8 i s), ((VX6_doAll_20_9 i s) + 1), (VX6_doAll_20_10 i s)) := by unfold g_X6_doAll_20; rw [if_pos c3]
            rw [e] at hS
            dsimp only at hS
            exact r_sub [5, 6, 7, 8, 9, 3, 10, 1, 0] rfl hS
          · refine r_icmp_ne 177 dX6_doAll_155 (by decide) (fun c5 => ?_) (fun c5 => ?_)
            · replace hP := hP.1 c5
              refine r_iload dX6_doAll_177 2 rfl ?_
              refine r_bipush 6 dX6_doAll_179 rfl ?_
              refine r_icmp_ne 201 dX6_doAll_181 (by decide) (fun c6 => ?_) (fun c6 => ?_)
              · replace hP := hP.1 c6
                refine r_iload dX6_doAll_201 2 rfl ?_
                refine r_iload dX6_doAll_203 0 rfl ?_
                refine r_aload_n dX6_doAll_205 4 rfl ?_
                refine r_aload_n dX6_doAll_206 5 rfl ?_
                refine r_aload_n dX6_doAll_207 6 rfl ?_
                have hs1 := hP
                refine r_csI (ok_X6_doStep hG (F_X9_at 32 150 s.2.2.2.1 s.2.2.2.2) (F_X9_at 33 150 s.2.2.2.1 s.2.2.2.2) s.2.2.2.2 hs1) lX6_120 dX6_doAll_208 (by decide) (Nat.le_of_ble_eq_true rfl) rfl (Nat.le_of_ble_eq_true rfl) ?_
                refine r_mu (muX6_doAll_20_1 i s) rfl ?_
                refine r_if_eq 220 dX6_doAll_211 (by decide) (fun c7 => ?_) (fun c7 => ?_)
                · refine r_aload_n dX6_doAll_220 3 rfl ?_
                  refine r_dup dX6_doAll_221 rfl ?_
                  refine r_getI fX6_117 (hG.lt (by decide)) sh31 fs31_7 dX6_doAll_222 ?_
                  refine r_iconst 1 dX6_doAll_225 rfl ?_
                  refine r_iadd dX6_doAll_226 ?_
                  refine r_put fiX6_117 (hG.lt (by decide)) sh31 fs31_7 dX6_doAll_227 ?_
                  refine r_mu (muX6_doAll_20_2 i s) rfl ?_
                  have e : (VX6_doAll_20_7 i s) = s.1 := by unfold VX6_doAll_20_7; rw [if_pos c5, if_pos c6, if_pos c7]
                  rw [e] at hJ
                  clear e
                  have e : (VX6_doAll_20_8 i s) = s.2.2.1 := by unfold VX6_doAll_20_8; rw [if_pos c5, if_pos c6]
                  rw [e] at hJ
                  clear e
                  have e : (VX6_doAll_20_9 i s) = s.2.2.2.1 := by unfold VX6_doAll_20_9; rw [if_pos c5]
                  rw [e] at hJ
                  clear e
                  have e : (VX6_doAll_20_10 i s) = (muX6_doAll_20_2 i s) := by unfold VX6_doAll_20_10; rw [if_pos c5, if_pos c6, if_pos c7]
                  rw [e] at hJ
                  exact r_sub [0, 1, 2, 3, 4, 5, 6, 7, 8, 9, 10] rfl hJ
                · refine r_iinc (s.1 + 1) [(4, _), (10, _), (5, _), (9, _), (0, _), (1, _), (2, _), (3, _), (6, _), (7, _), (8, _)] dX6_doAll_214 7 rfl rfl (Nat.le_of_ble_eq_true rfl) rfl ?_
                  refine r_goto 230 dX6_doAll_217 (by decide) ?_
                  have e : (VX6_doAll_20_7 i s) = (s.1 + 1) := by unfold VX6_doAll_20_7; rw [if_pos c5, if_pos c6, if_neg c7]
                  rw [e] at hJ
                  clear e
                  have e : (VX6_doAll_20_8 i s) = s.2.2.1 := by unfold VX6_doAll_20_8; rw [if_pos c5, if_pos c6]
                  rw [e] at hJ
                  clear e
                  have e : (VX6_doAll_20_9 i s) = s.2.2.2.1 := by unfold VX6_doAll_20_9; rw [if_pos c5]
                  rw [e] at hJ
                  clear e
                  have e : (VX6_doAll_20_10 i s) = (muX6_doAll_20_1 i s) := by unfold VX6_doAll_20_10; rw [if_pos c5, if_pos c6, if_neg c7]
                  rw [e] at hJ
                  exact r_sub [1, 2, 3, 4, 5, 6, 7, 0, 8, 9, 10] rfl hJ
              · replace hP := hP.2 c6
                refine r_aload_n dX6_doAll_184 3 rfl ?_
                refine r_getR 36 fX6_24 (hG.lt (by decide)) sh31 fs31_4 dX6_doAll_185 ?_
                refine r_iload dX6_doAll_188 8 rfl ?_
                refine r_iload dX6_doAll_190 0 rfl ?_
                refine r_csV (ok_X9_put hG (hG.lt (by decide)) sh36 s.2.2.1 (F_X9_at 33 150 s.2.2.2.1 s.2.2.2.2) s.2.2.2.2) lX6_31 dX6_doAll_192 (by decide) (Nat.le_of_ble_eq_true rfl) rfl (Nat.le_of_ble_eq_true rfl) ?_
                refine r_mu (muX6_doAll_20_3 i s) rfl ?_
                refine r_iinc (s.2.2.1 + 1) [(6, _), (10, _), (5, _), (9, _), (0, _), (1, _), (2, _), (3, _), (4, _), (7, _), (8, _)] dX6_doAll_195 8 rfl rfl (Nat.le_of_ble_eq_true rfl) rfl ?_
                refine r_goto 230 dX6_doAll_198 (by decide) ?_
                have e : (VX6_doAll_20_7 i s) = s.1 := by unfold VX6_doAll_20_7; rw [if_pos c5, if_neg (not_not_intro c6)]
                rw [e] at hJ
                clear e
                have e : (VX6_doAll_20_8 i s) = (s.2.2.1 + 1) := by unfold VX6_doAll_20_8; rw [if_pos c5, if_neg (not_not_intro c6)]
                rw [e] at hJ
                clear e
                have e : (VX6_doAll_20_9 i s) = s.2.2.2.1 := by unfold VX6_doAll_20_9; rw [if_pos c5]
                rw [e] at hJ
                clear e
                have e : (VX6_doAll_20_10 i s) = (muX6_doAll_20_3 i s) := by unfold VX6_doAll_20_10; rw [if_pos c5, if_neg (not_not_intro c6)]
                rw [e] at hJ
                exact r_sub [1, 2, 3, 4, 5, 6, 7, 8, 0, 9, 10] rfl hJ
            · replace hP := hP.2 c5
              refine r_iload dX6_doAll_158 0 rfl ?_
              refine r_if_ne 177 dX6_doAll_160 (by decide) (fun c6 => ?_) (fun c6 => ?_)
              · replace hP := hP.1 c6
                refine r_iload dX6_doAll_177 2 rfl ?_
                refine r_bipush 6 dX6_doAll_179 rfl ?_
                refine r_icmp_ne 201 dX6_doAll_181 (by decide) (fun c7 => ?_) (fun c7 => ?_)
                · replace hP := hP.1 c7
                  refine r_iload dX6_doAll_201 2 rfl ?_
                  refine r_iload dX6_doAll_203 0 rfl ?_
                  refine r_aload_n dX6_doAll_205 4 rfl ?_
                  refine r_aload_n dX6_doAll_206 5 rfl ?_
                  refine r_aload_n dX6_doAll_207 6 rfl ?_
                  have hs2 := hP
                  refine r_csI (ok_X6_doStep hG (F_X9_at 32 150 s.2.2.2.1 s.2.2.2.2) (F_X9_at 33 150 s.2.2.2.1 s.2.2.2.2) s.2.2.2.2 hs2) lX6_120 dX6_doAll_208 (by decide) (Nat.le_of_ble_eq_true rfl) rfl (Nat.le_of_ble_eq_true rfl) ?_
                  refine r_mu (muX6_doAll_20_4 i s) rfl ?_
                  refine r_if_eq 220 dX6_doAll_211 (by decide) (fun c8 => ?_) (fun c8 => ?_)
                  · refine r_aload_n dX6_doAll_220 3 rfl ?_
                    refine r_dup dX6_doAll_221 rfl ?_
                    refine r_getI fX6_117 (hG.lt (by decide)) sh31 fs31_7 dX6_doAll_222 ?_
                    refine r_iconst 1 dX6_doAll_225 rfl ?_
                    refine r_iadd dX6_doAll_226 ?_
                    refine r_put fiX6_117 (hG.lt (by decide)) sh31 fs31_7 dX6_doAll_227 ?_
                    refine r_mu (muX6_doAll_20_5 i s) rfl ?_
                    have e : (VX6_doAll_20_7 i s) = s.1 := by unfold VX6_doAll_20_7; rw [if_neg (not_not_intro c5), if_pos c6, if_pos c7, if_pos c8]
                    rw [e] at hJ
                    clear e
                    have e : (VX6_doAll_20_8 i s) = s.2.2.1 := by unfold VX6_doAll_20_8; rw [if_neg (not_not_intro c5), if_pos c6, if_pos c7]
                    rw [e] at hJ
                    clear e
                    have e : (VX6_doAll_20_9 i s) = s.2.2.2.1 := by unfold VX6_doAll_20_9; rw [if_neg (not_not_intro c5), if_pos c6]
                    rw [e] at hJ
                    clear e
                    have e : (VX6_doAll_20_10 i s) = (muX6_doAll_20_5 i s) := by unfold VX6_doAll_20_10; rw [if_neg (not_not_intro c5), if_pos c6, if_pos c7, if_pos c8]
                    rw [e] at hJ
                    exact r_sub [0, 1, 2, 3, 4, 5, 6, 7, 8, 9, 10] rfl hJ
                  · refine r_iinc (s.1 + 1) [(4, _), (10, _), (5, _), (9, _), (0, _), (1, _), (2, _), (3, _), (6, _), (7, _), (8, _)] dX6_doAll_214 7 rfl rfl (Nat.le_of_ble_eq_true rfl) rfl ?_
                    refine r_goto 230 dX6_doAll_217 (by decide) ?_
                    have e : (VX6_doAll_20_7 i s) = (s.1 + 1) := by unfold VX6_doAll_20_7; rw [if_neg (not_not_intro c5), if_pos c6, if_pos c7, if_neg c8]
                    rw [e] at hJ
                    clear e
                    have e : (VX6_doAll_20_8 i s) = s.2.2.1 := by unfold VX6_doAll_20_8; rw [if_neg (not_not_intro c5), if_pos c6, if_pos c7]
                    rw [e] at hJ
                    clear e
                    have e : (VX6_doAll_20_9 i s) = s.2.2.2.1 := by unfold VX6_doAll_20_9; rw [if_neg (not_not_intro c5), if_pos c6]
                    rw [e] at hJ
                    clear e
                    have e : (VX6_doAll_20_10 i s) = (muX6_doAll_20_4 i s) := by unfold VX6_doAll_20_10; rw [if_neg (not_not_intro c5), if_pos c6, if_pos c7, if_neg c8]
                    rw [e] at hJ
                    exact r_sub [1, 2, 3, 4, 5, 6, 7, 0, 8, 9, 10] rfl hJ
                · replace hP := hP.2 c7
                  refine r_aload_n dX6_doAll_184 3 rfl ?_
                  refine r_getR 36 fX6_24 (hG.lt (by decide)) sh31 fs31_4 dX6_doAll_185 ?_
                  refine r_iload dX6_doAll_188 8 rfl ?_
                  refine r_iload dX6_doAll_190 0 rfl ?_
                  refine r_csV (ok_X9_put hG (hG.lt (by decide)) sh36 s.2.2.1 (F_X9_at 33 150 s.2.2.2.1 s.2.2.2.2) s.2.2.2.2) lX6_31 dX6_doAll_192 (by decide) (Nat.le_of_ble_eq_true rfl) rfl (Nat.le_of_ble_eq_true rfl) ?_
                  refine r_mu (muX6_doAll_20_6 i s) rfl ?_
                  refine r_iinc (s.2.2.1 + 1) [(6, _), (10, _), (5, _), (9, _), (0, _), (1, _), (2, _), (3, _), (4, _), (7, _), (8, _)] dX6_doAll_195 8 rfl rfl (Nat.le_of_ble_eq_true rfl) rfl ?_
                  refine r_goto 230 dX6_doAll_198 (by decide) ?_
                  have e : (VX6_doAll_20_7 i s) = s.1 := by unfold VX6_doAll_20_7; rw [if_neg (not_not_intro c5), if_pos c6, if_neg (not_not_intro c7)]
                  rw [e] at hJ
                  clear e
                  have e : (VX6_doAll_20_8 i s) = (s.2.2.1 + 1) := by unfold VX6_doAll_20_8; rw [if_neg (not_not_intro c5), if_pos c6, if_neg (not_not_intro c7)]
                  rw [e] at hJ
                  clear e
                  have e : (VX6_doAll_20_9 i s) = s.2.2.2.1 := by unfold VX6_doAll_20_9; rw [if_neg (not_not_intro c5), if_pos c6]
                  rw [e] at hJ
                  clear e
                  have e : (VX6_doAll_20_10 i s) = (muX6_doAll_20_6 i s) := by unfold VX6_doAll_20_10; rw [if_neg (not_not_intro c5), if_pos c6, if_neg (not_not_intro c7)]
                  rw [e] at hJ
                  exact r_sub [1, 2, 3, 4, 5, 6, 7, 8, 0, 9, 10] rfl hJ
              · replace hP := hP.2 c6
                refine r_aload_n dX6_doAll_163 3 rfl ?_
                refine r_getR 34 fX6_18 (hG.lt (by decide)) sh31 fs31_2 dX6_doAll_164 ?_
                refine r_iload dX6_doAll_167 9 rfl ?_
                refine r_csI (ok_X9_at hG (hG.lt (by decide)) sh34 s.2.2.2.1 s.2.2.2.2) lX6_63 dX6_doAll_169 (by decide) (Nat.le_of_ble_eq_true rfl) rfl (Nat.le_of_ble_eq_true rfl) ?_
                refine r_istore [(7, _), (10, _), (5, _), (9, _), (0, _), (1, _), (2, _), (3, _), (4, _), (6, _), (8, _)] dX6_doAll_172 (Nat.le_of_ble_eq_true rfl) rfl ?_
                refine r_goto 230 dX6_doAll_174 (by decide) ?_
                have e : (VX6_doAll_20_7 i s) = s.1 := by unfold VX6_doAll_20_7; rw [if_neg (not_not_intro c5), if_neg (not_not_intro c6)]
                rw [e] at hJ
                clear e
                have e : (VX6_doAll_20_8 i s) = s.2.2.1 := by unfold VX6_doAll_20_8; rw [if_neg (not_not_intro c5), if_neg (not_not_intro c6)]
                rw [e] at hJ
                clear e
                have e : (VX6_doAll_20_9 i s) = (F_X9_at 34 150 s.2.2.2.1 s.2.2.2.2) := by unfold VX6_doAll_20_9; rw [if_neg (not_not_intro c5), if_neg (not_not_intro c6)]
                rw [e] at hJ
                clear e
                have e : (VX6_doAll_20_10 i s) = s.2.2.2.2 := by unfold VX6_doAll_20_10; rw [if_neg (not_not_intro c5), if_neg (not_not_intro c6)]
                rw [e] at hJ
                exact r_sub [1, 2, 3, 4, 5, 6, 7, 8, 9, 0, 10] rfl hJ
        · replace hP := hP.2 c4
          refine r_goto 239 dX6_doAll_134 (by decide) ?_
          exact hP.elim
      · replace hP := hP.2 c3
        refine r_aload_n dX6_doAll_55 1 rfl ?_
        refine r_getR 36 fX6_24 (hG.lt (by decide)) sh31 fs31_4 dX6_doAll_56 ?_
        refine r_iload dX6_doAll_59 7 rfl ?_
        refine r_iconst 1 dX6_doAll_61 rfl ?_
        refine r_isub dX6_doAll_62 ?_
        refine r_csI (ok_X9_at hG (hG.lt (by decide)) sh36 (s.2.2.1 - 1) s.2.2.2.2) lX6_63 dX6_doAll_63 (by decide) (Nat.le_of_ble_eq_true rfl) rfl (Nat.le_of_ble_eq_true rfl) ?_
        refine r_iconst 1 dX6_doAll_66 rfl ?_
        refine r_isub dX6_doAll_67 ?_
        refine r_istore [(10, _), (9, _), (0, _), (1, _), (2, _), (3, _), (4, _), (5, _), (6, _), (7, _), (8, _)] dX6_doAll_68 (Nat.le_of_ble_eq_true rfl) rfl ?_
        refine r_aload_n dX6_doAll_70 2 rfl ?_
        refine r_getR 36 fX6_24 (hG.lt (by decide)) sh31 fs31_4 dX6_doAll_71 ?_
        refine r_iload dX6_doAll_74 8 rfl ?_
        refine r_iconst 1 dX6_doAll_76 rfl ?_
        refine r_isub dX6_doAll_77 ?_
        refine r_iload dX6_doAll_78 0 rfl ?_
        refine r_csV (ok_X9_put hG (hG.lt (by decide)) sh36 (s.2.2.1 - 1) ((F_X9_at 36 6 (s.2.2.1 - 1) s.2.2.2.2) - 1) s.2.2.2.2) lX6_31 dX6_doAll_80 (by decide) (Nat.le_of_ble_eq_true rfl) rfl (Nat.le_of_ble_eq_true rfl) ?_
        refine r_mu (muX6_doAll_20_11 i s) rfl ?_
        refine r_iload dX6_doAll_83 8 rfl ?_
        refine r_iload dX6_doAll_85 0 rfl ?_
        refine r_join 95 [(10, .int ((F_X9_at 36 6 (s.2.2.1 - 1) s.2.2.2.2) - 1)), (9, .int (F_X9_at 32 150 s.2.2.2.1 s.2.2.2.2)), (0, .ref (ga G 31)), (1, .ref (ga G 43)), (2, .ref (ga G 3)), (3, .ref (ga G 21)), (4, .int s.1), (5, .int s.2.1), (6, .int s.2.2.1), (7, .int s.2.2.2.1), (8, .int (nI i))] [.int (VX6_doAll_20_12 i s), .int s.2.2.1] (muX6_doAll_20_11 i s) ?_ (fun hJ => ?_)
        · refine r_isub dX6_doAll_95 ?_
          refine r_istore [(6, _), (10, _), (9, _), (0, _), (1, _), (2, _), (3, _), (4, _), (5, _), (7, _), (8, _)] dX6_doAll_96 (Nat.le_of_ble_eq_true rfl) rfl ?_
          refine r_iload dX6_doAll_98 1 rfl ?_
          refine r_join 121 [(6, .int (s.2.2.1 - (VX6_doAll_20_12 i s))), (10, .int ((F_X9_at 36 6 (s.2.2.1 - 1) s.2.2.2.2) - 1)), (9, .int (F_X9_at 32 150 s.2.2.2.1 s.2.2.2.2)), (0, .ref (ga G 31)), (1, .ref (ga G 43)), (2, .ref (ga G 3)), (3, .ref (ga G 21)), (4, .int s.1), (5, .int s.2.1), (7, .int s.2.2.2.1), (8, .int (nI i))] [.int (VX6_doAll_20_13 i s)] (muX6_doAll_20_11 i s) ?_ (fun hJ => ?_)
          · refine r_istore [(7, _), (6, _), (10, _), (9, _), (0, _), (1, _), (2, _), (3, _), (4, _), (5, _), (8, _)] dX6_doAll_121 (Nat.le_of_ble_eq_true rfl) rfl ?_
            refine r_goto 233 dX6_doAll_123 (by decide) ?_
            refine r_iinc ((nI i) + 1) [(8, _), (7, _), (6, _), (10, _), (9, _), (0, _), (1, _), (2, _), (3, _), (4, _), (5, _)] dX6_doAll_233 10 rfl rfl (Nat.le_of_ble_eq_true rfl) rfl ?_
            refine r_goto 20 dX6_doAll_236 (by decide) ?_
            have e : g_X6_doAll_20  i s = (s.1, s.2.1, (s.2.2.1 - (VX6_doAll_20_12 i s)), (VX6_doAll_20_13 i s), (muX6_doAll_20_11 i s)) := by unfold g_X6_doAll_20; rw [if_neg (not_not_intro c3)]
            rw [e] at hS
            dsimp only at hS
            exact r_sub [5, 6, 7, 8, 9, 10, 2, 1, 0] rfl hS
          · refine r_if_le 117 dX6_doAll_100 (by decide) (fun c4 => ?_) (fun c4 => ?_)
            · refine r_iload dX6_doAll_117 9 rfl ?_
              refine r_iconst 1 dX6_doAll_119 rfl ?_
              refine r_iadd dX6_doAll_120 ?_
              have e : (VX6_doAll_20_13 i s) = (s.2.2.2.1 + 1) := by unfold VX6_doAll_20_13; rw [if_pos c4]
              rw [e] at hJ
              exact r_sub [0, 1, 2, 3, 4, 5, 6, 7, 8, 9, 10] rfl hJ
            · refine r_aload_n dX6_doAll_103 3 rfl ?_
              refine r_getR 34 fX6_18 (hG.lt (by decide)) sh31 fs31_2 dX6_doAll_104 ?_
              refine r_iload dX6_doAll_107 9 rfl ?_
              refine r_csI (ok_X9_at hG (hG.lt (by decide)) sh34 s.2.2.2.1 (muX6_doAll_20_11 i s)) lX6_63 dX6_doAll_109 (by decide) (Nat.le_of_ble_eq_true rfl) rfl (Nat.le_of_ble_eq_true rfl) ?_
              refine r_iconst 1 dX6_doAll_112 rfl ?_
              refine r_iadd dX6_doAll_113 ?_
              refine r_goto 121 dX6_doAll_114 (by decide) ?_
              have e : (VX6_doAll_20_13 i s) = ((F_X9_at 34 150 s.2.2.2.1 (muX6_doAll_20_11 i s)) + 1) := by unfold VX6_doAll_20_13; rw [if_neg (i32_ng c4)]
              rw [e] at hJ
              exact r_sub [0, 1, 2, 3, 4, 5, 6, 7, 8, 9, 10] rfl hJ
        · refine r_if_le 94 dX6_doAll_87 (by decide) (fun c4 => ?_) (fun c4 => ?_)
          · refine r_iconst 1 dX6_doAll_94 rfl ?_
            have e : (VX6_doAll_20_12 i s) = 1 := by unfold VX6_doAll_20_12; rw [if_pos c4]
            rw [e] at hJ
            exact r_sub [0, 1, 2, 3, 4, 5, 6, 7, 8, 9, 10] rfl hJ
          · refine r_iconst 0 dX6_doAll_90 rfl ?_
            refine r_goto 95 dX6_doAll_91 (by decide) ?_
            have e : (VX6_doAll_20_12 i s) = 0 := by unfold VX6_doAll_20_12; rw [if_neg (i32_ng c4)]
            rw [e] at hJ
            exact r_sub [0, 1, 2, 3, 4, 5, 6, 7, 8, 9, 10] rfl hJ
def NX6_doAll_20 (μ : Mem) : Nat := (fst 10001 (fun j9 => !Cb_X6_doAll_20  j9 (fo j9 g_X6_doAll_20 (0, 0, 0, 0, (muX6_doAll_1 μ)))))
def SX6_doAll_20 (μ : Mem) : Int32 × Int32 × Int32 × Int32 × Mem := fo (NX6_doAll_20 μ) g_X6_doAll_20 (0, 0, 0, 0, (muX6_doAll_1 μ))
def muX6_doAll_2 (μ : Mem) : Mem := (M_X6_doStep (F_X9_at 32 150 (SX6_doAll_20 μ).2.2.2.1 (SX6_doAll_20 μ).2.2.2.2) (F_X9_at 33 150 (SX6_doAll_20 μ).2.2.2.1 (SX6_doAll_20 μ).2.2.2.2) (SX6_doAll_20 μ).2.2.2.2)
def muX6_doAll_3 (μ : Mem) : Mem := (upm (muX6_doAll_2 μ) 31 7 (((muX6_doAll_2 μ) 31 7) + 1))
def muX6_doAll_4 (μ : Mem) : Mem := (M_X9_put 36 6 (SX6_doAll_20 μ).2.2.1 (F_X9_at 33 150 (SX6_doAll_20 μ).2.2.2.1 (SX6_doAll_20 μ).2.2.2.2) (SX6_doAll_20 μ).2.2.2.2)
def muX6_doAll_5 (μ : Mem) : Mem := (M_X6_doStep (F_X9_at 32 150 (SX6_doAll_20 μ).2.2.2.1 (SX6_doAll_20 μ).2.2.2.2) (F_X9_at 33 150 (SX6_doAll_20 μ).2.2.2.1 (SX6_doAll_20 μ).2.2.2.2) (SX6_doAll_20 μ).2.2.2.2)
def muX6_doAll_6 (μ : Mem) : Mem := (upm (muX6_doAll_5 μ) 31 7 (((muX6_doAll_5 μ) 31 7) + 1))
def muX6_doAll_7 (μ : Mem) : Mem := (M_X9_put 36 6 (SX6_doAll_20 μ).2.2.1 (F_X9_at 33 150 (SX6_doAll_20 μ).2.2.2.1 (SX6_doAll_20 μ).2.2.2.2) (SX6_doAll_20 μ).2.2.2.2)
def VX6_doAll_8 (μ : Mem) : Int32 := (if (F_X9_at 32 150 (SX6_doAll_20 μ).2.2.2.1 (SX6_doAll_20 μ).2.2.2.2) ≠ 6 then (if (F_X9_at 32 150 (SX6_doAll_20 μ).2.2.2.1 (SX6_doAll_20 μ).2.2.2.2) ≠ 6 then (if (F_X6_doStep (F_X9_at 32 150 (SX6_doAll_20 μ).2.2.2.1 (SX6_doAll_20 μ).2.2.2.2) (F_X9_at 33 150 (SX6_doAll_20 μ).2.2.2.1 (SX6_doAll_20 μ).2.2.2.2) (SX6_doAll_20 μ).2.2.2.2) = 0 then (SX6_doAll_20 μ).1 else ((SX6_doAll_20 μ).1 + 1)) else (SX6_doAll_20 μ).1) else (if (F_X9_at 33 150 (SX6_doAll_20 μ).2.2.2.1 (SX6_doAll_20 μ).2.2.2.2) ≠ 0 then (if (F_X9_at 32 150 (SX6_doAll_20 μ).2.2.2.1 (SX6_doAll_20 μ).2.2.2.2) ≠ 6 then (if (F_X6_doStep (F_X9_at 32 150 (SX6_doAll_20 μ).2.2.2.1 (SX6_doAll_20 μ).2.2.2.2) (F_X9_at 33 150 (SX6_doAll_20 μ).2.2.2.1 (SX6_doAll_20 μ).2.2.2.2) (SX6_doAll_20 μ).2.2.2.2) = 0 then (SX6_doAll_20 μ).1 else ((SX6_doAll_20 μ).1 + 1)) else (SX6_doAll_20 μ).1) else (SX6_doAll_20 μ).1))
def VX6_doAll_9 (μ : Mem) : Int32 := (if (F_X9_at 32 150 (SX6_doAll_20 μ).2.2.2.1 (SX6_doAll_20 μ).2.2.2.2) ≠ 6 then (if (F_X9_at 32 150 (SX6_doAll_20 μ).2.2.2.1 (SX6_doAll_20 μ).2.2.2.2) ≠ 6 then (SX6_doAll_20 μ).2.2.1 else ((SX6_doAll_20 μ).2.2.1 + 1)) else (if (F_X9_at 33 150 (SX6_doAll_20 μ).2.2.2.1 (SX6_doAll_20 μ).2.2.2.2) ≠ 0 then (if (F_X9_at 32 150 (SX6_doAll_20 μ).2.2.2.1 (SX6_doAll_20 μ).2.2.2.2) ≠ 6 then (SX6_doAll_20 μ).2.2.1 else ((SX6_doAll_20 μ).2.2.1 + 1)) else (SX6_doAll_20 μ).2.2.1))
def VX6_doAll_10 (μ : Mem) : Int32 := (if (F_X9_at 32 150 (SX6_doAll_20 μ).2.2.2.1 (SX6_doAll_20 μ).2.2.2.2) ≠ 6 then (SX6_doAll_20 μ).2.2.2.1 else (if (F_X9_at 33 150 (SX6_doAll_20 μ).2.2.2.1 (SX6_doAll_20 μ).2.2.2.2) ≠ 0 then (SX6_doAll_20 μ).2.2.2.1 else (F_X9_at 34 150 (SX6_doAll_20 μ).2.2.2.1 (SX6_doAll_20 μ).2.2.2.2)))
def VX6_doAll_11 (μ : Mem) : Mem := (if (F_X9_at 32 150 (SX6_doAll_20 μ).2.2.2.1 (SX6_doAll_20 μ).2.2.2.2) ≠ 6 then (if (F_X9_at 32 150 (SX6_doAll_20 μ).2.2.2.1 (SX6_doAll_20 μ).2.2.2.2) ≠ 6 then (if (F_X6_doStep (F_X9_at 32 150 (SX6_doAll_20 μ).2.2.2.1 (SX6_doAll_20 μ).2.2.2.2) (F_X9_at 33 150 (SX6_doAll_20 μ).2.2.2.1 (SX6_doAll_20 μ).2.2.2.2) (SX6_doAll_20 μ).2.2.2.2) = 0 then (muX6_doAll_3 μ) else (muX6_doAll_2 μ)) else (muX6_doAll_4 μ)) else (if (F_X9_at 33 150 (SX6_doAll_20 μ).2.2.2.1 (SX6_doAll_20 μ).2.2.2.2) ≠ 0 then (if (F_X9_at 32 150 (SX6_doAll_20 μ).2.2.2.1 (SX6_doAll_20 μ).2.2.2.2) ≠ 6 then (if (F_X6_doStep (F_X9_at 32 150 (SX6_doAll_20 μ).2.2.2.1 (SX6_doAll_20 μ).2.2.2.2) (F_X9_at 33 150 (SX6_doAll_20 μ).2.2.2.1 (SX6_doAll_20 μ).2.2.2.2) (SX6_doAll_20 μ).2.2.2.2) = 0 then (muX6_doAll_6 μ) else (muX6_doAll_5 μ)) else (muX6_doAll_7 μ)) else (SX6_doAll_20 μ).2.2.2.2))
def muX6_doAll_12 (μ : Mem) : Mem := (M_X9_put 36 6 ((SX6_doAll_20 μ).2.2.1 - 1) ((F_X9_at 36 6 ((SX6_doAll_20 μ).2.2.1 - 1) (SX6_doAll_20 μ).2.2.2.2) - 1) (SX6_doAll_20 μ).2.2.2.2)
def VX6_doAll_13 (μ : Mem) : Int32 := (if ((F_X9_at 36 6 ((SX6_doAll_20 μ).2.2.1 - 1) (SX6_doAll_20 μ).2.2.2.2) - 1) ≤ 0 then 1 else 0)
theorem bo_VX6_doAll_13 (μ : Mem) : (VX6_doAll_13 μ) = 0 ∨ (VX6_doAll_13 μ) = 1 := by
  unfold VX6_doAll_13
  split
  · exact Or.inr rfl
  · exact Or.inl rfl
def VX6_doAll_14 (μ : Mem) : Int32 := (if ((F_X9_at 36 6 ((SX6_doAll_20 μ).2.2.1 - 1) (SX6_doAll_20 μ).2.2.2.2) - 1) ≤ 0 then ((SX6_doAll_20 μ).2.2.2.1 + 1) else ((F_X9_at 34 150 (SX6_doAll_20 μ).2.2.2.1 (muX6_doAll_12 μ)) + 1))
def F_X6_doAll  (μ : Mem) : Int32 := (SX6_doAll_20 μ).1
def M_X6_doAll  (μ : Mem) : Mem := (SX6_doAll_20 μ).2.2.2.2
def P_X6_doAll  (μ : Mem) : Prop := ((∀ j9, j9 < (NX6_doAll_20 μ) → Pb_X6_doAll_20  j9 (fo j9 g_X6_doAll_20 (0, 0, 0, 0, (muX6_doAll_1 μ)))) ∧ ((10000 ≤ (nI (NX6_doAll_20 μ)) → True) ∧ ((nI (NX6_doAll_20 μ)) < 10000 → ((((SX6_doAll_20 μ).2.2.2.2 31 5) ≤ (SX6_doAll_20 μ).2.2.2.1 → True) ∧ ((SX6_doAll_20 μ).2.2.2.1 < ((SX6_doAll_20 μ).2.2.2.2 31 5) → (((F_X9_at 32 150 (SX6_doAll_20 μ).2.2.2.1 (SX6_doAll_20 μ).2.2.2.2) ≠ 7 → (((SX6_doAll_20 μ).2.1 ≠ 200 → ((((F_X9_at 32 150 (SX6_doAll_20 μ).2.2.2.1 (SX6_doAll_20 μ).2.2.2.2) ≠ 6 → (((F_X9_at 32 150 (SX6_doAll_20 μ).2.2.2.1 (SX6_doAll_20 μ).2.2.2.2) ≠ 6 → (P_X6_doStep (F_X9_at 32 150 (SX6_doAll_20 μ).2.2.2.1 (SX6_doAll_20 μ).2.2.2.2) (F_X9_at 33 150 (SX6_doAll_20 μ).2.2.2.1 (SX6_doAll_20 μ).2.2.2.2) (SX6_doAll_20 μ).2.2.2.2)) ∧ ((F_X9_at 32 150 (SX6_doAll_20 μ).2.2.2.1 (SX6_doAll_20 μ).2.2.2.2) = 6 → True))) ∧ ((F_X9_at 32 150 (SX6_doAll_20 μ).2.2.2.1 (SX6_doAll_20 μ).2.2.2.2) = 6 → (((F_X9_at 33 150 (SX6_doAll_20 μ).2.2.2.1 (SX6_doAll_20 μ).2.2.2.2) ≠ 0 → (((F_X9_at 32 150 (SX6_doAll_20 μ).2.2.2.1 (SX6_doAll_20 μ).2.2.2.2) ≠ 6 → (P_X6_doStep (F_X9_at 32 150 (SX6_doAll_20 μ).2.2.2.1 (SX6_doAll_20 μ).2.2.2.2) (F_X9_at 33 150 (SX6_doAll_20 μ).2.2.2.1 (SX6_doAll_20 μ).2.2.2.2) (SX6_doAll_20 μ).2.2.2.2)) ∧ ((F_X9_at 32 150 (SX6_doAll_20 μ).2.2.2.1 (SX6_doAll_20 μ).2.2.2.2) = 6 → True))) ∧ ((F_X9_at 33 150 (SX6_doAll_20 μ).2.2.2.1 (SX6_doAll_20 μ).2.2.2.2) = 0 → True)))) ∧ False)) ∧ ((SX6_doAll_20 μ).2.1 = 200 → True))) ∧ ((F_X9_at 32 150 (SX6_doAll_20 μ).2.2.2.1 (SX6_doAll_20 μ).2.2.2.2) = 7 → False)))))))
set_option maxRecDepth 20000 in
set_option maxHeartbeats 2000000 in
theorem ok_X6_doAll {G : SG} (hG : GK 57 G)  (μ : Mem) (hP : P_X6_doAll  μ) : OkF G mX6_doAll [.ref (ga G 31), .ref (ga G 43), .ref (ga G 3), .ref (ga G 21)] μ (some (.int (F_X6_doAll  μ))) (M_X6_doAll  μ) := by
  refine okF_of hG rfl rfl (Nat.le_of_ble_eq_true rfl) ?_
  unfold P_X6_doAll at hP
  refine r_aload_n dX6_doAll_0 0 rfl ?_
  refine r_iconst 0 dX6_doAll_1 rfl ?_
  refine r_put fiX6_117 (hG.lt (by decide)) sh31 fs31_7 dX6_doAll_2 ?_
  refine r_mu (muX6_doAll_1 μ) rfl ?_
  refine r_iconst 0 dX6_doAll_5 rfl ?_
  refine r_istore [(4, _), (0, _), (1, _), (2, _), (3, _)] dX6_doAll_6 (Nat.le_of_ble_eq_true rfl) rfl ?_
  refine r_iconst 0 dX6_doAll_8 rfl ?_
  refine r_istore [(5, _), (4, _), (0, _), (1, _), (2, _), (3, _)] dX6_doAll_9 (Nat.le_of_ble_eq_true rfl) rfl ?_
  refine r_iconst 0 dX6_doAll_11 rfl ?_
  refine r_istore [(6, _), (5, _), (4, _), (0, _), (1, _), (2, _), (3, _)] dX6_doAll_12 (Nat.le_of_ble_eq_true rfl) rfl ?_
  refine r_iconst 0 dX6_doAll_14 rfl ?_
  refine r_istore [(7, _), (6, _), (5, _), (4, _), (0, _), (1, _), (2, _), (3, _)] dX6_doAll_15 (Nat.le_of_ble_eq_true rfl) rfl ?_
  refine r_iconst 0 dX6_doAll_17 rfl ?_
  refine r_istore [(8, _), (7, _), (6, _), (5, _), (4, _), (0, _), (1, _), (2, _), (3, _)] dX6_doAll_18 (Nat.le_of_ble_eq_true rfl) rfl ?_
  have hs1 := hP.1
  replace hP := hP.2
  refine r_sub [5, 6, 7, 8, 4, 3, 2, 1, 0] rfl ?_
  refine lp_X6_doAll_20 hG (0, 0, 0, 0, (muX6_doAll_1 μ)) ((NX6_doAll_20 μ)) (SX6_doAll_20 μ) rfl hs1 ?_
  refine r_iload dX6_doAll_20 8 rfl ?_
  refine r_sipush 10000 dX6_doAll_22 rfl ?_
  refine r_icmp_ge 239 dX6_doAll_25 (by decide) (fun c1 => ?_) (fun c1 => ?_)
  · replace hP := hP.1 c1
    refine r_iload dX6_doAll_239 4 rfl ?_
    exact r_ireturn _ dX6_doAll_241 rfl rfl ⟨congrArg (fun z => some (Value.int z)) (rfl), rfl⟩
  · replace hP := hP.2 c1
    refine r_iload dX6_doAll_28 7 rfl ?_
    refine r_aload_n dX6_doAll_30 0 rfl ?_
    refine r_getI fX6_27 (hG.lt (by decide)) sh31 fs31_5 dX6_doAll_31 ?_
    refine r_icmp_ge 239 dX6_doAll_34 (by decide) (fun c2 => ?_) (fun c2 => ?_)
    · replace hP := hP.1 c2
      refine r_iload dX6_doAll_239 4 rfl ?_
      exact r_ireturn _ dX6_doAll_241 rfl rfl ⟨congrArg (fun z => some (Value.int z)) (rfl), rfl⟩
    · replace hP := hP.2 c2
      refine r_aload_n dX6_doAll_37 0 rfl ?_
      refine r_getR 32 fX6_9 (hG.lt (by decide)) sh31 fs31_0 dX6_doAll_38 ?_
      refine r_iload dX6_doAll_41 7 rfl ?_
      refine r_csI (ok_X9_at hG (hG.lt (by decide)) sh32 (SX6_doAll_20 μ).2.2.2.1 (SX6_doAll_20 μ).2.2.2.2) lX6_63 dX6_doAll_43 (by decide) (Nat.le_of_ble_eq_true rfl) rfl (Nat.le_of_ble_eq_true rfl) ?_
      refine r_istore [(9, _), (0, _), (1, _), (2, _), (3, _), (4, _), (5, _), (6, _), (7, _), (8, _)] dX6_doAll_46 (Nat.le_of_ble_eq_true rfl) rfl ?_
      refine r_iload dX6_doAll_48 0 rfl ?_
      refine r_bipush 7 dX6_doAll_50 rfl ?_
      refine r_icmp_ne 126 dX6_doAll_52 (by decide) (fun c3 => ?_) (fun c3 => ?_)
      · replace hP := hP.1 c3
        refine r_iload dX6_doAll_126 6 rfl ?_
        refine r_sipush 200 dX6_doAll_128 rfl ?_
        refine r_icmp_ne 137 dX6_doAll_131 (by decide) (fun c4 => ?_) (fun c4 => ?_)
        · replace hP := hP.1 c4
          refine r_iinc ((SX6_doAll_20 μ).2.1 + 1) [(5, _), (9, _), (0, _), (1, _), (2, _), (3, _), (4, _), (6, _), (7, _), (8, _)] dX6_doAll_137 6 rfl rfl (Nat.le_of_ble_eq_true rfl) rfl ?_
          refine r_aload_n dX6_doAll_140 2 rfl ?_
          refine r_getR 33 fX6_15 (hG.lt (by decide)) sh31 fs31_1 dX6_doAll_141 ?_
          refine r_iload dX6_doAll_144 8 rfl ?_
          refine r_csI (ok_X9_at hG (hG.lt (by decide)) sh33 (SX6_doAll_20 μ).2.2.2.1 (SX6_doAll_20 μ).2.2.2.2) lX6_63 dX6_doAll_146 (by decide) (Nat.le_of_ble_eq_true rfl) rfl (Nat.le_of_ble_eq_true rfl) ?_
          refine r_istore [(10, _), (5, _), (9, _), (0, _), (1, _), (2, _), (3, _), (4, _), (6, _), (7, _), (8, _)] dX6_doAll_149 (Nat.le_of_ble_eq_true rfl) rfl ?_
          refine r_iload dX6_doAll_151 2 rfl ?_
          refine r_bipush 6 dX6_doAll_153 rfl ?_
          refine r_join 230 [(10, .int (F_X9_at 33 150 (SX6_doAll_20 μ).2.2.2.1 (SX6_doAll_20 μ).2.2.2.2)), (5, .int ((SX6_doAll_20 μ).2.1 + 1)), (9, .int (F_X9_at 32 150 (SX6_doAll_20 μ).2.2.2.1 (SX6_doAll_20 μ).2.2.2.2)), (0, .ref (ga G 31)), (1, .ref (ga G 43)), (2, .ref (ga G 3)), (3, .ref (ga G 21)), (4, .int (VX6_doAll_8 μ)), (6, .int (VX6_doAll_9 μ)), (7, .int (VX6_doAll_10 μ)), (8, .int (nI (NX6_doAll_20 μ)))] [] (VX6_doAll_11 μ) ?_ (fun hJ => ?_)
          · replace hP := hP.2
            refine r_iinc ((VX6_doAll_10 μ) + 1) [(7, _), (10, _), (5, _), (9, _), (0, _), (1, _), (2, _), (3, _), (4, _), (6, _), (8, _)] dX6_doAll_230 9 rfl rfl (Nat.le_of_ble_eq_true rfl) rfl ?_
            refine r_iinc ((nI (NX6_doAll_20 μ)) + 1) [(8, _), (7, _), (10, _), (5, _), (9, _), (0, _), (1, _), (2, _), (3, _), (4, _), (6, _)] dX6_doAll_233 10 rfl rfl (Nat.le_of_ble_eq_true rfl) rfl ?_
            refine r_goto 20 dX6_doAll_236 (by decide) ?_
            exact hP.elim
          · replace hP := hP.1
            refine r_icmp_ne 177 dX6_doAll_155 (by decide) (fun c5 => ?_) (fun c5 => ?_)
            · replace hP := hP.1 c5
              refine r_iload dX6_doAll_177 2 rfl ?_
              refine r_bipush 6 dX6_doAll_179 rfl ?_
              refine r_icmp_ne 201 dX6_doAll_181 (by decide) (fun c6 => ?_) (fun c6 => ?_)
              · replace hP := hP.1 c6
                refine r_iload dX6_doAll_201 2 rfl ?_
                refine r_iload dX6_doAll_203 0 rfl ?_
                refine r_aload_n dX6_doAll_205 4 rfl ?_
                refine r_aload_n dX6_doAll_206 5 rfl ?_
                refine r_aload_n dX6_doAll_207 6 rfl ?_
                have hs10 := hP
                refine r_csI (ok_X6_doStep hG (F_X9_at 32 150 (SX6_doAll_20 μ).2.2.2.1 (SX6_doAll_20 μ).2.2.2.2) (F_X9_at 33 150 (SX6_doAll_20 μ).2.2.2.1 (SX6_doAll_20 μ).2.2.2.2) (SX6_doAll_20 μ).2.2.2.2 hs10) lX6_120 dX6_doAll_208 (by decide) (Nat.le_of_ble_eq_true rfl) rfl (Nat.le_of_ble_eq_true rfl) ?_
                refine r_mu (muX6_doAll_2 μ) rfl ?_
                refine r_if_eq 220 dX6_doAll_211 (by decide) (fun c7 => ?_) (fun c7 => ?_)
                · refine r_aload_n dX6_doAll_220 3 rfl ?_
                  refine r_dup dX6_doAll_221 rfl ?_
                  refine r_getI fX6_117 (hG.lt (by decide)) sh31 fs31_7 dX6_doAll_222 ?_
                  refine r_iconst 1 dX6_doAll_225 rfl ?_
                  refine r_iadd dX6_doAll_226 ?_
                  refine r_put fiX6_117 (hG.lt (by decide)) sh31 fs31_7 dX6_doAll_227 ?_
                  refine r_mu (muX6_doAll_3 μ) rfl ?_
                  have e : (VX6_doAll_8 μ) = (SX6_doAll_20 μ).1 := by unfold VX6_doAll_8; rw [if_pos c5, if_pos c6, if_pos c7]
                  rw [e] at hJ
                  clear e
                  have e : (VX6_doAll_9 μ) = (SX6_doAll_20 μ).2.2.1 := by unfold VX6_doAll_9; rw [if_pos c5, if_pos c6]
                  rw [e] at hJ
                  clear e
                  have e : (VX6_doAll_10 μ) = (SX6_doAll_20 μ).2.2.2.1 := by unfold VX6_doAll_10; rw [if_pos c5]
                  rw [e] at hJ
                  clear e
                  have e : (VX6_doAll_11 μ) = (muX6_doAll_3 μ) := by unfold VX6_doAll_11; rw [if_pos c5, if_pos c6, if_pos c7]
                  rw [e] at hJ
                  exact r_sub [0, 1, 2, 3, 4, 5, 6, 7, 8, 9, 10] rfl hJ
                · refine r_iinc ((SX6_doAll_20 μ).1 + 1) [(4, _), (10, _), (5, _), (9, _), (0, _), (1, _), (2, _), (3, _), (6, _), (7, _), (8, _)] dX6_doAll_214 7 rfl rfl (Nat.le_of_ble_eq_true rfl) rfl ?_
                  refine r_goto 230 dX6_doAll_217 (by decide) ?_
                  have e : (VX6_doAll_8 μ) = ((SX6_doAll_20 μ).1 + 1) := by unfold VX6_doAll_8; rw [if_pos c5, if_pos c6, if_neg c7]
                  rw [e] at hJ
                  clear e
                  have e : (VX6_doAll_9 μ) = (SX6_doAll_20 μ).2.2.1 := by unfold VX6_doAll_9; rw [if_pos c5, if_pos c6]
                  rw [e] at hJ
                  clear e
                  have e : (VX6_doAll_10 μ) = (SX6_doAll_20 μ).2.2.2.1 := by unfold VX6_doAll_10; rw [if_pos c5]
                  rw [e] at hJ
                  clear e
                  have e : (VX6_doAll_11 μ) = (muX6_doAll_2 μ) := by unfold VX6_doAll_11; rw [if_pos c5, if_pos c6, if_neg c7]
                  rw [e] at hJ
                  exact r_sub [1, 2, 3, 4, 5, 6, 7, 0, 8, 9, 10] rfl hJ
              · replace hP := hP.2 c6
                refine r_aload_n dX6_doAll_184 3 rfl ?_
                refine r_getR 36 fX6_24 (hG.lt (by decide)) sh31 fs31_4 dX6_doAll_185 ?_
                refine r_iload dX6_doAll_188 8 rfl ?_
                refine r_iload dX6_doAll_190 0 rfl ?_
                refine r_csV (ok_X9_put hG (hG.lt (by decide)) sh36 (SX6_doAll_20 μ).2.2.1 (F_X9_at 33 150 (SX6_doAll_20 μ).2.2.2.1 (SX6_doAll_20 μ).2.2.2.2) (SX6_doAll_20 μ).2.2.2.2) lX6_31 dX6_doAll_192 (by decide) (Nat.le_of_ble_eq_true rfl) rfl (Nat.le_of_ble_eq_true rfl) ?_
                refine r_mu (muX6_doAll_4 μ) rfl ?_
                refine r_iinc ((SX6_doAll_20 μ).2.2.1 + 1) [(6, _), (10, _), (5, _), (9, _), (0, _), (1, _), (2, _), (3, _), (4, _), (7, _), (8, _)] dX6_doAll_195 8 rfl rfl (Nat.le_of_ble_eq_true rfl) rfl ?_
                refine r_goto 230 dX6_doAll_198 (by decide) ?_
                have e : (VX6_doAll_8 μ) = (SX6_doAll_20 μ).1 := by unfold VX6_doAll_8; rw [if_pos c5, if_neg (not_not_intro c6)]
                rw [e] at hJ
                clear e
                have e : (VX6_doAll_9 μ) = ((SX6_doAll_20 μ).2.2.1 + 1) := by unfold VX6_doAll_9; rw [if_pos c5, if_neg (not_not_intro c6)]
                rw [e] at hJ
                clear e
                have e : (VX6_doAll_10 μ) = (SX6_doAll_20 μ).2.2.2.1 := by unfold VX6_doAll_10; rw [if_pos c5]
                rw [e] at hJ
                clear e
                have e : (VX6_doAll_11 μ) = (muX6_doAll_4 μ) := by unfold VX6_doAll_11; rw [if_pos c5, if_neg (not_not_intro c6)]
                rw [e] at hJ
                exact r_sub [1, 2, 3, 4, 5, 6, 7, 8, 0, 9, 10] rfl hJ
            · replace hP := hP.2 c5
              refine r_iload dX6_doAll_158 0 rfl ?_
              refine r_if_ne 177 dX6_doAll_160 (by decide) (fun c6 => ?_) (fun c6 => ?_)
              · replace hP := hP.1 c6
                refine r_iload dX6_doAll_177 2 rfl ?_
                refine r_bipush 6 dX6_doAll_179 rfl ?_
                refine r_icmp_ne 201 dX6_doAll_181 (by decide) (fun c7 => ?_) (fun c7 => ?_)
                · replace hP := hP.1 c7
                  refine r_iload dX6_doAll_201 2 rfl ?_
                  refine r_iload dX6_doAll_203 0 rfl ?_
                  refine r_aload_n dX6_doAll_205 4 rfl ?_
                  refine r_aload_n dX6_doAll_206 5 rfl ?_
                  refine r_aload_n dX6_doAll_207 6 rfl ?_
                  have hs11 := hP
                  refine r_csI (ok_X6_doStep hG (F_X9_at 32 150 (SX6_doAll_20 μ).2.2.2.1 (SX6_doAll_20 μ).2.2.2.2) (F_X9_at 33 150 (SX6_doAll_20 μ).2.2.2.1 (SX6_doAll_20 μ).2.2.2.2) (SX6_doAll_20 μ).2.2.2.2 hs11) lX6_120 dX6_doAll_208 (by decide) (Nat.le_of_ble_eq_true rfl) rfl (Nat.le_of_ble_eq_true rfl) ?_
                  refine r_mu (muX6_doAll_5 μ) rfl ?_
                  refine r_if_eq 220 dX6_doAll_211 (by decide) (fun c8 => ?_) (fun c8 => ?_)
                  · refine r_aload_n dX6_doAll_220 3 rfl ?_
                    refine r_dup dX6_doAll_221 rfl ?_
                    refine r_getI fX6_117 (hG.lt (by decide)) sh31 fs31_7 dX6_doAll_222 ?_
                    refine r_iconst 1 dX6_doAll_225 rfl ?_
                    refine r_iadd dX6_doAll_226 ?_
                    refine r_put fiX6_117 (hG.lt (by decide)) sh31 fs31_7 dX6_doAll_227 ?_
                    refine r_mu (muX6_doAll_6 μ) rfl ?_
                    have e : (VX6_doAll_8 μ) = (SX6_doAll_20 μ).1 := by unfold VX6_doAll_8; rw [if_neg (not_not_intro c5), if_pos c6, if_pos c7, if_pos c8]
                    rw [e] at hJ
                    clear e
                    have e : (VX6_doAll_9 μ) = (SX6_doAll_20 μ).2.2.1 := by unfold VX6_doAll_9; rw [if_neg (not_not_intro c5), if_pos c6, if_pos c7]
                    rw [e] at hJ
                    clear e
                    have e : (VX6_doAll_10 μ) = (SX6_doAll_20 μ).2.2.2.1 := by unfold VX6_doAll_10; rw [if_neg (not_not_intro c5), if_pos c6]
                    rw [e] at hJ
                    clear e
                    have e : (VX6_doAll_11 μ) = (muX6_doAll_6 μ) := by unfold VX6_doAll_11; rw [if_neg (not_not_intro c5), if_pos c6, if_pos c7, if_pos c8]
                    rw [e] at hJ
                    exact r_sub [0, 1, 2, 3, 4, 5, 6, 7, 8, 9, 10] rfl hJ
                  · refine r_iinc ((SX6_doAll_20 μ).1 + 1) [(4, _), (10, _), (5, _), (9, _), (0, _), (1, _), (2, _), (3, _), (6, _), (7, _), (8, _)] dX6_doAll_214 7 rfl rfl (Nat.le_of_ble_eq_true rfl) rfl ?_
                    refine r_goto 230 dX6_doAll_217 (by decide) ?_
                    have e : (VX6_doAll_8 μ) = ((SX6_doAll_20 μ).1 + 1) := by unfold VX6_doAll_8; rw [if_neg (not_not_intro c5), if_pos c6, if_pos c7, if_neg c8]
                    rw [e] at hJ
                    clear e
                    have e : (VX6_doAll_9 μ) = (SX6_doAll_20 μ).2.2.1 := by unfold VX6_doAll_9; rw [if_neg (not_not_intro c5), if_pos c6, if_pos c7]
                    rw [e] at hJ
                    clear e
                    have e : (VX6_doAll_10 μ) = (SX6_doAll_20 μ).2.2.2.1 := by unfold VX6_doAll_10; rw [if_neg (not_not_intro c5), if_pos c6]
                    rw [e] at hJ
                    clear e
                    have e : (VX6_doAll_11 μ) = (muX6_doAll_5 μ) := by unfold VX6_doAll_11; rw [if_neg (not_not_intro c5), if_pos c6, if_pos c7, if_neg c8]
                    rw [e] at hJ
                    exact r_sub [1, 2, 3, 4, 5, 6, 7, 0, 8, 9, 10] rfl hJ
                · replace hP := hP.2 c7
                  refine r_aload_n dX6_doAll_184 3 rfl ?_
                  refine r_getR 36 fX6_24 (hG.lt (by decide)) sh31 fs31_4 dX6_doAll_185 ?_
                  refine r_iload dX6_doAll_188 8 rfl ?_
                  refine r_iload dX6_doAll_190 0 rfl ?_
                  refine r_csV (ok_X9_put hG (hG.lt (by decide)) sh36 (SX6_doAll_20 μ).2.2.1 (F_X9_at 33 150 (SX6_doAll_20 μ).2.2.2.1 (SX6_doAll_20 μ).2.2.2.2) (SX6_doAll_20 μ).2.2.2.2) lX6_31 dX6_doAll_192 (by decide) (Nat.le_of_ble_eq_true rfl) rfl (Nat.le_of_ble_eq_true rfl) ?_
                  refine r_mu (muX6_doAll_7 μ) rfl ?_
                  refine r_iinc ((SX6_doAll_20 μ).2.2.1 + 1) [(6, _), (10, _), (5, _), (9, _), (0, _), (1, _), (2, _), (3, _), (4, _), (7, _), (8, _)] dX6_doAll_195 8 rfl rfl (Nat.le_of_ble_eq_true rfl) rfl ?_
                  refine r_goto 230 dX6_doAll_198 (by decide) ?_
                  have e : (VX6_doAll_8 μ) = (SX6_doAll_20 μ).1 := by unfold VX6_doAll_8; rw [if_neg (not_not_intro c5), if_pos c6, if_neg (not_not_intro c7)]
                  rw [e] at hJ
                  clear e
                  have e : (VX6_doAll_9 μ) = ((SX6_doAll_20 μ).2.2.1 + 1) := by unfold VX6_doAll_9; rw [if_neg (not_not_intro c5), if_pos c6, if_neg (not_not_intro c7)]
                  rw [e] at hJ
                  clear e
                  have e : (VX6_doAll_10 μ) = (SX6_doAll_20 μ).2.2.2.1 := by unfold VX6_doAll_10; rw [if_neg (not_not_intro c5), if_pos c6]
                  rw [e] at hJ
                  clear e
                  have e : (VX6_doAll_11 μ) = (muX6_doAll_7 μ) := by unfold VX6_doAll_11; rw [if_neg (not_not_intro c5), if_pos c6, if_neg (not_not_intro c7)]
                  rw [e] at hJ
                  exact r_sub [1, 2, 3, 4, 5, 6, 7, 8, 0, 9, 10] rfl hJ
              · replace hP := hP.2 c6
                refine r_aload_n dX6_doAll_163 3 rfl ?_
                refine r_getR 34 fX6_18 (hG.lt (by decide)) sh31 fs31_2 dX6_doAll_164 ?_
                refine r_iload dX6_doAll_167 9 rfl ?_
                refine r_csI (ok_X9_at hG (hG.lt (by decide)) sh34 (SX6_doAll_20 μ).2.2.2.1 (SX6_doAll_20 μ).2.2.2.2) lX6_63 dX6_doAll_169 (by decide) (Nat.le_of_ble_eq_true rfl) rfl (Nat.le_of_ble_eq_true rfl) ?_
                refine r_istore [(7, _), (10, _), (5, _), (9, _), (0, _), (1, _), (2, _), (3, _), (4, _), (6, _), (8, _)] dX6_doAll_172 (Nat.le_of_ble_eq_true rfl) rfl ?_
                refine r_goto 230 dX6_doAll_174 (by decide) ?_
                have e : (VX6_doAll_8 μ) = (SX6_doAll_20 μ).1 := by unfold VX6_doAll_8; rw [if_neg (not_not_intro c5), if_neg (not_not_intro c6)]
                rw [e] at hJ
                clear e
                have e : (VX6_doAll_9 μ) = (SX6_doAll_20 μ).2.2.1 := by unfold VX6_doAll_9; rw [if_neg (not_not_intro c5), if_neg (not_not_intro c6)]
                rw [e] at hJ
                clear e
                have e : (VX6_doAll_10 μ) = (F_X9_at 34 150 (SX6_doAll_20 μ).2.2.2.1 (SX6_doAll_20 μ).2.2.2.2) := by unfold VX6_doAll_10; rw [if_neg (not_not_intro c5), if_neg (not_not_intro c6)]
                rw [e] at hJ
                clear e
                have e : (VX6_doAll_11 μ) = (SX6_doAll_20 μ).2.2.2.2 := by unfold VX6_doAll_11; rw [if_neg (not_not_intro c5), if_neg (not_not_intro c6)]
                rw [e] at hJ
                exact r_sub [1, 2, 3, 4, 5, 6, 7, 8, 9, 0, 10] rfl hJ
        · replace hP := hP.2 c4
          refine r_goto 239 dX6_doAll_134 (by decide) ?_
          refine r_iload dX6_doAll_239 5 rfl ?_
          exact r_ireturn _ dX6_doAll_241 rfl rfl ⟨congrArg (fun z => some (Value.int z)) (rfl), rfl⟩
      · replace hP := hP.2 c3
        refine r_aload_n dX6_doAll_55 1 rfl ?_
        refine r_getR 36 fX6_24 (hG.lt (by decide)) sh31 fs31_4 dX6_doAll_56 ?_
        refine r_iload dX6_doAll_59 7 rfl ?_
        refine r_iconst 1 dX6_doAll_61 rfl ?_
        refine r_isub dX6_doAll_62 ?_
        refine r_csI (ok_X9_at hG (hG.lt (by decide)) sh36 ((SX6_doAll_20 μ).2.2.1 - 1) (SX6_doAll_20 μ).2.2.2.2) lX6_63 dX6_doAll_63 (by decide) (Nat.le_of_ble_eq_true rfl) rfl (Nat.le_of_ble_eq_true rfl) ?_
        refine r_iconst 1 dX6_doAll_66 rfl ?_
        refine r_isub dX6_doAll_67 ?_
        refine r_istore [(10, _), (9, _), (0, _), (1, _), (2, _), (3, _), (4, _), (5, _), (6, _), (7, _), (8, _)] dX6_doAll_68 (Nat.le_of_ble_eq_true rfl) rfl ?_
        refine r_aload_n dX6_doAll_70 2 rfl ?_
        refine r_getR 36 fX6_24 (hG.lt (by decide)) sh31 fs31_4 dX6_doAll_71 ?_
        refine r_iload dX6_doAll_74 8 rfl ?_
        refine r_iconst 1 dX6_doAll_76 rfl ?_
        refine r_isub dX6_doAll_77 ?_
        refine r_iload dX6_doAll_78 0 rfl ?_
        refine r_csV (ok_X9_put hG (hG.lt (by decide)) sh36 ((SX6_doAll_20 μ).2.2.1 - 1) ((F_X9_at 36 6 ((SX6_doAll_20 μ).2.2.1 - 1) (SX6_doAll_20 μ).2.2.2.2) - 1) (SX6_doAll_20 μ).2.2.2.2) lX6_31 dX6_doAll_80 (by decide) (Nat.le_of_ble_eq_true rfl) rfl (Nat.le_of_ble_eq_true rfl) ?_
        refine r_mu (muX6_doAll_12 μ) rfl ?_
        refine r_iload dX6_doAll_83 8 rfl ?_
        refine r_iload dX6_doAll_85 0 rfl ?_
        refine r_join 95 [(10, .int ((F_X9_at 36 6 ((SX6_doAll_20 μ).2.2.1 - 1) (SX6_doAll_20 μ).2.2.2.2) - 1)), (9, .int (F_X9_at 32 150 (SX6_doAll_20 μ).2.2.2.1 (SX6_doAll_20 μ).2.2.2.2)), (0, .ref (ga G 31)), (1, .ref (ga G 43)), (2, .ref (ga G 3)), (3, .ref (ga G 21)), (4, .int (SX6_doAll_20 μ).1), (5, .int (SX6_doAll_20 μ).2.1), (6, .int (SX6_doAll_20 μ).2.2.1), (7, .int (SX6_doAll_20 μ).2.2.2.1), (8, .int (nI (NX6_doAll_20 μ)))] [.int (VX6_doAll_13 μ), .int (SX6_doAll_20 μ).2.2.1] (muX6_doAll_12 μ) ?_ (fun hJ => ?_)
        · refine r_isub dX6_doAll_95 ?_
          refine r_istore [(6, _), (10, _), (9, _), (0, _), (1, _), (2, _), (3, _), (4, _), (5, _), (7, _), (8, _)] dX6_doAll_96 (Nat.le_of_ble_eq_true rfl) rfl ?_
          refine r_iload dX6_doAll_98 1 rfl ?_
          refine r_join 121 [(6, .int ((SX6_doAll_20 μ).2.2.1 - (VX6_doAll_13 μ))), (10, .int ((F_X9_at 36 6 ((SX6_doAll_20 μ).2.2.1 - 1) (SX6_doAll_20 μ).2.2.2.2) - 1)), (9, .int (F_X9_at 32 150 (SX6_doAll_20 μ).2.2.2.1 (SX6_doAll_20 μ).2.2.2.2)), (0, .ref (ga G 31)), (1, .ref (ga G 43)), (2, .ref (ga G 3)), (3, .ref (ga G 21)), (4, .int (SX6_doAll_20 μ).1), (5, .int (SX6_doAll_20 μ).2.1), (7, .int (SX6_doAll_20 μ).2.2.2.1), (8, .int (nI (NX6_doAll_20 μ)))] [.int (VX6_doAll_14 μ)] (muX6_doAll_12 μ) ?_ (fun hJ => ?_)
          · refine r_istore [(7, _), (6, _), (10, _), (9, _), (0, _), (1, _), (2, _), (3, _), (4, _), (5, _), (8, _)] dX6_doAll_121 (Nat.le_of_ble_eq_true rfl) rfl ?_
            refine r_goto 233 dX6_doAll_123 (by decide) ?_
            refine r_iinc ((nI (NX6_doAll_20 μ)) + 1) [(8, _), (7, _), (6, _), (10, _), (9, _), (0, _), (1, _), (2, _), (3, _), (4, _), (5, _)] dX6_doAll_233 10 rfl rfl (Nat.le_of_ble_eq_true rfl) rfl ?_
            refine r_goto 20 dX6_doAll_236 (by decide) ?_
            exact hP.elim
          · refine r_if_le 117 dX6_doAll_100 (by decide) (fun c4 => ?_) (fun c4 => ?_)
            · refine r_iload dX6_doAll_117 9 rfl ?_
              refine r_iconst 1 dX6_doAll_119 rfl ?_
              refine r_iadd dX6_doAll_120 ?_
              have e : (VX6_doAll_14 μ) = ((SX6_doAll_20 μ).2.2.2.1 + 1) := by unfold VX6_doAll_14; rw [if_pos c4]
              rw [e] at hJ
              exact r_sub [0, 1, 2, 3, 4, 5, 6, 7, 8, 9, 10] rfl hJ
            · refine r_aload_n dX6_doAll_103 3 rfl ?_
              refine r_getR 34 fX6_18 (hG.lt (by decide)) sh31 fs31_2 dX6_doAll_104 ?_
              refine r_iload dX6_doAll_107 9 rfl ?_
              refine r_csI (ok_X9_at hG (hG.lt (by decide)) sh34 (SX6_doAll_20 μ).2.2.2.1 (muX6_doAll_12 μ)) lX6_63 dX6_doAll_109 (by decide) (Nat.le_of_ble_eq_true rfl) rfl (Nat.le_of_ble_eq_true rfl) ?_
              refine r_iconst 1 dX6_doAll_112 rfl ?_
              refine r_iadd dX6_doAll_113 ?_
              refine r_goto 121 dX6_doAll_114 (by decide) ?_
              have e : (VX6_doAll_14 μ) = ((F_X9_at 34 150 (SX6_doAll_20 μ).2.2.2.1 (muX6_doAll_12 μ)) + 1) := by unfold VX6_doAll_14; rw [if_neg (i32_ng c4)]
              rw [e] at hJ
              exact r_sub [0, 1, 2, 3, 4, 5, 6, 7, 8, 9, 10] rfl hJ
        · refine r_if_le 94 dX6_doAll_87 (by decide) (fun c4 => ?_) (fun c4 => ?_)
          · refine r_iconst 1 dX6_doAll_94 rfl ?_
            have e : (VX6_doAll_13 μ) = 1 := by unfold VX6_doAll_13; rw [if_pos c4]
            rw [e] at hJ
            exact r_sub [0, 1, 2, 3, 4, 5, 6, 7, 8, 9, 10] rfl hJ
          · refine r_iconst 0 dX6_doAll_90 rfl ?_
            refine r_goto 95 dX6_doAll_91 (by decide) ?_
            have e : (VX6_doAll_13 μ) = 0 := by unfold VX6_doAll_13; rw [if_neg (i32_ng c4)]
            rw [e] at hJ
            exact r_sub [0, 1, 2, 3, 4, 5, 6, 7, 8, 9, 10] rfl hJ
def muX7_copyFrom_1 (μ : Mem) : Mem := (M_X9_copyWhole 13 6 4 6 μ)
def muX7_copyFrom_2 (μ : Mem) : Mem := (M_X9_copyWhole 14 10 5 10 (muX7_copyFrom_1 μ))
def muX7_copyFrom_3 (μ : Mem) : Mem := (M_X9_copyWhole 15 10 6 10 (muX7_copyFrom_2 μ))
def muX7_copyFrom_4 (μ : Mem) : Mem := (M_X9_copyWhole 16 10 7 10 (muX7_copyFrom_3 μ))
def muX7_copyFrom_5 (μ : Mem) : Mem := (M_X9_copyWhole 17 10 8 10 (muX7_copyFrom_4 μ))
def muX7_copyFrom_6 (μ : Mem) : Mem := (M_X9_copyWhole 18 12 9 12 (muX7_copyFrom_5 μ))
def muX7_copyFrom_7 (μ : Mem) : Mem := (M_X9_copyWhole 19 6 10 6 (muX7_copyFrom_6 μ))
def muX7_copyFrom_8 (μ : Mem) : Mem := (M_X9_copyWhole 20 6 11 6 (muX7_copyFrom_7 μ))
def muX7_copyFrom_9 (μ : Mem) : Mem := (upm (muX7_copyFrom_8 μ) 3 8 ((muX7_copyFrom_8 μ) 12 8))
def muX7_copyFrom_10 (μ : Mem) : Mem := (upm (muX7_copyFrom_9 μ) 3 9 ((muX7_copyFrom_9 μ) 12 9))
def muX7_copyFrom_11 (μ : Mem) : Mem := (upm (muX7_copyFrom_10 μ) 3 10 ((muX7_copyFrom_10 μ) 12 10))
def muX7_copyFrom_12 (μ : Mem) : Mem := (upm (muX7_copyFrom_11 μ) 3 11 ((muX7_copyFrom_11 μ) 12 11))
def muX7_copyFrom_13 (μ : Mem) : Mem := (upm (muX7_copyFrom_12 μ) 3 12 ((muX7_copyFrom_12 μ) 12 12))
def muX7_copyFrom_14 (μ : Mem) : Mem := (upm (muX7_copyFrom_13 μ) 3 13 ((muX7_copyFrom_13 μ) 12 13))
def M_X7_copyFrom  (μ : Mem) : Mem := (muX7_copyFrom_14 μ)
def P_X7_copyFrom  (μ : Mem) : Prop := ((P_X9_copyWhole 13 6 4 6 μ) ∧ ((P_X9_copyWhole 14 10 5 10 (muX7_copyFrom_1 μ)) ∧ ((P_X9_copyWhole 15 10 6 10 (muX7_copyFrom_2 μ)) ∧ ((P_X9_copyWhole 16 10 7 10 (muX7_copyFrom_3 μ)) ∧ ((P_X9_copyWhole 17 10 8 10 (muX7_copyFrom_4 μ)) ∧ ((P_X9_copyWhole 18 12 9 12 (muX7_copyFrom_5 μ)) ∧ ((P_X9_copyWhole 19 6 10 6 (muX7_copyFrom_6 μ)) ∧ (P_X9_copyWhole 20 6 11 6 (muX7_copyFrom_7 μ)))))))))
set_option maxRecDepth 20000 in
set_option maxHeartbeats 2000000 in
theorem ok_X7_copyFrom {G : SG} (hG : GK 57 G)  (μ : Mem) (hP : P_X7_copyFrom  μ) : OkF G mX7_copyFrom [.ref (ga G 3), .ref (ga G 12)] μ none (M_X7_copyFrom  μ) := by
  refine okF_of hG rfl rfl (Nat.le_of_ble_eq_true rfl) ?_
  unfold P_X7_copyFrom at hP
  refine r_aload_n dX7_copyFrom_0 1 rfl ?_
  refine r_getR 13 fX7_9 (hG.lt (by decide)) sh12 fs12_0 dX7_copyFrom_1 ?_
  refine r_aload_n dX7_copyFrom_4 0 rfl ?_
  refine r_getR 4 fX7_9 (hG.lt (by decide)) sh3 fs3_0 dX7_copyFrom_5 ?_
  have hs1 := hP.1
  replace hP := hP.2
  refine r_csV (ok_X9_copyWhole hG (hG.lt (by decide)) sh13 (hG.lt (by decide)) sh4 μ hs1) lX7_43 dX7_copyFrom_8 (by decide) (Nat.le_of_ble_eq_true rfl) rfl (Nat.le_of_ble_eq_true rfl) ?_
  refine r_mu (muX7_copyFrom_1 μ) rfl ?_
  refine r_aload_n dX7_copyFrom_11 1 rfl ?_
  refine r_getR 14 fX7_15 (hG.lt (by decide)) sh12 fs12_1 dX7_copyFrom_12 ?_
  refine r_aload_n dX7_copyFrom_15 0 rfl ?_
  refine r_getR 5 fX7_15 (hG.lt (by decide)) sh3 fs3_1 dX7_copyFrom_16 ?_
  have hs2 := hP.1
  replace hP := hP.2
  refine r_csV (ok_X9_copyWhole hG (hG.lt (by decide)) sh14 (hG.lt (by decide)) sh5 (muX7_copyFrom_1 μ) hs2) lX7_43 dX7_copyFrom_19 (by decide) (Nat.le_of_ble_eq_true rfl) rfl (Nat.le_of_ble_eq_true rfl) ?_
  refine r_mu (muX7_copyFrom_2 μ) rfl ?_
  refine r_aload_n dX7_copyFrom_22 1 rfl ?_
  refine r_getR 15 fX7_18 (hG.lt (by decide)) sh12 fs12_2 dX7_copyFrom_23 ?_
  refine r_aload_n dX7_copyFrom_26 0 rfl ?_
  refine r_getR 6 fX7_18 (hG.lt (by decide)) sh3 fs3_2 dX7_copyFrom_27 ?_
  have hs3 := hP.1
  replace hP := hP.2
  refine r_csV (ok_X9_copyWhole hG (hG.lt (by decide)) sh15 (hG.lt (by decide)) sh6 (muX7_copyFrom_2 μ) hs3) lX7_43 dX7_copyFrom_30 (by decide) (Nat.le_of_ble_eq_true rfl) rfl (Nat.le_of_ble_eq_true rfl) ?_
  refine r_mu (muX7_copyFrom_3 μ) rfl ?_
  refine r_aload_n dX7_copyFrom_33 1 rfl ?_
  refine r_getR 16 fX7_21 (hG.lt (by decide)) sh12 fs12_3 dX7_copyFrom_34 ?_
  refine r_aload_n dX7_copyFrom_37 0 rfl ?_
  refine r_getR 7 fX7_21 (hG.lt (by decide)) sh3 fs3_3 dX7_copyFrom_38 ?_
  have hs4 := hP.1
  replace hP := hP.2
  refine r_csV (ok_X9_copyWhole hG (hG.lt (by decide)) sh16 (hG.lt (by decide)) sh7 (muX7_copyFrom_3 μ) hs4) lX7_43 dX7_copyFrom_41 (by decide) (Nat.le_of_ble_eq_true rfl) rfl (Nat.le_of_ble_eq_true rfl) ?_
  refine r_mu (muX7_copyFrom_4 μ) rfl ?_
  refine r_aload_n dX7_copyFrom_44 1 rfl ?_
  refine r_getR 17 fX7_24 (hG.lt (by decide)) sh12 fs12_4 dX7_copyFrom_45 ?_
  refine r_aload_n dX7_copyFrom_48 0 rfl ?_
  refine r_getR 8 fX7_24 (hG.lt (by decide)) sh3 fs3_4 dX7_copyFrom_49 ?_
  have hs5 := hP.1
  replace hP := hP.2
  refine r_csV (ok_X9_copyWhole hG (hG.lt (by decide)) sh17 (hG.lt (by decide)) sh8 (muX7_copyFrom_4 μ) hs5) lX7_43 dX7_copyFrom_52 (by decide) (Nat.le_of_ble_eq_true rfl) rfl (Nat.le_of_ble_eq_true rfl) ?_
  refine r_mu (muX7_copyFrom_5 μ) rfl ?_
  refine r_aload_n dX7_copyFrom_55 1 rfl ?_
  refine r_getR 18 fX7_27 (hG.lt (by decide)) sh12 fs12_5 dX7_copyFrom_56 ?_
  refine r_aload_n dX7_copyFrom_59 0 rfl ?_
  refine r_getR 9 fX7_27 (hG.lt (by decide)) sh3 fs3_5 dX7_copyFrom_60 ?_
  have hs6 := hP.1
  replace hP := hP.2
  refine r_csV (ok_X9_copyWhole hG (hG.lt (by decide)) sh18 (hG.lt (by decide)) sh9 (muX7_copyFrom_5 μ) hs6) lX7_43 dX7_copyFrom_63 (by decide) (Nat.le_of_ble_eq_true rfl) rfl (Nat.le_of_ble_eq_true rfl) ?_
  refine r_mu (muX7_copyFrom_6 μ) rfl ?_
  refine r_aload_n dX7_copyFrom_66 1 rfl ?_
  refine r_getR 19 fX7_30 (hG.lt (by decide)) sh12 fs12_6 dX7_copyFrom_67 ?_
  refine r_aload_n dX7_copyFrom_70 0 rfl ?_
  refine r_getR 10 fX7_30 (hG.lt (by decide)) sh3 fs3_6 dX7_copyFrom_71 ?_
  have hs7 := hP.1
  replace hP := hP.2
  refine r_csV (ok_X9_copyWhole hG (hG.lt (by decide)) sh19 (hG.lt (by decide)) sh10 (muX7_copyFrom_6 μ) hs7) lX7_43 dX7_copyFrom_74 (by decide) (Nat.le_of_ble_eq_true rfl) rfl (Nat.le_of_ble_eq_true rfl) ?_
  refine r_mu (muX7_copyFrom_7 μ) rfl ?_
  refine r_aload_n dX7_copyFrom_77 1 rfl ?_
  refine r_getR 20 fX7_33 (hG.lt (by decide)) sh12 fs12_7 dX7_copyFrom_78 ?_
  refine r_aload_n dX7_copyFrom_81 0 rfl ?_
  refine r_getR 11 fX7_33 (hG.lt (by decide)) sh3 fs3_7 dX7_copyFrom_82 ?_
  have hs8 := hP
  refine r_csV (ok_X9_copyWhole hG (hG.lt (by decide)) sh20 (hG.lt (by decide)) sh11 (muX7_copyFrom_7 μ) hs8) lX7_43 dX7_copyFrom_85 (by decide) (Nat.le_of_ble_eq_true rfl) rfl (Nat.le_of_ble_eq_true rfl) ?_
  refine r_mu (muX7_copyFrom_8 μ) rfl ?_
  refine r_aload_n dX7_copyFrom_88 0 rfl ?_
  refine r_aload_n dX7_copyFrom_89 1 rfl ?_
  refine r_getI fX7_47 (hG.lt (by decide)) sh12 fs12_8 dX7_copyFrom_90 ?_
  refine r_put fiX7_47 (hG.lt (by decide)) sh3 fs3_8 dX7_copyFrom_93 ?_
  refine r_mu (muX7_copyFrom_9 μ) rfl ?_
  refine r_aload_n dX7_copyFrom_96 0 rfl ?_
  refine r_aload_n dX7_copyFrom_97 1 rfl ?_
  refine r_getI fX7_50 (hG.lt (by decide)) sh12 fs12_9 dX7_copyFrom_98 ?_
  refine r_put fiX7_50 (hG.lt (by decide)) sh3 fs3_9 dX7_copyFrom_101 ?_
  refine r_mu (muX7_copyFrom_10 μ) rfl ?_
  refine r_aload_n dX7_copyFrom_104 0 rfl ?_
  refine r_aload_n dX7_copyFrom_105 1 rfl ?_
  refine r_getI fX7_53 (hG.lt (by decide)) sh12 fs12_10 dX7_copyFrom_106 ?_
  refine r_put fiX7_53 (hG.lt (by decide)) sh3 fs3_10 dX7_copyFrom_109 ?_
  refine r_mu (muX7_copyFrom_11 μ) rfl ?_
  refine r_aload_n dX7_copyFrom_112 0 rfl ?_
  refine r_aload_n dX7_copyFrom_113 1 rfl ?_
  refine r_getI fX7_56 (hG.lt (by decide)) sh12 fs12_11 dX7_copyFrom_114 ?_
  refine r_put fiX7_56 (hG.lt (by decide)) sh3 fs3_11 dX7_copyFrom_117 ?_
  refine r_mu (muX7_copyFrom_12 μ) rfl ?_
  refine r_aload_n dX7_copyFrom_120 0 rfl ?_
  refine r_aload_n dX7_copyFrom_121 1 rfl ?_
  refine r_getI fX7_36 (hG.lt (by decide)) sh12 fs12_12 dX7_copyFrom_122 ?_
  refine r_put fiX7_36 (hG.lt (by decide)) sh3 fs3_12 dX7_copyFrom_125 ?_
  refine r_mu (muX7_copyFrom_13 μ) rfl ?_
  refine r_aload_n dX7_copyFrom_128 0 rfl ?_
  refine r_aload_n dX7_copyFrom_129 1 rfl ?_
  refine r_getI fX7_40 (hG.lt (by decide)) sh12 fs12_13 dX7_copyFrom_130 ?_
  refine r_put fiX7_40 (hG.lt (by decide)) sh3 fs3_13 dX7_copyFrom_133 ?_
  refine r_mu (muX7_copyFrom_14 μ) rfl ?_
  exact r_return dX7_copyFrom_136 rfl ⟨rfl, rfl⟩
