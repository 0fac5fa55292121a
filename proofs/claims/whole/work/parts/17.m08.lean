def muX10_rent_1 (p1 : Int32) (p2 : Int32) (μ : Mem) : Mem := (upm μ 57 0 0)
def VX10_rent_2 (p1 : Int32) (p2 : Int32) (μ : Mem) : Int32 := (if (F_X10_isIn p1 0 9999 (muX10_rent_1 p1 p2 μ)) = 0 then 1 else (if (F_X10_isIn p2 0 24 (muX10_rent_1 p1 p2 μ)) ≠ 0 then 0 else 1))
theorem bo_VX10_rent_2 (p1 : Int32) (p2 : Int32) (μ : Mem) : (VX10_rent_2 p1 p2 μ) = 0 ∨ (VX10_rent_2 p1 p2 μ) = 1 := by
  unfold VX10_rent_2
  split
  · exact Or.inr rfl
  · split
    · exact Or.inl rfl
    · exact Or.inr rfl
def muX10_rent_3 (p1 : Int32) (p2 : Int32) (μ : Mem) : Mem := (M_X10_bad (VX10_rent_2 p1 p2 μ) 1 1 (muX10_rent_1 p1 p2 μ))
def muX10_rent_48_1 (v1 : Int32) (v2 : Int32) (i : Nat) (s : Int32 × Int32 × Mem) : Mem := (upm s.2.2 57 44 s.2.1)
def muX10_rent_48_2 (v1 : Int32) (v2 : Int32) (i : Nat) (s : Int32 × Int32 × Mem) : Mem := (M_X10_copies 521 522 (muX10_rent_48_1 v1 v2 i s))
def muX10_rent_48_3 (v1 : Int32) (v2 : Int32) (i : Nat) (s : Int32 × Int32 × Mem) : Mem := (M_X10_goesOn v2 (muX10_rent_48_2 v1 v2 i s))
def VX10_rent_48_4 (v1 : Int32) (v2 : Int32) (i : Nat) (s : Int32 × Int32 × Mem) : Int32 := (if v1 < ((F_X10_paidIn 522 (muX10_rent_48_3 v1 v2 i s)) - (F_X10_paidIn 521 (muX10_rent_48_3 v1 v2 i s))) then s.1 else s.2.1)
def g_X10_rent_48 (v1 : Int32) (v2 : Int32) (i : Nat) (s : Int32 × Int32 × Mem) : Int32 × Int32 × Mem := ((VX10_rent_48_4 v1 v2 i s), (s.2.1 + (-1)), (muX10_rent_48_3 v1 v2 i s))
def Pb_X10_rent_48 (v1 : Int32) (v2 : Int32) (i : Nat) (s : Int32 × Int32 × Mem) : Prop := ((s.2.1 < 0 → False) ∧ (0 ≤ s.2.1 → (P_X10_copies 521 522 (muX10_rent_48_1 v1 v2 i s)) ∧ (P_X10_goesOn v2 (muX10_rent_48_2 v1 v2 i s)) ∧ (P_X10_paidIn 522 (muX10_rent_48_3 v1 v2 i s)) ∧ P_X10_paidIn 521 (muX10_rent_48_3 v1 v2 i s)))
set_option maxRecDepth 20000 in
set_option maxHeartbeats 2000000 in
theorem lp_X10_rent_48 {G : SG} (hG : GK 548 G)  (v1 : Int32) (v2 : Int32) (s0 : Int32 × Int32 × Mem) (N : Nat) (sN : Int32 × Int32 × Mem) (eN : sN = fo N (g_X10_rent_48 v1 v2) s0) (hN : ∀ i, i < N → Pb_X10_rent_48 v1 v2 i (fo i (g_X10_rent_48 v1 v2) s0)) {t : Nat} {Q : PQ} {X : PX} (h : R G mX10_rent 48 [(0, .ref (ga G 57)), (1, .int v1), (2, .int v2), (3, .int (sN).1), (4, .int (sN).2.1)] [] (sN).2.2 t Q X) : R G mX10_rent 48 [(0, .ref (ga G 57)), (1, .int v1), (2, .int v2), (3, .int (s0).1), (4, .int (s0).2.1)] [] (s0).2.2 t Q X := by
  subst eN
  refine down_i N (fun i => R G mX10_rent 48 [(0, .ref (ga G 57)), (1, .int v1), (2, .int v2), (3, .int ((fo i (g_X10_rent_48 v1 v2) s0)).1), (4, .int ((fo i (g_X10_rent_48 v1 v2) s0)).2.1)] [] ((fo i (g_X10_rent_48 v1 v2) s0)).2.2 t Q X) h (fun i hi hS => ?_)
  have hP := hN i hi
  rw [fo_succ] at hS
  generalize fo i (g_X10_rent_48 v1 v2) s0 = s at hS hP ⊢
  unfold Pb_X10_rent_48 at hP
  refine r_iload dX10_rent_48 4 rfl ?_
  refine r_if_lt 109 dX10_rent_50 (by decide) (fun c1 => ?_) (fun c1 => ?_)
  · replace hP := hP.1 c1
    exact hP.elim
  · replace hP := hP.2 c1
    refine r_aload_n dX10_rent_53 0 rfl ?_
    refine r_iload dX10_rent_54 4 rfl ?_
    refine r_put fiX10_203 (hG.lt (by decide)) sh57 fs57_44 dX10_rent_56 ?_
    refine r_mu (muX10_rent_48_1 v1 v2 i s) rfl ?_
    refine r_aload_n dX10_rent_59 0 rfl ?_
    refine r_getR 521 fX10_73 (hG.lt (by decide)) sh57 fs57_31 dX10_rent_60 ?_
    refine r_aload_n dX10_rent_63 0 rfl ?_
    refine r_getR 522 fX10_76 (hG.lt (by decide)) sh57 fs57_32 dX10_rent_64 ?_
    have hs1 := hP.1
    replace hP := hP.2
    refine r_csV (ok_X10_copies hG (hG.lt (by decide)) sh521 (hG.lt (by decide)) sh522 (muX10_rent_48_1 v1 v2 i s) hs1) lX10_333 dX10_rent_67 (by decide) (Nat.le_of_ble_eq_true rfl) rfl (Nat.le_of_ble_eq_true rfl) ?_
    refine r_mu (muX10_rent_48_2 v1 v2 i s) rfl ?_
    refine r_aload_n dX10_rent_70 0 rfl ?_
    refine r_iload_n dX10_rent_71 2 rfl ?_
    have hs2 := hP.1
    replace hP := hP.2
    refine r_cvV (ok_X10_goesOn hG v2 (muX10_rent_48_2 v1 v2 i s) hs2) lX10_353 (hG.lt (by decide)) sh57 ⟨_, _, rfl⟩ dX10_rent_72 (by decide) (Nat.le_of_ble_eq_true rfl) rfl (Nat.le_of_ble_eq_true rfl) ?_
    refine r_mu (muX10_rent_48_3 v1 v2 i s) rfl ?_
    refine r_aload_n dX10_rent_75 0 rfl ?_
    refine r_aload_n dX10_rent_76 0 rfl ?_
    refine r_getR 522 fX10_76 (hG.lt (by decide)) sh57 fs57_32 dX10_rent_77 ?_
    have hs3 := hP.1
    replace hP := hP.2
    refine r_cvI (ok_X10_paidIn hG (hG.lt (by decide)) sh522 (muX10_rent_48_3 v1 v2 i s) hs3) lX10_344 (hG.lt (by decide)) sh57 ⟨_, _, rfl⟩ dX10_rent_80 (by decide) (Nat.le_of_ble_eq_true rfl) rfl (Nat.le_of_ble_eq_true rfl) ?_
    refine r_aload_n dX10_rent_83 0 rfl ?_
    refine r_aload_n dX10_rent_84 0 rfl ?_
    refine r_getR 521 fX10_73 (hG.lt (by decide)) sh57 fs57_31 dX10_rent_85 ?_
    have hs4 := hP
    refine r_cvI (ok_X10_paidIn hG (hG.lt (by decide)) sh521 (muX10_rent_48_3 v1 v2 i s) hs4) lX10_344 (hG.lt (by decide)) sh57 ⟨_, _, rfl⟩ dX10_rent_88 (by decide) (Nat.le_of_ble_eq_true rfl) rfl (Nat.le_of_ble_eq_true rfl) ?_
    refine r_isub dX10_rent_91 ?_
    refine r_iload_n dX10_rent_92 1 rfl ?_
    refine r_join 102 [(0, .ref (ga G 57)), (1, .int v1), (2, .int v2), (3, .int s.1), (4, .int s.2.1)] [.int (VX10_rent_48_4 v1 v2 i s)] (muX10_rent_48_3 v1 v2 i s) ?_ (fun hJ => ?_)
    · refine r_istore_n [(3, _), (0, _), (1, _), (2, _), (4, _)] dX10_rent_102 (Nat.le_of_ble_eq_true rfl) rfl ?_
      refine r_iinc (s.2.1 + (-1)) [(4, _), (3, _), (0, _), (1, _), (2, _)] dX10_rent_103 4 rfl rfl (Nat.le_of_ble_eq_true rfl) rfl ?_
      refine r_goto 48 dX10_rent_106 (by decide) ?_
      have e : g_X10_rent_48 v1 v2 i s = ((VX10_rent_48_4 v1 v2 i s), (s.2.1 + (-1)), (muX10_rent_48_3 v1 v2 i s)) := by unfold g_X10_rent_48; rfl
      rw [e] at hS
      dsimp only at hS
      exact r_sub [2, 3, 4, 1, 0] rfl hS
    · refine r_icmp_gt 101 dX10_rent_93 (by decide) (fun c2 => ?_) (fun c2 => ?_)
      · refine r_iload_n dX10_rent_101 3 rfl ?_
        have e : (VX10_rent_48_4 v1 v2 i s) = s.1 := by unfold VX10_rent_48_4; rw [if_pos c2]
        rw [e] at hJ
        exact r_sub [0, 1, 2, 3, 4] rfl hJ
      · refine r_iload dX10_rent_96 4 rfl ?_
        refine r_goto 102 dX10_rent_98 (by decide) ?_
        have e : (VX10_rent_48_4 v1 v2 i s) = s.2.1 := by unfold VX10_rent_48_4; rw [if_neg (i32_nl c2)]
        rw [e] at hJ
        exact r_sub [0, 1, 2, 3, 4] rfl hJ
def NX10_rent_48 (p1 : Int32) (p2 : Int32) (μ : Mem) : Nat := 41
def SX10_rent_48 (p1 : Int32) (p2 : Int32) (μ : Mem) : Int32 × Int32 × Mem := fo (NX10_rent_48 p1 p2 μ) (g_X10_rent_48 p1 p2) ((-1), 40, (muX10_rent_3 p1 p2 μ))
def muX10_rent_4 (p1 : Int32) (p2 : Int32) (μ : Mem) : Mem := (upm (SX10_rent_48 p1 p2 μ).2.2 57 44 ((SX10_rent_48 p1 p2 μ).2.2 61 4))
def muX10_rent_5 (p1 : Int32) (p2 : Int32) (μ : Mem) : Mem := (upm (SX10_rent_48 p1 p2 μ).2.2 57 44 (SX10_rent_48 p1 p2 μ).2.1)
def muX10_rent_6 (p1 : Int32) (p2 : Int32) (μ : Mem) : Mem := (M_X10_copies 521 522 (muX10_rent_5 p1 p2 μ))
def muX10_rent_7 (p1 : Int32) (p2 : Int32) (μ : Mem) : Mem := (M_X10_goesOn p2 (muX10_rent_6 p1 p2 μ))
def VX10_rent_8 (p1 : Int32) (p2 : Int32) (μ : Mem) : Int32 := (if p1 < ((F_X10_paidIn 522 (muX10_rent_7 p1 p2 μ)) - (F_X10_paidIn 521 (muX10_rent_7 p1 p2 μ))) then (SX10_rent_48 p1 p2 μ).1 else (SX10_rent_48 p1 p2 μ).2.1)
def F_X10_rent (p1 : Int32) (p2 : Int32) (μ : Mem) : Int32 := (if (F_X10_bad (VX10_rent_2 p1 p2 μ) 1 1 (muX10_rent_1 p1 p2 μ)) = 0 then (SX10_rent_48 p1 p2 μ).1 else 0)
def M_X10_rent (p1 : Int32) (p2 : Int32) (μ : Mem) : Mem := (if (F_X10_bad (VX10_rent_2 p1 p2 μ) 1 1 (muX10_rent_1 p1 p2 μ)) = 0 then (muX10_rent_4 p1 p2 μ) else (muX10_rent_3 p1 p2 μ))
def P_X10_rent (p1 : Int32) (p2 : Int32) (μ : Mem) : Prop := ((P_X10_bad (VX10_rent_2 p1 p2 μ) 1 1 (muX10_rent_1 p1 p2 μ)) ∧ (((F_X10_bad (VX10_rent_2 p1 p2 μ) 1 1 (muX10_rent_1 p1 p2 μ)) = 0 → ((∀ j9, j9 < (NX10_rent_48 p1 p2 μ) → Pb_X10_rent_48 p1 p2 j9 (fo j9 (g_X10_rent_48 p1 p2) ((-1), 40, (muX10_rent_3 p1 p2 μ)))) ∧ (((SX10_rent_48 p1 p2 μ).2.1 < 0 → True) ∧ (0 ≤ (SX10_rent_48 p1 p2 μ).2.1 → ((P_X10_copies 521 522 (muX10_rent_5 p1 p2 μ)) ∧ ((P_X10_goesOn p2 (muX10_rent_6 p1 p2 μ)) ∧ ((P_X10_paidIn 522 (muX10_rent_7 p1 p2 μ)) ∧ ((P_X10_paidIn 521 (muX10_rent_7 p1 p2 μ)) ∧ False)))))))) ∧ (¬ (F_X10_bad (VX10_rent_2 p1 p2 μ) 1 1 (muX10_rent_1 p1 p2 μ)) = 0 → True)))
set_option maxRecDepth 20000 in
set_option maxHeartbeats 2000000 in
theorem ok_X10_rent {G : SG} (hG : GK 548 G) (p1 : Int32) (p2 : Int32) (μ : Mem) (hP : P_X10_rent p1 p2 μ) : OkF G mX10_rent [.ref (ga G 57), .int p1, .int p2] μ (some (.int (F_X10_rent p1 p2 μ))) (M_X10_rent p1 p2 μ) := by
  refine okF_of hG rfl rfl (Nat.le_of_ble_eq_true rfl) ?_
  unfold P_X10_rent at hP
  refine r_aload_n dX10_rent_0 0 rfl ?_
  refine r_iconst 0 dX10_rent_1 rfl ?_
  refine r_put fiX10_103 (hG.lt (by decide)) sh57 fs57_0 dX10_rent_2 ?_
  refine r_mu (muX10_rent_1 p1 p2 μ) rfl ?_
  refine r_aload_n dX10_rent_5 0 rfl ?_
  refine r_iload_n dX10_rent_6 1 rfl ?_
  refine r_iconst 0 dX10_rent_7 rfl ?_
  refine r_sipush 9999 dX10_rent_8 rfl ?_
  refine r_csI (ok_X10_isIn hG p1 0 9999 (muX10_rent_1 p1 p2 μ)) lX10_137 dX10_rent_11 (by decide) (Nat.le_of_ble_eq_true rfl) rfl (Nat.le_of_ble_eq_true rfl) ?_
  refine r_join 32 [(0, .ref (ga G 57)), (1, .int p1), (2, .int p2)] [.int (VX10_rent_2 p1 p2 μ), .ref (ga G 57)] (muX10_rent_1 p1 p2 μ) ?_ (fun hJ => ?_)
  · refine r_iconst 1 dX10_rent_32 rfl ?_
    refine r_iconst 1 dX10_rent_33 rfl ?_
    have hs1 := hP.1
    replace hP := hP.2
    refine r_cvI (ok_X10_bad hG (VX10_rent_2 p1 p2 μ) 1 1 (muX10_rent_1 p1 p2 μ) hs1) lX10_186 (hG.lt (by decide)) sh57 ⟨_, _, rfl⟩ dX10_rent_34 (by decide) (Nat.le_of_ble_eq_true rfl) rfl (Nat.le_of_ble_eq_true rfl) ?_
    refine r_mu (muX10_rent_3 p1 p2 μ) rfl ?_
    refine r_if_eq 42 dX10_rent_37 (by decide) (fun c1 => ?_) (fun c1 => ?_)
    · replace hP := hP.1 c1
      refine r_iconst (-1) dX10_rent_42 rfl ?_
      refine r_istore_n [(3, _), (0, _), (1, _), (2, _)] dX10_rent_43 (Nat.le_of_ble_eq_true rfl) rfl ?_
      refine r_bipush 40 dX10_rent_44 rfl ?_
      refine r_istore [(4, _), (3, _), (0, _), (1, _), (2, _)] dX10_rent_46 (Nat.le_of_ble_eq_true rfl) rfl ?_
      have hs2 := hP.1
      replace hP := hP.2
      refine r_sub [2, 3, 4, 1, 0] rfl ?_
      refine lp_X10_rent_48 hG p1 p2 ((-1), 40, (muX10_rent_3 p1 p2 μ)) ((NX10_rent_48 p1 p2 μ)) (SX10_rent_48 p1 p2 μ) rfl hs2 ?_
      refine r_iload dX10_rent_48 4 rfl ?_
      refine r_if_lt 109 dX10_rent_50 (by decide) (fun c2 => ?_) (fun c2 => ?_)
      · replace hP := hP.1 c2
        refine r_aload_n dX10_rent_109 0 rfl ?_
        refine r_aload_n dX10_rent_110 0 rfl ?_
        refine r_getR 61 fX10_23 (hG.lt (by decide)) sh57 fs57_12 dX10_rent_111 ?_
        refine r_iconst 4 dX10_rent_114 rfl ?_
        refine r_ialdK 4 rfl (hG.lt (by decide)) sh61 (vp_of (by decide) (by decide)) dX10_rent_115 ?_
        refine r_put fiX10_203 (hG.lt (by decide)) sh57 fs57_44 dX10_rent_116 ?_
        refine r_mu (muX10_rent_4 p1 p2 μ) rfl ?_
        refine r_iload_n dX10_rent_119 3 rfl ?_
        exact r_ireturn _ dX10_rent_120 rfl rfl ⟨congrArg (fun z => some (Value.int z)) (by unfold F_X10_rent; rw [if_pos c1]), by unfold M_X10_rent; rw [if_pos c1]⟩
      · replace hP := hP.2 c2
        refine r_aload_n dX10_rent_53 0 rfl ?_
        refine r_iload dX10_rent_54 4 rfl ?_
        refine r_put fiX10_203 (hG.lt (by decide)) sh57 fs57_44 dX10_rent_56 ?_
        refine r_mu (muX10_rent_5 p1 p2 μ) rfl ?_
        refine r_aload_n dX10_rent_59 0 rfl ?_
        refine r_getR 521 fX10_73 (hG.lt (by decide)) sh57 fs57_31 dX10_rent_60 ?_
        refine r_aload_n dX10_rent_63 0 rfl ?_
        refine r_getR 522 fX10_76 (hG.lt (by decide)) sh57 fs57_32 dX10_rent_64 ?_
        have hs7 := hP.1
        replace hP := hP.2
        refine r_csV (ok_X10_copies hG (hG.lt (by decide)) sh521 (hG.lt (by decide)) sh522 (muX10_rent_5 p1 p2 μ) hs7) lX10_333 dX10_rent_67 (by decide) (Nat.le_of_ble_eq_true rfl) rfl (Nat.le_of_ble_eq_true rfl) ?_
        refine r_mu (muX10_rent_6 p1 p2 μ) rfl ?_
        refine r_aload_n dX10_rent_70 0 rfl ?_
        refine r_iload_n dX10_rent_71 2 rfl ?_
        have hs8 := hP.1
        replace hP := hP.2
        refine r_cvV (ok_X10_goesOn hG p2 (muX10_rent_6 p1 p2 μ) hs8) lX10_353 (hG.lt (by decide)) sh57 ⟨_, _, rfl⟩ dX10_rent_72 (by decide) (Nat.le_of_ble_eq_true rfl) rfl (Nat.le_of_ble_eq_true rfl) ?_
        refine r_mu (muX10_rent_7 p1 p2 μ) rfl ?_
        refine r_aload_n dX10_rent_75 0 rfl ?_
        refine r_aload_n dX10_rent_76 0 rfl ?_
        refine r_getR 522 fX10_76 (hG.lt (by decide)) sh57 fs57_32 dX10_rent_77 ?_
        have hs9 := hP.1
        replace hP := hP.2
        refine r_cvI (ok_X10_paidIn hG (hG.lt (by decide)) sh522 (muX10_rent_7 p1 p2 μ) hs9) lX10_344 (hG.lt (by decide)) sh57 ⟨_, _, rfl⟩ dX10_rent_80 (by decide) (Nat.le_of_ble_eq_true rfl) rfl (Nat.le_of_ble_eq_true rfl) ?_
        refine r_aload_n dX10_rent_83 0 rfl ?_
        refine r_aload_n dX10_rent_84 0 rfl ?_
        refine r_getR 521 fX10_73 (hG.lt (by decide)) sh57 fs57_31 dX10_rent_85 ?_
        have hs10 := hP.1
        replace hP := hP.2
        refine r_cvI (ok_X10_paidIn hG (hG.lt (by decide)) sh521 (muX10_rent_7 p1 p2 μ) hs10) lX10_344 (hG.lt (by decide)) sh57 ⟨_, _, rfl⟩ dX10_rent_88 (by decide) (Nat.le_of_ble_eq_true rfl) rfl (Nat.le_of_ble_eq_true rfl) ?_
        refine r_isub dX10_rent_91 ?_
        refine r_iload_n dX10_rent_92 1 rfl ?_
        refine r_join 102 [(0, .ref (ga G 57)), (1, .int p1), (2, .int p2), (3, .int (SX10_rent_48 p1 p2 μ).1), (4, .int (SX10_rent_48 p1 p2 μ).2.1)] [.int (VX10_rent_8 p1 p2 μ)] (muX10_rent_7 p1 p2 μ) ?_ (fun hJ => ?_)
        · refine r_istore_n [(3, _), (0, _), (1, _), (2, _), (4, _)] dX10_rent_102 (Nat.le_of_ble_eq_true rfl) rfl ?_
          refine r_iinc ((SX10_rent_48 p1 p2 μ).2.1 + (-1)) [(4, _), (3, _), (0, _), (1, _), (2, _)] dX10_rent_103 4 rfl rfl (Nat.le_of_ble_eq_true rfl) rfl ?_
          refine r_goto 48 dX10_rent_106 (by decide) ?_
          exact hP.elim
        · refine r_icmp_gt 101 dX10_rent_93 (by decide) (fun c3 => ?_) (fun c3 => ?_)
          · refine r_iload_n dX10_rent_101 3 rfl ?_
            have e : (VX10_rent_8 p1 p2 μ) = (SX10_rent_48 p1 p2 μ).1 := by unfold VX10_rent_8; rw [if_pos c3]
            rw [e] at hJ
            exact r_sub [0, 1, 2, 3, 4] rfl hJ
          · refine r_iload dX10_rent_96 4 rfl ?_
            refine r_goto 102 dX10_rent_98 (by decide) ?_
            have e : (VX10_rent_8 p1 p2 μ) = (SX10_rent_48 p1 p2 μ).2.1 := by unfold VX10_rent_8; rw [if_neg (i32_nl c3)]
            rw [e] at hJ
            exact r_sub [0, 1, 2, 3, 4] rfl hJ
    · replace hP := hP.2 c1
      refine r_iconst 0 dX10_rent_40 rfl ?_
      exact r_ireturn _ dX10_rent_41 rfl rfl ⟨congrArg (fun z => some (Value.int z)) (by unfold F_X10_rent; rw [if_neg c1]), by unfold M_X10_rent; rw [if_neg c1]⟩
  · refine r_if_eq 27 dX10_rent_14 (by decide) (fun c1 => ?_) (fun c1 => ?_)
    · refine r_iconst 1 dX10_rent_27 rfl ?_
      refine r_goto 32 dX10_rent_28 (by decide) ?_
      have e : (VX10_rent_2 p1 p2 μ) = 1 := by unfold VX10_rent_2; rw [if_pos c1]
      rw [e] at hJ
      exact r_sub [0, 1, 2] rfl hJ
    · refine r_iload_n dX10_rent_17 2 rfl ?_
      refine r_iconst 0 dX10_rent_18 rfl ?_
      refine r_bipush 24 dX10_rent_19 rfl ?_
      refine r_csI (ok_X10_isIn hG p2 0 24 (muX10_rent_1 p1 p2 μ)) lX10_137 dX10_rent_21 (by decide) (Nat.le_of_ble_eq_true rfl) rfl (Nat.le_of_ble_eq_true rfl) ?_
      refine r_if_ne 31 dX10_rent_24 (by decide) (fun c2 => ?_) (fun c2 => ?_)
      · refine r_iconst 0 dX10_rent_31 rfl ?_
        have e : (VX10_rent_2 p1 p2 μ) = 0 := by unfold VX10_rent_2; rw [if_neg c1, if_pos c2]
        rw [e] at hJ
        exact r_sub [0, 1, 2] rfl hJ
      · refine r_iconst 1 dX10_rent_27 rfl ?_
        refine r_goto 32 dX10_rent_28 (by decide) ?_
        have e : (VX10_rent_2 p1 p2 μ) = 1 := by unfold VX10_rent_2; rw [if_neg c1, if_neg (not_not_intro c2)]
        rw [e] at hJ
        exact r_sub [0, 1, 2] rfl hJ
def muX10_bags_1 (p1 : Int32) (p2 : Int32) (μ : Mem) : Mem := (upm μ 57 0 0)
def VX10_bags_2 (p1 : Int32) (p2 : Int32) (μ : Mem) : Int32 := (if (F_X10_areHouses p1 (muX10_bags_1 p1 p2 μ)) = 0 then 1 else (if (F_X10_isIn p2 0 24 (muX10_bags_1 p1 p2 μ)) ≠ 0 then 0 else 1))
theorem bo_VX10_bags_2 (p1 : Int32) (p2 : Int32) (μ : Mem) : (VX10_bags_2 p1 p2 μ) = 0 ∨ (VX10_bags_2 p1 p2 μ) = 1 := by
  unfold VX10_bags_2
  split
  · exact Or.inr rfl
  · split
    · exact Or.inl rfl
    · exact Or.inr rfl
def muX10_bags_3 (p1 : Int32) (p2 : Int32) (μ : Mem) : Mem := (M_X10_bad (VX10_bags_2 p1 p2 μ) 1 1 (muX10_bags_1 p1 p2 μ))
def g_X10_bags_47 (v1 : Int32) (v2 : Int32) (v3 : Int32) (μ : Mem) (i : Nat) (s : Int32) : Int32 := (F_X10_more s (F_X10_heightIn ((μ 521 62) + (nI i)) μ) μ)
def Pb_X10_bags_47 (v1 : Int32) (v2 : Int32) (v3 : Int32) (μ : Mem) (i : Nat) (s : Int32) : Prop := ((v2 ≤ (nI i) → False) ∧ ((nI i) < v2 → P_X10_heightIn ((μ 521 62) + (nI i)) μ))
set_option maxRecDepth 20000 in
set_option maxHeartbeats 2000000 in
theorem lp_X10_bags_47 {G : SG} (hG : GK 548 G)  (v1 : Int32) (v2 : Int32) (v3 : Int32) (μ : Mem) (s0 : Int32) (N : Nat) (sN : Int32) (eN : sN = fo N (g_X10_bags_47 v1 v2 v3 μ) s0) (hN : ∀ i, i < N → Pb_X10_bags_47 v1 v2 v3 μ i (fo i (g_X10_bags_47 v1 v2 v3 μ) s0)) {t : Nat} {Q : PQ} {X : PX} (h : R G mX10_bags 47 [(0, .ref (ga G 57)), (1, .int v1), (2, .int v2), (3, .int v3), (4, .int sN), (5, .int (nI N))] [] μ t Q X) : R G mX10_bags 47 [(0, .ref (ga G 57)), (1, .int v1), (2, .int v2), (3, .int v3), (4, .int s0), (5, .int 0)] [] μ t Q X := by
  subst eN
  refine down_i N (fun i => R G mX10_bags 47 [(0, .ref (ga G 57)), (1, .int v1), (2, .int v2), (3, .int v3), (4, .int (fo i (g_X10_bags_47 v1 v2 v3 μ) s0)), (5, .int (nI i))] [] μ t Q X) h (fun i hi hS => ?_)
  have hP := hN i hi
  rw [fo_succ] at hS
  rw [nI_succ] at hS
  generalize fo i (g_X10_bags_47 v1 v2 v3 μ) s0 = s at hS hP ⊢
  unfold Pb_X10_bags_47 at hP
  refine r_iload dX10_bags_47 5 rfl ?_
  refine r_iload_n dX10_bags_49 2 rfl ?_
  refine r_icmp_ge 80 dX10_bags_50 (by decide) (fun c1 => ?_) (fun c1 => ?_)
  · replace hP := hP.1 c1
    exact hP.elim
  · replace hP := hP.2 c1
    refine r_iload dX10_bags_53 4 rfl ?_
    refine r_aload_n dX10_bags_55 0 rfl ?_
    refine r_aload_n dX10_bags_56 0 rfl ?_
    refine r_getR 521 fX10_73 (hG.lt (by decide)) sh57 fs57_31 dX10_bags_57 ?_
    refine r_bipush 62 dX10_bags_60 rfl ?_
    refine r_ialdK 62 rfl (hG.lt (by decide)) sh521 (vp_of (by decide) (by decide)) dX10_bags_62 ?_
    refine r_iload dX10_bags_63 5 rfl ?_
    refine r_iadd dX10_bags_65 ?_
    have hs1 := hP
    refine r_cvI (ok_X10_heightIn hG ((μ 521 62) + (nI i)) μ hs1) lX10_276 (hG.lt (by decide)) sh57 ⟨_, _, rfl⟩ dX10_bags_66 (by decide) (Nat.le_of_ble_eq_true rfl) rfl (Nat.le_of_ble_eq_true rfl) ?_
    refine r_csI (ok_X10_more hG s (F_X10_heightIn ((μ 521 62) + (nI i)) μ) μ) lX10_252 dX10_bags_69 (by decide) (Nat.le_of_ble_eq_true rfl) rfl (Nat.le_of_ble_eq_true rfl) ?_
    refine r_istore [(4, _), (0, _), (1, _), (2, _), (3, _), (5, _)] dX10_bags_72 (Nat.le_of_ble_eq_true rfl) rfl ?_
    refine r_iinc ((nI i) + 1) [(5, _), (4, _), (0, _), (1, _), (2, _), (3, _)] dX10_bags_74 5 rfl rfl (Nat.le_of_ble_eq_true rfl) rfl ?_
    refine r_goto 47 dX10_bags_77 (by decide) ?_
    have e : g_X10_bags_47 v1 v2 v3 μ i s = (F_X10_more s (F_X10_heightIn ((μ 521 62) + (nI i)) μ) μ) := by unfold g_X10_bags_47; rfl
    rw [e] at hS
    exact r_sub [2, 3, 4, 5, 1, 0] rfl hS
def NX10_bags_47 (p1 : Int32) (p2 : Int32) (μ : Mem) : Nat := ix p2
def SX10_bags_47 (p1 : Int32) (p2 : Int32) (μ : Mem) : Int32 := fo (NX10_bags_47 p1 p2 μ) (g_X10_bags_47 p1 p2 0 (muX10_bags_3 p1 p2 μ)) 0
def g_X10_bags_83 (v1 : Int32) (v2 : Int32) (v4 : Int32) (μ : Mem) (i : Nat) (s : Int32) : Int32 := (if (F_X10_has v1 (nI i) μ) ≠ 0 then (s + (((F_X10_waterBy 521 (nI i) v4 μ) + 1) / 2)) else s)
def Pb_X10_bags_83 (v1 : Int32) (v2 : Int32) (v4 : Int32) (μ : Mem) (i : Nat) (s : Int32) : Prop := (((μ 61 0) ≤ (nI i) → False) ∧ ((nI i) < (μ 61 0) → (((F_X10_has v1 (nI i) μ) ≠ 0 → (P_X10_waterBy 521 (nI i) v4 μ) ∧ (vp_in (50 + (nI i)) 63) ∧ ((((μ 521 (ix (50 + (nI i)))) + (((F_X10_waterBy 521 (nI i) v4 μ) + 1) / 2)) ≤ 9 → True) ∧ (9 < ((μ 521 (ix (50 + (nI i)))) + (((F_X10_waterBy 521 (nI i) v4 μ) + 1) / 2)) → False))) ∧ ((F_X10_has v1 (nI i) μ) = 0 → True))))
def Cb_X10_bags_83 (v1 : Int32) (v2 : Int32) (v4 : Int32) (μ : Mem) (i : Nat) (s : Int32) : Bool := (if (μ 61 0) ≤ (nI i) then false else (if (F_X10_has v1 (nI i) μ) ≠ 0 then (if ((μ 521 (ix (50 + (nI i)))) + (((F_X10_waterBy 521 (nI i) v4 μ) + 1) / 2)) ≤ 9 then true else false) else true))
set_option maxRecDepth 20000 in
set_option maxHeartbeats 2000000 in
theorem lp_X10_bags_83 {G : SG} (hG : GK 548 G)  (v1 : Int32) (v2 : Int32) (v4 : Int32) (μ : Mem) (s0 : Int32) (N : Nat) (sN : Int32) (eN : sN = fo N (g_X10_bags_83 v1 v2 v4 μ) s0) (hN : ∀ i, i < N → Pb_X10_bags_83 v1 v2 v4 μ i (fo i (g_X10_bags_83 v1 v2 v4 μ) s0)) {t : Nat} {Q : PQ} {X : PX} (h : R G mX10_bags 83 [(0, .ref (ga G 57)), (1, .int v1), (2, .int v2), (3, .int sN), (4, .int v4), (5, .int (nI N))] [] μ t Q X) : R G mX10_bags 83 [(0, .ref (ga G 57)), (1, .int v1), (2, .int v2), (3, .int s0), (4, .int v4), (5, .int 0)] [] μ t Q X := by
  subst eN
  refine down_i N (fun i => R G mX10_bags 83 [(0, .ref (ga G 57)), (1, .int v1), (2, .int v2), (3, .int (fo i (g_X10_bags_83 v1 v2 v4 μ) s0)), (4, .int v4), (5, .int (nI i))] [] μ t Q X) h (fun i hi hS => ?_)
  have hP := hN i hi
  rw [fo_succ] at hS
  rw [nI_succ] at hS
  generalize fo i (g_X10_bags_83 v1 v2 v4 μ) s0 = s at hS hP ⊢
  unfold Pb_X10_bags_83 at hP
  refine r_iload dX10_bags_83 5 rfl ?_
  refine r_aload_n dX10_bags_85 0 rfl ?_
  refine r_getR 61 fX10_23 (hG.lt (by decide)) sh57 fs57_12 dX10_bags_86 ?_
  refine r_iconst 0 dX10_bags_89 rfl ?_
  refine r_ialdK 0 rfl (hG.lt (by decide)) sh61 (vp_of (by decide) (by decide)) dX10_bags_90 ?_
  refine r_icmp_ge 155 dX10_bags_91 (by decide) (fun c1 => ?_) (fun c1 => ?_)
  · replace hP := hP.1 c1
    exact hP.elim
  · replace hP := hP.2 c1
    refine r_iload_n dX10_bags_94 1 rfl ?_
    refine r_iload dX10_bags_95 5 rfl ?_
    refine r_csI (ok_X10_has hG v1 (nI i) μ) lX10_268 dX10_bags_97 (by decide) (Nat.le_of_ble_eq_true rfl) rfl (Nat.le_of_ble_eq_true rfl) ?_
    refine r_if_ne 106 dX10_bags_100 (by decide) (fun c2 => ?_) (fun c2 => ?_)
    · replace hP := hP.1 c2
      refine r_aload_n dX10_bags_106 0 rfl ?_
      refine r_aload_n dX10_bags_107 0 rfl ?_
      refine r_getR 521 fX10_73 (hG.lt (by decide)) sh57 fs57_31 dX10_bags_108 ?_
      refine r_iload dX10_bags_111 5 rfl ?_
      refine r_iload dX10_bags_113 4 rfl ?_
      have hs1 := hP.1
      replace hP := hP.2
      refine r_cvI (ok_X10_waterBy hG (hG.lt (by decide)) sh521 (nI i) v4 μ hs1) lX10_282 (hG.lt (by decide)) sh57 ⟨_, _, rfl⟩ dX10_bags_115 (by decide) (Nat.le_of_ble_eq_true rfl) rfl (Nat.le_of_ble_eq_true rfl) ?_
      refine r_iconst 1 dX10_bags_118 rfl ?_
      refine r_iadd dX10_bags_119 ?_
      refine r_iconst 2 dX10_bags_120 rfl ?_
      refine r_idiv dX10_bags_121 (by decide) ?_
      refine r_istore [(6, _), (0, _), (1, _), (2, _), (3, _), (4, _), (5, _)] dX10_bags_122 (Nat.le_of_ble_eq_true rfl) rfl ?_
      refine r_aload_n dX10_bags_124 1 rfl ?_
      refine r_getR 521 fX10_73 (hG.lt (by decide)) sh57 fs57_31 dX10_bags_125 ?_
      refine r_bipush 50 dX10_bags_128 rfl ?_
      refine r_iload dX10_bags_130 6 rfl ?_
      refine r_iadd dX10_bags_132 ?_
      have hs2 := hP.1
      replace hP := hP.2
      refine r_iald (hG.lt (by decide)) sh521 hs2 dX10_bags_133 ?_
      refine r_iload dX10_bags_134 0 rfl ?_
      refine r_iadd dX10_bags_136 ?_
      refine r_bipush 9 dX10_bags_137 rfl ?_
      refine r_icmp_le 144 dX10_bags_139 (by decide) (fun c3 => ?_) (fun c3 => ?_)
      · replace hP := hP.1 c3
        refine r_iload_n dX10_bags_144 4 rfl ?_
        refine r_iload dX10_bags_145 0 rfl ?_
        refine r_iadd dX10_bags_147 ?_
        refine r_istore_n [(3, _), (6, _), (0, _), (1, _), (2, _), (4, _), (5, _)] dX10_bags_148 (Nat.le_of_ble_eq_true rfl) rfl ?_
        refine r_iinc ((nI i) + 1) [(5, _), (3, _), (6, _), (0, _), (1, _), (2, _), (4, _)] dX10_bags_149 6 rfl rfl (Nat.le_of_ble_eq_true rfl) rfl ?_
        refine r_goto 83 dX10_bags_152 (by decide) ?_
        have e : g_X10_bags_83 v1 v2 v4 μ i s = (s + (((F_X10_waterBy 521 (nI i) v4 μ) + 1) / 2)) := by unfold g_X10_bags_83; rw [if_pos c2]
        rw [e] at hS
        exact r_sub [3, 4, 5, 1, 6, 0] rfl hS
      · replace hP := hP.2 c3
        refine r_iconst (-1) dX10_bags_142 rfl ?_
        exact hP.elim
    · replace hP := hP.2 c2
      refine r_goto 149 dX10_bags_103 (by decide) ?_
      refine r_iinc ((nI i) + 1) [(5, _), (0, _), (1, _), (2, _), (3, _), (4, _)] dX10_bags_149 5 rfl rfl (Nat.le_of_ble_eq_true rfl) rfl ?_
      refine r_goto 83 dX10_bags_152 (by decide) ?_
      have e : g_X10_bags_83 v1 v2 v4 μ i s = s := by unfold g_X10_bags_83; rw [if_neg (not_not_intro c2)]
      rw [e] at hS
      exact r_sub [1, 2, 3, 4, 5, 0] rfl hS
def NX10_bags_83 (p1 : Int32) (p2 : Int32) (μ : Mem) : Nat := (fst 7 (fun j9 => !Cb_X10_bags_83 p1 p2 (SX10_bags_47 p1 p2 μ) (muX10_bags_3 p1 p2 μ) j9 (fo j9 (g_X10_bags_83 p1 p2 (SX10_bags_47 p1 p2 μ) (muX10_bags_3 p1 p2 μ)) 0)))
def SX10_bags_83 (p1 : Int32) (p2 : Int32) (μ : Mem) : Int32 := fo (NX10_bags_83 p1 p2 μ) (g_X10_bags_83 p1 p2 (SX10_bags_47 p1 p2 μ) (muX10_bags_3 p1 p2 μ)) 0
def F_X10_bags (p1 : Int32) (p2 : Int32) (μ : Mem) : Int32 := (if (F_X10_bad (VX10_bags_2 p1 p2 μ) 1 1 (muX10_bags_1 p1 p2 μ)) = 0 then (if ((muX10_bags_3 p1 p2 μ) 61 0) ≤ (nI (NX10_bags_83 p1 p2 μ)) then (SX10_bags_83 p1 p2 μ) else (-1)) else 0)
def M_X10_bags (p1 : Int32) (p2 : Int32) (μ : Mem) : Mem := (muX10_bags_3 p1 p2 μ)
def P_X10_bags (p1 : Int32) (p2 : Int32) (μ : Mem) : Prop := ((P_X10_bad (VX10_bags_2 p1 p2 μ) 1 1 (muX10_bags_1 p1 p2 μ)) ∧ (((F_X10_bad (VX10_bags_2 p1 p2 μ) 1 1 (muX10_bags_1 p1 p2 μ)) = 0 → ((∀ j9, j9 < (NX10_bags_47 p1 p2 μ) → Pb_X10_bags_47 p1 p2 0 (muX10_bags_3 p1 p2 μ) j9 (fo j9 (g_X10_bags_47 p1 p2 0 (muX10_bags_3 p1 p2 μ)) 0)) ∧ ((p2 ≤ (nI (NX10_bags_47 p1 p2 μ)) → ((∀ j9, j9 < (NX10_bags_83 p1 p2 μ) → Pb_X10_bags_83 p1 p2 (SX10_bags_47 p1 p2 μ) (muX10_bags_3 p1 p2 μ) j9 (fo j9 (g_X10_bags_83 p1 p2 (SX10_bags_47 p1 p2 μ) (muX10_bags_3 p1 p2 μ)) 0)) ∧ ((((muX10_bags_3 p1 p2 μ) 61 0) ≤ (nI (NX10_bags_83 p1 p2 μ)) → True) ∧ ((nI (NX10_bags_83 p1 p2 μ)) < ((muX10_bags_3 p1 p2 μ) 61 0) → (((F_X10_has p1 (nI (NX10_bags_83 p1 p2 μ)) (muX10_bags_3 p1 p2 μ)) ≠ 0 → ((P_X10_waterBy 521 (nI (NX10_bags_83 p1 p2 μ)) (SX10_bags_47 p1 p2 μ) (muX10_bags_3 p1 p2 μ)) ∧ ((vp_in (50 + (nI (NX10_bags_83 p1 p2 μ))) 63) ∧ (((((muX10_bags_3 p1 p2 μ) 521 (ix (50 + (nI (NX10_bags_83 p1 p2 μ))))) + (((F_X10_waterBy 521 (nI (NX10_bags_83 p1 p2 μ)) (SX10_bags_47 p1 p2 μ) (muX10_bags_3 p1 p2 μ)) + 1) / 2)) ≤ 9 → False) ∧ (9 < (((muX10_bags_3 p1 p2 μ) 521 (ix (50 + (nI (NX10_bags_83 p1 p2 μ))))) + (((F_X10_waterBy 521 (nI (NX10_bags_83 p1 p2 μ)) (SX10_bags_47 p1 p2 μ) (muX10_bags_3 p1 p2 μ)) + 1) / 2)) → True))))) ∧ ((F_X10_has p1 (nI (NX10_bags_83 p1 p2 μ)) (muX10_bags_3 p1 p2 μ)) = 0 → False)))))) ∧ ((nI (NX10_bags_47 p1 p2 μ)) < p2 → ((P_X10_heightIn (((muX10_bags_3 p1 p2 μ) 521 62) + (nI (NX10_bags_47 p1 p2 μ))) (muX10_bags_3 p1 p2 μ)) ∧ False))))) ∧ (¬ (F_X10_bad (VX10_bags_2 p1 p2 μ) 1 1 (muX10_bags_1 p1 p2 μ)) = 0 → True)))
set_option maxRecDepth 20000 in
set_option maxHeartbeats 2000000 in
theorem ok_X10_bags {G : SG} (hG : GK 548 G) (p1 : Int32) (p2 : Int32) (μ : Mem) (hP : P_X10_bags p1 p2 μ) : OkF G mX10_bags [.ref (ga G 57), .int p1, .int p2] μ (some (.int (F_X10_bags p1 p2 μ))) (M_X10_bags p1 p2 μ) := by
  refine okF_of hG rfl rfl (Nat.le_of_ble_eq_true rfl) ?_
  unfold P_X10_bags at hP
  refine r_aload_n dX10_bags_0 0 rfl ?_
  refine r_iconst 0 dX10_bags_1 rfl ?_
  refine r_put fiX10_103 (hG.lt (by decide)) sh57 fs57_0 dX10_bags_2 ?_
  refine r_mu (muX10_bags_1 p1 p2 μ) rfl ?_
  refine r_aload_n dX10_bags_5 0 rfl ?_
  refine r_aload_n dX10_bags_6 0 rfl ?_
  refine r_iload_n dX10_bags_7 1 rfl ?_
  refine r_cvI (ok_X10_areHouses hG p1 (muX10_bags_1 p1 p2 μ)) lX10_362 (hG.lt (by decide)) sh57 ⟨_, _, rfl⟩ dX10_bags_8 (by decide) (Nat.le_of_ble_eq_true rfl) rfl (Nat.le_of_ble_eq_true rfl) ?_
  refine r_join 29 [(0, .ref (ga G 57)), (1, .int p1), (2, .int p2)] [.int (VX10_bags_2 p1 p2 μ), .ref (ga G 57)] (muX10_bags_1 p1 p2 μ) ?_ (fun hJ => ?_)
  · refine r_iconst 1 dX10_bags_29 rfl ?_
    refine r_iconst 1 dX10_bags_30 rfl ?_
    have hs1 := hP.1
    replace hP := hP.2
    refine r_cvI (ok_X10_bad hG (VX10_bags_2 p1 p2 μ) 1 1 (muX10_bags_1 p1 p2 μ) hs1) lX10_186 (hG.lt (by decide)) sh57 ⟨_, _, rfl⟩ dX10_bags_31 (by decide) (Nat.le_of_ble_eq_true rfl) rfl (Nat.le_of_ble_eq_true rfl) ?_
    refine r_mu (muX10_bags_3 p1 p2 μ) rfl ?_
    refine r_if_eq 39 dX10_bags_34 (by decide) (fun c1 => ?_) (fun c1 => ?_)
    · replace hP := hP.1 c1
      refine r_iconst 0 dX10_bags_39 rfl ?_
      refine r_istore_n [(3, _), (0, _), (1, _), (2, _)] dX10_bags_40 (Nat.le_of_ble_eq_true rfl) rfl ?_
      refine r_iconst 0 dX10_bags_41 rfl ?_
      refine r_istore [(4, _), (3, _), (0, _), (1, _), (2, _)] dX10_bags_42 (Nat.le_of_ble_eq_true rfl) rfl ?_
      refine r_iconst 0 dX10_bags_44 rfl ?_
      refine r_istore [(5, _), (4, _), (3, _), (0, _), (1, _), (2, _)] dX10_bags_45 (Nat.le_of_ble_eq_true rfl) rfl ?_
      have hs2 := hP.1
      replace hP := hP.2
      refine r_sub [3, 4, 5, 2, 1, 0] rfl ?_
      refine lp_X10_bags_47 hG p1 p2 0 (muX10_bags_3 p1 p2 μ) 0 ((NX10_bags_47 p1 p2 μ)) (SX10_bags_47 p1 p2 μ) rfl hs2 ?_
      refine r_iload dX10_bags_47 5 rfl ?_
      refine r_iload_n dX10_bags_49 2 rfl ?_
      refine r_icmp_ge 80 dX10_bags_50 (by decide) (fun c2 => ?_) (fun c2 => ?_)
      · replace hP := hP.1 c2
        refine r_iconst 0 dX10_bags_80 rfl ?_
        refine r_istore [(5, _), (0, _), (1, _), (2, _), (3, _), (4, _)] dX10_bags_81 (Nat.le_of_ble_eq_true rfl) rfl ?_
        have hs4 := hP.1
        replace hP := hP.2
        refine r_sub [1, 2, 3, 4, 5, 0] rfl ?_
        refine lp_X10_bags_83 hG p1 p2 (SX10_bags_47 p1 p2 μ) (muX10_bags_3 p1 p2 μ) 0 ((NX10_bags_83 p1 p2 μ)) (SX10_bags_83 p1 p2 μ) rfl hs4 ?_
        refine r_iload dX10_bags_83 5 rfl ?_
        refine r_aload_n dX10_bags_85 0 rfl ?_
        refine r_getR 61 fX10_23 (hG.lt (by decide)) sh57 fs57_12 dX10_bags_86 ?_
        refine r_iconst 0 dX10_bags_89 rfl ?_
        refine r_ialdK 0 rfl (hG.lt (by decide)) sh61 (vp_of (by decide) (by decide)) dX10_bags_90 ?_
        refine r_icmp_ge 155 dX10_bags_91 (by decide) (fun c3 => ?_) (fun c3 => ?_)
        · replace hP := hP.1 c3
          refine r_iload_n dX10_bags_155 3 rfl ?_
          exact r_ireturn _ dX10_bags_156 rfl rfl ⟨congrArg (fun z => some (Value.int z)) (by unfold F_X10_bags; rw [if_pos c1, if_pos c3]), rfl⟩
        · replace hP := hP.2 c3
          refine r_iload_n dX10_bags_94 1 rfl ?_
          refine r_iload dX10_bags_95 5 rfl ?_
          refine r_csI (ok_X10_has hG p1 (nI (NX10_bags_83 p1 p2 μ)) (muX10_bags_3 p1 p2 μ)) lX10_268 dX10_bags_97 (by decide) (Nat.le_of_ble_eq_true rfl) rfl (Nat.le_of_ble_eq_true rfl) ?_
          refine r_if_ne 106 dX10_bags_100 (by decide) (fun c4 => ?_) (fun c4 => ?_)
          · replace hP := hP.1 c4
            refine r_aload_n dX10_bags_106 0 rfl ?_
            refine r_aload_n dX10_bags_107 0 rfl ?_
            refine r_getR 521 fX10_73 (hG.lt (by decide)) sh57 fs57_31 dX10_bags_108 ?_
            refine r_iload dX10_bags_111 5 rfl ?_
            refine r_iload dX10_bags_113 4 rfl ?_
            have hs5 := hP.1
            replace hP := hP.2
            refine r_cvI (ok_X10_waterBy hG (hG.lt (by decide)) sh521 (nI (NX10_bags_83 p1 p2 μ)) (SX10_bags_47 p1 p2 μ) (muX10_bags_3 p1 p2 μ) hs5) lX10_282 (hG.lt (by decide)) sh57 ⟨_, _, rfl⟩ dX10_bags_115 (by decide) (Nat.le_of_ble_eq_true rfl) rfl (Nat.le_of_ble_eq_true rfl) ?_
            refine r_iconst 1 dX10_bags_118 rfl ?_
            refine r_iadd dX10_bags_119 ?_
            refine r_iconst 2 dX10_bags_120 rfl ?_
            refine r_idiv dX10_bags_121 (by decide) ?_
            refine r_istore [(6, _), (0, _), (1, _), (2, _), (3, _), (4, _), (5, _)] dX10_bags_122 (Nat.le_of_ble_eq_true rfl) rfl ?_
            refine r_aload_n dX10_bags_124 1 rfl ?_
            refine r_getR 521 fX10_73 (hG.lt (by decide)) sh57 fs57_31 dX10_bags_125 ?_
            refine r_bipush 50 dX10_bags_128 rfl ?_
            refine r_iload dX10_bags_130 6 rfl ?_
            refine r_iadd dX10_bags_132 ?_
            have hs6 := hP.1
            replace hP := hP.2
            refine r_iald (hG.lt (by decide)) sh521 hs6 dX10_bags_133 ?_
            refine r_iload dX10_bags_134 0 rfl ?_
            refine r_iadd dX10_bags_136 ?_
            refine r_bipush 9 dX10_bags_137 rfl ?_
            refine r_icmp_le 144 dX10_bags_139 (by decide) (fun c5 => ?_) (fun c5 => ?_)
            · replace hP := hP.1 c5
              refine r_iload_n dX10_bags_144 4 rfl ?_
              refine r_iload dX10_bags_145 0 rfl ?_
              refine r_iadd dX10_bags_147 ?_
              refine r_istore_n [(3, _), (6, _), (0, _), (1, _), (2, _), (4, _), (5, _)] dX10_bags_148 (Nat.le_of_ble_eq_true rfl) rfl ?_
              refine r_iinc ((nI (NX10_bags_83 p1 p2 μ)) + 1) [(5, _), (3, _), (6, _), (0, _), (1, _), (2, _), (4, _)] dX10_bags_149 6 rfl rfl (Nat.le_of_ble_eq_true rfl) rfl ?_
              refine r_goto 83 dX10_bags_152 (by decide) ?_
              exact hP.elim
            · replace hP := hP.2 c5
              refine r_iconst (-1) dX10_bags_142 rfl ?_
              exact r_ireturn _ dX10_bags_143 rfl rfl ⟨congrArg (fun z => some (Value.int z)) (by unfold F_X10_bags; rw [if_pos c1, if_neg (i32_ng c3)]), rfl⟩
          · replace hP := hP.2 c4
            refine r_goto 149 dX10_bags_103 (by decide) ?_
            refine r_iinc ((nI (NX10_bags_83 p1 p2 μ)) + 1) [(5, _), (0, _), (1, _), (2, _), (3, _), (4, _)] dX10_bags_149 5 rfl rfl (Nat.le_of_ble_eq_true rfl) rfl ?_
            refine r_goto 83 dX10_bags_152 (by decide) ?_
            exact hP.elim
      · replace hP := hP.2 c2
        refine r_iload dX10_bags_53 4 rfl ?_
        refine r_aload_n dX10_bags_55 0 rfl ?_
        refine r_aload_n dX10_bags_56 0 rfl ?_
        refine r_getR 521 fX10_73 (hG.lt (by decide)) sh57 fs57_31 dX10_bags_57 ?_
        refine r_bipush 62 dX10_bags_60 rfl ?_
        refine r_ialdK 62 rfl (hG.lt (by decide)) sh521 (vp_of (by decide) (by decide)) dX10_bags_62 ?_
        refine r_iload dX10_bags_63 5 rfl ?_
        refine r_iadd dX10_bags_65 ?_
        have hs7 := hP.1
        replace hP := hP.2
        refine r_cvI (ok_X10_heightIn hG (((muX10_bags_3 p1 p2 μ) 521 62) + (nI (NX10_bags_47 p1 p2 μ))) (muX10_bags_3 p1 p2 μ) hs7) lX10_276 (hG.lt (by decide)) sh57 ⟨_, _, rfl⟩ dX10_bags_66 (by decide) (Nat.le_of_ble_eq_true rfl) rfl (Nat.le_of_ble_eq_true rfl) ?_
        refine r_csI (ok_X10_more hG (SX10_bags_47 p1 p2 μ) (F_X10_heightIn (((muX10_bags_3 p1 p2 μ) 521 62) + (nI (NX10_bags_47 p1 p2 μ))) (muX10_bags_3 p1 p2 μ)) (muX10_bags_3 p1 p2 μ)) lX10_252 dX10_bags_69 (by decide) (Nat.le_of_ble_eq_true rfl) rfl (Nat.le_of_ble_eq_true rfl) ?_
        refine r_istore [(4, _), (0, _), (1, _), (2, _), (3, _), (5, _)] dX10_bags_72 (Nat.le_of_ble_eq_true rfl) rfl ?_
        refine r_iinc ((nI (NX10_bags_47 p1 p2 μ)) + 1) [(5, _), (4, _), (0, _), (1, _), (2, _), (3, _)] dX10_bags_74 5 rfl rfl (Nat.le_of_ble_eq_true rfl) rfl ?_
        refine r_goto 47 dX10_bags_77 (by decide) ?_
        exact hP.elim
    · replace hP := hP.2 c1
      refine r_iconst 0 dX10_bags_37 rfl ?_
      exact r_ireturn _ dX10_bags_38 rfl rfl ⟨congrArg (fun z => some (Value.int z)) (by unfold F_X10_bags; rw [if_neg c1]), rfl⟩
  · refine r_if_eq 24 dX10_bags_11 (by decide) (fun c1 => ?_) (fun c1 => ?_)
    · refine r_iconst 1 dX10_bags_24 rfl ?_
      refine r_goto 29 dX10_bags_25 (by decide) ?_
      have e : (VX10_bags_2 p1 p2 μ) = 1 := by unfold VX10_bags_2; rw [if_pos c1]
      rw [e] at hJ
      exact r_sub [0, 1, 2] rfl hJ
    · refine r_iload_n dX10_bags_14 2 rfl ?_
      refine r_iconst 0 dX10_bags_15 rfl ?_
      refine r_bipush 24 dX10_bags_16 rfl ?_
      refine r_csI (ok_X10_isIn hG p2 0 24 (muX10_bags_1 p1 p2 μ)) lX10_137 dX10_bags_18 (by decide) (Nat.le_of_ble_eq_true rfl) rfl (Nat.le_of_ble_eq_true rfl) ?_
      refine r_if_ne 28 dX10_bags_21 (by decide) (fun c2 => ?_) (fun c2 => ?_)
      · refine r_iconst 0 dX10_bags_28 rfl ?_
        have e : (VX10_bags_2 p1 p2 μ) = 0 := by unfold VX10_bags_2; rw [if_neg c1, if_pos c2]
        rw [e] at hJ
        exact r_sub [0, 1, 2] rfl hJ
      · refine r_iconst 1 dX10_bags_24 rfl ?_
        refine r_goto 29 dX10_bags_25 (by decide) ?_
        have e : (VX10_bags_2 p1 p2 μ) = 1 := by unfold VX10_bags_2; rw [if_neg c1, if_neg (not_not_intro c2)]
        rw [e] at hJ
        exact r_sub [0, 1, 2] rfl hJ
def F_X10_seaHas (p0 : Int32) (p1 : Int32) (p2 : Int32) (p3 : Int32) (μ : Mem) : Int32 := (if p2 < (p0 + p1) then p3 else (16 * p0))
set_option maxRecDepth 20000 in
set_option maxHeartbeats 2000000 in
theorem ok_X10_seaHas {G : SG} (hG : GK 548 G) (p0 : Int32) (p1 : Int32) (p2 : Int32) (p3 : Int32) (μ : Mem) : OkF G mX10_seaHas [.int p0, .int p1, .int p2, .int p3] μ (some (.int (F_X10_seaHas p0 p1 p2 p3 μ))) μ := by
  refine okF_of hG rfl rfl (Nat.le_of_ble_eq_true rfl) ?_
  refine r_iload_n dX10_seaHas_0 0 rfl ?_
  refine r_iload_n dX10_seaHas_1 1 rfl ?_
  refine r_iadd dX10_seaHas_2 ?_
  refine r_iload_n dX10_seaHas_3 2 rfl ?_
  refine r_icmp_gt 14 dX10_seaHas_4 (by decide) (fun c1 => ?_) (fun c1 => ?_)
  · refine r_iload_n dX10_seaHas_14 3 rfl ?_
    exact r_ireturn _ dX10_seaHas_15 rfl rfl ⟨congrArg (fun z => some (Value.int z)) (by unfold F_X10_seaHas; rw [if_pos c1]), rfl⟩
  · refine r_bipush 16 dX10_seaHas_7 rfl ?_
    refine r_iload_n dX10_seaHas_9 0 rfl ?_
    refine r_imul dX10_seaHas_10 ?_
    refine r_goto 15 dX10_seaHas_11 (by decide) ?_
    exact r_ireturn _ dX10_seaHas_15 rfl rfl ⟨congrArg (fun z => some (Value.int z)) (by unfold F_X10_seaHas; rw [if_neg (i32_nl c1)]), rfl⟩
def F_X10_houseHas (p0 : Int32) (p1 : Int32) (p2 : Int32) (p3 : Int32) (μ : Mem) : Int32 := (if p2 < (p0 + p1) then (16 - p3) else (16 * p1))
set_option maxRecDepth 20000 in
set_option maxHeartbeats 2000000 in
theorem ok_X10_houseHas {G : SG} (hG : GK 548 G) (p0 : Int32) (p1 : Int32) (p2 : Int32) (p3 : Int32) (μ : Mem) : OkF G mX10_houseHas [.int p0, .int p1, .int p2, .int p3] μ (some (.int (F_X10_houseHas p0 p1 p2 p3 μ))) μ := by
  refine okF_of hG rfl rfl (Nat.le_of_ble_eq_true rfl) ?_
  refine r_iload_n dX10_houseHas_0 0 rfl ?_
  refine r_iload_n dX10_houseHas_1 1 rfl ?_
  refine r_iadd dX10_houseHas_2 ?_
  refine r_iload_n dX10_houseHas_3 2 rfl ?_
  refine r_icmp_gt 14 dX10_houseHas_4 (by decide) (fun c1 => ?_) (fun c1 => ?_)
  · refine r_bipush 16 dX10_houseHas_14 rfl ?_
    refine r_iload_n dX10_houseHas_16 3 rfl ?_
    refine r_isub dX10_houseHas_17 ?_
    exact r_ireturn _ dX10_houseHas_18 rfl rfl ⟨congrArg (fun z => some (Value.int z)) (by unfold F_X10_houseHas; rw [if_pos c1]), rfl⟩
  · refine r_bipush 16 dX10_houseHas_7 rfl ?_
    refine r_iload_n dX10_houseHas_9 1 rfl ?_
    refine r_imul dX10_houseHas_10 ?_
    refine r_goto 18 dX10_houseHas_11 (by decide) ?_
    exact r_ireturn _ dX10_houseHas_18 rfl rfl ⟨congrArg (fun z => some (Value.int z)) (by unfold F_X10_houseHas; rw [if_neg (i32_nl c1)]), rfl⟩
def g_X10_isRest_3 (v0 : Int32) (v1 : Int32) (v2 : Int32) (v3 : Int32) (μ : Mem) (i : Nat) (s : Unit) : Unit := ()
def Pb_X10_isRest_3 (v0 : Int32) (v1 : Int32) (v2 : Int32) (v3 : Int32) (μ : Mem) (i : Nat) (s : Unit) : Prop := ((v2 < (nI i) → False) ∧ ((nI i) ≤ v2 → (((F_X10_seaHas v0 v1 v2 v3 μ) < (F_X10_seaHas (nI i) v1 v2 v3 μ) → False) ∧ ((F_X10_seaHas (nI i) v1 v2 v3 μ) ≤ (F_X10_seaHas v0 v1 v2 v3 μ) → (((F_X10_houseHas v0 (nI i) v2 v3 μ) ≤ (F_X10_houseHas v0 v1 v2 v3 μ) → True) ∧ ((F_X10_houseHas v0 v1 v2 v3 μ) < (F_X10_houseHas v0 (nI i) v2 v3 μ) → False))))))
def Cb_X10_isRest_3 (v0 : Int32) (v1 : Int32) (v2 : Int32) (v3 : Int32) (μ : Mem) (i : Nat) (s : Unit) : Bool := (if v2 < (nI i) then false else (if (F_X10_seaHas v0 v1 v2 v3 μ) < (F_X10_seaHas (nI i) v1 v2 v3 μ) then false else (if (F_X10_houseHas v0 (nI i) v2 v3 μ) ≤ (F_X10_houseHas v0 v1 v2 v3 μ) then true else false)))
set_option maxRecDepth 20000 in
set_option maxHeartbeats 2000000 in
theorem lp_X10_isRest_3 {G : SG} (hG : GK 548 G)  (v0 : Int32) (v1 : Int32) (v2 : Int32) (v3 : Int32) (μ : Mem) (s0 : Unit) (N : Nat) (sN : Unit) (eN : sN = fo N (g_X10_isRest_3 v0 v1 v2 v3 μ) s0) (hN : ∀ i, i < N → Pb_X10_isRest_3 v0 v1 v2 v3 μ i (fo i (g_X10_isRest_3 v0 v1 v2 v3 μ) s0)) {t : Nat} {Q : PQ} {X : PX} (h : R G mX10_isRest 3 [(0, .int v0), (1, .int v1), (2, .int v2), (3, .int v3), (4, .int (nI N))] [] μ t Q X) : R G mX10_isRest 3 [(0, .int v0), (1, .int v1), (2, .int v2), (3, .int v3), (4, .int 0)] [] μ t Q X := by
  subst eN
  refine down_i N (fun i => R G mX10_isRest 3 [(0, .int v0), (1, .int v1), (2, .int v2), (3, .int v3), (4, .int (nI i))] [] μ t Q X) h (fun i hi hS => ?_)
  have hP := hN i hi
  rw [nI_succ] at hS
  generalize fo i (g_X10_isRest_3 v0 v1 v2 v3 μ) s0 = s at hS hP ⊢
  unfold Pb_X10_isRest_3 at hP
  refine r_iload dX10_isRest_3 4 rfl ?_
  refine r_iload_n dX10_isRest_5 2 rfl ?_
  refine r_icmp_gt 53 dX10_isRest_6 (by decide) (fun c1 => ?_) (fun c1 => ?_)
  · replace hP := hP.1 c1
    exact hP.elim
  · replace hP := hP.2 c1
    refine r_iload dX10_isRest_9 4 rfl ?_
    refine r_iload_n dX10_isRest_11 1 rfl ?_
    refine r_iload_n dX10_isRest_12 2 rfl ?_
    refine r_iload_n dX10_isRest_13 3 rfl ?_
    refine r_csI (ok_X10_seaHas hG (nI i) v1 v2 v3 μ) lX10_371 dX10_isRest_14 (by decide) (Nat.le_of_ble_eq_true rfl) rfl (Nat.le_of_ble_eq_true rfl) ?_
    refine r_iload_n dX10_isRest_17 0 rfl ?_
    refine r_iload_n dX10_isRest_18 1 rfl ?_
    refine r_iload_n dX10_isRest_19 2 rfl ?_
    refine r_iload_n dX10_isRest_20 3 rfl ?_
    refine r_csI (ok_X10_seaHas hG v0 v1 v2 v3 μ) lX10_371 dX10_isRest_21 (by decide) (Nat.le_of_ble_eq_true rfl) rfl (Nat.le_of_ble_eq_true rfl) ?_
    refine r_icmp_gt 45 dX10_isRest_24 (by decide) (fun c2 => ?_) (fun c2 => ?_)
    · replace hP := hP.1 c2
      refine r_iconst 0 dX10_isRest_45 rfl ?_
      exact hP.elim
    · replace hP := hP.2 c2
      refine r_iload_n dX10_isRest_27 0 rfl ?_
      refine r_iload dX10_isRest_28 4 rfl ?_
      refine r_iload_n dX10_isRest_30 2 rfl ?_
      refine r_iload_n dX10_isRest_31 3 rfl ?_
      refine r_csI (ok_X10_houseHas hG v0 (nI i) v2 v3 μ) lX10_375 dX10_isRest_32 (by decide) (Nat.le_of_ble_eq_true rfl) rfl (Nat.le_of_ble_eq_true rfl) ?_
      refine r_iload_n dX10_isRest_35 0 rfl ?_
      refine r_iload_n dX10_isRest_36 1 rfl ?_
      refine r_iload_n dX10_isRest_37 2 rfl ?_
      refine r_iload_n dX10_isRest_38 3 rfl ?_
      refine r_csI (ok_X10_houseHas hG v0 v1 v2 v3 μ) lX10_375 dX10_isRest_39 (by decide) (Nat.le_of_ble_eq_true rfl) rfl (Nat.le_of_ble_eq_true rfl) ?_
      refine r_icmp_le 47 dX10_isRest_42 (by decide) (fun c3 => ?_) (fun c3 => ?_)
      · replace hP := hP.1 c3
        refine r_iinc ((nI i) + 1) [(4, _), (0, _), (1, _), (2, _), (3, _)] dX10_isRest_47 4 rfl rfl (Nat.le_of_ble_eq_true rfl) rfl ?_
        refine r_goto 3 dX10_isRest_50 (by decide) ?_
        exact r_sub [1, 2, 3, 4, 0] rfl hS
      · replace hP := hP.2 c3
        refine r_iconst 0 dX10_isRest_45 rfl ?_
        exact hP.elim
def NX10_isRest_3 (p0 : Int32) (p1 : Int32) (p2 : Int32) (p3 : Int32) (μ : Mem) : Nat := (fst 14 (fun j9 => !Cb_X10_isRest_3 p0 p1 p2 p3 μ j9 (fo j9 (g_X10_isRest_3 p0 p1 p2 p3 μ) ())))
def SX10_isRest_3 (p0 : Int32) (p1 : Int32) (p2 : Int32) (p3 : Int32) (μ : Mem) : Unit := fo (NX10_isRest_3 p0 p1 p2 p3 μ) (g_X10_isRest_3 p0 p1 p2 p3 μ) ()
def F_X10_isRest (p0 : Int32) (p1 : Int32) (p2 : Int32) (p3 : Int32) (μ : Mem) : Int32 := (if p2 < (nI (NX10_isRest_3 p0 p1 p2 p3 μ)) then 1 else 0)
def P_X10_isRest (p0 : Int32) (p1 : Int32) (p2 : Int32) (p3 : Int32) (μ : Mem) : Prop := ((∀ j9, j9 < (NX10_isRest_3 p0 p1 p2 p3 μ) → Pb_X10_isRest_3 p0 p1 p2 p3 μ j9 (fo j9 (g_X10_isRest_3 p0 p1 p2 p3 μ) ())) ∧ ((p2 < (nI (NX10_isRest_3 p0 p1 p2 p3 μ)) → True) ∧ ((nI (NX10_isRest_3 p0 p1 p2 p3 μ)) ≤ p2 → (((F_X10_seaHas p0 p1 p2 p3 μ) < (F_X10_seaHas (nI (NX10_isRest_3 p0 p1 p2 p3 μ)) p1 p2 p3 μ) → True) ∧ ((F_X10_seaHas (nI (NX10_isRest_3 p0 p1 p2 p3 μ)) p1 p2 p3 μ) ≤ (F_X10_seaHas p0 p1 p2 p3 μ) → (((F_X10_houseHas p0 (nI (NX10_isRest_3 p0 p1 p2 p3 μ)) p2 p3 μ) ≤ (F_X10_houseHas p0 p1 p2 p3 μ) → False) ∧ ((F_X10_houseHas p0 p1 p2 p3 μ) < (F_X10_houseHas p0 (nI (NX10_isRest_3 p0 p1 p2 p3 μ)) p2 p3 μ) → True)))))))
theorem bo_X10_isRest (p0 : Int32) (p1 : Int32) (p2 : Int32) (p3 : Int32) (μ : Mem) : F_X10_isRest p0 p1 p2 p3 μ = 0 ∨ F_X10_isRest p0 p1 p2 p3 μ = 1 := by
  unfold F_X10_isRest
  split
  · exact Or.inr rfl
  · exact Or.inl rfl
set_option maxRecDepth 20000 in
set_option maxHeartbeats 2000000 in
theorem ok_X10_isRest {G : SG} (hG : GK 548 G) (p0 : Int32) (p1 : Int32) (p2 : Int32) (p3 : Int32) (μ : Mem) (hP : P_X10_isRest p0 p1 p2 p3 μ) : OkF G mX10_isRest [.int p0, .int p1, .int p2, .int p3] μ (some (.int (F_X10_isRest p0 p1 p2 p3 μ))) μ := by
  refine okF_of hG rfl rfl (Nat.le_of_ble_eq_true rfl) ?_
  unfold P_X10_isRest at hP
  refine r_iconst 0 dX10_isRest_0 rfl ?_
  refine r_istore [(4, _), (0, _), (1, _), (2, _), (3, _)] dX10_isRest_1 (Nat.le_of_ble_eq_true rfl) rfl ?_
  have hs1 := hP.1
  replace hP := hP.2
  refine r_sub [1, 2, 3, 4, 0] rfl ?_
  refine lp_X10_isRest_3 hG p0 p1 p2 p3 μ () ((NX10_isRest_3 p0 p1 p2 p3 μ)) (SX10_isRest_3 p0 p1 p2 p3 μ) rfl hs1 ?_
  refine r_iload dX10_isRest_3 4 rfl ?_
  refine r_iload_n dX10_isRest_5 2 rfl ?_
  refine r_icmp_gt 53 dX10_isRest_6 (by decide) (fun c1 => ?_) (fun c1 => ?_)
  · replace hP := hP.1 c1
    refine r_iconst 1 dX10_isRest_53 rfl ?_
    exact r_ireturn _ dX10_isRest_54 rfl rfl ⟨congrArg (fun z => some (Value.int z)) (by unfold F_X10_isRest; rw [if_pos c1]), rfl⟩
  · replace hP := hP.2 c1
    refine r_iload dX10_isRest_9 4 rfl ?_
    refine r_iload_n dX10_isRest_11 1 rfl ?_
    refine r_iload_n dX10_isRest_12 2 rfl ?_
    refine r_iload_n dX10_isRest_13 3 rfl ?_
    refine r_csI (ok_X10_seaHas hG (nI (NX10_isRest_3 p0 p1 p2 p3 μ)) p1 p2 p3 μ) lX10_371 dX10_isRest_14 (by decide) (Nat.le_of_ble_eq_true rfl) rfl (Nat.le_of_ble_eq_true rfl) ?_
    refine r_iload_n dX10_isRest_17 0 rfl ?_
    refine r_iload_n dX10_isRest_18 1 rfl ?_
    refine r_iload_n dX10_isRest_19 2 rfl ?_
    refine r_iload_n dX10_isRest_20 3 rfl ?_
    refine r_csI (ok_X10_seaHas hG p0 p1 p2 p3 μ) lX10_371 dX10_isRest_21 (by decide) (Nat.le_of_ble_eq_true rfl) rfl (Nat.le_of_ble_eq_true rfl) ?_
    refine r_icmp_gt 45 dX10_isRest_24 (by decide) (fun c2 => ?_) (fun c2 => ?_)
    · replace hP := hP.1 c2
      refine r_iconst 0 dX10_isRest_45 rfl ?_
      exact r_ireturn _ dX10_isRest_46 rfl rfl ⟨congrArg (fun z => some (Value.int z)) (by unfold F_X10_isRest; rw [if_neg (i32_nl c1)]), rfl⟩
    · replace hP := hP.2 c2
      refine r_iload_n dX10_isRest_27 0 rfl ?_
      refine r_iload dX10_isRest_28 4 rfl ?_
      refine r_iload_n dX10_isRest_30 2 rfl ?_
      refine r_iload_n dX10_isRest_31 3 rfl ?_
      refine r_csI (ok_X10_houseHas hG p0 (nI (NX10_isRest_3 p0 p1 p2 p3 μ)) p2 p3 μ) lX10_375 dX10_isRest_32 (by decide) (Nat.le_of_ble_eq_true rfl) rfl (Nat.le_of_ble_eq_true rfl) ?_
      refine r_iload_n dX10_isRest_35 0 rfl ?_
      refine r_iload_n dX10_isRest_36 1 rfl ?_
      refine r_iload_n dX10_isRest_37 2 rfl ?_
      refine r_iload_n dX10_isRest_38 3 rfl ?_
      refine r_csI (ok_X10_houseHas hG p0 p1 p2 p3 μ) lX10_375 dX10_isRest_39 (by decide) (Nat.le_of_ble_eq_true rfl) rfl (Nat.le_of_ble_eq_true rfl) ?_
      refine r_icmp_le 47 dX10_isRest_42 (by decide) (fun c3 => ?_) (fun c3 => ?_)
      · replace hP := hP.1 c3
        refine r_iinc ((nI (NX10_isRest_3 p0 p1 p2 p3 μ)) + 1) [(4, _), (0, _), (1, _), (2, _), (3, _)] dX10_isRest_47 4 rfl rfl (Nat.le_of_ble_eq_true rfl) rfl ?_
        refine r_goto 3 dX10_isRest_50 (by decide) ?_
        exact hP.elim
      · replace hP := hP.2 c3
        refine r_iconst 0 dX10_isRest_45 rfl ?_
        exact r_ireturn _ dX10_isRest_46 rfl rfl ⟨congrArg (fun z => some (Value.int z)) (by unfold F_X10_isRest; rw [if_neg (i32_nl c1)]), rfl⟩
def muX10_parlour_1 (p1 : Int32) (p2 : Int32) (p3 : Int32) (μ : Mem) : Mem := (upm μ 57 0 0)
def VX10_parlour_2 (p1 : Int32) (p2 : Int32) (p3 : Int32) (μ : Mem) : Int32 := (if (F_X10_isIn p1 0 12 (muX10_parlour_1 p1 p2 p3 μ)) = 0 then 1 else (if (F_X10_isIn p2 0 16 (muX10_parlour_1 p1 p2 p3 μ)) = 0 then 1 else (if (F_X10_isIn p3 0 2 (muX10_parlour_1 p1 p2 p3 μ)) ≠ 0 then 0 else 1)))
theorem bo_VX10_parlour_2 (p1 : Int32) (p2 : Int32) (p3 : Int32) (μ : Mem) : (VX10_parlour_2 p1 p2 p3 μ) = 0 ∨ (VX10_parlour_2 p1 p2 p3 μ) = 1 := by
  unfold VX10_parlour_2
  split
  · exact Or.inr rfl
  · split
    · exact Or.inr rfl
    · split
      · exact Or.inl rfl
      · exact Or.inr rfl
def muX10_parlour_3 (p1 : Int32) (p2 : Int32) (p3 : Int32) (μ : Mem) : Mem := (M_X10_bad (VX10_parlour_2 p1 p2 p3 μ) 1 1 (muX10_parlour_1 p1 p2 p3 μ))
def VX10_parlour_71_1 (v1 : Int32) (v2 : Int32) (v3 : Int32) (v7 : Int32) (μ : Mem) (i : Nat) (s : Int32 × Int32 × Int32) : Int32 := (if s.1 ≠ 0 then s.2.1 else ((100 * v7) + (nI i)))
def VX10_parlour_71_2 (v1 : Int32) (v2 : Int32) (v3 : Int32) (v7 : Int32) (μ : Mem) (i : Nat) (s : Int32 × Int32 × Int32) : Int32 := (if s.1 ≠ 0 then s.2.2 else ((F_X10_seaHas v7 (nI i) v1 v2 μ) + (F_X10_houseHas v7 (nI i) v1 v2 μ)))
def VX10_parlour_71_3 (v1 : Int32) (v2 : Int32) (v3 : Int32) (v7 : Int32) (μ : Mem) (i : Nat) (s : Int32 × Int32 × Int32) : Int32 := (if (F_X10_isRest v7 (nI i) v1 v2 μ) ≠ 0 then (s.1 + 1) else s.1)
def VX10_parlour_71_4 (v1 : Int32) (v2 : Int32) (v3 : Int32) (v7 : Int32) (μ : Mem) (i : Nat) (s : Int32 × Int32 × Int32) : Int32 := (if (F_X10_isRest v7 (nI i) v1 v2 μ) ≠ 0 then (VX10_parlour_71_2 v1 v2 v3 v7 μ i s) else s.2.2)
def VX10_parlour_71_5 (v1 : Int32) (v2 : Int32) (v3 : Int32) (v7 : Int32) (μ : Mem) (i : Nat) (s : Int32 × Int32 × Int32) : Int32 := (if (F_X10_isRest v7 (nI i) v1 v2 μ) ≠ 0 then (VX10_parlour_71_1 v1 v2 v3 v7 μ i s) else s.2.1)
def g_X10_parlour_71 (v1 : Int32) (v2 : Int32) (v3 : Int32) (v7 : Int32) (μ : Mem) (i : Nat) (s : Int32 × Int32 × Int32) : Int32 × Int32 × Int32 := ((VX10_parlour_71_3 v1 v2 v3 v7 μ i s), (VX10_parlour_71_5 v1 v2 v3 v7 μ i s), (VX10_parlour_71_4 v1 v2 v3 v7 μ i s))
def Pb_X10_parlour_71 (v1 : Int32) (v2 : Int32) (v3 : Int32) (v7 : Int32) (μ : Mem) (i : Nat) (s : Int32 × Int32 × Int32) : Prop := ((v1 < (nI i) → False) ∧ ((nI i) ≤ v1 → P_X10_isRest v7 (nI i) v1 v2 μ))
set_option maxRecDepth 20000 in
set_option maxHeartbeats 2000000 in
theorem lp_X10_parlour_71 {G : SG} (hG : GK 548 G)  (v1 : Int32) (v2 : Int32) (v3 : Int32) (v7 : Int32) (μ : Mem) (s0 : Int32 × Int32 × Int32) (N : Nat) (sN : Int32 × Int32 × Int32) (eN : sN = fo N (g_X10_parlour_71 v1 v2 v3 v7 μ) s0) (hN : ∀ i, i < N → Pb_X10_parlour_71 v1 v2 v3 v7 μ i (fo i (g_X10_parlour_71 v1 v2 v3 v7 μ) s0)) {t : Nat} {Q : PQ} {X : PX} (h : R G mX10_parlour 71 [(0, .ref (ga G 57)), (1, .int v1), (2, .int v2), (3, .int v3), (4, .int (sN).1), (5, .int (sN).2.1), (6, .int (sN).2.2), (7, .int v7), (8, .int (nI N))] [] μ t Q X) : R G mX10_parlour 71 [(0, .ref (ga G 57)), (1, .int v1), (2, .int v2), (3, .int v3), (4, .int (s0).1), (5, .int (s0).2.1), (6, .int (s0).2.2), (7, .int v7), (8, .int 0)] [] μ t Q X := by
  subst eN
  refine down_i N (fun i => R G mX10_parlour 71 [(0, .ref (ga G 57)), (1, .int v1), (2, .int v2), (3, .int v3), (4, .int ((fo i (g_X10_parlour_71 v1 v2 v3 v7 μ) s0)).1), (5, .int ((fo i (g_X10_parlour_71 v1 v2 v3 v7 μ) s0)).2.1), (6, .int ((fo i (g_X10_parlour_71 v1 v2 v3 v7 μ) s0)).2.2), (7, .int v7), (8, .int (nI i))] [] μ t Q X) h (fun i hi hS => ?_)
  have hP := hN i hi
  rw [fo_succ] at hS
  rw [nI_succ] at hS
  generalize fo i (g_X10_parlour_71 v1 v2 v3 v7 μ) s0 = s at hS hP ⊢
  unfold Pb_X10_parlour_71 at hP
  refine r_iload dX10_parlour_71 8 rfl ?_
  refine r_iload_n dX10_parlour_73 1 rfl ?_
  refine r_icmp_gt 152 dX10_parlour_74 (by decide) (fun c1 => ?_) (fun c1 => ?_)
  · replace hP := hP.1 c1
    exact hP.elim
  · replace hP := hP.2 c1
    refine r_iload dX10_parlour_77 7 rfl ?_
    refine r_iload dX10_parlour_79 8 rfl ?_
    refine r_iload_n dX10_parlour_81 1 rfl ?_
    refine r_iload_n dX10_parlour_82 2 rfl ?_
    have hs1 := hP
    refine r_csI (ok_X10_isRest hG v7 (nI i) v1 v2 μ hs1) lX10_378 dX10_parlour_83 (by decide) (Nat.le_of_ble_eq_true rfl) rfl (Nat.le_of_ble_eq_true rfl) ?_
    refine r_join 146 [(4, .int (VX10_parlour_71_3 v1 v2 v3 v7 μ i s)), (6, .int (VX10_parlour_71_4 v1 v2 v3 v7 μ i s)), (5, .int (VX10_parlour_71_5 v1 v2 v3 v7 μ i s)), (0, .ref (ga G 57)), (1, .int v1), (2, .int v2), (3, .int v3), (7, .int v7), (8, .int (nI i))] [] μ ?_ (fun hJ => ?_)
    · refine r_iinc ((nI i) + 1) [(8, _), (4, _), (6, _), (5, _), (0, _), (1, _), (2, _), (3, _), (7, _)] dX10_parlour_146 8 rfl rfl (Nat.le_of_ble_eq_true rfl) rfl ?_
      refine r_goto 71 dX10_parlour_149 (by decide) ?_
      have e : g_X10_parlour_71 v1 v2 v3 v7 μ i s = ((VX10_parlour_71_3 v1 v2 v3 v7 μ i s), (VX10_parlour_71_5 v1 v2 v3 v7 μ i s), (VX10_parlour_71_4 v1 v2 v3 v7 μ i s)) := by unfold g_X10_parlour_71; rfl
      rw [e] at hS
      dsimp only at hS
      exact r_sub [4, 5, 6, 7, 1, 3, 2, 8, 0] rfl hS
    · refine r_if_ne 92 dX10_parlour_86 (by decide) (fun c2 => ?_) (fun c2 => ?_)
      · refine r_iload dX10_parlour_92 4 rfl ?_
        refine r_join 110 [(0, .ref (ga G 57)), (1, .int v1), (2, .int v2), (3, .int v3), (4, .int s.1), (5, .int s.2.1), (6, .int s.2.2), (7, .int v7), (8, .int (nI i))] [.int (VX10_parlour_71_1 v1 v2 v3 v7 μ i s)] μ ?_ (fun hJ => ?_)
        · refine r_istore [(5, _), (0, _), (1, _), (2, _), (3, _), (4, _), (6, _), (7, _), (8, _)] dX10_parlour_110 (Nat.le_of_ble_eq_true rfl) rfl ?_
          refine r_iload dX10_parlour_112 5 rfl ?_
          refine r_join 141 [(5, .int (VX10_parlour_71_1 v1 v2 v3 v7 μ i s)), (0, .ref (ga G 57)), (1, .int v1), (2, .int v2), (3, .int v3), (4, .int s.1), (6, .int s.2.2), (7, .int v7), (8, .int (nI i))] [.int (VX10_parlour_71_2 v1 v2 v3 v7 μ i s)] μ ?_ (fun hJ => ?_)
          · refine r_istore [(6, _), (5, _), (0, _), (1, _), (2, _), (3, _), (4, _), (7, _), (8, _)] dX10_parlour_141 (Nat.le_of_ble_eq_true rfl) rfl ?_
            refine r_iinc (s.1 + 1) [(4, _), (6, _), (5, _), (0, _), (1, _), (2, _), (3, _), (7, _), (8, _)] dX10_parlour_143 6 rfl rfl (Nat.le_of_ble_eq_true rfl) rfl ?_
            have e : (VX10_parlour_71_3 v1 v2 v3 v7 μ i s) = (s.1 + 1) := by unfold VX10_parlour_71_3; rw [if_pos c2]
            rw [e] at hJ
            clear e
            have e : (VX10_parlour_71_4 v1 v2 v3 v7 μ i s) = (VX10_parlour_71_2 v1 v2 v3 v7 μ i s) := by unfold VX10_parlour_71_4; rw [if_pos c2]
            rw [e] at hJ
            clear e
            have e : (VX10_parlour_71_5 v1 v2 v3 v7 μ i s) = (VX10_parlour_71_1 v1 v2 v3 v7 μ i s) := by unfold VX10_parlour_71_5; rw [if_pos c2]
            rw [e] at hJ
            exact r_sub [0, 1, 2, 3, 4, 5, 6, 7, 8] rfl hJ
          · refine r_if_ne 139 dX10_parlour_114 (by decide) (fun c3 => ?_) (fun c3 => ?_)
            · refine r_iload dX10_parlour_139 6 rfl ?_
              have e : (VX10_parlour_71_2 v1 v2 v3 v7 μ i s) = s.2.2 := by unfold VX10_parlour_71_2; rw [if_pos c3]
              rw [e] at hJ
              exact r_sub [0, 1, 2, 3, 4, 5, 6, 7, 8] rfl hJ
            · refine r_iload dX10_parlour_117 7 rfl ?_
              refine r_iload dX10_parlour_119 8 rfl ?_
              refine r_iload_n dX10_parlour_121 2 rfl ?_
              refine r_iload_n dX10_parlour_122 3 rfl ?_
              refine r_csI (ok_X10_seaHas hG v7 (nI i) v1 v2 μ) lX10_371 dX10_parlour_123 (by decide) (Nat.le_of_ble_eq_true rfl) rfl (Nat.le_of_ble_eq_true rfl) ?_
              refine r_iload dX10_parlour_126 7 rfl ?_
              refine r_iload dX10_parlour_128 8 rfl ?_
              refine r_iload_n dX10_parlour_130 2 rfl ?_
              refine r_iload_n dX10_parlour_131 3 rfl ?_
              refine r_csI (ok_X10_houseHas hG v7 (nI i) v1 v2 μ) lX10_375 dX10_parlour_132 (by decide) (Nat.le_of_ble_eq_true rfl) rfl (Nat.le_of_ble_eq_true rfl) ?_
              refine r_iadd dX10_parlour_135 ?_
              refine r_goto 141 dX10_parlour_136 (by decide) ?_
              have e : (VX10_parlour_71_2 v1 v2 v3 v7 μ i s) = ((F_X10_seaHas v7 (nI i) v1 v2 μ) + (F_X10_houseHas v7 (nI i) v1 v2 μ)) := by unfold VX10_parlour_71_2; rw [if_neg (not_not_intro c3)]
              rw [e] at hJ
              exact r_sub [0, 1, 2, 3, 4, 5, 6, 7, 8] rfl hJ
        · refine r_if_ne 108 dX10_parlour_94 (by decide) (fun c3 => ?_) (fun c3 => ?_)
          · refine r_iload dX10_parlour_108 5 rfl ?_
            have e : (VX10_parlour_71_1 v1 v2 v3 v7 μ i s) = s.2.1 := by unfold VX10_parlour_71_1; rw [if_pos c3]
            rw [e] at hJ
            exact r_sub [0, 1, 2, 3, 4, 5, 6, 7, 8] rfl hJ
          · refine r_bipush 100 dX10_parlour_97 rfl ?_
            refine r_iload dX10_parlour_99 7 rfl ?_
            refine r_imul dX10_parlour_101 ?_
            refine r_iload dX10_parlour_102 8 rfl ?_
            refine r_iadd dX10_parlour_104 ?_
            refine r_goto 110 dX10_parlour_105 (by decide) ?_
            have e : (VX10_parlour_71_1 v1 v2 v3 v7 μ i s) = ((100 * v7) + (nI i)) := by unfold VX10_parlour_71_1; rw [if_neg (not_not_intro c3)]
            rw [e] at hJ
            exact r_sub [0, 1, 2, 3, 4, 5, 6, 7, 8] rfl hJ
      · refine r_goto 146 dX10_parlour_89 (by decide) ?_
        have e : (VX10_parlour_71_3 v1 v2 v3 v7 μ i s) = s.1 := by unfold VX10_parlour_71_3; rw [if_neg (not_not_intro c2)]
        rw [e] at hJ
        clear e
        have e : (VX10_parlour_71_4 v1 v2 v3 v7 μ i s) = s.2.2 := by unfold VX10_parlour_71_4; rw [if_neg (not_not_intro c2)]
        rw [e] at hJ
        clear e
        have e : (VX10_parlour_71_5 v1 v2 v3 v7 μ i s) = s.2.1 := by unfold VX10_parlour_71_5; rw [if_neg (not_not_intro c2)]
        rw [e] at hJ
        exact r_sub [4, 6, 5, 0, 1, 2, 3, 7, 8] rfl hJ
def NX10_parlour_62_71 (v1 : Int32) (v2 : Int32) (v3 : Int32) (μ : Mem) (i : Nat) (s : Int32 × Int32 × Int32) : Nat := ix v1 + 1
def SX10_parlour_62_71 (v1 : Int32) (v2 : Int32) (v3 : Int32) (μ : Mem) (i : Nat) (s : Int32 × Int32 × Int32) : Int32 × Int32 × Int32 := fo (NX10_parlour_62_71 v1 v2 v3 μ i s) (g_X10_parlour_71 v1 v2 v3 (nI i) μ) (s.1, s.2.1, s.2.2)
def VX10_parlour_62_1 (v1 : Int32) (v2 : Int32) (v3 : Int32) (μ : Mem) (i : Nat) (s : Int32 × Int32 × Int32) : Int32 := (if (SX10_parlour_62_71 v1 v2 v3 μ i s).1 ≠ 0 then (SX10_parlour_62_71 v1 v2 v3 μ i s).2.1 else ((100 * (nI i)) + (nI (NX10_parlour_62_71 v1 v2 v3 μ i s))))
def VX10_parlour_62_2 (v1 : Int32) (v2 : Int32) (v3 : Int32) (μ : Mem) (i : Nat) (s : Int32 × Int32 × Int32) : Int32 := (if (SX10_parlour_62_71 v1 v2 v3 μ i s).1 ≠ 0 then (SX10_parlour_62_71 v1 v2 v3 μ i s).2.2 else ((F_X10_seaHas (nI i) (nI (NX10_parlour_62_71 v1 v2 v3 μ i s)) v1 v2 μ) + (F_X10_houseHas (nI i) (nI (NX10_parlour_62_71 v1 v2 v3 μ i s)) v1 v2 μ)))
def VX10_parlour_62_3 (v1 : Int32) (v2 : Int32) (v3 : Int32) (μ : Mem) (i : Nat) (s : Int32 × Int32 × Int32) : Int32 := (if (F_X10_isRest (nI i) (nI (NX10_parlour_62_71 v1 v2 v3 μ i s)) v1 v2 μ) ≠ 0 then ((SX10_parlour_62_71 v1 v2 v3 μ i s).1 + 1) else (SX10_parlour_62_71 v1 v2 v3 μ i s).1)
def VX10_parlour_62_4 (v1 : Int32) (v2 : Int32) (v3 : Int32) (μ : Mem) (i : Nat) (s : Int32 × Int32 × Int32) : Int32 := (if (F_X10_isRest (nI i) (nI (NX10_parlour_62_71 v1 v2 v3 μ i s)) v1 v2 μ) ≠ 0 then (VX10_parlour_62_2 v1 v2 v3 μ i s) else (SX10_parlour_62_71 v1 v2 v3 μ i s).2.2)
def VX10_parlour_62_5 (v1 : Int32) (v2 : Int32) (v3 : Int32) (μ : Mem) (i : Nat) (s : Int32 × Int32 × Int32) : Int32 := (if (F_X10_isRest (nI i) (nI (NX10_parlour_62_71 v1 v2 v3 μ i s)) v1 v2 μ) ≠ 0 then (VX10_parlour_62_1 v1 v2 v3 μ i s) else (SX10_parlour_62_71 v1 v2 v3 μ i s).2.1)
def g_X10_parlour_62 (v1 : Int32) (v2 : Int32) (v3 : Int32) (μ : Mem) (i : Nat) (s : Int32 × Int32 × Int32) : Int32 × Int32 × Int32 := ((SX10_parlour_62_71 v1 v2 v3 μ i s).1, (SX10_parlour_62_71 v1 v2 v3 μ i s).2.1, (SX10_parlour_62_71 v1 v2 v3 μ i s).2.2)
def Pb_X10_parlour_62 (v1 : Int32) (v2 : Int32) (v3 : Int32) (μ : Mem) (i : Nat) (s : Int32 × Int32 × Int32) : Prop := ((v1 < (nI i) → False) ∧ ((nI i) ≤ v1 → (∀ j9, j9 < (NX10_parlour_62_71 v1 v2 v3 μ i s) → Pb_X10_parlour_71 v1 v2 v3 (nI i) μ j9 (fo j9 (g_X10_parlour_71 v1 v2 v3 (nI i) μ) (s.1, s.2.1, s.2.2))) ∧ ((v1 < (nI (NX10_parlour_62_71 v1 v2 v3 μ i s)) → True) ∧ ((nI (NX10_parlour_62_71 v1 v2 v3 μ i s)) ≤ v1 → (P_X10_isRest (nI i) (nI (NX10_parlour_62_71 v1 v2 v3 μ i s)) v1 v2 μ) ∧ False))))
set_option maxRecDepth 20000 in
set_option maxHeartbeats 2000000 in
theorem lp_X10_parlour_62 {G : SG} (hG : GK 548 G)  (v1 : Int32) (v2 : Int32) (v3 : Int32) (μ : Mem) (s0 : Int32 × Int32 × Int32) (N : Nat) (sN : Int32 × Int32 × Int32) (eN : sN = fo N (g_X10_parlour_62 v1 v2 v3 μ) s0) (hN : ∀ i, i < N → Pb_X10_parlour_62 v1 v2 v3 μ i (fo i (g_X10_parlour_62 v1 v2 v3 μ) s0)) {t : Nat} {Q : PQ} {X : PX} (h : R G mX10_parlour 62 [(0, .ref (ga G 57)), (1, .int v1), (2, .int v2), (3, .int v3), (4, .int (sN).1), (5, .int (sN).2.1), (6, .int (sN).2.2), (7, .int (nI N))] [] μ t Q X) : R G mX10_parlour 62 [(0, .ref (ga G 57)), (1, .int v1), (2, .int v2), (3, .int v3), (4, .int (s0).1), (5, .int (s0).2.1), (6, .int (s0).2.2), (7, .int 0)] [] μ t Q X := by
  subst eN
  refine down_i N (fun i => R G mX10_parlour 62 [(0, .ref (ga G 57)), (1, .int v1), (2, .int v2), (3, .int v3), (4, .int ((fo i (g_X10_parlour_62 v1 v2 v3 μ) s0)).1), (5, .int ((fo i (g_X10_parlour_62 v1 v2 v3 μ) s0)).2.1), (6, .int ((fo i (g_X10_parlour_62 v1 v2 v3 μ) s0)).2.2), (7, .int (nI i))] [] μ t Q X) h (fun i hi hS => ?_)
  have hP := hN i hi
  rw [fo_succ] at hS
  rw [nI_succ] at hS
  generalize fo i (g_X10_parlour_62 v1 v2 v3 μ) s0 = s at hS hP ⊢
  unfold Pb_X10_parlour_62 at hP
  refine r_iload dX10_parlour_62 7 rfl ?_
  refine r_iload_n dX10_parlour_64 1 rfl ?_
  refine r_icmp_gt 158 dX10_parlour_65 (by decide) (fun c1 => ?_) (fun c1 => ?_)
  · replace hP := hP.1 c1
    exact hP.elim
  · replace hP := hP.2 c1
    refine r_iconst 0 dX10_parlour_68 rfl ?_
    refine r_istore [(8, _), (0, _), (1, _), (2, _), (3, _), (4, _), (5, _), (6, _), (7, _)] dX10_parlour_69 (Nat.le_of_ble_eq_true rfl) rfl ?_
    have hs1 := hP.1
    replace hP := hP.2
    refine r_sub [1, 2, 3, 4, 5, 6, 7, 8, 0] rfl ?_
    refine lp_X10_parlour_71 hG v1 v2 v3 (nI i) μ (s.1, s.2.1, s.2.2) ((NX10_parlour_62_71 v1 v2 v3 μ i s)) (SX10_parlour_62_71 v1 v2 v3 μ i s) rfl hs1 ?_
    refine r_iload dX10_parlour_71 8 rfl ?_
    refine r_iload_n dX10_parlour_73 1 rfl ?_
    refine r_icmp_gt 152 dX10_parlour_74 (by decide) (fun c2 => ?_) (fun c2 => ?_)
    · replace hP := hP.1 c2
      refine r_iinc ((nI i) + 1) [(7, _), (0, _), (1, _), (2, _), (3, _), (4, _), (5, _), (6, _), (8, _)] dX10_parlour_152 7 rfl rfl (Nat.le_of_ble_eq_true rfl) rfl ?_
      refine r_goto 62 dX10_parlour_155 (by decide) ?_
      have e : g_X10_parlour_62 v1 v2 v3 μ i s = ((SX10_parlour_62_71 v1 v2 v3 μ i s).1, (SX10_parlour_62_71 v1 v2 v3 μ i s).2.1, (SX10_parlour_62_71 v1 v2 v3 μ i s).2.2) := by unfold g_X10_parlour_62; rfl
      rw [e] at hS
      dsimp only at hS
      exact r_sub [1, 2, 3, 4, 5, 6, 7, 0] rfl hS
    · replace hP := hP.2 c2
      refine r_iload dX10_parlour_77 7 rfl ?_
      refine r_iload dX10_parlour_79 8 rfl ?_
      refine r_iload_n dX10_parlour_81 1 rfl ?_
      refine r_iload_n dX10_parlour_82 2 rfl ?_
      have hs3 := hP.1
      replace hP := hP.2
      refine r_csI (ok_X10_isRest hG (nI i) (nI (NX10_parlour_62_71 v1 v2 v3 μ i s)) v1 v2 μ hs3) lX10_378 dX10_parlour_83 (by decide) (Nat.le_of_ble_eq_true rfl) rfl (Nat.le_of_ble_eq_true rfl) ?_
      refine r_join 146 [(4, .int (VX10_parlour_62_3 v1 v2 v3 μ i s)), (6, .int (VX10_parlour_62_4 v1 v2 v3 μ i s)), (5, .int (VX10_parlour_62_5 v1 v2 v3 μ i s)), (0, .ref (ga G 57)), (1, .int v1), (2, .int v2), (3, .int v3), (7, .int (nI i)), (8, .int (nI (NX10_parlour_62_71 v1 v2 v3 μ i s)))] [] μ ?_ (fun hJ => ?_)
      · refine r_iinc ((nI (NX10_parlour_62_71 v1 v2 v3 μ i s)) + 1) [(8, _), (4, _), (6, _), (5, _), (0, _), (1, _), (2, _), (3, _), (7, _)] dX10_parlour_146 8 rfl rfl (Nat.le_of_ble_eq_true rfl) rfl ?_
        refine r_goto 71 dX10_parlour_149 (by decide) ?_
        exact hP.elim
      · refine r_if_ne 92 dX10_parlour_86 (by decide) (fun c3 => ?_) (fun c3 => ?_)
        · refine r_iload dX10_parlour_92 4 rfl ?_
          refine r_join 110 [(0, .ref (ga G 57)), (1, .int v1), (2, .int v2), (3, .int v3), (4, .int (SX10_parlour_62_71 v1 v2 v3 μ i s).1), (5, .int (SX10_parlour_62_71 v1 v2 v3 μ i s).2.1), (6, .int (SX10_parlour_62_71 v1 v2 v3 μ i s).2.2), (7, .int (nI i)), (8, .int (nI (NX10_parlour_62_71 v1 v2 v3 μ i s)))] [.int (VX10_parlour_62_1 v1 v2 v3 μ i s)] μ ?_ (fun hJ => ?_)
          · refine r_istore [(5, _), (0, _), (1, _), (2, _), (3, _), (4, _), (6, _), (7, _), (8, _)] dX10_parlour_110 (Nat.le_of_ble_eq_true rfl) rfl ?_
            refine r_iload dX10_parlour_112 5 rfl ?_
            refine r_join 141 [(5, .int (VX10_parlour_62_1 v1 v2 v3 μ i s)), (0, .ref (ga G 57)), (1, .int v1), (2, .int v2), (3, .int v3), (4, .int (SX10_parlour_62_71 v1 v2 v3 μ i s).1), (6, .int (SX10_parlour_62_71 v1 v2 v3 μ i s).2.2), (7, .int (nI i)), (8, .int (nI (NX10_parlour_62_71 v1 v2 v3 μ i s)))] [.int (VX10_parlour_62_2 v1 v2 v3 μ i s)] μ ?_ (fun hJ => ?_)
            · refine r_istore [(6, _), (5, _), (0, _), (1, _), (2, _), (3, _), (4, _), (7, _), (8, _)] dX10_parlour_141 (Nat.le_of_ble_eq_true rfl) rfl ?_
              refine r_iinc ((SX10_parlour_62_71 v1 v2 v3 μ i s).1 + 1) [(4, _), (6, _), (5, _), (0, _), (1, _), (2, _), (3, _), (7, _), (8, _)] dX10_parlour_143 6 rfl rfl (Nat.le_of_ble_eq_true rfl) rfl ?_
              have e : (VX10_parlour_62_3 v1 v2 v3 μ i s) = ((SX10_parlour_62_71 v1 v2 v3 μ i s).1 + 1) := by unfold VX10_parlour_62_3; rw [if_pos c3]
              rw [e] at hJ
              clear e
              have e : (VX10_parlour_62_4 v1 v2 v3 μ i s) = (VX10_parlour_62_2 v1 v2 v3 μ i s) := by unfold VX10_parlour_62_4; rw [if_pos c3]
              rw [e] at hJ
              clear e
              have e : (VX10_parlour_62_5 v1 v2 v3 μ i s) = (VX10_parlour_62_1 v1 v2 v3 μ i s) := by unfold VX10_parlour_62_5; rw [if_pos c3]
              rw [e] at hJ
              exact r_sub [0, 1, 2, 3, 4, 5, 6, 7, 8] rfl hJ
            · refine r_if_ne 139 dX10_parlour_114 (by decide) (fun c4 => ?_) (fun c4 => ?_)
              · refine r_iload dX10_parlour_139 6 rfl ?_
                have e : (VX10_parlour_62_2 v1 v2 v3 μ i s) = (SX10_parlour_62_71 v1 v2 v3 μ i s).2.2 := by unfold VX10_parlour_62_2; rw [if_pos c4]
                rw [e] at hJ
                exact r_sub [0, 1, 2, 3, 4, 5, 6, 7, 8] rfl hJ
              · refine r_iload dX10_parlour_117 7 rfl ?_
                refine r_iload dX10_parlour_119 8 rfl ?_
                refine r_iload_n dX10_parlour_121 2 rfl ?_
                refine r_iload_n dX10_parlour_122 3 rfl ?_
                refine r_csI (ok_X10_seaHas hG (nI i) (nI (NX10_parlour_62_71 v1 v2 v3 μ i s)) v1 v2 μ) lX10_371 dX10_parlour_123 (by decide) (Nat.le_of_ble_eq_true rfl) rfl (Nat.le_of_ble_eq_true rfl) ?_
                refine r_iload dX10_parlour_126 7 rfl ?_
                refine r_iload dX10_parlour_128 8 rfl ?_
                refine r_iload_n dX10_parlour_130 2 rfl ?_
                refine r_iload_n dX10_parlour_131 3 rfl ?_
                refine r_csI (ok_X10_houseHas hG (nI i) (nI (NX10_parlour_62_71 v1 v2 v3 μ i s)) v1 v2 μ) lX10_375 dX10_parlour_132 (by decide) (Nat.le_of_ble_eq_true rfl) rfl (Nat.le_of_ble_eq_true rfl) ?_
                refine r_iadd dX10_parlour_135 ?_
                refine r_goto 141 dX10_parlour_136 (by decide) ?_
                have e : (VX10_parlour_62_2 v1 v2 v3 μ i s) = ((F_X10_seaHas (nI i) (nI (NX10_parlour_62_71 v1 v2 v3 μ i s)) v1 v2 μ) + (F_X10_houseHas (nI i) (nI (NX10_parlour_62_71 v1 v2 v3 μ i s)) v1 v2 μ)) := by unfold VX10_parlour_62_2; rw [if_neg (not_not_intro c4)]
                rw [e] at hJ
                exact r_sub [0, 1, 2, 3, 4, 5, 6, 7, 8] rfl hJ
          · refine r_if_ne 108 dX10_parlour_94 (by decide) (fun c4 => ?_) (fun c4 => ?_)
            · refine r_iload dX10_parlour_108 5 rfl ?_
              have e : (VX10_parlour_62_1 v1 v2 v3 μ i s) = (SX10_parlour_62_71 v1 v2 v3 μ i s).2.1 := by unfold VX10_parlour_62_1; rw [if_pos c4]
              rw [e] at hJ
              exact r_sub [0, 1, 2, 3, 4, 5, 6, 7, 8] rfl hJ
            · refine r_bipush 100 dX10_parlour_97 rfl ?_
              refine r_iload dX10_parlour_99 7 rfl ?_
              refine r_imul dX10_parlour_101 ?_
              refine r_iload dX10_parlour_102 8 rfl ?_
              refine r_iadd dX10_parlour_104 ?_
              refine r_goto 110 dX10_parlour_105 (by decide) ?_
              have e : (VX10_parlour_62_1 v1 v2 v3 μ i s) = ((100 * (nI i)) + (nI (NX10_parlour_62_71 v1 v2 v3 μ i s))) := by unfold VX10_parlour_62_1; rw [if_neg (not_not_intro c4)]
              rw [e] at hJ
              exact r_sub [0, 1, 2, 3, 4, 5, 6, 7, 8] rfl hJ
        · refine r_goto 146 dX10_parlour_89 (by decide) ?_
          have e : (VX10_parlour_62_3 v1 v2 v3 μ i s) = (SX10_parlour_62_71 v1 v2 v3 μ i s).1 := by unfold VX10_parlour_62_3; rw [if_neg (not_not_intro c3)]
          rw [e] at hJ
          clear e
          have e : (VX10_parlour_62_4 v1 v2 v3 μ i s) = (SX10_parlour_62_71 v1 v2 v3 μ i s).2.2 := by unfold VX10_parlour_62_4; rw [if_neg (not_not_intro c3)]
          rw [e] at hJ
          clear e
          have e : (VX10_parlour_62_5 v1 v2 v3 μ i s) = (SX10_parlour_62_71 v1 v2 v3 μ i s).2.1 := by unfold VX10_parlour_62_5; rw [if_neg (not_not_intro c3)]
          rw [e] at hJ
          exact r_sub [4, 6, 5, 0, 1, 2, 3, 7, 8] rfl hJ
def NX10_parlour_62 (p1 : Int32) (p2 : Int32) (p3 : Int32) (μ : Mem) : Nat := ix p1 + 1
def SX10_parlour_62 (p1 : Int32) (p2 : Int32) (p3 : Int32) (μ : Mem) : Int32 × Int32 × Int32 := fo (NX10_parlour_62 p1 p2 p3 μ) (g_X10_parlour_62 p1 p2 p3 (muX10_parlour_3 p1 p2 p3 μ)) (0, (-1), 0)
def NX10_parlour_71 (p1 : Int32) (p2 : Int32) (p3 : Int32) (μ : Mem) : Nat := ix p1 + 1
def SX10_parlour_71 (p1 : Int32) (p2 : Int32) (p3 : Int32) (μ : Mem) : Int32 × Int32 × Int32 := fo (NX10_parlour_71 p1 p2 p3 μ) (g_X10_parlour_71 p1 p2 p3 (nI (NX10_parlour_62 p1 p2 p3 μ)) (muX10_parlour_3 p1 p2 p3 μ)) ((SX10_parlour_62 p1 p2 p3 μ).1, (SX10_parlour_62 p1 p2 p3 μ).2.1, (SX10_parlour_62 p1 p2 p3 μ).2.2)
def VX10_parlour_4 (p1 : Int32) (p2 : Int32) (p3 : Int32) (μ : Mem) : Int32 := (if (SX10_parlour_71 p1 p2 p3 μ).1 ≠ 0 then (SX10_parlour_71 p1 p2 p3 μ).2.1 else ((100 * (nI (NX10_parlour_62 p1 p2 p3 μ))) + (nI (NX10_parlour_71 p1 p2 p3 μ))))
def VX10_parlour_5 (p1 : Int32) (p2 : Int32) (p3 : Int32) (μ : Mem) : Int32 := (if (SX10_parlour_71 p1 p2 p3 μ).1 ≠ 0 then (SX10_parlour_71 p1 p2 p3 μ).2.2 else ((F_X10_seaHas (nI (NX10_parlour_62 p1 p2 p3 μ)) (nI (NX10_parlour_71 p1 p2 p3 μ)) p1 p2 (muX10_parlour_3 p1 p2 p3 μ)) + (F_X10_houseHas (nI (NX10_parlour_62 p1 p2 p3 μ)) (nI (NX10_parlour_71 p1 p2 p3 μ)) p1 p2 (muX10_parlour_3 p1 p2 p3 μ))))
def VX10_parlour_6 (p1 : Int32) (p2 : Int32) (p3 : Int32) (μ : Mem) : Int32 := (if (F_X10_isRest (nI (NX10_parlour_62 p1 p2 p3 μ)) (nI (NX10_parlour_71 p1 p2 p3 μ)) p1 p2 (muX10_parlour_3 p1 p2 p3 μ)) ≠ 0 then ((SX10_parlour_71 p1 p2 p3 μ).1 + 1) else (SX10_parlour_71 p1 p2 p3 μ).1)
def VX10_parlour_7 (p1 : Int32) (p2 : Int32) (p3 : Int32) (μ : Mem) : Int32 := (if (F_X10_isRest (nI (NX10_parlour_62 p1 p2 p3 μ)) (nI (NX10_parlour_71 p1 p2 p3 μ)) p1 p2 (muX10_parlour_3 p1 p2 p3 μ)) ≠ 0 then (VX10_parlour_5 p1 p2 p3 μ) else (SX10_parlour_71 p1 p2 p3 μ).2.2)
def VX10_parlour_8 (p1 : Int32) (p2 : Int32) (p3 : Int32) (μ : Mem) : Int32 := (if (F_X10_isRest (nI (NX10_parlour_62 p1 p2 p3 μ)) (nI (NX10_parlour_71 p1 p2 p3 μ)) p1 p2 (muX10_parlour_3 p1 p2 p3 μ)) ≠ 0 then (VX10_parlour_4 p1 p2 p3 μ) else (SX10_parlour_71 p1 p2 p3 μ).2.1)
def F_X10_parlour (p1 : Int32) (p2 : Int32) (p3 : Int32) (μ : Mem) : Int32 := (if (F_X10_bad (VX10_parlour_2 p1 p2 p3 μ) 1 1 (muX10_parlour_1 p1 p2 p3 μ)) = 0 then (if p3 ≠ 0 then (if p3 ≠ 1 then (SX10_parlour_62 p1 p2 p3 μ).2.2 else (SX10_parlour_62 p1 p2 p3 μ).2.1) else (SX10_parlour_62 p1 p2 p3 μ).1) else 0)
def M_X10_parlour (p1 : Int32) (p2 : Int32) (p3 : Int32) (μ : Mem) : Mem := (muX10_parlour_3 p1 p2 p3 μ)
def P_X10_parlour (p1 : Int32) (p2 : Int32) (p3 : Int32) (μ : Mem) : Prop := ((P_X10_bad (VX10_parlour_2 p1 p2 p3 μ) 1 1 (muX10_parlour_1 p1 p2 p3 μ)) ∧ (((F_X10_bad (VX10_parlour_2 p1 p2 p3 μ) 1 1 (muX10_parlour_1 p1 p2 p3 μ)) = 0 → ((∀ j9, j9 < (NX10_parlour_62 p1 p2 p3 μ) → Pb_X10_parlour_62 p1 p2 p3 (muX10_parlour_3 p1 p2 p3 μ) j9 (fo j9 (g_X10_parlour_62 p1 p2 p3 (muX10_parlour_3 p1 p2 p3 μ)) (0, (-1), 0))) ∧ ((p1 < (nI (NX10_parlour_62 p1 p2 p3 μ)) → True) ∧ ((nI (NX10_parlour_62 p1 p2 p3 μ)) ≤ p1 → ((∀ j9, j9 < (NX10_parlour_71 p1 p2 p3 μ) → Pb_X10_parlour_71 p1 p2 p3 (nI (NX10_parlour_62 p1 p2 p3 μ)) (muX10_parlour_3 p1 p2 p3 μ) j9 (fo j9 (g_X10_parlour_71 p1 p2 p3 (nI (NX10_parlour_62 p1 p2 p3 μ)) (muX10_parlour_3 p1 p2 p3 μ)) ((SX10_parlour_62 p1 p2 p3 μ).1, (SX10_parlour_62 p1 p2 p3 μ).2.1, (SX10_parlour_62 p1 p2 p3 μ).2.2))) ∧ ((p1 < (nI (NX10_parlour_71 p1 p2 p3 μ)) → False) ∧ ((nI (NX10_parlour_71 p1 p2 p3 μ)) ≤ p1 → ((P_X10_isRest (nI (NX10_parlour_62 p1 p2 p3 μ)) (nI (NX10_parlour_71 p1 p2 p3 μ)) p1 p2 (muX10_parlour_3 p1 p2 p3 μ)) ∧ False)))))))) ∧ (¬ (F_X10_bad (VX10_parlour_2 p1 p2 p3 μ) 1 1 (muX10_parlour_1 p1 p2 p3 μ)) = 0 → True)))
set_option maxRecDepth 20000 in
set_option maxHeartbeats 2000000 in
theorem ok_X10_parlour {G : SG} (hG : GK 548 G) (p1 : Int32) (p2 : Int32) (p3 : Int32) (μ : Mem) (hP : P_X10_parlour p1 p2 p3 μ) : OkF G mX10_parlour [.ref (ga G 57), .int p1, .int p2, .int p3] μ (some (.int (F_X10_parlour p1 p2 p3 μ))) (M_X10_parlour p1 p2 p3 μ) := by
  refine okF_of hG rfl rfl (Nat.le_of_ble_eq_true rfl) ?_
  unfold P_X10_parlour at hP
  refine r_aload_n dX10_parlour_0 0 rfl ?_
  refine r_iconst 0 dX10_parlour_1 rfl ?_
  refine r_put fiX10_103 (hG.lt (by decide)) sh57 fs57_0 dX10_parlour_2 ?_
  refine r_mu (muX10_parlour_1 p1 p2 p3 μ) rfl ?_
  refine r_aload_n dX10_parlour_5 0 rfl ?_
  refine r_iload_n dX10_parlour_6 1 rfl ?_
  refine r_iconst 0 dX10_parlour_7 rfl ?_
  refine r_bipush 12 dX10_parlour_8 rfl ?_
  refine r_csI (ok_X10_isIn hG p1 0 12 (muX10_parlour_1 p1 p2 p3 μ)) lX10_137 dX10_parlour_10 (by decide) (Nat.le_of_ble_eq_true rfl) rfl (Nat.le_of_ble_eq_true rfl) ?_
  refine r_join 40 [(0, .ref (ga G 57)), (1, .int p1), (2, .int p2), (3, .int p3)] [.int (VX10_parlour_2 p1 p2 p3 μ), .ref (ga G 57)] (muX10_parlour_1 p1 p2 p3 μ) ?_ (fun hJ => ?_)
  · refine r_iconst 1 dX10_parlour_40 rfl ?_
    refine r_iconst 1 dX10_parlour_41 rfl ?_
    have hs1 := hP.1
    replace hP := hP.2
    refine r_cvI (ok_X10_bad hG (VX10_parlour_2 p1 p2 p3 μ) 1 1 (muX10_parlour_1 p1 p2 p3 μ) hs1) lX10_186 (hG.lt (by decide)) sh57 ⟨_, _, rfl⟩ dX10_parlour_42 (by decide) (Nat.le_of_ble_eq_true rfl) rfl (Nat.le_of_ble_eq_true rfl) ?_
    refine r_mu (muX10_parlour_3 p1 p2 p3 μ) rfl ?_
    refine r_if_eq 50 dX10_parlour_45 (by decide) (fun c1 => ?_) (fun c1 => ?_)
    · replace hP := hP.1 c1
      refine r_iconst 0 dX10_parlour_50 rfl ?_
      refine r_istore [(4, _), (0, _), (1, _), (2, _), (3, _)] dX10_parlour_51 (Nat.le_of_ble_eq_true rfl) rfl ?_
      refine r_iconst (-1) dX10_parlour_53 rfl ?_
      refine r_istore [(5, _), (4, _), (0, _), (1, _), (2, _), (3, _)] dX10_parlour_54 (Nat.le_of_ble_eq_true rfl) rfl ?_
      refine r_iconst 0 dX10_parlour_56 rfl ?_
      refine r_istore [(6, _), (5, _), (4, _), (0, _), (1, _), (2, _), (3, _)] dX10_parlour_57 (Nat.le_of_ble_eq_true rfl) rfl ?_
      refine r_iconst 0 dX10_parlour_59 rfl ?_
      refine r_istore [(7, _), (6, _), (5, _), (4, _), (0, _), (1, _), (2, _), (3, _)] dX10_parlour_60 (Nat.le_of_ble_eq_true rfl) rfl ?_
      have hs2 := hP.1
      replace hP := hP.2
      refine r_sub [4, 5, 6, 7, 3, 2, 1, 0] rfl ?_
      refine lp_X10_parlour_62 hG p1 p2 p3 (muX10_parlour_3 p1 p2 p3 μ) (0, (-1), 0) ((NX10_parlour_62 p1 p2 p3 μ)) (SX10_parlour_62 p1 p2 p3 μ) rfl hs2 ?_
      refine r_iload dX10_parlour_62 7 rfl ?_
      refine r_iload_n dX10_parlour_64 1 rfl ?_
      refine r_icmp_gt 158 dX10_parlour_65 (by decide) (fun c2 => ?_) (fun c2 => ?_)
      · replace hP := hP.1 c2
        refine r_iload_n dX10_parlour_158 3 rfl ?_
        refine r_if_ne 167 dX10_parlour_159 (by decide) (fun c3 => ?_) (fun c3 => ?_)
        · refine r_iload_n dX10_parlour_167 3 rfl ?_
          refine r_iconst 1 dX10_parlour_168 rfl ?_
          refine r_icmp_ne 177 dX10_parlour_169 (by decide) (fun c4 => ?_) (fun c4 => ?_)
          · refine r_iload dX10_parlour_177 6 rfl ?_
            exact r_ireturn _ dX10_parlour_179 rfl rfl ⟨congrArg (fun z => some (Value.int z)) (by unfold F_X10_parlour; rw [if_pos c1, if_pos c3, if_pos c4]), rfl⟩
          · refine r_iload dX10_parlour_172 5 rfl ?_
            refine r_goto 179 dX10_parlour_174 (by decide) ?_
            exact r_ireturn _ dX10_parlour_179 rfl rfl ⟨congrArg (fun z => some (Value.int z)) (by unfold F_X10_parlour; rw [if_pos c1, if_pos c3, if_neg (not_not_intro c4)]), rfl⟩
        · refine r_iload dX10_parlour_162 4 rfl ?_
          refine r_goto 179 dX10_parlour_164 (by decide) ?_
          exact r_ireturn _ dX10_parlour_179 rfl rfl ⟨congrArg (fun z => some (Value.int z)) (by unfold F_X10_parlour; rw [if_pos c1, if_neg (not_not_intro c3)]), rfl⟩
      · replace hP := hP.2 c2
        refine r_iconst 0 dX10_parlour_68 rfl ?_
        refine r_istore [(8, _), (0, _), (1, _), (2, _), (3, _), (4, _), (5, _), (6, _), (7, _)] dX10_parlour_69 (Nat.le_of_ble_eq_true rfl) rfl ?_
        have hs6 := hP.1
        replace hP := hP.2
        refine r_sub [1, 2, 3, 4, 5, 6, 7, 8, 0] rfl ?_
        refine lp_X10_parlour_71 hG p1 p2 p3 (nI (NX10_parlour_62 p1 p2 p3 μ)) (muX10_parlour_3 p1 p2 p3 μ) ((SX10_parlour_62 p1 p2 p3 μ).1, (SX10_parlour_62 p1 p2 p3 μ).2.1, (SX10_parlour_62 p1 p2 p3 μ).2.2) ((NX10_parlour_71 p1 p2 p3 μ)) (SX10_parlour_71 p1 p2 p3 μ) rfl hs6 ?_
        refine r_iload dX10_parlour_71 8 rfl ?_
        refine r_iload_n dX10_parlour_73 1 rfl ?_
        refine r_icmp_gt 152 dX10_parlour_74 (by decide) (fun c3 => ?_) (fun c3 => ?_)
        · replace hP := hP.1 c3
          refine r_iinc ((nI (NX10_parlour_62 p1 p2 p3 μ)) + 1) [(7, _), (0, _), (1, _), (2, _), (3, _), (4, _), (5, _), (6, _), (8, _)] dX10_parlour_152 7 rfl rfl (Nat.le_of_ble_eq_true rfl) rfl ?_
          refine r_goto 62 dX10_parlour_155 (by decide) ?_
          exact hP.elim
        · replace hP := hP.2 c3
          refine r_iload dX10_parlour_77 7 rfl ?_
          refine r_iload dX10_parlour_79 8 rfl ?_
          refine r_iload_n dX10_parlour_81 1 rfl ?_
          refine r_iload_n dX10_parlour_82 2 rfl ?_
          have hs8 := hP.1
          replace hP := hP.2
          refine r_csI (ok_X10_isRest hG (nI (NX10_parlour_62 p1 p2 p3 μ)) (nI (NX10_parlour_71 p1 p2 p3 μ)) p1 p2 (muX10_parlour_3 p1 p2 p3 μ) hs8) lX10_378 dX10_parlour_83 (by decide) (Nat.le_of_ble_eq_true rfl) rfl (Nat.le_of_ble_eq_true rfl) ?_
          refine r_join 146 [(4, .int (VX10_parlour_6 p1 p2 p3 μ)), (6, .int (VX10_parlour_7 p1 p2 p3 μ)), (5, .int (VX10_parlour_8 p1 p2 p3 μ)), (0, .ref (ga G 57)), (1, .int p1), (2, .int p2), (3, .int p3), (7, .int (nI (NX10_parlour_62 p1 p2 p3 μ))), (8, .int (nI (NX10_parlour_71 p1 p2 p3 μ)))] [] (muX10_parlour_3 p1 p2 p3 μ) ?_ (fun hJ => ?_)
          · refine r_iinc ((nI (NX10_parlour_71 p1 p2 p3 μ)) + 1) [(8, _), (4, _), (6, _), (5, _), (0, _), (1, _), (2, _), (3, _), (7, _)] dX10_parlour_146 8 rfl rfl (Nat.le_of_ble_eq_true rfl) rfl ?_
            refine r_goto 71 dX10_parlour_149 (by decide) ?_
            exact hP.elim
          · refine r_if_ne 92 dX10_parlour_86 (by decide) (fun c4 => ?_) (fun c4 => ?_)
            · refine r_iload dX10_parlour_92 4 rfl ?_
              refine r_join 110 [(0, .ref (ga G 57)), (1, .int p1), (2, .int p2), (3, .int p3), (4, .int (SX10_parlour_71 p1 p2 p3 μ).1), (5, .int (SX10_parlour_71 p1 p2 p3 μ).2.1), (6, .int (SX10_parlour_71 p1 p2 p3 μ).2.2), (7, .int (nI (NX10_parlour_62 p1 p2 p3 μ))), (8, .int (nI (NX10_parlour_71 p1 p2 p3 μ)))] [.int (VX10_parlour_4 p1 p2 p3 μ)] (muX10_parlour_3 p1 p2 p3 μ) ?_ (fun hJ => ?_)
              · refine r_istore [(5, _), (0, _), (1, _), (2, _), (3, _), (4, _), (6, _), (7, _), (8, _)] dX10_parlour_110 (Nat.le_of_ble_eq_true rfl) rfl ?_
                refine r_iload dX10_parlour_112 5 rfl ?_
                refine r_join 141 [(5, .int (VX10_parlour_4 p1 p2 p3 μ)), (0, .ref (ga G 57)), (1, .int p1), (2, .int p2), (3, .int p3), (4, .int (SX10_parlour_71 p1 p2 p3 μ).1), (6, .int (SX10_parlour_71 p1 p2 p3 μ).2.2), (7, .int (nI (NX10_parlour_62 p1 p2 p3 μ))), (8, .int (nI (NX10_parlour_71 p1 p2 p3 μ)))] [.int (VX10_parlour_5 p1 p2 p3 μ)] (muX10_parlour_3 p1 p2 p3 μ) ?_ (fun hJ => ?_)
                · refine r_istore [(6, _), (5, _), (0, _), (1, _), (2, _), (3, _), (4, _), (7, _), (8, _)] dX10_parlour_141 (Nat.le_of_ble_eq_true rfl) rfl ?_
                  refine r_iinc ((SX10_parlour_71 p1 p2 p3 μ).1 + 1) [(4, _), (6, _), (5, _), (0, _), (1, _), (2, _), (3, _), (7, _), (8, _)] dX10_parlour_143 6 rfl rfl (Nat.le_of_ble_eq_true rfl) rfl ?_
                  have e : (VX10_parlour_6 p1 p2 p3 μ) = ((SX10_parlour_71 p1 p2 p3 μ).1 + 1) := by unfold VX10_parlour_6; rw [if_pos c4]
                  rw [e] at hJ
                  clear e
                  have e : (VX10_parlour_7 p1 p2 p3 μ) = (VX10_parlour_5 p1 p2 p3 μ) := by unfold VX10_parlour_7; rw [if_pos c4]
                  rw [e] at hJ
                  clear e
                  have e : (VX10_parlour_8 p1 p2 p3 μ) = (VX10_parlour_4 p1 p2 p3 μ) := by unfold VX10_parlour_8; rw [if_pos c4]
                  rw [e] at hJ
                  exact r_sub [0, 1, 2, 3, 4, 5, 6, 7, 8] rfl hJ
                · refine r_if_ne 139 dX10_parlour_114 (by decide) (fun c5 => ?_) (fun c5 => ?_)
                  · refine r_iload dX10_parlour_139 6 rfl ?_
                    have e : (VX10_parlour_5 p1 p2 p3 μ) = (SX10_parlour_71 p1 p2 p3 μ).2.2 := by unfold VX10_parlour_5; rw [if_pos c5]
                    rw [e] at hJ
                    exact r_sub [0, 1, 2, 3, 4, 5, 6, 7, 8] rfl hJ
                  · refine r_iload dX10_parlour_117 7 rfl ?_
                    refine r_iload dX10_parlour_119 8 rfl ?_
                    refine r_iload_n dX10_parlour_121 2 rfl ?_
                    refine r_iload_n dX10_parlour_122 3 rfl ?_
                    refine r_csI (ok_X10_seaHas hG (nI (NX10_parlour_62 p1 p2 p3 μ)) (nI (NX10_parlour_71 p1 p2 p3 μ)) p1 p2 (muX10_parlour_3 p1 p2 p3 μ)) lX10_371 dX10_parlour_123 (by decide) (Nat.le_of_ble_eq_true rfl) rfl (Nat.le_of_ble_eq_true rfl) ?_
                    refine r_iload dX10_parlour_126 7 rfl ?_
                    refine r_iload dX10_parlour_128 8 rfl ?_
                    refine r_iload_n dX10_parlour_130 2 rfl ?_
                    refine r_iload_n dX10_parlour_131 3 rfl ?_
                    refine r_csI (ok_X10_houseHas hG (nI (NX10_parlour_62 p1 p2 p3 μ)) (nI (NX10_parlour_71 p1 p2 p3 μ)) p1 p2 (muX10_parlour_3 p1 p2 p3 μ)) lX10_375 dX10_parlour_132 (by decide) (Nat.le_of_ble_eq_true rfl) rfl (Nat.le_of_ble_eq_true rfl) ?_
                    refine r_iadd dX10_parlour_135 ?_
                    refine r_goto 141 dX10_parlour_136 (by decide) ?_
                    have e : (VX10_parlour_5 p1 p2 p3 μ) = ((F_X10_seaHas (nI (NX10_parlour_62 p1 p2 p3 μ)) (nI (NX10_parlour_71 p1 p2 p3 μ)) p1 p2 (muX10_parlour_3 p1 p2 p3 μ)) + (F_X10_houseHas (nI (NX10_parlour_62 p1 p2 p3 μ)) (nI (NX10_parlour_71 p1 p2 p3 μ)) p1 p2 (muX10_parlour_3 p1 p2 p3 μ))) := by unfold VX10_parlour_5; rw [if_neg (not_not_intro c5)]
                    rw [e] at hJ
                    exact r_sub [0, 1, 2, 3, 4, 5, 6, 7, 8] rfl hJ
              · refine r_if_ne 108 dX10_parlour_94 (by decide) (fun c5 => ?_) (fun c5 => ?_)
                · refine r_iload dX10_parlour_108 5 rfl ?_
                  have e : (VX10_parlour_4 p1 p2 p3 μ) = (SX10_parlour_71 p1 p2 p3 μ).2.1 := by unfold VX10_parlour_4; rw [if_pos c5]
                  rw [e] at hJ
                  exact r_sub [0, 1, 2, 3, 4, 5, 6, 7, 8] rfl hJ
                · refine r_bipush 100 dX10_parlour_97 rfl ?_
                  refine r_iload dX10_parlour_99 7 rfl ?_
                  refine r_imul dX10_parlour_101 ?_
                  refine r_iload dX10_parlour_102 8 rfl ?_
                  refine r_iadd dX10_parlour_104 ?_
                  refine r_goto 110 dX10_parlour_105 (by decide) ?_
                  have e : (VX10_parlour_4 p1 p2 p3 μ) = ((100 * (nI (NX10_parlour_62 p1 p2 p3 μ))) + (nI (NX10_parlour_71 p1 p2 p3 μ))) := by unfold VX10_parlour_4; rw [if_neg (not_not_intro c5)]
                  rw [e] at hJ
                  exact r_sub [0, 1, 2, 3, 4, 5, 6, 7, 8] rfl hJ
            · refine r_goto 146 dX10_parlour_89 (by decide) ?_
              have e : (VX10_parlour_6 p1 p2 p3 μ) = (SX10_parlour_71 p1 p2 p3 μ).1 := by unfold VX10_parlour_6; rw [if_neg (not_not_intro c4)]
              rw [e] at hJ
              clear e
              have e : (VX10_parlour_7 p1 p2 p3 μ) = (SX10_parlour_71 p1 p2 p3 μ).2.2 := by unfold VX10_parlour_7; rw [if_neg (not_not_intro c4)]
              rw [e] at hJ
              clear e
              have e : (VX10_parlour_8 p1 p2 p3 μ) = (SX10_parlour_71 p1 p2 p3 μ).2.1 := by unfold VX10_parlour_8; rw [if_neg (not_not_intro c4)]
              rw [e] at hJ
              exact r_sub [4, 6, 5, 0, 1, 2, 3, 7, 8] rfl hJ
    · replace hP := hP.2 c1
      refine r_iconst 0 dX10_parlour_48 rfl ?_
      exact r_ireturn _ dX10_parlour_49 rfl rfl ⟨congrArg (fun z => some (Value.int z)) (by unfold F_X10_parlour; rw [if_neg c1]), rfl⟩
  · refine r_if_eq 35 dX10_parlour_13 (by decide) (fun c1 => ?_) (fun c1 => ?_)
    · refine r_iconst 1 dX10_parlour_35 rfl ?_
      refine r_goto 40 dX10_parlour_36 (by decide) ?_
      have e : (VX10_parlour_2 p1 p2 p3 μ) = 1 := by unfold VX10_parlour_2; rw [if_pos c1]
      rw [e] at hJ
      exact r_sub [0, 1, 2, 3] rfl hJ
    · refine r_iload_n dX10_parlour_16 2 rfl ?_
      refine r_iconst 0 dX10_parlour_17 rfl ?_
      refine r_bipush 16 dX10_parlour_18 rfl ?_
      refine r_csI (ok_X10_isIn hG p2 0 16 (muX10_parlour_1 p1 p2 p3 μ)) lX10_137 dX10_parlour_20 (by decide) (Nat.le_of_ble_eq_true rfl) rfl (Nat.le_of_ble_eq_true rfl) ?_
      refine r_if_eq 35 dX10_parlour_23 (by decide) (fun c2 => ?_) (fun c2 => ?_)
      · refine r_iconst 1 dX10_parlour_35 rfl ?_
        refine r_goto 40 dX10_parlour_36 (by decide) ?_
        have e : (VX10_parlour_2 p1 p2 p3 μ) = 1 := by unfold VX10_parlour_2; rw [if_neg c1, if_pos c2]
        rw [e] at hJ
        exact r_sub [0, 1, 2, 3] rfl hJ
      · refine r_iload_n dX10_parlour_26 3 rfl ?_
        refine r_iconst 0 dX10_parlour_27 rfl ?_
        refine r_iconst 2 dX10_parlour_28 rfl ?_
        refine r_csI (ok_X10_isIn hG p3 0 2 (muX10_parlour_1 p1 p2 p3 μ)) lX10_137 dX10_parlour_29 (by decide) (Nat.le_of_ble_eq_true rfl) rfl (Nat.le_of_ble_eq_true rfl) ?_
        refine r_if_ne 39 dX10_parlour_32 (by decide) (fun c3 => ?_) (fun c3 => ?_)
        · refine r_iconst 0 dX10_parlour_39 rfl ?_
          have e : (VX10_parlour_2 p1 p2 p3 μ) = 0 := by unfold VX10_parlour_2; rw [if_neg c1, if_neg c2, if_pos c3]
          rw [e] at hJ
          exact r_sub [0, 1, 2, 3] rfl hJ
        · refine r_iconst 1 dX10_parlour_35 rfl ?_
          refine r_goto 40 dX10_parlour_36 (by decide) ?_
          have e : (VX10_parlour_2 p1 p2 p3 μ) = 1 := by unfold VX10_parlour_2; rw [if_neg c1, if_neg c2, if_neg (not_not_intro c3)]
          rw [e] at hJ
          exact r_sub [0, 1, 2, 3] rfl hJ
def VX10_stainBy_5_1 (v1 : Int32) (v2 : Int32) (μ : Mem) (i : Nat) (s : Int32) : Int32 := (if (F_X10_has v2 (nI i) μ) = 0 then s else (F_X10_more s (F_X10_waterBy 521 v1 (μ 65 (ix (nI i))) μ) μ))
def g_X10_stainBy_5 (v1 : Int32) (v2 : Int32) (μ : Mem) (i : Nat) (s : Int32) : Int32 := (VX10_stainBy_5_1 v1 v2 μ i s)
def Pb_X10_stainBy_5 (v1 : Int32) (v2 : Int32) (μ : Mem) (i : Nat) (s : Int32) : Prop := (((μ 61 2) ≤ (nI i) → False) ∧ ((nI i) < (μ 61 2) → (((F_X10_has v2 (nI i) μ) = 0 → True) ∧ (¬ (F_X10_has v2 (nI i) μ) = 0 → (vp_in (nI i) 12) ∧ P_X10_waterBy 521 v1 (μ 65 (ix (nI i))) μ))))
set_option maxRecDepth 20000 in
set_option maxHeartbeats 2000000 in
theorem lp_X10_stainBy_5 {G : SG} (hG : GK 548 G)  (v1 : Int32) (v2 : Int32) (μ : Mem) (s0 : Int32) (N : Nat) (sN : Int32) (eN : sN = fo N (g_X10_stainBy_5 v1 v2 μ) s0) (hN : ∀ i, i < N → Pb_X10_stainBy_5 v1 v2 μ i (fo i (g_X10_stainBy_5 v1 v2 μ) s0)) {t : Nat} {Q : PQ} {X : PX} (h : R G mX10_stainBy 5 [(0, .ref (ga G 57)), (1, .int v1), (2, .int v2), (3, .int sN), (4, .int (nI N))] [] μ t Q X) : R G mX10_stainBy 5 [(0, .ref (ga G 57)), (1, .int v1), (2, .int v2), (3, .int s0), (4, .int 0)] [] μ t Q X := by
  subst eN
  refine down_i N (fun i => R G mX10_stainBy 5 [(0, .ref (ga G 57)), (1, .int v1), (2, .int v2), (3, .int (fo i (g_X10_stainBy_5 v1 v2 μ) s0)), (4, .int (nI i))] [] μ t Q X) h (fun i hi hS => ?_)
  have hP := hN i hi
  rw [fo_succ] at hS
  rw [nI_succ] at hS
  generalize fo i (g_X10_stainBy_5 v1 v2 μ) s0 = s at hS hP ⊢
  unfold Pb_X10_stainBy_5 at hP
  refine r_iload dX10_stainBy_5 4 rfl ?_
  refine r_aload_n dX10_stainBy_7 0 rfl ?_
  refine r_getR 61 fX10_23 (hG.lt (by decide)) sh57 fs57_12 dX10_stainBy_8 ?_
  refine r_iconst 2 dX10_stainBy_11 rfl ?_
  refine r_ialdK 2 rfl (hG.lt (by decide)) sh61 (vp_of (by decide) (by decide)) dX10_stainBy_12 ?_
  refine r_icmp_ge 56 dX10_stainBy_13 (by decide) (fun c1 => ?_) (fun c1 => ?_)
  · replace hP := hP.1 c1
    exact hP.elim
  · replace hP := hP.2 c1
    refine r_iload_n dX10_stainBy_16 2 rfl ?_
    refine r_iload dX10_stainBy_17 4 rfl ?_
    refine r_csI (ok_X10_has hG v2 (nI i) μ) lX10_268 dX10_stainBy_19 (by decide) (Nat.le_of_ble_eq_true rfl) rfl (Nat.le_of_ble_eq_true rfl) ?_
    refine r_join 49 [(0, .ref (ga G 57)), (1, .int v1), (2, .int v2), (3, .int s), (4, .int (nI i))] [.int (VX10_stainBy_5_1 v1 v2 μ i s)] μ ?_ (fun hJ => ?_)
    · refine r_istore_n [(3, _), (0, _), (1, _), (2, _), (4, _)] dX10_stainBy_49 (Nat.le_of_ble_eq_true rfl) rfl ?_
      refine r_iinc ((nI i) + 1) [(4, _), (3, _), (0, _), (1, _), (2, _)] dX10_stainBy_50 4 rfl rfl (Nat.le_of_ble_eq_true rfl) rfl ?_
      refine r_goto 5 dX10_stainBy_53 (by decide) ?_
      have e : g_X10_stainBy_5 v1 v2 μ i s = (VX10_stainBy_5_1 v1 v2 μ i s) := by unfold g_X10_stainBy_5; rfl
      rw [e] at hS
      exact r_sub [2, 3, 4, 1, 0] rfl hS
    · refine r_if_eq 48 dX10_stainBy_22 (by decide) (fun c2 => ?_) (fun c2 => ?_)
      · replace hP := hP.1 c2
        refine r_iload_n dX10_stainBy_48 3 rfl ?_
        have e : (VX10_stainBy_5_1 v1 v2 μ i s) = s := by unfold VX10_stainBy_5_1; rw [if_pos c2]
        rw [e] at hJ
        exact r_sub [0, 1, 2, 3, 4] rfl hJ
      · replace hP := hP.2 c2
        refine r_iload_n dX10_stainBy_25 3 rfl ?_
        refine r_aload_n dX10_stainBy_26 0 rfl ?_
        refine r_aload_n dX10_stainBy_27 0 rfl ?_
        refine r_getR 521 fX10_73 (hG.lt (by decide)) sh57 fs57_31 dX10_stainBy_28 ?_
        refine r_iload_n dX10_stainBy_31 1 rfl ?_
        refine r_aload_n dX10_stainBy_32 0 rfl ?_
        refine r_getR 65 fX10_35 (hG.lt (by decide)) sh57 fs57_16 dX10_stainBy_33 ?_
        refine r_iload dX10_stainBy_36 4 rfl ?_
        have hs1 := hP.1
        replace hP := hP.2
        refine r_iald (hG.lt (by decide)) sh65 hs1 dX10_stainBy_38 ?_
        have hs2 := hP
        refine r_cvI (ok_X10_waterBy hG (hG.lt (by decide)) sh521 v1 (μ 65 (ix (nI i))) μ hs2) lX10_282 (hG.lt (by decide)) sh57 ⟨_, _, rfl⟩ dX10_stainBy_39 (by decide) (Nat.le_of_ble_eq_true rfl) rfl (Nat.le_of_ble_eq_true rfl) ?_
        refine r_csI (ok_X10_more hG s (F_X10_waterBy 521 v1 (μ 65 (ix (nI i))) μ) μ) lX10_252 dX10_stainBy_42 (by decide) (Nat.le_of_ble_eq_true rfl) rfl (Nat.le_of_ble_eq_true rfl) ?_
        refine r_goto 49 dX10_stainBy_45 (by decide) ?_
        have e : (VX10_stainBy_5_1 v1 v2 μ i s) = (F_X10_more s (F_X10_waterBy 521 v1 (μ 65 (ix (nI i))) μ) μ) := by unfold VX10_stainBy_5_1; rw [if_neg c2]
        rw [e] at hJ
        exact r_sub [0, 1, 2, 3, 4] rfl hJ
def NX10_stainBy_5 (p1 : Int32) (p2 : Int32) (μ : Mem) : Nat := ix (μ 61 2)
def SX10_stainBy_5 (p1 : Int32) (p2 : Int32) (μ : Mem) : Int32 := fo (NX10_stainBy_5 p1 p2 μ) (g_X10_stainBy_5 p1 p2 μ) 0
def VX10_stainBy_1 (p1 : Int32) (p2 : Int32) (μ : Mem) : Int32 := (if (F_X10_has p2 (nI (NX10_stainBy_5 p1 p2 μ)) μ) = 0 then (SX10_stainBy_5 p1 p2 μ) else (F_X10_more (SX10_stainBy_5 p1 p2 μ) (F_X10_waterBy 521 p1 (μ 65 (ix (nI (NX10_stainBy_5 p1 p2 μ)))) μ) μ))
def F_X10_stainBy (p1 : Int32) (p2 : Int32) (μ : Mem) : Int32 := (SX10_stainBy_5 p1 p2 μ)
def P_X10_stainBy (p1 : Int32) (p2 : Int32) (μ : Mem) : Prop := ((∀ j9, j9 < (NX10_stainBy_5 p1 p2 μ) → Pb_X10_stainBy_5 p1 p2 μ j9 (fo j9 (g_X10_stainBy_5 p1 p2 μ) 0)) ∧ (((μ 61 2) ≤ (nI (NX10_stainBy_5 p1 p2 μ)) → True) ∧ ((nI (NX10_stainBy_5 p1 p2 μ)) < (μ 61 2) → ((((F_X10_has p2 (nI (NX10_stainBy_5 p1 p2 μ)) μ) = 0 → True) ∧ (¬ (F_X10_has p2 (nI (NX10_stainBy_5 p1 p2 μ)) μ) = 0 → ((vp_in (nI (NX10_stainBy_5 p1 p2 μ)) 12) ∧ (P_X10_waterBy 521 p1 (μ 65 (ix (nI (NX10_stainBy_5 p1 p2 μ)))) μ)))) ∧ False))))
set_option maxRecDepth 20000 in
set_option maxHeartbeats 2000000 in
theorem ok_X10_stainBy {G : SG} (hG : GK 548 G) (p1 : Int32) (p2 : Int32) (μ : Mem) (hP : P_X10_stainBy p1 p2 μ) : OkF G mX10_stainBy [.ref (ga G 57), .int p1, .int p2] μ (some (.int (F_X10_stainBy p1 p2 μ))) μ := by
  refine okF_of hG rfl rfl (Nat.le_of_ble_eq_true rfl) ?_
  unfold P_X10_stainBy at hP
  refine r_iconst 0 dX10_stainBy_0 rfl ?_
  refine r_istore_n [(3, _), (0, _), (1, _), (2, _)] dX10_stainBy_1 (Nat.le_of_ble_eq_true rfl) rfl ?_
  refine r_iconst 0 dX10_stainBy_2 rfl ?_
  refine r_istore [(4, _), (3, _), (0, _), (1, _), (2, _)] dX10_stainBy_3 (Nat.le_of_ble_eq_true rfl) rfl ?_
  have hs1 := hP.1
  replace hP := hP.2
  refine r_sub [2, 3, 4, 1, 0] rfl ?_
  refine lp_X10_stainBy_5 hG p1 p2 μ 0 ((NX10_stainBy_5 p1 p2 μ)) (SX10_stainBy_5 p1 p2 μ) rfl hs1 ?_
  refine r_iload dX10_stainBy_5 4 rfl ?_
  refine r_aload_n dX10_stainBy_7 0 rfl ?_
  refine r_getR 61 fX10_23 (hG.lt (by decide)) sh57 fs57_12 dX10_stainBy_8 ?_
  refine r_iconst 2 dX10_stainBy_11 rfl ?_
  refine r_ialdK 2 rfl (hG.lt (by decide)) sh61 (vp_of (by decide) (by decide)) dX10_stainBy_12 ?_
  refine r_icmp_ge 56 dX10_stainBy_13 (by decide) (fun c1 => ?_) (fun c1 => ?_)
  · replace hP := hP.1 c1
    refine r_iload_n dX10_stainBy_56 3 rfl ?_
    exact r_ireturn _ dX10_stainBy_57 rfl rfl ⟨congrArg (fun z => some (Value.int z)) (rfl), rfl⟩
  · replace hP := hP.2 c1
    refine r_iload_n dX10_stainBy_16 2 rfl ?_
    refine r_iload dX10_stainBy_17 4 rfl ?_
    refine r_csI (ok_X10_has hG p2 (nI (NX10_stainBy_5 p1 p2 μ)) μ) lX10_268 dX10_stainBy_19 (by decide) (Nat.le_of_ble_eq_true rfl) rfl (Nat.le_of_ble_eq_true rfl) ?_
    refine r_join 49 [(0, .ref (ga G 57)), (1, .int p1), (2, .int p2), (3, .int (SX10_stainBy_5 p1 p2 μ)), (4, .int (nI (NX10_stainBy_5 p1 p2 μ)))] [.int (VX10_stainBy_1 p1 p2 μ)] μ ?_ (fun hJ => ?_)
    · replace hP := hP.2
      refine r_istore_n [(3, _), (0, _), (1, _), (2, _), (4, _)] dX10_stainBy_49 (Nat.le_of_ble_eq_true rfl) rfl ?_
      refine r_iinc ((nI (NX10_stainBy_5 p1 p2 μ)) + 1) [(4, _), (3, _), (0, _), (1, _), (2, _)] dX10_stainBy_50 4 rfl rfl (Nat.le_of_ble_eq_true rfl) rfl ?_
      refine r_goto 5 dX10_stainBy_53 (by decide) ?_
      exact hP.elim
    · replace hP := hP.1
      refine r_if_eq 48 dX10_stainBy_22 (by decide) (fun c2 => ?_) (fun c2 => ?_)
      · replace hP := hP.1 c2
        refine r_iload_n dX10_stainBy_48 3 rfl ?_
        have e : (VX10_stainBy_1 p1 p2 μ) = (SX10_stainBy_5 p1 p2 μ) := by unfold VX10_stainBy_1; rw [if_pos c2]
        rw [e] at hJ
        exact r_sub [0, 1, 2, 3, 4] rfl hJ
      · replace hP := hP.2 c2
        refine r_iload_n dX10_stainBy_25 3 rfl ?_
        refine r_aload_n dX10_stainBy_26 0 rfl ?_
        refine r_aload_n dX10_stainBy_27 0 rfl ?_
        refine r_getR 521 fX10_73 (hG.lt (by decide)) sh57 fs57_31 dX10_stainBy_28 ?_
        refine r_iload_n dX10_stainBy_31 1 rfl ?_
        refine r_aload_n dX10_stainBy_32 0 rfl ?_
        refine r_getR 65 fX10_35 (hG.lt (by decide)) sh57 fs57_16 dX10_stainBy_33 ?_
        refine r_iload dX10_stainBy_36 4 rfl ?_
        have hs4 := hP.1
        replace hP := hP.2
        refine r_iald (hG.lt (by decide)) sh65 hs4 dX10_stainBy_38 ?_
        have hs5 := hP
        refine r_cvI (ok_X10_waterBy hG (hG.lt (by decide)) sh521 p1 (μ 65 (ix (nI (NX10_stainBy_5 p1 p2 μ)))) μ hs5) lX10_282 (hG.lt (by decide)) sh57 ⟨_, _, rfl⟩ dX10_stainBy_39 (by decide) (Nat.le_of_ble_eq_true rfl) rfl (Nat.le_of_ble_eq_true rfl) ?_
        refine r_csI (ok_X10_more hG (SX10_stainBy_5 p1 p2 μ) (F_X10_waterBy 521 p1 (μ 65 (ix (nI (NX10_stainBy_5 p1 p2 μ)))) μ) μ) lX10_252 dX10_stainBy_42 (by decide) (Nat.le_of_ble_eq_true rfl) rfl (Nat.le_of_ble_eq_true rfl) ?_
        refine r_goto 49 dX10_stainBy_45 (by decide) ?_
        have e : (VX10_stainBy_1 p1 p2 μ) = (F_X10_more (SX10_stainBy_5 p1 p2 μ) (F_X10_waterBy 521 p1 (μ 65 (ix (nI (NX10_stainBy_5 p1 p2 μ)))) μ) μ) := by unfold VX10_stainBy_1; rw [if_neg c2]
        rw [e] at hJ
        exact r_sub [0, 1, 2, 3, 4] rfl hJ
