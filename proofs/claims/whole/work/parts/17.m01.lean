def muX10_wordHere_1 (μ : Mem) : Mem := (M_X10_blanks  μ)
def VX10_wordHere_8_1 (μ : Mem) (i : Nat) (s : Int64) : Int64 := (if 7 ≤ (nI i) then s else ((((27 * s) + (F_X10_byteAt ((μ 57 4) + (nI i)) μ).toInt64) - 97) + 1))
def g_X10_wordHere_8 (μ : Mem) (i : Nat) (s : Int64) : Int64 := (VX10_wordHere_8_1 μ i s)
def Pb_X10_wordHere_8 (μ : Mem) (i : Nat) (s : Int64) : Prop := (P_X10_byteAt ((μ 57 4) + (nI i)) μ) ∧ (((F_X10_isSmall (F_X10_byteAt ((μ 57 4) + (nI i)) μ) μ) = 0 → False) ∧ (¬ (F_X10_isSmall (F_X10_byteAt ((μ 57 4) + (nI i)) μ) μ) = 0 → ((7 ≤ (nI i) → True) ∧ ((nI i) < 7 → P_X10_byteAt ((μ 57 4) + (nI i)) μ))))
def Cb_X10_wordHere_8 (μ : Mem) (i : Nat) (s : Int64) : Bool := (if (F_X10_isSmall (F_X10_byteAt ((μ 57 4) + (nI i)) μ) μ) = 0 then false else true)
set_option maxRecDepth 20000 in
set_option maxHeartbeats 2000000 in
theorem lp_X10_wordHere_8 {G : SG} (hG : GK 548 G)  (μ : Mem) (s0 : Int64) (N : Nat) (sN : Int64) (eN : sN = fo N (g_X10_wordHere_8 μ) s0) (hN : ∀ i, i < N → Pb_X10_wordHere_8 μ i (fo i (g_X10_wordHere_8 μ) s0)) {t : Nat} {Q : PQ} {X : PX} (h : R G mX10_wordHere 8 [(0, .ref (ga G 57)), (1, .long sN), (3, .int (nI N))] [] μ t Q X) : R G mX10_wordHere 8 [(0, .ref (ga G 57)), (1, .long s0), (3, .int 0)] [] μ t Q X := by
  subst eN
  refine down_i N (fun i => R G mX10_wordHere 8 [(0, .ref (ga G 57)), (1, .long (fo i (g_X10_wordHere_8 μ) s0)), (3, .int (nI i))] [] μ t Q X) h (fun i hi hS => ?_)
  have hP := hN i hi
  rw [fo_succ] at hS
  rw [nI_succ] at hS
  generalize fo i (g_X10_wordHere_8 μ) s0 = s at hS hP ⊢
  unfold Pb_X10_wordHere_8 at hP
  refine r_aload_n dX10_wordHere_8 0 rfl ?_
  refine r_aload_n dX10_wordHere_9 0 rfl ?_
  refine r_getI fX10_112 (hG.lt (by decide)) sh57 fs57_4 dX10_wordHere_10 ?_
  refine r_iload_n dX10_wordHere_13 2 rfl ?_
  refine r_iadd dX10_wordHere_14 ?_
  have hs1 := hP.1
  replace hP := hP.2
  refine r_cvI (ok_X10_byteAt hG ((μ 57 4) + (nI i)) μ hs1) lX10_115 (hG.lt (by decide)) sh57 ⟨_, _, rfl⟩ dX10_wordHere_15 (by decide) (Nat.le_of_ble_eq_true rfl) rfl (Nat.le_of_ble_eq_true rfl) ?_
  refine r_csI (ok_X10_isSmall hG (F_X10_byteAt ((μ 57 4) + (nI i)) μ) μ) lX10_141 dX10_wordHere_18 (by decide) (Nat.le_of_ble_eq_true rfl) rfl (Nat.le_of_ble_eq_true rfl) ?_
  refine r_if_eq 64 dX10_wordHere_21 (by decide) (fun c1 => ?_) (fun c1 => ?_)
  · replace hP := hP.1 c1
    exact hP.elim
  · replace hP := hP.2 c1
    refine r_iload_n dX10_wordHere_24 2 rfl ?_
    refine r_bipush 7 dX10_wordHere_25 rfl ?_
    refine r_join 57 [(0, .ref (ga G 57)), (1, .long s), (3, .int (nI i))] [.long (VX10_wordHere_8_1 μ i s)] μ ?_ (fun hJ => ?_)
    · refine r_lstore_n [(1, _), (0, _), (3, _)] dX10_wordHere_57 (Nat.le_of_ble_eq_true rfl) rfl ?_
      refine r_iinc ((nI i) + 1) [(3, _), (1, _), (0, _)] dX10_wordHere_58 2 rfl rfl (Nat.le_of_ble_eq_true rfl) rfl ?_
      refine r_goto 8 dX10_wordHere_61 (by decide) ?_
      have e : g_X10_wordHere_8 μ i s = (VX10_wordHere_8_1 μ i s) := by unfold g_X10_wordHere_8; rfl
      rw [e] at hS
      exact r_sub [2, 1, 0] rfl hS
    · refine r_icmp_ge 56 dX10_wordHere_27 (by decide) (fun c2 => ?_) (fun c2 => ?_)
      · replace hP := hP.1 c2
        refine r_lload_n dX10_wordHere_56 1 rfl ?_
        have e : (VX10_wordHere_8_1 μ i s) = s := by unfold VX10_wordHere_8_1; rw [if_pos c2]
        rw [e] at hJ
        exact r_sub [0, 1, 2] rfl hJ
      · replace hP := hP.2 c2
        refine r_ldc2 27 (bc7 99 (by decide +kernel) (by decide +kernel)) dX10_wordHere_30 ?_
        refine r_lload_n dX10_wordHere_33 1 rfl ?_
        refine r_lmul dX10_wordHere_34 ?_
        refine r_aload_n dX10_wordHere_35 0 rfl ?_
        refine r_aload_n dX10_wordHere_36 0 rfl ?_
        refine r_getI fX10_112 (hG.lt (by decide)) sh57 fs57_4 dX10_wordHere_37 ?_
        refine r_iload_n dX10_wordHere_40 2 rfl ?_
        refine r_iadd dX10_wordHere_41 ?_
        have hs2 := hP
        refine r_cvI (ok_X10_byteAt hG ((μ 57 4) + (nI i)) μ hs2) lX10_115 (hG.lt (by decide)) sh57 ⟨_, _, rfl⟩ dX10_wordHere_42 (by decide) (Nat.le_of_ble_eq_true rfl) rfl (Nat.le_of_ble_eq_true rfl) ?_
        refine r_i2l dX10_wordHere_45 ?_
        refine r_ladd dX10_wordHere_46 ?_
        refine r_ldc2 97 (bc7 100 (by decide +kernel) (by decide +kernel)) dX10_wordHere_47 ?_
        refine r_lsub dX10_wordHere_50 ?_
        refine r_lconst 1 dX10_wordHere_51 rfl ?_
        refine r_ladd dX10_wordHere_52 ?_
        refine r_goto 57 dX10_wordHere_53 (by decide) ?_
        have e : (VX10_wordHere_8_1 μ i s) = ((((27 * s) + (F_X10_byteAt ((μ 57 4) + (nI i)) μ).toInt64) - 97) + 1) := by unfold VX10_wordHere_8_1; rw [if_neg (i32_ng c2)]
        rw [e] at hJ
        exact r_sub [0, 1, 2] rfl hJ
def NX10_wordHere_8 (μ : Mem) : Nat := (fst 601 (fun j9 => !Cb_X10_wordHere_8 (muX10_wordHere_1 μ) j9 (fo j9 (g_X10_wordHere_8 (muX10_wordHere_1 μ)) 0)))
def SX10_wordHere_8 (μ : Mem) : Int64 := fo (NX10_wordHere_8 μ) (g_X10_wordHere_8 (muX10_wordHere_1 μ)) 0
def VX10_wordHere_2 (μ : Mem) : Int64 := (if 7 ≤ (nI (NX10_wordHere_8 μ)) then (SX10_wordHere_8 μ) else ((((27 * (SX10_wordHere_8 μ)) + (F_X10_byteAt (((muX10_wordHere_1 μ) 57 4) + (nI (NX10_wordHere_8 μ))) (muX10_wordHere_1 μ)).toInt64) - 97) + 1))
def F_X10_wordHere  (μ : Mem) : Int64 := (if (nI (NX10_wordHere_8 μ)) ≤ 7 then (SX10_wordHere_8 μ) else (-1))
def M_X10_wordHere  (μ : Mem) : Mem := (muX10_wordHere_1 μ)
def P_X10_wordHere  (μ : Mem) : Prop := ((P_X10_blanks  μ) ∧ ((∀ j9, j9 < (NX10_wordHere_8 μ) → Pb_X10_wordHere_8 (muX10_wordHere_1 μ) j9 (fo j9 (g_X10_wordHere_8 (muX10_wordHere_1 μ)) 0)) ∧ ((P_X10_byteAt (((muX10_wordHere_1 μ) 57 4) + (nI (NX10_wordHere_8 μ))) (muX10_wordHere_1 μ)) ∧ (((F_X10_isSmall (F_X10_byteAt (((muX10_wordHere_1 μ) 57 4) + (nI (NX10_wordHere_8 μ))) (muX10_wordHere_1 μ)) (muX10_wordHere_1 μ)) = 0 → True) ∧ (¬ (F_X10_isSmall (F_X10_byteAt (((muX10_wordHere_1 μ) 57 4) + (nI (NX10_wordHere_8 μ))) (muX10_wordHere_1 μ)) (muX10_wordHere_1 μ)) = 0 → (((7 ≤ (nI (NX10_wordHere_8 μ)) → True) ∧ ((nI (NX10_wordHere_8 μ)) < 7 → (P_X10_byteAt (((muX10_wordHere_1 μ) 57 4) + (nI (NX10_wordHere_8 μ))) (muX10_wordHere_1 μ)))) ∧ False))))))
set_option maxRecDepth 20000 in
set_option maxHeartbeats 2000000 in
theorem ok_X10_wordHere {G : SG} (hG : GK 548 G)  (μ : Mem) (hP : P_X10_wordHere  μ) : OkF G mX10_wordHere [.ref (ga G 57)] μ (some (.long (F_X10_wordHere  μ))) (M_X10_wordHere  μ) := by
  refine okF_of hG rfl rfl (Nat.le_of_ble_eq_true rfl) ?_
  unfold P_X10_wordHere at hP
  refine r_aload_n dX10_wordHere_0 0 rfl ?_
  have hs1 := hP.1
  replace hP := hP.2
  refine r_cvV (ok_X10_blanks hG  μ hs1) lX10_125 (hG.lt (by decide)) sh57 ⟨_, _, rfl⟩ dX10_wordHere_1 (by decide) (Nat.le_of_ble_eq_true rfl) rfl (Nat.le_of_ble_eq_true rfl) ?_
  refine r_mu (muX10_wordHere_1 μ) rfl ?_
  refine r_lconst 0 dX10_wordHere_4 rfl ?_
  refine r_lstore_n [(1, _), (0, _)] dX10_wordHere_5 (Nat.le_of_ble_eq_true rfl) rfl ?_
  refine r_iconst 0 dX10_wordHere_6 rfl ?_
  refine r_istore_n [(3, _), (1, _), (0, _)] dX10_wordHere_7 (Nat.le_of_ble_eq_true rfl) rfl ?_
  have hs2 := hP.1
  replace hP := hP.2
  refine r_sub [2, 1, 0] rfl ?_
  refine lp_X10_wordHere_8 hG (muX10_wordHere_1 μ) 0 ((NX10_wordHere_8 μ)) (SX10_wordHere_8 μ) rfl hs2 ?_
  refine r_aload_n dX10_wordHere_8 0 rfl ?_
  refine r_aload_n dX10_wordHere_9 0 rfl ?_
  refine r_getI fX10_112 (hG.lt (by decide)) sh57 fs57_4 dX10_wordHere_10 ?_
  refine r_iload_n dX10_wordHere_13 2 rfl ?_
  refine r_iadd dX10_wordHere_14 ?_
  have hs3 := hP.1
  replace hP := hP.2
  refine r_cvI (ok_X10_byteAt hG (((muX10_wordHere_1 μ) 57 4) + (nI (NX10_wordHere_8 μ))) (muX10_wordHere_1 μ) hs3) lX10_115 (hG.lt (by decide)) sh57 ⟨_, _, rfl⟩ dX10_wordHere_15 (by decide) (Nat.le_of_ble_eq_true rfl) rfl (Nat.le_of_ble_eq_true rfl) ?_
  refine r_csI (ok_X10_isSmall hG (F_X10_byteAt (((muX10_wordHere_1 μ) 57 4) + (nI (NX10_wordHere_8 μ))) (muX10_wordHere_1 μ)) (muX10_wordHere_1 μ)) lX10_141 dX10_wordHere_18 (by decide) (Nat.le_of_ble_eq_true rfl) rfl (Nat.le_of_ble_eq_true rfl) ?_
  refine r_if_eq 64 dX10_wordHere_21 (by decide) (fun c1 => ?_) (fun c1 => ?_)
  · replace hP := hP.1 c1
    refine r_iload_n dX10_wordHere_64 2 rfl ?_
    refine r_bipush 7 dX10_wordHere_65 rfl ?_
    refine r_icmp_le 76 dX10_wordHere_67 (by decide) (fun c2 => ?_) (fun c2 => ?_)
    · refine r_lload_n dX10_wordHere_76 1 rfl ?_
      exact r_lreturn dX10_wordHere_77 rfl ⟨congrArg (fun z => some (Value.long z)) (by unfold F_X10_wordHere; rw [if_pos c2]), rfl⟩
    · refine r_ldc2 (-1) (bc7 101 (by decide +kernel) (by decide +kernel)) dX10_wordHere_70 ?_
      refine r_goto 77 dX10_wordHere_73 (by decide) ?_
      exact r_lreturn dX10_wordHere_77 rfl ⟨congrArg (fun z => some (Value.long z)) (by unfold F_X10_wordHere; rw [if_neg (i32_ng c2)]), rfl⟩
  · replace hP := hP.2 c1
    refine r_iload_n dX10_wordHere_24 2 rfl ?_
    refine r_bipush 7 dX10_wordHere_25 rfl ?_
    refine r_join 57 [(0, .ref (ga G 57)), (1, .long (SX10_wordHere_8 μ)), (3, .int (nI (NX10_wordHere_8 μ)))] [.long (VX10_wordHere_2 μ)] (muX10_wordHere_1 μ) ?_ (fun hJ => ?_)
    · replace hP := hP.2
      refine r_lstore_n [(1, _), (0, _), (3, _)] dX10_wordHere_57 (Nat.le_of_ble_eq_true rfl) rfl ?_
      refine r_iinc ((nI (NX10_wordHere_8 μ)) + 1) [(3, _), (1, _), (0, _)] dX10_wordHere_58 2 rfl rfl (Nat.le_of_ble_eq_true rfl) rfl ?_
      refine r_goto 8 dX10_wordHere_61 (by decide) ?_
      exact hP.elim
    · replace hP := hP.1
      refine r_icmp_ge 56 dX10_wordHere_27 (by decide) (fun c2 => ?_) (fun c2 => ?_)
      · replace hP := hP.1 c2
        refine r_lload_n dX10_wordHere_56 1 rfl ?_
        have e : (VX10_wordHere_2 μ) = (SX10_wordHere_8 μ) := by unfold VX10_wordHere_2; rw [if_pos c2]
        rw [e] at hJ
        exact r_sub [0, 1, 2] rfl hJ
      · replace hP := hP.2 c2
        refine r_ldc2 27 (bc7 99 (by decide +kernel) (by decide +kernel)) dX10_wordHere_30 ?_
        refine r_lload_n dX10_wordHere_33 1 rfl ?_
        refine r_lmul dX10_wordHere_34 ?_
        refine r_aload_n dX10_wordHere_35 0 rfl ?_
        refine r_aload_n dX10_wordHere_36 0 rfl ?_
        refine r_getI fX10_112 (hG.lt (by decide)) sh57 fs57_4 dX10_wordHere_37 ?_
        refine r_iload_n dX10_wordHere_40 2 rfl ?_
        refine r_iadd dX10_wordHere_41 ?_
        have hs5 := hP
        refine r_cvI (ok_X10_byteAt hG (((muX10_wordHere_1 μ) 57 4) + (nI (NX10_wordHere_8 μ))) (muX10_wordHere_1 μ) hs5) lX10_115 (hG.lt (by decide)) sh57 ⟨_, _, rfl⟩ dX10_wordHere_42 (by decide) (Nat.le_of_ble_eq_true rfl) rfl (Nat.le_of_ble_eq_true rfl) ?_
        refine r_i2l dX10_wordHere_45 ?_
        refine r_ladd dX10_wordHere_46 ?_
        refine r_ldc2 97 (bc7 100 (by decide +kernel) (by decide +kernel)) dX10_wordHere_47 ?_
        refine r_lsub dX10_wordHere_50 ?_
        refine r_lconst 1 dX10_wordHere_51 rfl ?_
        refine r_ladd dX10_wordHere_52 ?_
        refine r_goto 57 dX10_wordHere_53 (by decide) ?_
        have e : (VX10_wordHere_2 μ) = ((((27 * (SX10_wordHere_8 μ)) + (F_X10_byteAt (((muX10_wordHere_1 μ) 57 4) + (nI (NX10_wordHere_8 μ))) (muX10_wordHere_1 μ)).toInt64) - 97) + 1) := by unfold VX10_wordHere_2; rw [if_neg (i32_ng c2)]
        rw [e] at hJ
        exact r_sub [0, 1, 2] rfl hJ
def VX10_seven_1 (p0 : Int32) (p1 : Int32) (p2 : Int32) (p3 : Int32) (p4 : Int32) (p5 : Int32) (p6 : Int32) (μ : Mem) : Int64 := (if p3 ≠ 0 then ((27 * ((27 * ((27 * p0.toInt64) + p1.toInt64)) + p2.toInt64)) + p3.toInt64) else ((27 * ((27 * p0.toInt64) + p1.toInt64)) + p2.toInt64))
def VX10_seven_2 (p0 : Int32) (p1 : Int32) (p2 : Int32) (p3 : Int32) (p4 : Int32) (p5 : Int32) (p6 : Int32) (μ : Mem) : Int64 := (if p4 ≠ 0 then ((27 * (VX10_seven_1 p0 p1 p2 p3 p4 p5 p6 μ)) + p4.toInt64) else (VX10_seven_1 p0 p1 p2 p3 p4 p5 p6 μ))
def VX10_seven_3 (p0 : Int32) (p1 : Int32) (p2 : Int32) (p3 : Int32) (p4 : Int32) (p5 : Int32) (p6 : Int32) (μ : Mem) : Int64 := (if p5 ≠ 0 then ((27 * (VX10_seven_2 p0 p1 p2 p3 p4 p5 p6 μ)) + p5.toInt64) else (VX10_seven_2 p0 p1 p2 p3 p4 p5 p6 μ))
def F_X10_seven (p0 : Int32) (p1 : Int32) (p2 : Int32) (p3 : Int32) (p4 : Int32) (p5 : Int32) (p6 : Int32) (μ : Mem) : Int64 := (if p6 ≠ 0 then ((27 * (VX10_seven_3 p0 p1 p2 p3 p4 p5 p6 μ)) + p6.toInt64) else (VX10_seven_3 p0 p1 p2 p3 p4 p5 p6 μ))
set_option maxRecDepth 20000 in
set_option maxHeartbeats 2000000 in
theorem ok_X10_seven {G : SG} (hG : GK 548 G) (p0 : Int32) (p1 : Int32) (p2 : Int32) (p3 : Int32) (p4 : Int32) (p5 : Int32) (p6 : Int32) (μ : Mem) : OkF G mX10_seven [.int p0, .int p1, .int p2, .int p3, .int p4, .int p5, .int p6] μ (some (.long (F_X10_seven p0 p1 p2 p3 p4 p5 p6 μ))) μ := by
  refine okF_of hG rfl rfl (Nat.le_of_ble_eq_true rfl) ?_
  refine r_ldc2 27 (bc7 99 (by decide +kernel) (by decide +kernel)) dX10_seven_0 ?_
  refine r_ldc2 27 (bc7 99 (by decide +kernel) (by decide +kernel)) dX10_seven_3 ?_
  refine r_iload_n dX10_seven_6 0 rfl ?_
  refine r_i2l dX10_seven_7 ?_
  refine r_lmul dX10_seven_8 ?_
  refine r_iload_n dX10_seven_9 1 rfl ?_
  refine r_i2l dX10_seven_10 ?_
  refine r_ladd dX10_seven_11 ?_
  refine r_lmul dX10_seven_12 ?_
  refine r_iload_n dX10_seven_13 2 rfl ?_
  refine r_i2l dX10_seven_14 ?_
  refine r_ladd dX10_seven_15 ?_
  refine r_lstore [(7, _), (0, _), (1, _), (2, _), (3, _), (4, _), (5, _), (6, _)] dX10_seven_16 (Nat.le_of_ble_eq_true rfl) rfl ?_
  refine r_iload_n dX10_seven_18 4 rfl ?_
  refine r_join 36 [(7, .long ((27 * ((27 * p0.toInt64) + p1.toInt64)) + p2.toInt64)), (0, .int p0), (1, .int p1), (2, .int p2), (3, .int p3), (4, .int p4), (5, .int p5), (6, .int p6)] [.long (VX10_seven_1 p0 p1 p2 p3 p4 p5 p6 μ)] μ ?_ (fun hJ => ?_)
  · refine r_lstore [(7, _), (0, _), (1, _), (2, _), (3, _), (4, _), (5, _), (6, _)] dX10_seven_36 (Nat.le_of_ble_eq_true rfl) rfl ?_
    refine r_iload dX10_seven_38 5 rfl ?_
    refine r_join 58 [(7, .long (VX10_seven_1 p0 p1 p2 p3 p4 p5 p6 μ)), (0, .int p0), (1, .int p1), (2, .int p2), (3, .int p3), (4, .int p4), (5, .int p5), (6, .int p6)] [.long (VX10_seven_2 p0 p1 p2 p3 p4 p5 p6 μ)] μ ?_ (fun hJ => ?_)
    · refine r_lstore [(7, _), (0, _), (1, _), (2, _), (3, _), (4, _), (5, _), (6, _)] dX10_seven_58 (Nat.le_of_ble_eq_true rfl) rfl ?_
      refine r_iload dX10_seven_60 6 rfl ?_
      refine r_join 80 [(7, .long (VX10_seven_2 p0 p1 p2 p3 p4 p5 p6 μ)), (0, .int p0), (1, .int p1), (2, .int p2), (3, .int p3), (4, .int p4), (5, .int p5), (6, .int p6)] [.long (VX10_seven_3 p0 p1 p2 p3 p4 p5 p6 μ)] μ ?_ (fun hJ => ?_)
      · refine r_lstore [(7, _), (0, _), (1, _), (2, _), (3, _), (4, _), (5, _), (6, _)] dX10_seven_80 (Nat.le_of_ble_eq_true rfl) rfl ?_
        refine r_iload dX10_seven_82 7 rfl ?_
        refine r_if_ne 92 dX10_seven_84 (by decide) (fun c1 => ?_) (fun c1 => ?_)
        · refine r_ldc2 27 (bc7 99 (by decide +kernel) (by decide +kernel)) dX10_seven_92 ?_
          refine r_lload dX10_seven_95 0 rfl ?_
          refine r_lmul dX10_seven_97 ?_
          refine r_iload dX10_seven_98 7 rfl ?_
          refine r_i2l dX10_seven_100 ?_
          refine r_ladd dX10_seven_101 ?_
          exact r_lreturn dX10_seven_102 rfl ⟨congrArg (fun z => some (Value.long z)) (by unfold F_X10_seven; rw [if_pos c1]), rfl⟩
        · refine r_lload dX10_seven_87 0 rfl ?_
          refine r_goto 102 dX10_seven_89 (by decide) ?_
          exact r_lreturn dX10_seven_102 rfl ⟨congrArg (fun z => some (Value.long z)) (by unfold F_X10_seven; rw [if_neg (not_not_intro c1)]), rfl⟩
      · refine r_if_ne 70 dX10_seven_62 (by decide) (fun c1 => ?_) (fun c1 => ?_)
        · refine r_ldc2 27 (bc7 99 (by decide +kernel) (by decide +kernel)) dX10_seven_70 ?_
          refine r_lload dX10_seven_73 0 rfl ?_
          refine r_lmul dX10_seven_75 ?_
          refine r_iload dX10_seven_76 6 rfl ?_
          refine r_i2l dX10_seven_78 ?_
          refine r_ladd dX10_seven_79 ?_
          have e : (VX10_seven_3 p0 p1 p2 p3 p4 p5 p6 μ) = ((27 * (VX10_seven_2 p0 p1 p2 p3 p4 p5 p6 μ)) + p5.toInt64) := by unfold VX10_seven_3; rw [if_pos c1]
          rw [e] at hJ
          exact r_sub [0, 1, 2, 3, 4, 5, 6, 7] rfl hJ
        · refine r_lload dX10_seven_65 0 rfl ?_
          refine r_goto 80 dX10_seven_67 (by decide) ?_
          have e : (VX10_seven_3 p0 p1 p2 p3 p4 p5 p6 μ) = (VX10_seven_2 p0 p1 p2 p3 p4 p5 p6 μ) := by unfold VX10_seven_3; rw [if_neg (not_not_intro c1)]
          rw [e] at hJ
          exact r_sub [0, 1, 2, 3, 4, 5, 6, 7] rfl hJ
    · refine r_if_ne 48 dX10_seven_40 (by decide) (fun c1 => ?_) (fun c1 => ?_)
      · refine r_ldc2 27 (bc7 99 (by decide +kernel) (by decide +kernel)) dX10_seven_48 ?_
        refine r_lload dX10_seven_51 0 rfl ?_
        refine r_lmul dX10_seven_53 ?_
        refine r_iload dX10_seven_54 5 rfl ?_
        refine r_i2l dX10_seven_56 ?_
        refine r_ladd dX10_seven_57 ?_
        have e : (VX10_seven_2 p0 p1 p2 p3 p4 p5 p6 μ) = ((27 * (VX10_seven_1 p0 p1 p2 p3 p4 p5 p6 μ)) + p4.toInt64) := by unfold VX10_seven_2; rw [if_pos c1]
        rw [e] at hJ
        exact r_sub [0, 1, 2, 3, 4, 5, 6, 7] rfl hJ
      · refine r_lload dX10_seven_43 0 rfl ?_
        refine r_goto 58 dX10_seven_45 (by decide) ?_
        have e : (VX10_seven_2 p0 p1 p2 p3 p4 p5 p6 μ) = (VX10_seven_1 p0 p1 p2 p3 p4 p5 p6 μ) := by unfold VX10_seven_2; rw [if_neg (not_not_intro c1)]
        rw [e] at hJ
        exact r_sub [0, 1, 2, 3, 4, 5, 6, 7] rfl hJ
  · refine r_if_ne 27 dX10_seven_19 (by decide) (fun c1 => ?_) (fun c1 => ?_)
    · refine r_ldc2 27 (bc7 99 (by decide +kernel) (by decide +kernel)) dX10_seven_27 ?_
      refine r_lload dX10_seven_30 0 rfl ?_
      refine r_lmul dX10_seven_32 ?_
      refine r_iload_n dX10_seven_33 4 rfl ?_
      refine r_i2l dX10_seven_34 ?_
      refine r_ladd dX10_seven_35 ?_
      have e : (VX10_seven_1 p0 p1 p2 p3 p4 p5 p6 μ) = ((27 * ((27 * ((27 * p0.toInt64) + p1.toInt64)) + p2.toInt64)) + p3.toInt64) := by unfold VX10_seven_1; rw [if_pos c1]
      rw [e] at hJ
      exact r_sub [0, 1, 2, 3, 4, 5, 6, 7] rfl hJ
    · refine r_lload dX10_seven_22 0 rfl ?_
      refine r_goto 36 dX10_seven_24 (by decide) ?_
      have e : (VX10_seven_1 p0 p1 p2 p3 p4 p5 p6 μ) = ((27 * ((27 * p0.toInt64) + p1.toInt64)) + p2.toInt64) := by unfold VX10_seven_1; rw [if_neg (not_not_intro c1)]
      rw [e] at hJ
      exact r_sub [0, 1, 2, 3, 4, 5, 6, 7] rfl hJ
def muX10_isWord_1 (p1 : Int32) (p2 : Int32) (p3 : Int32) (p4 : Int32) (p5 : Int32) (p6 : Int32) (p7 : Int32) (μ : Mem) : Mem := (M_X10_wordHere  μ)
def F_X10_isWord (p1 : Int32) (p2 : Int32) (p3 : Int32) (p4 : Int32) (p5 : Int32) (p6 : Int32) (p7 : Int32) (μ : Mem) : Int32 := (if (μ 57 5) ≠ 0 then 0 else (if (lg_cmp (F_X10_wordHere  μ) (F_X10_seven p1 p2 p3 p4 p5 p6 p7 (muX10_isWord_1 p1 p2 p3 p4 p5 p6 p7 μ))) ≠ 0 then 0 else 1))
def M_X10_isWord (p1 : Int32) (p2 : Int32) (p3 : Int32) (p4 : Int32) (p5 : Int32) (p6 : Int32) (p7 : Int32) (μ : Mem) : Mem := (if (μ 57 5) ≠ 0 then μ else (muX10_isWord_1 p1 p2 p3 p4 p5 p6 p7 μ))
def P_X10_isWord (p1 : Int32) (p2 : Int32) (p3 : Int32) (p4 : Int32) (p5 : Int32) (p6 : Int32) (p7 : Int32) (μ : Mem) : Prop := (((μ 57 5) ≠ 0 → True) ∧ ((μ 57 5) = 0 → (P_X10_wordHere  μ)))
theorem bo_X10_isWord (p1 : Int32) (p2 : Int32) (p3 : Int32) (p4 : Int32) (p5 : Int32) (p6 : Int32) (p7 : Int32) (μ : Mem) : F_X10_isWord p1 p2 p3 p4 p5 p6 p7 μ = 0 ∨ F_X10_isWord p1 p2 p3 p4 p5 p6 p7 μ = 1 := by
  unfold F_X10_isWord
  split
  · exact Or.inl rfl
  · split
    · exact Or.inl rfl
    · exact Or.inr rfl
set_option maxRecDepth 20000 in
set_option maxHeartbeats 2000000 in
theorem ok_X10_isWord {G : SG} (hG : GK 548 G) (p1 : Int32) (p2 : Int32) (p3 : Int32) (p4 : Int32) (p5 : Int32) (p6 : Int32) (p7 : Int32) (μ : Mem) (hP : P_X10_isWord p1 p2 p3 p4 p5 p6 p7 μ) : OkF G mX10_isWord [.ref (ga G 57), .int p1, .int p2, .int p3, .int p4, .int p5, .int p6, .int p7] μ (some (.int (F_X10_isWord p1 p2 p3 p4 p5 p6 p7 μ))) (M_X10_isWord p1 p2 p3 p4 p5 p6 p7 μ) := by
  refine okF_of hG rfl rfl (Nat.le_of_ble_eq_true rfl) ?_
  unfold P_X10_isWord at hP
  refine r_aload_n dX10_isWord_0 0 rfl ?_
  refine r_getI fX10_119 (hG.lt (by decide)) sh57 fs57_5 dX10_isWord_1 ?_
  refine r_if_ne 33 dX10_isWord_4 (by decide) (fun c1 => ?_) (fun c1 => ?_)
  · replace hP := hP.1 c1
    refine r_iconst 0 dX10_isWord_33 rfl ?_
    exact r_ireturn _ dX10_isWord_34 rfl rfl ⟨congrArg (fun z => some (Value.int z)) (by unfold F_X10_isWord; rw [if_pos c1]), by unfold M_X10_isWord; rw [if_pos c1]⟩
  · replace hP := hP.2 c1
    refine r_aload_n dX10_isWord_7 0 rfl ?_
    have hs1 := hP
    refine r_cvL (ok_X10_wordHere hG  μ hs1) lX10_150 (hG.lt (by decide)) sh57 ⟨_, _, rfl⟩ dX10_isWord_8 (by decide) (Nat.le_of_ble_eq_true rfl) rfl (Nat.le_of_ble_eq_true rfl) ?_
    refine r_mu (muX10_isWord_1 p1 p2 p3 p4 p5 p6 p7 μ) rfl ?_
    refine r_iload_n dX10_isWord_11 1 rfl ?_
    refine r_iload_n dX10_isWord_12 2 rfl ?_
    refine r_iload_n dX10_isWord_13 3 rfl ?_
    refine r_iload dX10_isWord_14 4 rfl ?_
    refine r_iload dX10_isWord_16 5 rfl ?_
    refine r_iload dX10_isWord_18 6 rfl ?_
    refine r_iload dX10_isWord_20 7 rfl ?_
    refine r_csL (ok_X10_seven hG p1 p2 p3 p4 p5 p6 p7 (muX10_isWord_1 p1 p2 p3 p4 p5 p6 p7 μ)) lX10_154 dX10_isWord_22 (by decide) (Nat.le_of_ble_eq_true rfl) rfl (Nat.le_of_ble_eq_true rfl) ?_
    refine r_lcmp dX10_isWord_25 ?_
    refine r_if_ne 33 dX10_isWord_26 (by decide) (fun c2 => ?_) (fun c2 => ?_)
    · refine r_iconst 0 dX10_isWord_33 rfl ?_
      exact r_ireturn _ dX10_isWord_34 rfl rfl ⟨congrArg (fun z => some (Value.int z)) (by unfold F_X10_isWord; rw [if_neg (not_not_intro c1), if_pos c2]), by unfold M_X10_isWord; rw [if_neg (not_not_intro c1)]⟩
    · refine r_iconst 1 dX10_isWord_29 rfl ?_
      refine r_goto 34 dX10_isWord_30 (by decide) ?_
      exact r_ireturn _ dX10_isWord_34 rfl rfl ⟨congrArg (fun z => some (Value.int z)) (by unfold F_X10_isWord; rw [if_neg (not_not_intro c1), if_neg (not_not_intro c2)]), by unfold M_X10_isWord; rw [if_neg (not_not_intro c1)]⟩
def muX10_skipWord_0_1 (i : Nat) (s : Mem) : Mem := (upm s 57 4 ((s 57 4) + 1))
def g_X10_skipWord_0  (i : Nat) (s : Mem) : Mem := (muX10_skipWord_0_1 i s)
def Pb_X10_skipWord_0  (i : Nat) (s : Mem) : Prop := (P_X10_byteAt (s 57 4) s) ∧ (((F_X10_isSmall (F_X10_byteAt (s 57 4) s) s) = 0 → False) ∧ (¬ (F_X10_isSmall (F_X10_byteAt (s 57 4) s) s) = 0 → True))
def Cb_X10_skipWord_0  (i : Nat) (s : Mem) : Bool := (if (F_X10_isSmall (F_X10_byteAt (s 57 4) s) s) = 0 then false else true)
set_option maxRecDepth 20000 in
set_option maxHeartbeats 2000000 in
theorem lp_X10_skipWord_0 {G : SG} (hG : GK 548 G)   (s0 : Mem) (N : Nat) (sN : Mem) (eN : sN = fo N g_X10_skipWord_0 s0) (hN : ∀ i, i < N → Pb_X10_skipWord_0  i (fo i g_X10_skipWord_0 s0)) {t : Nat} {Q : PQ} {X : PX} (h : R G mX10_skipWord 0 [(0, .ref (ga G 57))] [] sN t Q X) : R G mX10_skipWord 0 [(0, .ref (ga G 57))] [] s0 t Q X := by
  subst eN
  refine down_i N (fun i => R G mX10_skipWord 0 [(0, .ref (ga G 57))] [] (fo i g_X10_skipWord_0 s0) t Q X) h (fun i hi hS => ?_)
  have hP := hN i hi
  rw [fo_succ] at hS
  generalize fo i g_X10_skipWord_0 s0 = s at hS hP ⊢
  unfold Pb_X10_skipWord_0 at hP
  refine r_aload_n dX10_skipWord_0 0 rfl ?_
  refine r_aload_n dX10_skipWord_1 0 rfl ?_
  refine r_getI fX10_112 (hG.lt (by decide)) sh57 fs57_4 dX10_skipWord_2 ?_
  have hs1 := hP.1
  replace hP := hP.2
  refine r_cvI (ok_X10_byteAt hG (s 57 4) s hs1) lX10_115 (hG.lt (by decide)) sh57 ⟨_, _, rfl⟩ dX10_skipWord_5 (by decide) (Nat.le_of_ble_eq_true rfl) rfl (Nat.le_of_ble_eq_true rfl) ?_
  refine r_csI (ok_X10_isSmall hG (F_X10_byteAt (s 57 4) s) s) lX10_141 dX10_skipWord_8 (by decide) (Nat.le_of_ble_eq_true rfl) rfl (Nat.le_of_ble_eq_true rfl) ?_
  refine r_if_eq 27 dX10_skipWord_11 (by decide) (fun c1 => ?_) (fun c1 => ?_)
  · replace hP := hP.1 c1
    exact hP.elim
  · replace hP := hP.2 c1
    refine r_aload_n dX10_skipWord_14 0 rfl ?_
    refine r_dup dX10_skipWord_15 rfl ?_
    refine r_getI fX10_112 (hG.lt (by decide)) sh57 fs57_4 dX10_skipWord_16 ?_
    refine r_iconst 1 dX10_skipWord_19 rfl ?_
    refine r_iadd dX10_skipWord_20 ?_
    refine r_put fiX10_112 (hG.lt (by decide)) sh57 fs57_4 dX10_skipWord_21 ?_
    refine r_mu (muX10_skipWord_0_1 i s) rfl ?_
    refine r_goto 0 dX10_skipWord_24 (by decide) ?_
    have e : g_X10_skipWord_0  i s = (muX10_skipWord_0_1 i s) := by unfold g_X10_skipWord_0; rfl
    rw [e] at hS
    exact r_sub [0] rfl hS
def NX10_skipWord_0 (μ : Mem) : Nat := (fst 601 (fun j9 => !Cb_X10_skipWord_0  j9 (fo j9 g_X10_skipWord_0 μ)))
def SX10_skipWord_0 (μ : Mem) : Mem := fo (NX10_skipWord_0 μ) g_X10_skipWord_0 μ
def muX10_skipWord_1 (μ : Mem) : Mem := (upm (SX10_skipWord_0 μ) 57 4 (((SX10_skipWord_0 μ) 57 4) + 1))
def M_X10_skipWord  (μ : Mem) : Mem := (SX10_skipWord_0 μ)
def P_X10_skipWord  (μ : Mem) : Prop := ((∀ j9, j9 < (NX10_skipWord_0 μ) → Pb_X10_skipWord_0  j9 (fo j9 g_X10_skipWord_0 μ)) ∧ ((P_X10_byteAt ((SX10_skipWord_0 μ) 57 4) (SX10_skipWord_0 μ)) ∧ (((F_X10_isSmall (F_X10_byteAt ((SX10_skipWord_0 μ) 57 4) (SX10_skipWord_0 μ)) (SX10_skipWord_0 μ)) = 0 → True) ∧ (¬ (F_X10_isSmall (F_X10_byteAt ((SX10_skipWord_0 μ) 57 4) (SX10_skipWord_0 μ)) (SX10_skipWord_0 μ)) = 0 → False))))
set_option maxRecDepth 20000 in
set_option maxHeartbeats 2000000 in
theorem ok_X10_skipWord {G : SG} (hG : GK 548 G)  (μ : Mem) (hP : P_X10_skipWord  μ) : OkF G mX10_skipWord [.ref (ga G 57)] μ none (M_X10_skipWord  μ) := by
  refine okF_of hG rfl rfl (Nat.le_of_ble_eq_true rfl) ?_
  unfold P_X10_skipWord at hP
  have hs1 := hP.1
  replace hP := hP.2
  refine r_sub [0] rfl ?_
  refine lp_X10_skipWord_0 hG μ ((NX10_skipWord_0 μ)) (SX10_skipWord_0 μ) rfl hs1 ?_
  refine r_aload_n dX10_skipWord_0 0 rfl ?_
  refine r_aload_n dX10_skipWord_1 0 rfl ?_
  refine r_getI fX10_112 (hG.lt (by decide)) sh57 fs57_4 dX10_skipWord_2 ?_
  have hs2 := hP.1
  replace hP := hP.2
  refine r_cvI (ok_X10_byteAt hG ((SX10_skipWord_0 μ) 57 4) (SX10_skipWord_0 μ) hs2) lX10_115 (hG.lt (by decide)) sh57 ⟨_, _, rfl⟩ dX10_skipWord_5 (by decide) (Nat.le_of_ble_eq_true rfl) rfl (Nat.le_of_ble_eq_true rfl) ?_
  refine r_csI (ok_X10_isSmall hG (F_X10_byteAt ((SX10_skipWord_0 μ) 57 4) (SX10_skipWord_0 μ)) (SX10_skipWord_0 μ)) lX10_141 dX10_skipWord_8 (by decide) (Nat.le_of_ble_eq_true rfl) rfl (Nat.le_of_ble_eq_true rfl) ?_
  refine r_if_eq 27 dX10_skipWord_11 (by decide) (fun c1 => ?_) (fun c1 => ?_)
  · replace hP := hP.1 c1
    exact r_return dX10_skipWord_27 rfl ⟨rfl, rfl⟩
  · replace hP := hP.2 c1
    refine r_aload_n dX10_skipWord_14 0 rfl ?_
    refine r_dup dX10_skipWord_15 rfl ?_
    refine r_getI fX10_112 (hG.lt (by decide)) sh57 fs57_4 dX10_skipWord_16 ?_
    refine r_iconst 1 dX10_skipWord_19 rfl ?_
    refine r_iadd dX10_skipWord_20 ?_
    refine r_put fiX10_112 (hG.lt (by decide)) sh57 fs57_4 dX10_skipWord_21 ?_
    refine r_mu (muX10_skipWord_1 μ) rfl ?_
    refine r_goto 0 dX10_skipWord_24 (by decide) ?_
    exact hP.elim
def muX10_takes_1 (p1 : Int32) (p2 : Int32) (p3 : Int32) (p4 : Int32) (p5 : Int32) (p6 : Int32) (p7 : Int32) (μ : Mem) : Mem := (M_X10_isWord p1 p2 p3 p4 p5 p6 p7 μ)
def muX10_takes_2 (p1 : Int32) (p2 : Int32) (p3 : Int32) (p4 : Int32) (p5 : Int32) (p6 : Int32) (p7 : Int32) (μ : Mem) : Mem := (M_X10_skipWord  (muX10_takes_1 p1 p2 p3 p4 p5 p6 p7 μ))
def VX10_takes_3 (p1 : Int32) (p2 : Int32) (p3 : Int32) (p4 : Int32) (p5 : Int32) (p6 : Int32) (p7 : Int32) (μ : Mem) : Mem := (if (F_X10_isWord p1 p2 p3 p4 p5 p6 p7 μ) = 0 then (muX10_takes_1 p1 p2 p3 p4 p5 p6 p7 μ) else (muX10_takes_2 p1 p2 p3 p4 p5 p6 p7 μ))
def F_X10_takes (p1 : Int32) (p2 : Int32) (p3 : Int32) (p4 : Int32) (p5 : Int32) (p6 : Int32) (p7 : Int32) (μ : Mem) : Int32 := (F_X10_isWord p1 p2 p3 p4 p5 p6 p7 μ)
def M_X10_takes (p1 : Int32) (p2 : Int32) (p3 : Int32) (p4 : Int32) (p5 : Int32) (p6 : Int32) (p7 : Int32) (μ : Mem) : Mem := (VX10_takes_3 p1 p2 p3 p4 p5 p6 p7 μ)
def P_X10_takes (p1 : Int32) (p2 : Int32) (p3 : Int32) (p4 : Int32) (p5 : Int32) (p6 : Int32) (p7 : Int32) (μ : Mem) : Prop := ((P_X10_isWord p1 p2 p3 p4 p5 p6 p7 μ) ∧ (((F_X10_isWord p1 p2 p3 p4 p5 p6 p7 μ) = 0 → True) ∧ (¬ (F_X10_isWord p1 p2 p3 p4 p5 p6 p7 μ) = 0 → (P_X10_skipWord  (muX10_takes_1 p1 p2 p3 p4 p5 p6 p7 μ)))))
theorem bo_X10_takes (p1 : Int32) (p2 : Int32) (p3 : Int32) (p4 : Int32) (p5 : Int32) (p6 : Int32) (p7 : Int32) (μ : Mem) : F_X10_takes p1 p2 p3 p4 p5 p6 p7 μ = 0 ∨ F_X10_takes p1 p2 p3 p4 p5 p6 p7 μ = 1 := by
  unfold F_X10_takes
  exact (bo_X10_isWord p1 p2 p3 p4 p5 p6 p7 μ)
set_option maxRecDepth 20000 in
set_option maxHeartbeats 2000000 in
theorem ok_X10_takes {G : SG} (hG : GK 548 G) (p1 : Int32) (p2 : Int32) (p3 : Int32) (p4 : Int32) (p5 : Int32) (p6 : Int32) (p7 : Int32) (μ : Mem) (hP : P_X10_takes p1 p2 p3 p4 p5 p6 p7 μ) : OkF G mX10_takes [.ref (ga G 57), .int p1, .int p2, .int p3, .int p4, .int p5, .int p6, .int p7] μ (some (.int (F_X10_takes p1 p2 p3 p4 p5 p6 p7 μ))) (M_X10_takes p1 p2 p3 p4 p5 p6 p7 μ) := by
  refine okF_of hG rfl rfl (Nat.le_of_ble_eq_true rfl) ?_
  unfold P_X10_takes at hP
  refine r_aload_n dX10_takes_0 0 rfl ?_
  refine r_iload_n dX10_takes_1 1 rfl ?_
  refine r_iload_n dX10_takes_2 2 rfl ?_
  refine r_iload_n dX10_takes_3 3 rfl ?_
  refine r_iload dX10_takes_4 4 rfl ?_
  refine r_iload dX10_takes_6 5 rfl ?_
  refine r_iload dX10_takes_8 6 rfl ?_
  refine r_iload dX10_takes_10 7 rfl ?_
  have hs1 := hP.1
  replace hP := hP.2
  refine r_cvI (ok_X10_isWord hG p1 p2 p3 p4 p5 p6 p7 μ hs1) lX10_158 (hG.lt (by decide)) sh57 ⟨_, _, rfl⟩ dX10_takes_12 (by decide) (Nat.le_of_ble_eq_true rfl) rfl (Nat.le_of_ble_eq_true rfl) ?_
  refine r_mu (muX10_takes_1 p1 p2 p3 p4 p5 p6 p7 μ) rfl ?_
  refine r_istore [(8, _), (0, _), (1, _), (2, _), (3, _), (4, _), (5, _), (6, _), (7, _)] dX10_takes_15 (Nat.le_of_ble_eq_true rfl) rfl ?_
  refine r_iload dX10_takes_17 0 rfl ?_
  refine r_join 26 [(8, .int (F_X10_isWord p1 p2 p3 p4 p5 p6 p7 μ)), (0, .ref (ga G 57)), (1, .int p1), (2, .int p2), (3, .int p3), (4, .int p4), (5, .int p5), (6, .int p6), (7, .int p7)] [] (VX10_takes_3 p1 p2 p3 p4 p5 p6 p7 μ) ?_ (fun hJ => ?_)
  · refine r_iload dX10_takes_26 0 rfl ?_
    exact r_ireturn _ dX10_takes_28 rfl (nb01 ((bo_X10_isWord p1 p2 p3 p4 p5 p6 p7 μ))) ⟨congrArg (fun z => some (Value.int z)) (rfl), rfl⟩
  · refine r_if_eq 26 dX10_takes_19 (by decide) (fun c1 => ?_) (fun c1 => ?_)
    · replace hP := hP.1 c1
      have e : (VX10_takes_3 p1 p2 p3 p4 p5 p6 p7 μ) = (muX10_takes_1 p1 p2 p3 p4 p5 p6 p7 μ) := by unfold VX10_takes_3; rw [if_pos c1]
      rw [e] at hJ
      exact r_sub [0, 1, 2, 3, 4, 5, 6, 7, 8] rfl hJ
    · replace hP := hP.2 c1
      refine r_aload_n dX10_takes_22 1 rfl ?_
      have hs2 := hP
      refine r_cvV (ok_X10_skipWord hG  (muX10_takes_1 p1 p2 p3 p4 p5 p6 p7 μ) hs2) lX10_162 (hG.lt (by decide)) sh57 ⟨_, _, rfl⟩ dX10_takes_23 (by decide) (Nat.le_of_ble_eq_true rfl) rfl (Nat.le_of_ble_eq_true rfl) ?_
      refine r_mu (muX10_takes_2 p1 p2 p3 p4 p5 p6 p7 μ) rfl ?_
      have e : (VX10_takes_3 p1 p2 p3 p4 p5 p6 p7 μ) = (muX10_takes_2 p1 p2 p3 p4 p5 p6 p7 μ) := by unfold VX10_takes_3; rw [if_neg c1]
      rw [e] at hJ
      exact r_sub [0, 1, 2, 3, 4, 5, 6, 7, 8] rfl hJ
def muX10_sign_1 (p1 : Int32) (μ : Mem) : Mem := (M_X10_blanks  μ)
def muX10_sign_2 (p1 : Int32) (μ : Mem) : Mem := (M_X10_wrong 1 ((muX10_sign_1 p1 μ) 57 4) (muX10_sign_1 p1 μ))
def muX10_sign_3 (p1 : Int32) (μ : Mem) : Mem := (upm (muX10_sign_1 p1 μ) 57 4 (((muX10_sign_1 p1 μ) 57 4) + 1))
def M_X10_sign (p1 : Int32) (μ : Mem) : Mem := (if (μ 57 5) = 0 then (if (F_X10_byteAt ((muX10_sign_1 p1 μ) 57 4) (muX10_sign_1 p1 μ)) ≠ p1 then (muX10_sign_2 p1 μ) else (muX10_sign_3 p1 μ)) else μ)
def P_X10_sign (p1 : Int32) (μ : Mem) : Prop := (((μ 57 5) = 0 → ((P_X10_blanks  μ) ∧ (P_X10_byteAt ((muX10_sign_1 p1 μ) 57 4) (muX10_sign_1 p1 μ)))) ∧ (¬ (μ 57 5) = 0 → True))
set_option maxRecDepth 20000 in
set_option maxHeartbeats 2000000 in
theorem ok_X10_sign {G : SG} (hG : GK 548 G) (p1 : Int32) (μ : Mem) (hP : P_X10_sign p1 μ) : OkF G mX10_sign [.ref (ga G 57), .int p1] μ none (M_X10_sign p1 μ) := by
  refine okF_of hG rfl rfl (Nat.le_of_ble_eq_true rfl) ?_
  unfold P_X10_sign at hP
  refine r_aload_n dX10_sign_0 0 rfl ?_
  refine r_getI fX10_119 (hG.lt (by decide)) sh57 fs57_5 dX10_sign_1 ?_
  refine r_if_eq 8 dX10_sign_4 (by decide) (fun c1 => ?_) (fun c1 => ?_)
  · replace hP := hP.1 c1
    refine r_aload_n dX10_sign_8 0 rfl ?_
    have hs1 := hP.1
    replace hP := hP.2
    refine r_cvV (ok_X10_blanks hG  μ hs1) lX10_125 (hG.lt (by decide)) sh57 ⟨_, _, rfl⟩ dX10_sign_9 (by decide) (Nat.le_of_ble_eq_true rfl) rfl (Nat.le_of_ble_eq_true rfl) ?_
    refine r_mu (muX10_sign_1 p1 μ) rfl ?_
    refine r_aload_n dX10_sign_12 0 rfl ?_
    refine r_aload_n dX10_sign_13 0 rfl ?_
    refine r_getI fX10_112 (hG.lt (by decide)) sh57 fs57_4 dX10_sign_14 ?_
    have hs2 := hP
    refine r_cvI (ok_X10_byteAt hG ((muX10_sign_1 p1 μ) 57 4) (muX10_sign_1 p1 μ) hs2) lX10_115 (hG.lt (by decide)) sh57 ⟨_, _, rfl⟩ dX10_sign_17 (by decide) (Nat.le_of_ble_eq_true rfl) rfl (Nat.le_of_ble_eq_true rfl) ?_
    refine r_iload_n dX10_sign_20 1 rfl ?_
    refine r_icmp_ne 37 dX10_sign_21 (by decide) (fun c2 => ?_) (fun c2 => ?_)
    · refine r_aload_n dX10_sign_37 0 rfl ?_
      refine r_iconst 1 dX10_sign_38 rfl ?_
      refine r_aload_n dX10_sign_39 0 rfl ?_
      refine r_getI fX10_112 (hG.lt (by decide)) sh57 fs57_4 dX10_sign_40 ?_
      refine r_cvV (ok_X10_wrong hG 1 ((muX10_sign_1 p1 μ) 57 4) (muX10_sign_1 p1 μ)) lX10_132 (hG.lt (by decide)) sh57 ⟨_, _, rfl⟩ dX10_sign_43 (by decide) (Nat.le_of_ble_eq_true rfl) rfl (Nat.le_of_ble_eq_true rfl) ?_
      refine r_mu (muX10_sign_2 p1 μ) rfl ?_
      exact r_return dX10_sign_46 rfl ⟨rfl, by unfold M_X10_sign; rw [if_pos c1, if_pos c2]⟩
    · refine r_aload_n dX10_sign_24 0 rfl ?_
      refine r_dup dX10_sign_25 rfl ?_
      refine r_getI fX10_112 (hG.lt (by decide)) sh57 fs57_4 dX10_sign_26 ?_
      refine r_iconst 1 dX10_sign_29 rfl ?_
      refine r_iadd dX10_sign_30 ?_
      refine r_put fiX10_112 (hG.lt (by decide)) sh57 fs57_4 dX10_sign_31 ?_
      refine r_mu (muX10_sign_3 p1 μ) rfl ?_
      refine r_goto 46 dX10_sign_34 (by decide) ?_
      exact r_return dX10_sign_46 rfl ⟨rfl, by unfold M_X10_sign; rw [if_pos c1, if_neg (not_not_intro c2)]⟩
  · replace hP := hP.2 c1
    exact r_return dX10_sign_7 rfl ⟨rfl, by unfold M_X10_sign; rw [if_neg c1]⟩
def muX10_takesSign_1 (p1 : Int32) (μ : Mem) : Mem := (M_X10_blanks  μ)
def VX10_takesSign_2 (p1 : Int32) (μ : Mem) : Int32 := (if (F_X10_byteAt ((muX10_takesSign_1 p1 μ) 57 4) (muX10_takesSign_1 p1 μ)) ≠ p1 then 0 else 1)
theorem bo_VX10_takesSign_2 (p1 : Int32) (μ : Mem) : (VX10_takesSign_2 p1 μ) = 0 ∨ (VX10_takesSign_2 p1 μ) = 1 := by
  unfold VX10_takesSign_2
  split
  · exact Or.inl rfl
  · exact Or.inr rfl
def muX10_takesSign_3 (p1 : Int32) (μ : Mem) : Mem := (upm (muX10_takesSign_1 p1 μ) 57 4 (((muX10_takesSign_1 p1 μ) 57 4) + 1))
def VX10_takesSign_4 (p1 : Int32) (μ : Mem) : Mem := (if (VX10_takesSign_2 p1 μ) = 0 then (muX10_takesSign_1 p1 μ) else (muX10_takesSign_3 p1 μ))
def F_X10_takesSign (p1 : Int32) (μ : Mem) : Int32 := (if (μ 57 5) = 0 then (VX10_takesSign_2 p1 μ) else 0)
def M_X10_takesSign (p1 : Int32) (μ : Mem) : Mem := (if (μ 57 5) = 0 then (VX10_takesSign_4 p1 μ) else μ)
def P_X10_takesSign (p1 : Int32) (μ : Mem) : Prop := (((μ 57 5) = 0 → ((P_X10_blanks  μ) ∧ (P_X10_byteAt ((muX10_takesSign_1 p1 μ) 57 4) (muX10_takesSign_1 p1 μ)))) ∧ (¬ (μ 57 5) = 0 → True))
theorem bo_X10_takesSign (p1 : Int32) (μ : Mem) : F_X10_takesSign p1 μ = 0 ∨ F_X10_takesSign p1 μ = 1 := by
  unfold F_X10_takesSign
  split
  · exact (bo_VX10_takesSign_2 p1 μ)
  · exact Or.inl rfl
set_option maxRecDepth 20000 in
set_option maxHeartbeats 2000000 in
theorem ok_X10_takesSign {G : SG} (hG : GK 548 G) (p1 : Int32) (μ : Mem) (hP : P_X10_takesSign p1 μ) : OkF G mX10_takesSign [.ref (ga G 57), .int p1] μ (some (.int (F_X10_takesSign p1 μ))) (M_X10_takesSign p1 μ) := by
  refine okF_of hG rfl rfl (Nat.le_of_ble_eq_true rfl) ?_
  unfold P_X10_takesSign at hP
  refine r_aload_n dX10_takesSign_0 0 rfl ?_
  refine r_getI fX10_119 (hG.lt (by decide)) sh57 fs57_5 dX10_takesSign_1 ?_
  refine r_if_eq 9 dX10_takesSign_4 (by decide) (fun c1 => ?_) (fun c1 => ?_)
  · replace hP := hP.1 c1
    refine r_aload_n dX10_takesSign_9 0 rfl ?_
    have hs1 := hP.1
    replace hP := hP.2
    refine r_cvV (ok_X10_blanks hG  μ hs1) lX10_125 (hG.lt (by decide)) sh57 ⟨_, _, rfl⟩ dX10_takesSign_10 (by decide) (Nat.le_of_ble_eq_true rfl) rfl (Nat.le_of_ble_eq_true rfl) ?_
    refine r_mu (muX10_takesSign_1 p1 μ) rfl ?_
    refine r_aload_n dX10_takesSign_13 0 rfl ?_
    refine r_aload_n dX10_takesSign_14 0 rfl ?_
    refine r_getI fX10_112 (hG.lt (by decide)) sh57 fs57_4 dX10_takesSign_15 ?_
    have hs2 := hP
    refine r_cvI (ok_X10_byteAt hG ((muX10_takesSign_1 p1 μ) 57 4) (muX10_takesSign_1 p1 μ) hs2) lX10_115 (hG.lt (by decide)) sh57 ⟨_, _, rfl⟩ dX10_takesSign_18 (by decide) (Nat.le_of_ble_eq_true rfl) rfl (Nat.le_of_ble_eq_true rfl) ?_
    refine r_iload_n dX10_takesSign_21 1 rfl ?_
    refine r_join 30 [(0, .ref (ga G 57)), (1, .int p1)] [.int (VX10_takesSign_2 p1 μ)] (muX10_takesSign_1 p1 μ) ?_ (fun hJ => ?_)
    · refine r_istore_n [(2, _), (0, _), (1, _)] dX10_takesSign_30 (Nat.le_of_ble_eq_true rfl) rfl ?_
      refine r_iload_n dX10_takesSign_31 0 rfl ?_
      refine r_join 45 [(2, .int (VX10_takesSign_2 p1 μ)), (0, .ref (ga G 57)), (1, .int p1)] [] (VX10_takesSign_4 p1 μ) ?_ (fun hJ => ?_)
      · refine r_iload_n dX10_takesSign_45 0 rfl ?_
        exact r_ireturn _ dX10_takesSign_46 rfl (nb01 ((bo_VX10_takesSign_2 p1 μ))) ⟨congrArg (fun z => some (Value.int z)) (by unfold F_X10_takesSign; rw [if_pos c1]), by unfold M_X10_takesSign; rw [if_pos c1]⟩
      · refine r_if_eq 45 dX10_takesSign_32 (by decide) (fun c2 => ?_) (fun c2 => ?_)
        · have e : (VX10_takesSign_4 p1 μ) = (muX10_takesSign_1 p1 μ) := by unfold VX10_takesSign_4; rw [if_pos c2]
          rw [e] at hJ
          exact r_sub [0, 1, 2] rfl hJ
        · refine r_aload_n dX10_takesSign_35 1 rfl ?_
          refine r_dup dX10_takesSign_36 rfl ?_
          refine r_getI fX10_112 (hG.lt (by decide)) sh57 fs57_4 dX10_takesSign_37 ?_
          refine r_iconst 1 dX10_takesSign_40 rfl ?_
          refine r_iadd dX10_takesSign_41 ?_
          refine r_put fiX10_112 (hG.lt (by decide)) sh57 fs57_4 dX10_takesSign_42 ?_
          refine r_mu (muX10_takesSign_3 p1 μ) rfl ?_
          have e : (VX10_takesSign_4 p1 μ) = (muX10_takesSign_3 p1 μ) := by unfold VX10_takesSign_4; rw [if_neg c2]
          rw [e] at hJ
          exact r_sub [0, 1, 2] rfl hJ
    · refine r_icmp_ne 29 dX10_takesSign_22 (by decide) (fun c2 => ?_) (fun c2 => ?_)
      · refine r_iconst 0 dX10_takesSign_29 rfl ?_
        have e : (VX10_takesSign_2 p1 μ) = 0 := by unfold VX10_takesSign_2; rw [if_pos c2]
        rw [e] at hJ
        exact r_sub [0, 1] rfl hJ
      · refine r_iconst 1 dX10_takesSign_25 rfl ?_
        refine r_goto 30 dX10_takesSign_26 (by decide) ?_
        have e : (VX10_takesSign_2 p1 μ) = 1 := by unfold VX10_takesSign_2; rw [if_neg (not_not_intro c2)]
        rw [e] at hJ
        exact r_sub [0, 1] rfl hJ
  · replace hP := hP.2 c1
    refine r_iconst 0 dX10_takesSign_7 rfl ?_
    exact r_ireturn _ dX10_takesSign_8 rfl rfl ⟨congrArg (fun z => some (Value.int z)) (by unfold F_X10_takesSign; rw [if_neg c1]), by unfold M_X10_takesSign; rw [if_neg c1]⟩
def muX10_starts_1 (p1 : Int32) (μ : Mem) : Mem := (upm μ 57 1 0)
def muX10_starts_2 (p1 : Int32) (μ : Mem) : Mem := (upm (muX10_starts_1 p1 μ) 57 2 p1)
def muX10_starts_3 (p1 : Int32) (μ : Mem) : Mem := (upm (muX10_starts_2 p1 μ) 57 4 0)
def muX10_starts_4 (p1 : Int32) (μ : Mem) : Mem := (upm (muX10_starts_3 p1 μ) 57 5 0)
def muX10_starts_5 (p1 : Int32) (μ : Mem) : Mem := (upm (muX10_starts_4 p1 μ) 57 6 (-1))
def muX10_starts_6 (p1 : Int32) (μ : Mem) : Mem := (upm (muX10_starts_5 p1 μ) 57 7 0)
def muX10_starts_7 (p1 : Int32) (μ : Mem) : Mem := (upm (muX10_starts_6 p1 μ) 57 8 0)
def muX10_starts_8 (p1 : Int32) (μ : Mem) : Mem := (M_X10_blanks  (muX10_starts_7 p1 μ))
def M_X10_starts (p1 : Int32) (μ : Mem) : Mem := (muX10_starts_8 p1 μ)
def P_X10_starts (p1 : Int32) (μ : Mem) : Prop := (P_X10_blanks  (muX10_starts_7 p1 μ))
set_option maxRecDepth 20000 in
set_option maxHeartbeats 2000000 in
theorem ok_X10_starts {G : SG} (hG : GK 548 G) (p1 : Int32) (μ : Mem) (hP : P_X10_starts p1 μ) : OkF G mX10_starts [.ref (ga G 57), .int p1] μ none (M_X10_starts p1 μ) := by
  refine okF_of hG rfl rfl (Nat.le_of_ble_eq_true rfl) ?_
  unfold P_X10_starts at hP
  refine r_aload_n dX10_starts_0 0 rfl ?_
  refine r_iconst 0 dX10_starts_1 rfl ?_
  refine r_put fiX10_106 (hG.lt (by decide)) sh57 fs57_1 dX10_starts_2 ?_
  refine r_mu (muX10_starts_1 p1 μ) rfl ?_
  refine r_aload_n dX10_starts_5 0 rfl ?_
  refine r_iload_n dX10_starts_6 1 rfl ?_
  refine r_put fiX10_109 (hG.lt (by decide)) sh57 fs57_2 dX10_starts_7 ?_
  refine r_mu (muX10_starts_2 p1 μ) rfl ?_
  refine r_aload_n dX10_starts_10 0 rfl ?_
  refine r_iconst 0 dX10_starts_11 rfl ?_
  refine r_put fiX10_112 (hG.lt (by decide)) sh57 fs57_4 dX10_starts_12 ?_
  refine r_mu (muX10_starts_3 p1 μ) rfl ?_
  refine r_aload_n dX10_starts_15 0 rfl ?_
  refine r_iconst 0 dX10_starts_16 rfl ?_
  refine r_put fiX10_119 (hG.lt (by decide)) sh57 fs57_5 dX10_starts_17 ?_
  refine r_mu (muX10_starts_4 p1 μ) rfl ?_
  refine r_aload_n dX10_starts_20 0 rfl ?_
  refine r_iconst (-1) dX10_starts_21 rfl ?_
  refine r_put fiX10_122 (hG.lt (by decide)) sh57 fs57_6 dX10_starts_22 ?_
  refine r_mu (muX10_starts_5 p1 μ) rfl ?_
  refine r_aload_n dX10_starts_25 0 rfl ?_
  refine r_iconst 0 dX10_starts_26 rfl ?_
  refine r_put fiX10_165 (hG.lt (by decide)) sh57 fs57_7 dX10_starts_27 ?_
  refine r_mu (muX10_starts_6 p1 μ) rfl ?_
  refine r_aload_n dX10_starts_30 0 rfl ?_
  refine r_iconst 0 dX10_starts_31 rfl ?_
  refine r_put fiX10_168 (hG.lt (by decide)) sh57 fs57_8 dX10_starts_32 ?_
  refine r_mu (muX10_starts_7 p1 μ) rfl ?_
  refine r_aload_n dX10_starts_35 0 rfl ?_
  have hs1 := hP
  refine r_cvV (ok_X10_blanks hG  (muX10_starts_7 p1 μ) hs1) lX10_125 (hG.lt (by decide)) sh57 ⟨_, _, rfl⟩ dX10_starts_36 (by decide) (Nat.le_of_ble_eq_true rfl) rfl (Nat.le_of_ble_eq_true rfl) ?_
  refine r_mu (muX10_starts_8 p1 μ) rfl ?_
  exact r_return dX10_starts_39 rfl ⟨rfl, rfl⟩
def muX10_ends_1 (μ : Mem) : Mem := (upm μ 57 3 (μ 57 6))
def F_X10_ends  (μ : Mem) : Int32 := (((muX10_ends_1 μ) 57 5) - 10)
def M_X10_ends  (μ : Mem) : Mem := (muX10_ends_1 μ)
set_option maxRecDepth 20000 in
set_option maxHeartbeats 2000000 in
theorem ok_X10_ends {G : SG} (hG : GK 548 G)  (μ : Mem) : OkF G mX10_ends [.ref (ga G 57)] μ (some (.int (F_X10_ends  μ))) (M_X10_ends  μ) := by
  refine okF_of hG rfl rfl (Nat.le_of_ble_eq_true rfl) ?_
  refine r_aload_n dX10_ends_0 0 rfl ?_
  refine r_aload_n dX10_ends_1 0 rfl ?_
  refine r_getI fX10_122 (hG.lt (by decide)) sh57 fs57_6 dX10_ends_2 ?_
  refine r_put fiX10_9 (hG.lt (by decide)) sh57 fs57_3 dX10_ends_5 ?_
  refine r_mu (muX10_ends_1 μ) rfl ?_
  refine r_aload_n dX10_ends_8 0 rfl ?_
  refine r_getI fX10_119 (hG.lt (by decide)) sh57 fs57_5 dX10_ends_9 ?_
  refine r_bipush 10 dX10_ends_12 rfl ?_
  refine r_isub dX10_ends_14 ?_
  exact r_ireturn _ dX10_ends_15 rfl rfl ⟨congrArg (fun z => some (Value.int z)) (rfl), rfl⟩
def muX10_kindHere_1 (μ : Mem) : Mem := (M_X10_isWord 8 15 21 19 5 0 0 μ)
def muX10_kindHere_2 (μ : Mem) : Mem := (M_X10_isWord 20 8 9 14 7 0 0 (muX10_kindHere_1 μ))
def muX10_kindHere_3 (μ : Mem) : Mem := (M_X10_isWord 20 9 4 5 0 0 0 (muX10_kindHere_2 μ))
def muX10_kindHere_4 (μ : Mem) : Mem := (M_X10_isWord 6 9 14 4 0 0 0 (muX10_kindHere_3 μ))
def muX10_kindHere_5 (μ : Mem) : Mem := (M_X10_isWord 18 5 14 20 0 0 0 (muX10_kindHere_4 μ))
def muX10_kindHere_6 (μ : Mem) : Mem := (M_X10_isWord 18 15 16 5 0 0 0 (muX10_kindHere_5 μ))
def F_X10_kindHere  (μ : Mem) : Int32 := (if (F_X10_isWord 8 15 21 19 5 0 0 μ) = 0 then (if (F_X10_isWord 20 8 9 14 7 0 0 (muX10_kindHere_1 μ)) = 0 then (if (F_X10_isWord 20 9 4 5 0 0 0 (muX10_kindHere_2 μ)) = 0 then (if (F_X10_isWord 6 9 14 4 0 0 0 (muX10_kindHere_3 μ)) = 0 then (if (F_X10_isWord 18 5 14 20 0 0 0 (muX10_kindHere_4 μ)) = 0 then (if (F_X10_isWord 18 15 16 5 0 0 0 (muX10_kindHere_5 μ)) = 0 then (-1) else 5) else 4) else 3) else 2) else 1) else 0)
def M_X10_kindHere  (μ : Mem) : Mem := (if (F_X10_isWord 8 15 21 19 5 0 0 μ) = 0 then (if (F_X10_isWord 20 8 9 14 7 0 0 (muX10_kindHere_1 μ)) = 0 then (if (F_X10_isWord 20 9 4 5 0 0 0 (muX10_kindHere_2 μ)) = 0 then (if (F_X10_isWord 6 9 14 4 0 0 0 (muX10_kindHere_3 μ)) = 0 then (if (F_X10_isWord 18 5 14 20 0 0 0 (muX10_kindHere_4 μ)) = 0 then (muX10_kindHere_6 μ) else (muX10_kindHere_5 μ)) else (muX10_kindHere_4 μ)) else (muX10_kindHere_3 μ)) else (muX10_kindHere_2 μ)) else (muX10_kindHere_1 μ))
def P_X10_kindHere  (μ : Mem) : Prop := ((P_X10_isWord 8 15 21 19 5 0 0 μ) ∧ (((F_X10_isWord 8 15 21 19 5 0 0 μ) = 0 → ((P_X10_isWord 20 8 9 14 7 0 0 (muX10_kindHere_1 μ)) ∧ (((F_X10_isWord 20 8 9 14 7 0 0 (muX10_kindHere_1 μ)) = 0 → ((P_X10_isWord 20 9 4 5 0 0 0 (muX10_kindHere_2 μ)) ∧ (((F_X10_isWord 20 9 4 5 0 0 0 (muX10_kindHere_2 μ)) = 0 → ((P_X10_isWord 6 9 14 4 0 0 0 (muX10_kindHere_3 μ)) ∧ (((F_X10_isWord 6 9 14 4 0 0 0 (muX10_kindHere_3 μ)) = 0 → ((P_X10_isWord 18 5 14 20 0 0 0 (muX10_kindHere_4 μ)) ∧ (((F_X10_isWord 18 5 14 20 0 0 0 (muX10_kindHere_4 μ)) = 0 → (P_X10_isWord 18 15 16 5 0 0 0 (muX10_kindHere_5 μ))) ∧ (¬ (F_X10_isWord 18 5 14 20 0 0 0 (muX10_kindHere_4 μ)) = 0 → True)))) ∧ (¬ (F_X10_isWord 6 9 14 4 0 0 0 (muX10_kindHere_3 μ)) = 0 → True)))) ∧ (¬ (F_X10_isWord 20 9 4 5 0 0 0 (muX10_kindHere_2 μ)) = 0 → True)))) ∧ (¬ (F_X10_isWord 20 8 9 14 7 0 0 (muX10_kindHere_1 μ)) = 0 → True)))) ∧ (¬ (F_X10_isWord 8 15 21 19 5 0 0 μ) = 0 → True)))
set_option maxRecDepth 20000 in
set_option maxHeartbeats 2000000 in
theorem ok_X10_kindHere {G : SG} (hG : GK 548 G)  (μ : Mem) (hP : P_X10_kindHere  μ) : OkF G mX10_kindHere [.ref (ga G 57)] μ (some (.int (F_X10_kindHere  μ))) (M_X10_kindHere  μ) := by
  refine okF_of hG rfl rfl (Nat.le_of_ble_eq_true rfl) ?_
  unfold P_X10_kindHere at hP
  refine r_aload_n dX10_kindHere_0 0 rfl ?_
  refine r_bipush 8 dX10_kindHere_1 rfl ?_
  refine r_bipush 15 dX10_kindHere_3 rfl ?_
  refine r_bipush 21 dX10_kindHere_5 rfl ?_
  refine r_bipush 19 dX10_kindHere_7 rfl ?_
  refine r_iconst 5 dX10_kindHere_9 rfl ?_
  refine r_iconst 0 dX10_kindHere_10 rfl ?_
  refine r_iconst 0 dX10_kindHere_11 rfl ?_
  have hs1 := hP.1
  replace hP := hP.2
  refine r_cvI (ok_X10_isWord hG 8 15 21 19 5 0 0 μ hs1) lX10_158 (hG.lt (by decide)) sh57 ⟨_, _, rfl⟩ dX10_kindHere_12 (by decide) (Nat.le_of_ble_eq_true rfl) rfl (Nat.le_of_ble_eq_true rfl) ?_
  refine r_mu (muX10_kindHere_1 μ) rfl ?_
  refine r_if_eq 20 dX10_kindHere_15 (by decide) (fun c1 => ?_) (fun c1 => ?_)
  · replace hP := hP.1 c1
    refine r_aload_n dX10_kindHere_20 0 rfl ?_
    refine r_bipush 20 dX10_kindHere_21 rfl ?_
    refine r_bipush 8 dX10_kindHere_23 rfl ?_
    refine r_bipush 9 dX10_kindHere_25 rfl ?_
    refine r_bipush 14 dX10_kindHere_27 rfl ?_
    refine r_bipush 7 dX10_kindHere_29 rfl ?_
    refine r_iconst 0 dX10_kindHere_31 rfl ?_
    refine r_iconst 0 dX10_kindHere_32 rfl ?_
    have hs2 := hP.1
    replace hP := hP.2
    refine r_cvI (ok_X10_isWord hG 20 8 9 14 7 0 0 (muX10_kindHere_1 μ) hs2) lX10_158 (hG.lt (by decide)) sh57 ⟨_, _, rfl⟩ dX10_kindHere_33 (by decide) (Nat.le_of_ble_eq_true rfl) rfl (Nat.le_of_ble_eq_true rfl) ?_
    refine r_mu (muX10_kindHere_2 μ) rfl ?_
    refine r_if_eq 41 dX10_kindHere_36 (by decide) (fun c2 => ?_) (fun c2 => ?_)
    · replace hP := hP.1 c2
      refine r_aload_n dX10_kindHere_41 0 rfl ?_
      refine r_bipush 20 dX10_kindHere_42 rfl ?_
      refine r_bipush 9 dX10_kindHere_44 rfl ?_
      refine r_iconst 4 dX10_kindHere_46 rfl ?_
      refine r_iconst 5 dX10_kindHere_47 rfl ?_
      refine r_iconst 0 dX10_kindHere_48 rfl ?_
      refine r_iconst 0 dX10_kindHere_49 rfl ?_
      refine r_iconst 0 dX10_kindHere_50 rfl ?_
      have hs3 := hP.1
      replace hP := hP.2
      refine r_cvI (ok_X10_isWord hG 20 9 4 5 0 0 0 (muX10_kindHere_2 μ) hs3) lX10_158 (hG.lt (by decide)) sh57 ⟨_, _, rfl⟩ dX10_kindHere_51 (by decide) (Nat.le_of_ble_eq_true rfl) rfl (Nat.le_of_ble_eq_true rfl) ?_
      refine r_mu (muX10_kindHere_3 μ) rfl ?_
      refine r_if_eq 59 dX10_kindHere_54 (by decide) (fun c3 => ?_) (fun c3 => ?_)
      · replace hP := hP.1 c3
        refine r_aload_n dX10_kindHere_59 0 rfl ?_
        refine r_bipush 6 dX10_kindHere_60 rfl ?_
        refine r_bipush 9 dX10_kindHere_62 rfl ?_
        refine r_bipush 14 dX10_kindHere_64 rfl ?_
        refine r_iconst 4 dX10_kindHere_66 rfl ?_
        refine r_iconst 0 dX10_kindHere_67 rfl ?_
        refine r_iconst 0 dX10_kindHere_68 rfl ?_
        refine r_iconst 0 dX10_kindHere_69 rfl ?_
        have hs4 := hP.1
        replace hP := hP.2
        refine r_cvI (ok_X10_isWord hG 6 9 14 4 0 0 0 (muX10_kindHere_3 μ) hs4) lX10_158 (hG.lt (by decide)) sh57 ⟨_, _, rfl⟩ dX10_kindHere_70 (by decide) (Nat.le_of_ble_eq_true rfl) rfl (Nat.le_of_ble_eq_true rfl) ?_
        refine r_mu (muX10_kindHere_4 μ) rfl ?_
        refine r_if_eq 78 dX10_kindHere_73 (by decide) (fun c4 => ?_) (fun c4 => ?_)
        · replace hP := hP.1 c4
          refine r_aload_n dX10_kindHere_78 0 rfl ?_
          refine r_bipush 18 dX10_kindHere_79 rfl ?_
          refine r_iconst 5 dX10_kindHere_81 rfl ?_
          refine r_bipush 14 dX10_kindHere_82 rfl ?_
          refine r_bipush 20 dX10_kindHere_84 rfl ?_
          refine r_iconst 0 dX10_kindHere_86 rfl ?_
          refine r_iconst 0 dX10_kindHere_87 rfl ?_
          refine r_iconst 0 dX10_kindHere_88 rfl ?_
          have hs5 := hP.1
          replace hP := hP.2
          refine r_cvI (ok_X10_isWord hG 18 5 14 20 0 0 0 (muX10_kindHere_4 μ) hs5) lX10_158 (hG.lt (by decide)) sh57 ⟨_, _, rfl⟩ dX10_kindHere_89 (by decide) (Nat.le_of_ble_eq_true rfl) rfl (Nat.le_of_ble_eq_true rfl) ?_
          refine r_mu (muX10_kindHere_5 μ) rfl ?_
          refine r_if_eq 97 dX10_kindHere_92 (by decide) (fun c5 => ?_) (fun c5 => ?_)
          · replace hP := hP.1 c5
            refine r_aload_n dX10_kindHere_97 0 rfl ?_
            refine r_bipush 18 dX10_kindHere_98 rfl ?_
            refine r_bipush 15 dX10_kindHere_100 rfl ?_
            refine r_bipush 16 dX10_kindHere_102 rfl ?_
            refine r_iconst 5 dX10_kindHere_104 rfl ?_
            refine r_iconst 0 dX10_kindHere_105 rfl ?_
            refine r_iconst 0 dX10_kindHere_106 rfl ?_
            refine r_iconst 0 dX10_kindHere_107 rfl ?_
            have hs6 := hP
            refine r_cvI (ok_X10_isWord hG 18 15 16 5 0 0 0 (muX10_kindHere_5 μ) hs6) lX10_158 (hG.lt (by decide)) sh57 ⟨_, _, rfl⟩ dX10_kindHere_108 (by decide) (Nat.le_of_ble_eq_true rfl) rfl (Nat.le_of_ble_eq_true rfl) ?_
            refine r_mu (muX10_kindHere_6 μ) rfl ?_
            refine r_if_eq 118 dX10_kindHere_111 (by decide) (fun c6 => ?_) (fun c6 => ?_)
            · refine r_iconst (-1) dX10_kindHere_118 rfl ?_
              exact r_ireturn _ dX10_kindHere_119 rfl rfl ⟨congrArg (fun z => some (Value.int z)) (by unfold F_X10_kindHere; rw [if_pos c1, if_pos c2, if_pos c3, if_pos c4, if_pos c5, if_pos c6]), by unfold M_X10_kindHere; rw [if_pos c1, if_pos c2, if_pos c3, if_pos c4, if_pos c5]⟩
            · refine r_iconst 5 dX10_kindHere_114 rfl ?_
              refine r_goto 119 dX10_kindHere_115 (by decide) ?_
              exact r_ireturn _ dX10_kindHere_119 rfl rfl ⟨congrArg (fun z => some (Value.int z)) (by unfold F_X10_kindHere; rw [if_pos c1, if_pos c2, if_pos c3, if_pos c4, if_pos c5, if_neg c6]), by unfold M_X10_kindHere; rw [if_pos c1, if_pos c2, if_pos c3, if_pos c4, if_pos c5]⟩
          · replace hP := hP.2 c5
            refine r_iconst 4 dX10_kindHere_95 rfl ?_
            exact r_ireturn _ dX10_kindHere_96 rfl rfl ⟨congrArg (fun z => some (Value.int z)) (by unfold F_X10_kindHere; rw [if_pos c1, if_pos c2, if_pos c3, if_pos c4, if_neg c5]), by unfold M_X10_kindHere; rw [if_pos c1, if_pos c2, if_pos c3, if_pos c4, if_neg c5]⟩
        · replace hP := hP.2 c4
          refine r_iconst 3 dX10_kindHere_76 rfl ?_
          exact r_ireturn _ dX10_kindHere_77 rfl rfl ⟨congrArg (fun z => some (Value.int z)) (by unfold F_X10_kindHere; rw [if_pos c1, if_pos c2, if_pos c3, if_neg c4]), by unfold M_X10_kindHere; rw [if_pos c1, if_pos c2, if_pos c3, if_neg c4]⟩
      · replace hP := hP.2 c3
        refine r_iconst 2 dX10_kindHere_57 rfl ?_
        exact r_ireturn _ dX10_kindHere_58 rfl rfl ⟨congrArg (fun z => some (Value.int z)) (by unfold F_X10_kindHere; rw [if_pos c1, if_pos c2, if_neg c3]), by unfold M_X10_kindHere; rw [if_pos c1, if_pos c2, if_neg c3]⟩
    · replace hP := hP.2 c2
      refine r_iconst 1 dX10_kindHere_39 rfl ?_
      exact r_ireturn _ dX10_kindHere_40 rfl rfl ⟨congrArg (fun z => some (Value.int z)) (by unfold F_X10_kindHere; rw [if_pos c1, if_neg c2]), by unfold M_X10_kindHere; rw [if_pos c1, if_neg c2]⟩
  · replace hP := hP.2 c1
    refine r_iconst 0 dX10_kindHere_18 rfl ?_
    exact r_ireturn _ dX10_kindHere_19 rfl rfl ⟨congrArg (fun z => some (Value.int z)) (by unfold F_X10_kindHere; rw [if_neg c1]), by unfold M_X10_kindHere; rw [if_neg c1]⟩
def F_X10_isFull (p1 : Int32) (μ : Mem) : Int32 := (if p1 ≠ 0 then (if p1 ≠ 1 then (if p1 ≠ 2 then (if p1 ≠ 3 then 0 else (if (μ 60 3) ≠ 6 then 0 else 1)) else (if (μ 60 2) = 12 then 1 else (if p1 ≠ 3 then 0 else (if (μ 60 3) ≠ 6 then 0 else 1)))) else (if (μ 60 1) = 10 then 1 else (if p1 ≠ 2 then (if p1 ≠ 3 then 0 else (if (μ 60 3) ≠ 6 then 0 else 1)) else (if (μ 60 2) = 12 then 1 else (if p1 ≠ 3 then 0 else (if (μ 60 3) ≠ 6 then 0 else 1)))))) else (if (μ 60 0) = 6 then 1 else (if p1 ≠ 1 then (if p1 ≠ 2 then (if p1 ≠ 3 then 0 else (if (μ 60 3) ≠ 6 then 0 else 1)) else (if (μ 60 2) = 12 then 1 else (if p1 ≠ 3 then 0 else (if (μ 60 3) ≠ 6 then 0 else 1)))) else (if (μ 60 1) = 10 then 1 else (if p1 ≠ 2 then (if p1 ≠ 3 then 0 else (if (μ 60 3) ≠ 6 then 0 else 1)) else (if (μ 60 2) = 12 then 1 else (if p1 ≠ 3 then 0 else (if (μ 60 3) ≠ 6 then 0 else 1))))))))
theorem bo_X10_isFull (p1 : Int32) (μ : Mem) : F_X10_isFull p1 μ = 0 ∨ F_X10_isFull p1 μ = 1 := by
  unfold F_X10_isFull
  split
  · split
    · split
      · split
        · exact Or.inl rfl
        · split
          · exact Or.inl rfl
          · exact Or.inr rfl
      · split
        · exact Or.inr rfl
        · split
          · exact Or.inl rfl
          · split
            · exact Or.inl rfl
            · exact Or.inr rfl
    · split
      · exact Or.inr rfl
      · split
        · split
          · exact Or.inl rfl
          · split
            · exact Or.inl rfl
            · exact Or.inr rfl
        · split
          · exact Or.inr rfl
          · split
            · exact Or.inl rfl
            · split
              · exact Or.inl rfl
              · exact Or.inr rfl
  · split
    · exact Or.inr rfl
    · split
      · split
        · split
          · exact Or.inl rfl
          · split
            · exact Or.inl rfl
            · exact Or.inr rfl
        · split
          · exact Or.inr rfl
          · split
            · exact Or.inl rfl
            · split
              · exact Or.inl rfl
              · exact Or.inr rfl
      · split
        · exact Or.inr rfl
        · split
          · split
            · exact Or.inl rfl
            · split
              · exact Or.inl rfl
              · exact Or.inr rfl
          · split
            · exact Or.inr rfl
            · split
              · exact Or.inl rfl
              · split
                · exact Or.inl rfl
                · exact Or.inr rfl
set_option maxRecDepth 20000 in
set_option maxHeartbeats 2000000 in
theorem ok_X10_isFull {G : SG} (hG : GK 548 G) (p1 : Int32) (μ : Mem) : OkF G mX10_isFull [.ref (ga G 57), .int p1] μ (some (.int (F_X10_isFull p1 μ))) μ := by
  refine okF_of hG rfl rfl (Nat.le_of_ble_eq_true rfl) ?_
  refine r_iload_n dX10_isFull_0 1 rfl ?_
  refine r_if_ne 15 dX10_isFull_1 (by decide) (fun c1 => ?_) (fun c1 => ?_)
  · refine r_iload_n dX10_isFull_15 1 rfl ?_
    refine r_iconst 1 dX10_isFull_16 rfl ?_
    refine r_icmp_ne 31 dX10_isFull_17 (by decide) (fun c2 => ?_) (fun c2 => ?_)
    · refine r_iload_n dX10_isFull_31 1 rfl ?_
      refine r_iconst 2 dX10_isFull_32 rfl ?_
      refine r_icmp_ne 47 dX10_isFull_33 (by decide) (fun c3 => ?_) (fun c3 => ?_)
      · refine r_iload_n dX10_isFull_47 1 rfl ?_
        refine r_iconst 3 dX10_isFull_48 rfl ?_
        refine r_icmp_ne 67 dX10_isFull_49 (by decide) (fun c4 => ?_) (fun c4 => ?_)
        · refine r_iconst 0 dX10_isFull_67 rfl ?_
          exact r_ireturn _ dX10_isFull_68 rfl rfl ⟨congrArg (fun z => some (Value.int z)) (by unfold F_X10_isFull; rw [if_pos c1, if_pos c2, if_pos c3, if_pos c4]), rfl⟩
        · refine r_aload_n dX10_isFull_52 0 rfl ?_
          refine r_getR 60 fX10_20 (hG.lt (by decide)) sh57 fs57_11 dX10_isFull_53 ?_
          refine r_iconst 3 dX10_isFull_56 rfl ?_
          refine r_ialdK 3 rfl (hG.lt (by decide)) sh60 (vp_of (by decide) (by decide)) dX10_isFull_57 ?_
          refine r_bipush 6 dX10_isFull_58 rfl ?_
          refine r_icmp_ne 67 dX10_isFull_60 (by decide) (fun c5 => ?_) (fun c5 => ?_)
          · refine r_iconst 0 dX10_isFull_67 rfl ?_
            exact r_ireturn _ dX10_isFull_68 rfl rfl ⟨congrArg (fun z => some (Value.int z)) (by unfold F_X10_isFull; rw [if_pos c1, if_pos c2, if_pos c3, if_neg (not_not_intro c4), if_pos c5]), rfl⟩
          · refine r_iconst 1 dX10_isFull_63 rfl ?_
            refine r_goto 68 dX10_isFull_64 (by decide) ?_
            exact r_ireturn _ dX10_isFull_68 rfl rfl ⟨congrArg (fun z => some (Value.int z)) (by unfold F_X10_isFull; rw [if_pos c1, if_pos c2, if_pos c3, if_neg (not_not_intro c4), if_neg (not_not_intro c5)]), rfl⟩
      · refine r_aload_n dX10_isFull_36 0 rfl ?_
        refine r_getR 60 fX10_20 (hG.lt (by decide)) sh57 fs57_11 dX10_isFull_37 ?_
        refine r_iconst 2 dX10_isFull_40 rfl ?_
        refine r_ialdK 2 rfl (hG.lt (by decide)) sh60 (vp_of (by decide) (by decide)) dX10_isFull_41 ?_
        refine r_bipush 12 dX10_isFull_42 rfl ?_
        refine r_icmp_eq 63 dX10_isFull_44 (by decide) (fun c4 => ?_) (fun c4 => ?_)
        · refine r_iconst 1 dX10_isFull_63 rfl ?_
          refine r_goto 68 dX10_isFull_64 (by decide) ?_
          exact r_ireturn _ dX10_isFull_68 rfl rfl ⟨congrArg (fun z => some (Value.int z)) (by unfold F_X10_isFull; rw [if_pos c1, if_pos c2, if_neg (not_not_intro c3), if_pos c4]), rfl⟩
        · refine r_iload_n dX10_isFull_47 1 rfl ?_
          refine r_iconst 3 dX10_isFull_48 rfl ?_
          refine r_icmp_ne 67 dX10_isFull_49 (by decide) (fun c5 => ?_) (fun c5 => ?_)
          · refine r_iconst 0 dX10_isFull_67 rfl ?_
            exact r_ireturn _ dX10_isFull_68 rfl rfl ⟨congrArg (fun z => some (Value.int z)) (by unfold F_X10_isFull; rw [if_pos c1, if_pos c2, if_neg (not_not_intro c3), if_neg c4, if_pos c5]), rfl⟩
          · refine r_aload_n dX10_isFull_52 0 rfl ?_
            refine r_getR 60 fX10_20 (hG.lt (by decide)) sh57 fs57_11 dX10_isFull_53 ?_
            refine r_iconst 3 dX10_isFull_56 rfl ?_
            refine r_ialdK 3 rfl (hG.lt (by decide)) sh60 (vp_of (by decide) (by decide)) dX10_isFull_57 ?_
            refine r_bipush 6 dX10_isFull_58 rfl ?_
            refine r_icmp_ne 67 dX10_isFull_60 (by decide) (fun c6 => ?_) (fun c6 => ?_)
            · refine r_iconst 0 dX10_isFull_67 rfl ?_
              exact r_ireturn _ dX10_isFull_68 rfl rfl ⟨congrArg (fun z => some (Value.int z)) (by unfold F_X10_isFull; rw [if_pos c1, if_pos c2, if_neg (not_not_intro c3), if_neg c4, if_neg (not_not_intro c5), if_pos c6]), rfl⟩
            · refine r_iconst 1 dX10_isFull_63 rfl ?_
              refine r_goto 68 dX10_isFull_64 (by decide) ?_
              exact r_ireturn _ dX10_isFull_68 rfl rfl ⟨congrArg (fun z => some (Value.int z)) (by unfold F_X10_isFull; rw [if_pos c1, if_pos c2, if_neg (not_not_intro c3), if_neg c4, if_neg (not_not_intro c5), if_neg (not_not_intro c6)]), rfl⟩
    · refine r_aload_n dX10_isFull_20 0 rfl ?_
      refine r_getR 60 fX10_20 (hG.lt (by decide)) sh57 fs57_11 dX10_isFull_21 ?_
      refine r_iconst 1 dX10_isFull_24 rfl ?_
      refine r_ialdK 1 rfl (hG.lt (by decide)) sh60 (vp_of (by decide) (by decide)) dX10_isFull_25 ?_
      refine r_bipush 10 dX10_isFull_26 rfl ?_
      refine r_icmp_eq 63 dX10_isFull_28 (by decide) (fun c3 => ?_) (fun c3 => ?_)
      · refine r_iconst 1 dX10_isFull_63 rfl ?_
        refine r_goto 68 dX10_isFull_64 (by decide) ?_
        exact r_ireturn _ dX10_isFull_68 rfl rfl ⟨congrArg (fun z => some (Value.int z)) (by unfold F_X10_isFull; rw [if_pos c1, if_neg (not_not_intro c2), if_pos c3]), rfl⟩
      · refine r_iload_n dX10_isFull_31 1 rfl ?_
        refine r_iconst 2 dX10_isFull_32 rfl ?_
        refine r_icmp_ne 47 dX10_isFull_33 (by decide) (fun c4 => ?_) (fun c4 => ?_)
        · refine r_iload_n dX10_isFull_47 1 rfl ?_
          refine r_iconst 3 dX10_isFull_48 rfl ?_
          refine r_icmp_ne 67 dX10_isFull_49 (by decide) (fun c5 => ?_) (fun c5 => ?_)
          · refine r_iconst 0 dX10_isFull_67 rfl ?_
            exact r_ireturn _ dX10_isFull_68 rfl rfl ⟨congrArg (fun z => some (Value.int z)) (by unfold F_X10_isFull; rw [if_pos c1, if_neg (not_not_intro c2), if_neg c3, if_pos c4, if_pos c5]), rfl⟩
          · refine r_aload_n dX10_isFull_52 0 rfl ?_
            refine r_getR 60 fX10_20 (hG.lt (by decide)) sh57 fs57_11 dX10_isFull_53 ?_
            refine r_iconst 3 dX10_isFull_56 rfl ?_
            refine r_ialdK 3 rfl (hG.lt (by decide)) sh60 (vp_of (by decide) (by decide)) dX10_isFull_57 ?_
            refine r_bipush 6 dX10_isFull_58 rfl ?_
            refine r_icmp_ne 67 dX10_isFull_60 (by decide) (fun c6 => ?_) (fun c6 => ?_)
            · refine r_iconst 0 dX10_isFull_67 rfl ?_
              exact r_ireturn _ dX10_isFull_68 rfl rfl ⟨congrArg (fun z => some (Value.int z)) (by unfold F_X10_isFull; rw [if_pos c1, if_neg (not_not_intro c2), if_neg c3, if_pos c4, if_neg (not_not_intro c5), if_pos c6]), rfl⟩
            · refine r_iconst 1 dX10_isFull_63 rfl ?_
              refine r_goto 68 dX10_isFull_64 (by decide) ?_
              exact r_ireturn _ dX10_isFull_68 rfl rfl ⟨congrArg (fun z => some (Value.int z)) (by unfold F_X10_isFull; rw [if_pos c1, if_neg (not_not_intro c2), if_neg c3, if_pos c4, if_neg (not_not_intro c5), if_neg (not_not_intro c6)]), rfl⟩
        · refine r_aload_n dX10_isFull_36 0 rfl ?_
          refine r_getR 60 fX10_20 (hG.lt (by decide)) sh57 fs57_11 dX10_isFull_37 ?_
          refine r_iconst 2 dX10_isFull_40 rfl ?_
          refine r_ialdK 2 rfl (hG.lt (by decide)) sh60 (vp_of (by decide) (by decide)) dX10_isFull_41 ?_
          refine r_bipush 12 dX10_isFull_42 rfl ?_
          refine r_icmp_eq 63 dX10_isFull_44 (by decide) (fun c5 => ?_) (fun c5 => ?_)
          · refine r_iconst 1 dX10_isFull_63 rfl ?_
            refine r_goto 68 dX10_isFull_64 (by decide) ?_
            exact r_ireturn _ dX10_isFull_68 rfl rfl ⟨congrArg (fun z => some (Value.int z)) (by unfold F_X10_isFull; rw [if_pos c1, if_neg (not_not_intro c2), if_neg c3, if_neg (not_not_intro c4), if_pos c5]), rfl⟩
          · refine r_iload_n dX10_isFull_47 1 rfl ?_
            refine r_iconst 3 dX10_isFull_48 rfl ?_
            refine r_icmp_ne 67 dX10_isFull_49 (by decide) (fun c6 => ?_) (fun c6 => ?_)
            · refine r_iconst 0 dX10_isFull_67 rfl ?_
              exact r_ireturn _ dX10_isFull_68 rfl rfl ⟨congrArg (fun z => some (Value.int z)) (by unfold F_X10_isFull; rw [if_pos c1, if_neg (not_not_intro c2), if_neg c3, if_neg (not_not_intro c4), if_neg c5, if_pos c6]), rfl⟩
            · refine r_aload_n dX10_isFull_52 0 rfl ?_
              refine r_getR 60 fX10_20 (hG.lt (by decide)) sh57 fs57_11 dX10_isFull_53 ?_
              refine r_iconst 3 dX10_isFull_56 rfl ?_
              refine r_ialdK 3 rfl (hG.lt (by decide)) sh60 (vp_of (by decide) (by decide)) dX10_isFull_57 ?_
              refine r_bipush 6 dX10_isFull_58 rfl ?_
              refine r_icmp_ne 67 dX10_isFull_60 (by decide) (fun c7 => ?_) (fun c7 => ?_)
              · refine r_iconst 0 dX10_isFull_67 rfl ?_
                exact r_ireturn _ dX10_isFull_68 rfl rfl ⟨congrArg (fun z => some (Value.int z)) (by unfold F_X10_isFull; rw [if_pos c1, if_neg (not_not_intro c2), if_neg c3, if_neg (not_not_intro c4), if_neg c5, if_neg (not_not_intro c6), if_pos c7]), rfl⟩
              · refine r_iconst 1 dX10_isFull_63 rfl ?_
                refine r_goto 68 dX10_isFull_64 (by decide) ?_
                exact r_ireturn _ dX10_isFull_68 rfl rfl ⟨congrArg (fun z => some (Value.int z)) (by unfold F_X10_isFull; rw [if_pos c1, if_neg (not_not_intro c2), if_neg c3, if_neg (not_not_intro c4), if_neg c5, if_neg (not_not_intro c6), if_neg (not_not_intro c7)]), rfl⟩
  · refine r_aload_n dX10_isFull_4 0 rfl ?_
    refine r_getR 60 fX10_20 (hG.lt (by decide)) sh57 fs57_11 dX10_isFull_5 ?_
    refine r_iconst 0 dX10_isFull_8 rfl ?_
    refine r_ialdK 0 rfl (hG.lt (by decide)) sh60 (vp_of (by decide) (by decide)) dX10_isFull_9 ?_
    refine r_bipush 6 dX10_isFull_10 rfl ?_
    refine r_icmp_eq 63 dX10_isFull_12 (by decide) (fun c2 => ?_) (fun c2 => ?_)
    · refine r_iconst 1 dX10_isFull_63 rfl ?_
      refine r_goto 68 dX10_isFull_64 (by decide) ?_
      exact r_ireturn _ dX10_isFull_68 rfl rfl ⟨congrArg (fun z => some (Value.int z)) (by unfold F_X10_isFull; rw [if_neg (not_not_intro c1), if_pos c2]), rfl⟩
    · refine r_iload_n dX10_isFull_15 1 rfl ?_
      refine r_iconst 1 dX10_isFull_16 rfl ?_
      refine r_icmp_ne 31 dX10_isFull_17 (by decide) (fun c3 => ?_) (fun c3 => ?_)
      · refine r_iload_n dX10_isFull_31 1 rfl ?_
        refine r_iconst 2 dX10_isFull_32 rfl ?_
        refine r_icmp_ne 47 dX10_isFull_33 (by decide) (fun c4 => ?_) (fun c4 => ?_)
        · refine r_iload_n dX10_isFull_47 1 rfl ?_
          refine r_iconst 3 dX10_isFull_48 rfl ?_
          refine r_icmp_ne 67 dX10_isFull_49 (by decide) (fun c5 => ?_) (fun c5 => ?_)
          · refine r_iconst 0 dX10_isFull_67 rfl ?_
            exact r_ireturn _ dX10_isFull_68 rfl rfl ⟨congrArg (fun z => some (Value.int z)) (by unfold F_X10_isFull; rw [if_neg (not_not_intro c1), if_neg c2, if_pos c3, if_pos c4, if_pos c5]), rfl⟩
          · refine r_aload_n dX10_isFull_52 0 rfl ?_
            refine r_getR 60 fX10_20 (hG.lt (by decide)) sh57 fs57_11 dX10_isFull_53 ?_
            refine r_iconst 3 dX10_isFull_56 rfl ?_
            refine r_ialdK 3 rfl (hG.lt (by decide)) sh60 (vp_of (by decide) (by decide)) dX10_isFull_57 ?_
            refine r_bipush 6 dX10_isFull_58 rfl ?_
            refine r_icmp_ne 67 dX10_isFull_60 (by decide) (fun c6 => ?_) (fun c6 => ?_)
            · refine r_iconst 0 dX10_isFull_67 rfl ?_
              exact r_ireturn _ dX10_isFull_68 rfl rfl ⟨congrArg (fun z => some (Value.int z)) (by unfold F_X10_isFull; rw [if_neg (not_not_intro c1), if_neg c2, if_pos c3, if_pos c4, if_neg (not_not_intro c5), if_pos c6]), rfl⟩
            · refine r_iconst 1 dX10_isFull_63 rfl ?_
              refine r_goto 68 dX10_isFull_64 (by decide) ?_
              exact r_ireturn _ dX10_isFull_68 rfl rfl ⟨congrArg (fun z => some (Value.int z)) (by unfold F_X10_isFull; rw [if_neg (not_not_intro c1), if_neg c2, if_pos c3, if_pos c4, if_neg (not_not_intro c5), if_neg (not_not_intro c6)]), rfl⟩
        · refine r_aload_n dX10_isFull_36 0 rfl ?_
          refine r_getR 60 fX10_20 (hG.lt (by decide)) sh57 fs57_11 dX10_isFull_37 ?_
          refine r_iconst 2 dX10_isFull_40 rfl ?_
          refine r_ialdK 2 rfl (hG.lt (by decide)) sh60 (vp_of (by decide) (by decide)) dX10_isFull_41 ?_
          refine r_bipush 12 dX10_isFull_42 rfl ?_
          refine r_icmp_eq 63 dX10_isFull_44 (by decide) (fun c5 => ?_) (fun c5 => ?_)
          · refine r_iconst 1 dX10_isFull_63 rfl ?_
            refine r_goto 68 dX10_isFull_64 (by decide) ?_
            exact r_ireturn _ dX10_isFull_68 rfl rfl ⟨congrArg (fun z => some (Value.int z)) (by unfold F_X10_isFull; rw [if_neg (not_not_intro c1), if_neg c2, if_pos c3, if_neg (not_not_intro c4), if_pos c5]), rfl⟩
          · refine r_iload_n dX10_isFull_47 1 rfl ?_
            refine r_iconst 3 dX10_isFull_48 rfl ?_
            refine r_icmp_ne 67 dX10_isFull_49 (by decide) (fun c6 => ?_) (fun c6 => ?_)
            · refine r_iconst 0 dX10_isFull_67 rfl ?_
              exact r_ireturn _ dX10_isFull_68 rfl rfl ⟨congrArg (fun z => some (Value.int z)) (by unfold F_X10_isFull; rw [if_neg (not_not_intro c1), if_neg c2, if_pos c3, if_neg (not_not_intro c4), if_neg c5, if_pos c6]), rfl⟩
            · refine r_aload_n dX10_isFull_52 0 rfl ?_
              refine r_getR 60 fX10_20 (hG.lt (by decide)) sh57 fs57_11 dX10_isFull_53 ?_
              refine r_iconst 3 dX10_isFull_56 rfl ?_
              refine r_ialdK 3 rfl (hG.lt (by decide)) sh60 (vp_of (by decide) (by decide)) dX10_isFull_57 ?_
              refine r_bipush 6 dX10_isFull_58 rfl ?_
              refine r_icmp_ne 67 dX10_isFull_60 (by decide) (fun c7 => ?_) (fun c7 => ?_)
              · refine r_iconst 0 dX10_isFull_67 rfl ?_
                exact r_ireturn _ dX10_isFull_68 rfl rfl ⟨congrArg (fun z => some (Value.int z)) (by unfold F_X10_isFull; rw [if_neg (not_not_intro c1), if_neg c2, if_pos c3, if_neg (not_not_intro c4), if_neg c5, if_neg (not_not_intro c6), if_pos c7]), rfl⟩
              · refine r_iconst 1 dX10_isFull_63 rfl ?_
                refine r_goto 68 dX10_isFull_64 (by decide) ?_
                exact r_ireturn _ dX10_isFull_68 rfl rfl ⟨congrArg (fun z => some (Value.int z)) (by unfold F_X10_isFull; rw [if_neg (not_not_intro c1), if_neg c2, if_pos c3, if_neg (not_not_intro c4), if_neg c5, if_neg (not_not_intro c6), if_neg (not_not_intro c7)]), rfl⟩
      · refine r_aload_n dX10_isFull_20 0 rfl ?_
        refine r_getR 60 fX10_20 (hG.lt (by decide)) sh57 fs57_11 dX10_isFull_21 ?_
        refine r_iconst 1 dX10_isFull_24 rfl ?_
        refine r_ialdK 1 rfl (hG.lt (by decide)) sh60 (vp_of (by decide) (by decide)) dX10_isFull_25 ?_
        refine r_bipush 10 dX10_isFull_26 rfl ?_
        refine r_icmp_eq 63 dX10_isFull_28 (by decide) (fun c4 => ?_) (fun c4 => ?_)
        · refine r_iconst 1 dX10_isFull_63 rfl ?_
          refine r_goto 68 dX10_isFull_64 (by decide) ?_
          exact r_ireturn _ dX10_isFull_68 rfl rfl ⟨congrArg (fun z => some (Value.int z)) (by unfold F_X10_isFull; rw [if_neg (not_not_intro c1), if_neg c2, if_neg (not_not_intro c3), if_pos c4]), rfl⟩
        · refine r_iload_n dX10_isFull_31 1 rfl ?_
          refine r_iconst 2 dX10_isFull_32 rfl ?_
          refine r_icmp_ne 47 dX10_isFull_33 (by decide) (fun c5 => ?_) (fun c5 => ?_)
          · refine r_iload_n dX10_isFull_47 1 rfl ?_
            refine r_iconst 3 dX10_isFull_48 rfl ?_
            refine r_icmp_ne 67 dX10_isFull_49 (by decide) (fun c6 => ?_) (fun c6 => ?_)
            · refine r_iconst 0 dX10_isFull_67 rfl ?_
              exact r_ireturn _ dX10_isFull_68 rfl rfl ⟨congrArg (fun z => some (Value.int z)) (by unfold F_X10_isFull; rw [if_neg (not_not_intro c1), if_neg c2, if_neg (not_not_intro c3), if_neg c4, if_pos c5, if_pos c6]), rfl⟩
            · refine r_aload_n dX10_isFull_52 0 rfl ?_
              refine r_getR 60 fX10_20 (hG.lt (by decide)) sh57 fs57_11 dX10_isFull_53 ?_
              refine r_iconst 3 dX10_isFull_56 rfl ?_
              refine r_ialdK 3 rfl (hG.lt (by decide)) sh60 (vp_of (by decide) (by decide)) dX10_isFull_57 ?_
              refine r_bipush 6 dX10_isFull_58 rfl ?_
              refine r_icmp_ne 67 dX10_isFull_60 (by decide) (fun c7 => ?_) (fun c7 => ?_)
              · refine r_iconst 0 dX10_isFull_67 rfl ?_
                exact r_ireturn _ dX10_isFull_68 rfl rfl ⟨congrArg (fun z => some (Value.int z)) (by unfold F_X10_isFull; rw [if_neg (not_not_intro c1), if_neg c2, if_neg (not_not_intro c3), if_neg c4, if_pos c5, if_neg (not_not_intro c6), if_pos c7]), rfl⟩
              · refine r_iconst 1 dX10_isFull_63 rfl ?_
                refine r_goto 68 dX10_isFull_64 (by decide) ?_
                exact r_ireturn _ dX10_isFull_68 rfl rfl ⟨congrArg (fun z => some (Value.int z)) (by unfold F_X10_isFull; rw [if_neg (not_not_intro c1), if_neg c2, if_neg (not_not_intro c3), if_neg c4, if_pos c5, if_neg (not_not_intro c6), if_neg (not_not_intro c7)]), rfl⟩
          · refine r_aload_n dX10_isFull_36 0 rfl ?_
            refine r_getR 60 fX10_20 (hG.lt (by decide)) sh57 fs57_11 dX10_isFull_37 ?_
            refine r_iconst 2 dX10_isFull_40 rfl ?_
            refine r_ialdK 2 rfl (hG.lt (by decide)) sh60 (vp_of (by decide) (by decide)) dX10_isFull_41 ?_
            refine r_bipush 12 dX10_isFull_42 rfl ?_
            refine r_icmp_eq 63 dX10_isFull_44 (by decide) (fun c6 => ?_) (fun c6 => ?_)
            · refine r_iconst 1 dX10_isFull_63 rfl ?_
              refine r_goto 68 dX10_isFull_64 (by decide) ?_
              exact r_ireturn _ dX10_isFull_68 rfl rfl ⟨congrArg (fun z => some (Value.int z)) (by unfold F_X10_isFull; rw [if_neg (not_not_intro c1), if_neg c2, if_neg (not_not_intro c3), if_neg c4, if_neg (not_not_intro c5), if_pos c6]), rfl⟩
            · refine r_iload_n dX10_isFull_47 1 rfl ?_
              refine r_iconst 3 dX10_isFull_48 rfl ?_
              refine r_icmp_ne 67 dX10_isFull_49 (by decide) (fun c7 => ?_) (fun c7 => ?_)
              · refine r_iconst 0 dX10_isFull_67 rfl ?_
                exact r_ireturn _ dX10_isFull_68 rfl rfl ⟨congrArg (fun z => some (Value.int z)) (by unfold F_X10_isFull; rw [if_neg (not_not_intro c1), if_neg c2, if_neg (not_not_intro c3), if_neg c4, if_neg (not_not_intro c5), if_neg c6, if_pos c7]), rfl⟩
              · refine r_aload_n dX10_isFull_52 0 rfl ?_
                refine r_getR 60 fX10_20 (hG.lt (by decide)) sh57 fs57_11 dX10_isFull_53 ?_
                refine r_iconst 3 dX10_isFull_56 rfl ?_
                refine r_ialdK 3 rfl (hG.lt (by decide)) sh60 (vp_of (by decide) (by decide)) dX10_isFull_57 ?_
                refine r_bipush 6 dX10_isFull_58 rfl ?_
                refine r_icmp_ne 67 dX10_isFull_60 (by decide) (fun c8 => ?_) (fun c8 => ?_)
                · refine r_iconst 0 dX10_isFull_67 rfl ?_
                  exact r_ireturn _ dX10_isFull_68 rfl rfl ⟨congrArg (fun z => some (Value.int z)) (by unfold F_X10_isFull; rw [if_neg (not_not_intro c1), if_neg c2, if_neg (not_not_intro c3), if_neg c4, if_neg (not_not_intro c5), if_neg c6, if_neg (not_not_intro c7), if_pos c8]), rfl⟩
                · refine r_iconst 1 dX10_isFull_63 rfl ?_
                  refine r_goto 68 dX10_isFull_64 (by decide) ?_
                  exact r_ireturn _ dX10_isFull_68 rfl rfl ⟨congrArg (fun z => some (Value.int z)) (by unfold F_X10_isFull; rw [if_neg (not_not_intro c1), if_neg c2, if_neg (not_not_intro c3), if_neg c4, if_neg (not_not_intro c5), if_neg c6, if_neg (not_not_intro c7), if_neg (not_not_intro c8)]), rfl⟩
def muX10_clause_1 (μ : Mem) : Mem := (M_X10_kindHere  μ)
def muX10_clause_2 (μ : Mem) : Mem := (M_X10_wrong 3 ((muX10_clause_1 μ) 57 4) (muX10_clause_1 μ))
def muX10_clause_3 (μ : Mem) : Mem := (M_X10_wrong 3 ((muX10_clause_1 μ) 57 4) (muX10_clause_1 μ))
def muX10_clause_4 (μ : Mem) : Mem := (M_X10_wrong 1 ((muX10_clause_1 μ) 57 4) (muX10_clause_1 μ))
def VX10_clause_5 (μ : Mem) : Mem := (if (F_X10_kindHere  μ) ≠ (-1) then (if ((muX10_clause_1 μ) 57 7) = 60 then (muX10_clause_2 μ) else (if (F_X10_isFull (F_X10_kindHere  μ) (muX10_clause_1 μ)) = 0 then (muX10_clause_1 μ) else (muX10_clause_3 μ))) else (muX10_clause_4 μ))
def muX10_clause_6 (μ : Mem) : Mem := (M_X10_skipWord  (VX10_clause_5 μ))
def muX10_clause_7 (μ : Mem) : Mem := (upm (muX10_clause_6 μ) 57 7 (((muX10_clause_6 μ) 57 7) + 1))
def muX10_clause_8 (μ : Mem) : Mem := (M_X10_number 0 40 (muX10_clause_7 μ))
def muX10_clause_9 (μ : Mem) : Mem := (upm (muX10_clause_8 μ) 62 (ix ((muX10_clause_7 μ) 60 (ix (F_X10_kindHere  μ)))) (F_X10_number 0 40 (muX10_clause_7 μ)))
def VX10_clause_10 (μ : Mem) : Int32 := (if ((muX10_clause_9 μ) 57 5) ≠ 0 then 0 else 1)
theorem bo_VX10_clause_10 (μ : Mem) : (VX10_clause_10 μ) = 0 ∨ (VX10_clause_10 μ) = 1 := by
  unfold VX10_clause_10
  split
  · exact Or.inl rfl
  · exact Or.inr rfl
def muX10_clause_11 (μ : Mem) : Mem := (upm (muX10_clause_9 μ) 60 (ix (F_X10_kindHere  μ)) (((muX10_clause_9 μ) 60 (ix (F_X10_kindHere  μ))) + (VX10_clause_10 μ)))
def VX10_clause_12 (μ : Mem) : Mem := (if 4 ≤ (F_X10_kindHere  μ) then (muX10_clause_9 μ) else (muX10_clause_11 μ))
def muX10_clause_13 (μ : Mem) : Mem := (M_X10_sign 59 (VX10_clause_12 μ))
def muX10_clause_14 (μ : Mem) : Mem := (M_X10_number 0 (((muX10_clause_7 μ) 60 0) - 1) (muX10_clause_7 μ))
def muX10_clause_15 (μ : Mem) : Mem := (upm (muX10_clause_14 μ) (67 + (ix ((muX10_clause_7 μ) 60 (ix (F_X10_kindHere  μ))))) 0 (F_X10_number 0 (((muX10_clause_7 μ) 60 0) - 1) (muX10_clause_7 μ)))
def muX10_clause_16 (μ : Mem) : Mem := (M_X10_number 1 9 (muX10_clause_15 μ))
def muX10_clause_17 (μ : Mem) : Mem := (upm (muX10_clause_16 μ) (67 + (ix ((muX10_clause_7 μ) 60 (ix (F_X10_kindHere  μ))))) 1 (F_X10_number 1 9 (muX10_clause_15 μ)))
def muX10_clause_18 (μ : Mem) : Mem := (M_X10_number 1 20 (muX10_clause_17 μ))
def muX10_clause_19 (μ : Mem) : Mem := (upm (muX10_clause_18 μ) (67 + (ix ((muX10_clause_7 μ) 60 (ix (F_X10_kindHere  μ))))) 2 (F_X10_number 1 20 (muX10_clause_17 μ)))
def muX10_clause_20 (μ : Mem) : Mem := (M_X10_number 0 40 (muX10_clause_19 μ))
def muX10_clause_21 (μ : Mem) : Mem := (upm (muX10_clause_20 μ) (67 + (ix ((muX10_clause_7 μ) 60 (ix (F_X10_kindHere  μ))))) 3 (F_X10_number 0 40 (muX10_clause_19 μ)))
def VX10_clause_22 (μ : Mem) : Int32 := (if ((muX10_clause_21 μ) 57 5) ≠ 0 then 0 else 1)
theorem bo_VX10_clause_22 (μ : Mem) : (VX10_clause_22 μ) = 0 ∨ (VX10_clause_22 μ) = 1 := by
  unfold VX10_clause_22
  split
  · exact Or.inl rfl
  · exact Or.inr rfl
def muX10_clause_23 (μ : Mem) : Mem := (upm (muX10_clause_21 μ) 60 (ix (F_X10_kindHere  μ)) (((muX10_clause_21 μ) 60 (ix (F_X10_kindHere  μ))) + (VX10_clause_22 μ)))
def VX10_clause_24 (μ : Mem) : Mem := (if 4 ≤ (F_X10_kindHere  μ) then (muX10_clause_21 μ) else (muX10_clause_23 μ))
def muX10_clause_25 (μ : Mem) : Mem := (M_X10_sign 59 (VX10_clause_24 μ))
def muX10_clause_26 (μ : Mem) : Mem := (M_X10_number 0 60 (muX10_clause_7 μ))
def muX10_clause_27 (μ : Mem) : Mem := (upm (muX10_clause_26 μ) 64 (ix ((muX10_clause_7 μ) 60 (ix (F_X10_kindHere  μ)))) (F_X10_number 0 60 (muX10_clause_7 μ)))
def VX10_clause_28 (μ : Mem) : Int32 := (if ((muX10_clause_27 μ) 57 5) ≠ 0 then 0 else 1)
theorem bo_VX10_clause_28 (μ : Mem) : (VX10_clause_28 μ) = 0 ∨ (VX10_clause_28 μ) = 1 := by
  unfold VX10_clause_28
  split
  · exact Or.inl rfl
  · exact Or.inr rfl
def muX10_clause_29 (μ : Mem) : Mem := (upm (muX10_clause_27 μ) 60 (ix (F_X10_kindHere  μ)) (((muX10_clause_27 μ) 60 (ix (F_X10_kindHere  μ))) + (VX10_clause_28 μ)))
def VX10_clause_30 (μ : Mem) : Mem := (if 4 ≤ (F_X10_kindHere  μ) then (muX10_clause_27 μ) else (muX10_clause_29 μ))
def muX10_clause_31 (μ : Mem) : Mem := (M_X10_sign 59 (VX10_clause_30 μ))
def muX10_clause_32 (μ : Mem) : Mem := (M_X10_number 1 40 (muX10_clause_7 μ))
def muX10_clause_33 (μ : Mem) : Mem := (upm (muX10_clause_32 μ) (89 + (ix ((muX10_clause_7 μ) 60 (ix (F_X10_kindHere  μ))))) 0 (F_X10_number 1 40 (muX10_clause_7 μ)))
def muX10_clause_34 (μ : Mem) : Mem := (M_X10_number 0 16 (muX10_clause_33 μ))
def muX10_clause_35 (μ : Mem) : Mem := (upm (muX10_clause_34 μ) (89 + (ix ((muX10_clause_7 μ) 60 (ix (F_X10_kindHere  μ))))) 1 (F_X10_number 0 16 (muX10_clause_33 μ)))
def VX10_clause_36 (μ : Mem) : Int32 := (if ((muX10_clause_35 μ) 57 5) ≠ 0 then 0 else 1)
theorem bo_VX10_clause_36 (μ : Mem) : (VX10_clause_36 μ) = 0 ∨ (VX10_clause_36 μ) = 1 := by
  unfold VX10_clause_36
  split
  · exact Or.inl rfl
  · exact Or.inr rfl
def muX10_clause_37 (μ : Mem) : Mem := (upm (muX10_clause_35 μ) 60 (ix (F_X10_kindHere  μ)) (((muX10_clause_35 μ) 60 (ix (F_X10_kindHere  μ))) + (VX10_clause_36 μ)))
def VX10_clause_38 (μ : Mem) : Mem := (if 4 ≤ (F_X10_kindHere  μ) then (muX10_clause_35 μ) else (muX10_clause_37 μ))
def muX10_clause_39 (μ : Mem) : Mem := (M_X10_sign 59 (VX10_clause_38 μ))
def VX10_clause_40 (μ : Mem) : Int32 := (if (F_X10_kindHere  μ) ≠ 4 then 1 else 0)
theorem bo_VX10_clause_40 (μ : Mem) : (VX10_clause_40 μ) = 0 ∨ (VX10_clause_40 μ) = 1 := by
  unfold VX10_clause_40
  split
  · exact Or.inr rfl
  · exact Or.inl rfl
def VX10_clause_41 (μ : Mem) : Int32 := (if (F_X10_kindHere  μ) ≠ 4 then 9 else 40)
def muX10_clause_42 (μ : Mem) : Mem := (M_X10_number (VX10_clause_40 μ) (VX10_clause_41 μ) (muX10_clause_7 μ))
def muX10_clause_43 (μ : Mem) : Mem := (upm (muX10_clause_42 μ) 60 (ix (F_X10_kindHere  μ)) (F_X10_number (VX10_clause_40 μ) (VX10_clause_41 μ) (muX10_clause_7 μ)))
def VX10_clause_44 (μ : Mem) : Mem := (if ((muX10_clause_42 μ) 57 5) ≠ 0 then (muX10_clause_42 μ) else (muX10_clause_43 μ))
def VX10_clause_45 (μ : Mem) : Int32 := (if ((VX10_clause_44 μ) 57 5) ≠ 0 then 0 else 1)
theorem bo_VX10_clause_45 (μ : Mem) : (VX10_clause_45 μ) = 0 ∨ (VX10_clause_45 μ) = 1 := by
  unfold VX10_clause_45
  split
  · exact Or.inl rfl
  · exact Or.inr rfl
def muX10_clause_46 (μ : Mem) : Mem := (upm (VX10_clause_44 μ) 60 (ix (F_X10_kindHere  μ)) (((VX10_clause_44 μ) 60 (ix (F_X10_kindHere  μ))) + (VX10_clause_45 μ)))
def VX10_clause_47 (μ : Mem) : Mem := (if 4 ≤ (F_X10_kindHere  μ) then (VX10_clause_44 μ) else (muX10_clause_46 μ))
def muX10_clause_48 (μ : Mem) : Mem := (M_X10_sign 59 (VX10_clause_47 μ))
def M_X10_clause  (μ : Mem) : Mem := (if ((VX10_clause_5 μ) 57 5) = 0 then (if (F_X10_kindHere  μ) = 0 then (muX10_clause_13 μ) else (if (F_X10_kindHere  μ) = 1 then (muX10_clause_25 μ) else (if (F_X10_kindHere  μ) = 2 then (muX10_clause_31 μ) else (if (F_X10_kindHere  μ) = 3 then (muX10_clause_39 μ) else (muX10_clause_48 μ))))) else (VX10_clause_5 μ))
def P_X10_clause  (μ : Mem) : Prop := ((P_X10_kindHere  μ) ∧ ((((VX10_clause_5 μ) 57 5) = 0 → ((P_X10_skipWord  (VX10_clause_5 μ)) ∧ ((vp_in (F_X10_kindHere  μ) 6) ∧ (((F_X10_kindHere  μ) = 0 → ((P_X10_number 0 40 (muX10_clause_7 μ)) ∧ ((vp_in ((muX10_clause_7 μ) 60 (ix (F_X10_kindHere  μ))) 6) ∧ (((4 ≤ (F_X10_kindHere  μ) → True) ∧ ((F_X10_kindHere  μ) < 4 → ((vp_in (F_X10_kindHere  μ) 6) ∧ (vp_in (F_X10_kindHere  μ) 6)))) ∧ (P_X10_sign 59 (VX10_clause_12 μ)))))) ∧ ((F_X10_kindHere  μ) = 1 → ((vp_in ((muX10_clause_7 μ) 60 (ix (F_X10_kindHere  μ))) 10) ∧ ((P_X10_number 0 (((muX10_clause_7 μ) 60 0) - 1) (muX10_clause_7 μ)) ∧ ((P_X10_number 1 9 (muX10_clause_15 μ)) ∧ ((P_X10_number 1 20 (muX10_clause_17 μ)) ∧ ((P_X10_number 0 40 (muX10_clause_19 μ)) ∧ (((4 ≤ (F_X10_kindHere  μ) → True) ∧ ((F_X10_kindHere  μ) < 4 → ((vp_in (F_X10_kindHere  μ) 6) ∧ (vp_in (F_X10_kindHere  μ) 6)))) ∧ (P_X10_sign 59 (VX10_clause_24 μ))))))))) ∧ ((F_X10_kindHere  μ) = 2 → ((P_X10_number 0 60 (muX10_clause_7 μ)) ∧ ((vp_in ((muX10_clause_7 μ) 60 (ix (F_X10_kindHere  μ))) 12) ∧ (((4 ≤ (F_X10_kindHere  μ) → True) ∧ ((F_X10_kindHere  μ) < 4 → ((vp_in (F_X10_kindHere  μ) 6) ∧ (vp_in (F_X10_kindHere  μ) 6)))) ∧ (P_X10_sign 59 (VX10_clause_30 μ)))))) ∧ ((F_X10_kindHere  μ) = 3 → ((vp_in ((muX10_clause_7 μ) 60 (ix (F_X10_kindHere  μ))) 6) ∧ ((P_X10_number 1 40 (muX10_clause_7 μ)) ∧ ((P_X10_number 0 16 (muX10_clause_33 μ)) ∧ (((4 ≤ (F_X10_kindHere  μ) → True) ∧ ((F_X10_kindHere  μ) < 4 → ((vp_in (F_X10_kindHere  μ) 6) ∧ (vp_in (F_X10_kindHere  μ) 6)))) ∧ (P_X10_sign 59 (VX10_clause_38 μ))))))) ∧ (¬ (F_X10_kindHere  μ) = 0 ∧ ¬ (F_X10_kindHere  μ) = 1 ∧ ¬ (F_X10_kindHere  μ) = 2 ∧ ¬ (F_X10_kindHere  μ) = 3 → ((P_X10_number (VX10_clause_40 μ) (VX10_clause_41 μ) (muX10_clause_7 μ)) ∧ (((((muX10_clause_42 μ) 57 5) ≠ 0 → True) ∧ (((muX10_clause_42 μ) 57 5) = 0 → (vp_in (F_X10_kindHere  μ) 6))) ∧ (((4 ≤ (F_X10_kindHere  μ) → True) ∧ ((F_X10_kindHere  μ) < 4 → ((vp_in (F_X10_kindHere  μ) 6) ∧ (vp_in (F_X10_kindHere  μ) 6)))) ∧ (P_X10_sign 59 (VX10_clause_47 μ)))))))))) ∧ (¬ ((VX10_clause_5 μ) 57 5) = 0 → True)))
set_option maxRecDepth 20000 in
set_option maxHeartbeats 2000000 in
theorem ok_X10_clause {G : SG} (hG : GK 548 G)  (μ : Mem) (hP : P_X10_clause  μ) : OkF G mX10_clause [.ref (ga G 57)] μ none (M_X10_clause  μ) := by
  refine okF_of hG rfl rfl (Nat.le_of_ble_eq_true rfl) ?_
  unfold P_X10_clause at hP
  refine r_aload_n dX10_clause_0 0 rfl ?_
  have hs1 := hP.1
  replace hP := hP.2
  refine r_cvI (ok_X10_kindHere hG  μ hs1) lX10_171 (hG.lt (by decide)) sh57 ⟨_, _, rfl⟩ dX10_clause_1 (by decide) (Nat.le_of_ble_eq_true rfl) rfl (Nat.le_of_ble_eq_true rfl) ?_
  refine r_mu (muX10_clause_1 μ) rfl ?_
  refine r_istore_n [(1, _), (0, _)] dX10_clause_4 (Nat.le_of_ble_eq_true rfl) rfl ?_
  refine r_iload_n dX10_clause_5 0 rfl ?_
  refine r_iconst (-1) dX10_clause_6 rfl ?_
  refine r_join 48 [(1, .int (F_X10_kindHere  μ)), (0, .ref (ga G 57))] [] (VX10_clause_5 μ) ?_ (fun hJ => ?_)
  · refine r_aload_n dX10_clause_48 1 rfl ?_
    refine r_getI fX10_119 (hG.lt (by decide)) sh57 fs57_5 dX10_clause_49 ?_
    refine r_if_eq 56 dX10_clause_52 (by decide) (fun c1 => ?_) (fun c1 => ?_)
    · replace hP := hP.1 c1
      refine r_aload_n dX10_clause_56 1 rfl ?_
      have hs2 := hP.1
      replace hP := hP.2
      refine r_cvV (ok_X10_skipWord hG  (VX10_clause_5 μ) hs2) lX10_162 (hG.lt (by decide)) sh57 ⟨_, _, rfl⟩ dX10_clause_57 (by decide) (Nat.le_of_ble_eq_true rfl) rfl (Nat.le_of_ble_eq_true rfl) ?_
      refine r_mu (muX10_clause_6 μ) rfl ?_
      refine r_aload_n dX10_clause_60 1 rfl ?_
      refine r_dup dX10_clause_61 rfl ?_
      refine r_getI fX10_165 (hG.lt (by decide)) sh57 fs57_7 dX10_clause_62 ?_
      refine r_iconst 1 dX10_clause_65 rfl ?_
      refine r_iadd dX10_clause_66 ?_
      refine r_put fiX10_165 (hG.lt (by decide)) sh57 fs57_7 dX10_clause_67 ?_
      refine r_mu (muX10_clause_7 μ) rfl ?_
      refine r_aload_n dX10_clause_70 1 rfl ?_
      refine r_getR 60 fX10_20 (hG.lt (by decide)) sh57 fs57_11 dX10_clause_71 ?_
      refine r_iload_n dX10_clause_74 0 rfl ?_
      have hs3 := hP.1
      replace hP := hP.2
      refine r_iald (hG.lt (by decide)) sh60 hs3 dX10_clause_75 ?_
      refine r_istore_n [(2, _), (1, _), (0, _)] dX10_clause_76 (Nat.le_of_ble_eq_true rfl) rfl ?_
      refine r_iload_n dX10_clause_77 1 rfl ?_
      by_cases c2 : (F_X10_kindHere  μ) = 0
      · replace hP := hP.1 c2
        refine r_tableIn (30) 108 dX10_clause_78 (by rw [c2]; decide) (by rw [c2]; decide) (by rw [c2]; rfl) (by decide) ?_
        refine r_aload_n dX10_clause_108 2 rfl ?_
        refine r_getR 62 fX10_26 (hG.lt (by decide)) sh57 fs57_13 dX10_clause_109 ?_
        refine r_iload_n dX10_clause_112 0 rfl ?_
        refine r_aload_n dX10_clause_113 2 rfl ?_
        refine r_iconst 0 dX10_clause_114 rfl ?_
        refine r_bipush 40 dX10_clause_115 rfl ?_
        have hs4 := hP.1
        replace hP := hP.2
        refine r_cvI (ok_X10_number hG 0 40 (muX10_clause_7 μ) hs4) lX10_178 (hG.lt (by decide)) sh57 ⟨_, _, rfl⟩ dX10_clause_117 (by decide) (Nat.le_of_ble_eq_true rfl) rfl (Nat.le_of_ble_eq_true rfl) ?_
        refine r_mu (muX10_clause_8 μ) rfl ?_
        have hs5 := hP.1
        replace hP := hP.2
        refine r_iast (hG.lt (by decide)) sh62 hs5 dX10_clause_120 ?_
        refine r_mu (muX10_clause_9 μ) rfl ?_
        refine r_goto 270 dX10_clause_121 (by decide) ?_
        refine r_iload_n dX10_clause_270 1 rfl ?_
        refine r_iconst 4 dX10_clause_271 rfl ?_
        refine r_join 296 [(2, .int ((muX10_clause_7 μ) 60 (ix (F_X10_kindHere  μ)))), (1, .int (F_X10_kindHere  μ)), (0, .ref (ga G 57))] [] (VX10_clause_12 μ) ?_ (fun hJ => ?_)
        · replace hP := hP.2
          refine r_aload_n dX10_clause_296 2 rfl ?_
          refine r_bipush 59 dX10_clause_297 rfl ?_
          have hs8 := hP
          refine r_cvV (ok_X10_sign hG 59 (VX10_clause_12 μ) hs8) lX10_182 (hG.lt (by decide)) sh57 ⟨_, _, rfl⟩ dX10_clause_299 (by decide) (Nat.le_of_ble_eq_true rfl) rfl (Nat.le_of_ble_eq_true rfl) ?_
          refine r_mu (muX10_clause_13 μ) rfl ?_
          exact r_return dX10_clause_302 rfl ⟨rfl, by unfold M_X10_clause; rw [if_pos c1, if_pos c2]⟩
        · replace hP := hP.1
          refine r_icmp_ge 296 dX10_clause_272 (by decide) (fun c3 => ?_) (fun c3 => ?_)
          · replace hP := hP.1 c3
            have e : (VX10_clause_12 μ) = (muX10_clause_9 μ) := by unfold VX10_clause_12; rw [if_pos c3]
            rw [e] at hJ
            exact r_sub [0, 1, 2] rfl hJ
          · replace hP := hP.2 c3
            refine r_aload_n dX10_clause_275 2 rfl ?_
            refine r_getR 60 fX10_20 (hG.lt (by decide)) sh57 fs57_11 dX10_clause_276 ?_
            refine r_iload_n dX10_clause_279 1 rfl ?_
            refine r_dup2 dX10_clause_280 rfl rfl ?_
            have hs6 := hP.1
            replace hP := hP.2
            refine r_iald (hG.lt (by decide)) sh60 hs6 dX10_clause_281 ?_
            refine r_aload_n dX10_clause_282 2 rfl ?_
            refine r_getI fX10_119 (hG.lt (by decide)) sh57 fs57_5 dX10_clause_283 ?_
            refine r_join 294 [(2, .int ((muX10_clause_7 μ) 60 (ix (F_X10_kindHere  μ)))), (1, .int (F_X10_kindHere  μ)), (0, .ref (ga G 57))] [.int (VX10_clause_10 μ), .int ((muX10_clause_9 μ) 60 (ix (F_X10_kindHere  μ))), .int (F_X10_kindHere  μ), .ref (ga G 60)] (muX10_clause_9 μ) ?_ (fun hJ => ?_)
            · refine r_iadd dX10_clause_294 ?_
              have hs7 := hP
              refine r_iast (hG.lt (by decide)) sh60 hs7 dX10_clause_295 ?_
              refine r_mu (muX10_clause_11 μ) rfl ?_
              have e : (VX10_clause_12 μ) = (muX10_clause_11 μ) := by unfold VX10_clause_12; rw [if_neg (i32_ng c3)]
              rw [e] at hJ
              exact r_sub [0, 1, 2] rfl hJ
            · refine r_if_ne 293 dX10_clause_286 (by decide) (fun c4 => ?_) (fun c4 => ?_)
              · refine r_iconst 0 dX10_clause_293 rfl ?_
                have e : (VX10_clause_10 μ) = 0 := by unfold VX10_clause_10; rw [if_pos c4]
                rw [e] at hJ
                exact r_sub [0, 1, 2] rfl hJ
              · refine r_iconst 1 dX10_clause_289 rfl ?_
                refine r_goto 294 dX10_clause_290 (by decide) ?_
                have e : (VX10_clause_10 μ) = 1 := by unfold VX10_clause_10; rw [if_neg (not_not_intro c4)]
                rw [e] at hJ
                exact r_sub [0, 1, 2] rfl hJ
      by_cases c3 : (F_X10_kindHere  μ) = 1
      · replace hP := hP.2.1 c3
        refine r_tableIn (46) 124 dX10_clause_78 (by rw [c3]; decide) (by rw [c3]; decide) (by rw [c3]; rfl) (by decide) ?_
        refine r_aload_n dX10_clause_124 2 rfl ?_
        refine r_getR 66 fX10_40 (hG.lt (by decide)) sh57 fs57_17 dX10_clause_125 ?_
        refine r_iload_n dX10_clause_128 0 rfl ?_
        have hs9 := hP.1
        replace hP := hP.2
        refine r_aald (hG.lt (by decide)) sh66 hs9 dX10_clause_129 ?_
        refine r_astore_n [(3, _), (2, _), (1, _), (0, _)] dX10_clause_130 (Nat.le_of_ble_eq_true rfl) rfl ?_
        refine r_aload_n dX10_clause_131 0 rfl ?_
        refine r_iconst 0 dX10_clause_132 rfl ?_
        refine r_aload_n dX10_clause_133 3 rfl ?_
        refine r_iconst 0 dX10_clause_134 rfl ?_
        refine r_aload_n dX10_clause_135 3 rfl ?_
        refine r_getR 60 fX10_20 (hG.lt (by decide)) sh57 fs57_11 dX10_clause_136 ?_
        refine r_iconst 0 dX10_clause_139 rfl ?_
        refine r_ialdK 0 rfl (hG.lt (by decide)) sh60 (vp_of (by decide) (by decide)) dX10_clause_140 ?_
        refine r_iconst 1 dX10_clause_141 rfl ?_
        refine r_isub dX10_clause_142 ?_
        have hs10 := hP.1
        replace hP := hP.2
        refine r_cvI (ok_X10_number hG 0 (((muX10_clause_7 μ) 60 0) - 1) (muX10_clause_7 μ) hs10) lX10_178 (hG.lt (by decide)) sh57 ⟨_, _, rfl⟩ dX10_clause_143 (by decide) (Nat.le_of_ble_eq_true rfl) rfl (Nat.le_of_ble_eq_true rfl) ?_
        refine r_mu (muX10_clause_14 μ) rfl ?_
        refine r_iastK 0 rfl (ltR (vp_ix hs9) (by decide) hG) (shr66 _ (vp_ix hs9)) (vp_of (by decide) (by decide)) dX10_clause_146 ?_
        refine r_mu (muX10_clause_15 μ) rfl ?_
        refine r_aload_n dX10_clause_147 0 rfl ?_
        refine r_iconst 1 dX10_clause_148 rfl ?_
        refine r_aload_n dX10_clause_149 3 rfl ?_
        refine r_iconst 1 dX10_clause_150 rfl ?_
        refine r_bipush 9 dX10_clause_151 rfl ?_
        have hs11 := hP.1
        replace hP := hP.2
        refine r_cvI (ok_X10_number hG 1 9 (muX10_clause_15 μ) hs11) lX10_178 (hG.lt (by decide)) sh57 ⟨_, _, rfl⟩ dX10_clause_153 (by decide) (Nat.le_of_ble_eq_true rfl) rfl (Nat.le_of_ble_eq_true rfl) ?_
        refine r_mu (muX10_clause_16 μ) rfl ?_
        refine r_iastK 1 rfl (ltR (vp_ix hs9) (by decide) hG) (shr66 _ (vp_ix hs9)) (vp_of (by decide) (by decide)) dX10_clause_156 ?_
        refine r_mu (muX10_clause_17 μ) rfl ?_
        refine r_aload_n dX10_clause_157 0 rfl ?_
        refine r_iconst 2 dX10_clause_158 rfl ?_
        refine r_aload_n dX10_clause_159 3 rfl ?_
        refine r_iconst 1 dX10_clause_160 rfl ?_
        refine r_bipush 20 dX10_clause_161 rfl ?_
        have hs12 := hP.1
        replace hP := hP.2
        refine r_cvI (ok_X10_number hG 1 20 (muX10_clause_17 μ) hs12) lX10_178 (hG.lt (by decide)) sh57 ⟨_, _, rfl⟩ dX10_clause_163 (by decide) (Nat.le_of_ble_eq_true rfl) rfl (Nat.le_of_ble_eq_true rfl) ?_
        refine r_mu (muX10_clause_18 μ) rfl ?_
        refine r_iastK 2 rfl (ltR (vp_ix hs9) (by decide) hG) (shr66 _ (vp_ix hs9)) (vp_of (by decide) (by decide)) dX10_clause_166 ?_
        refine r_mu (muX10_clause_19 μ) rfl ?_
        refine r_aload_n dX10_clause_167 0 rfl ?_
        refine r_iconst 3 dX10_clause_168 rfl ?_
        refine r_aload_n dX10_clause_169 3 rfl ?_
        refine r_iconst 0 dX10_clause_170 rfl ?_
        refine r_bipush 40 dX10_clause_171 rfl ?_
        have hs13 := hP.1
        replace hP := hP.2
        refine r_cvI (ok_X10_number hG 0 40 (muX10_clause_19 μ) hs13) lX10_178 (hG.lt (by decide)) sh57 ⟨_, _, rfl⟩ dX10_clause_173 (by decide) (Nat.le_of_ble_eq_true rfl) rfl (Nat.le_of_ble_eq_true rfl) ?_
        refine r_mu (muX10_clause_20 μ) rfl ?_
        refine r_iastK 3 rfl (ltR (vp_ix hs9) (by decide) hG) (shr66 _ (vp_ix hs9)) (vp_of (by decide) (by decide)) dX10_clause_176 ?_
        refine r_mu (muX10_clause_21 μ) rfl ?_
        refine r_goto 270 dX10_clause_177 (by decide) ?_
        refine r_iload_n dX10_clause_270 2 rfl ?_
        refine r_iconst 4 dX10_clause_271 rfl ?_
        refine r_join 296 [(3, .ref (ga G (67 + (ix ((muX10_clause_7 μ) 60 (ix (F_X10_kindHere  μ))))))), (2, .int ((muX10_clause_7 μ) 60 (ix (F_X10_kindHere  μ)))), (1, .int (F_X10_kindHere  μ)), (0, .ref (ga G 57))] [] (VX10_clause_24 μ) ?_ (fun hJ => ?_)
        · replace hP := hP.2
          refine r_aload_n dX10_clause_296 3 rfl ?_
          refine r_bipush 59 dX10_clause_297 rfl ?_
          have hs16 := hP
          refine r_cvV (ok_X10_sign hG 59 (VX10_clause_24 μ) hs16) lX10_182 (hG.lt (by decide)) sh57 ⟨_, _, rfl⟩ dX10_clause_299 (by decide) (Nat.le_of_ble_eq_true rfl) rfl (Nat.le_of_ble_eq_true rfl) ?_
          refine r_mu (muX10_clause_25 μ) rfl ?_
          exact r_return dX10_clause_302 rfl ⟨rfl, by unfold M_X10_clause; rw [if_pos c1, if_neg c2, if_pos c3]⟩
        · replace hP := hP.1
          refine r_icmp_ge 296 dX10_clause_272 (by decide) (fun c4 => ?_) (fun c4 => ?_)
          · replace hP := hP.1 c4
            have e : (VX10_clause_24 μ) = (muX10_clause_21 μ) := by unfold VX10_clause_24; rw [if_pos c4]
            rw [e] at hJ
            exact r_sub [0, 1, 2, 3] rfl hJ
          · replace hP := hP.2 c4
            refine r_aload_n dX10_clause_275 3 rfl ?_
            refine r_getR 60 fX10_20 (hG.lt (by decide)) sh57 fs57_11 dX10_clause_276 ?_
            refine r_iload_n dX10_clause_279 2 rfl ?_
            refine r_dup2 dX10_clause_280 rfl rfl ?_
            have hs14 := hP.1
            replace hP := hP.2
            refine r_iald (hG.lt (by decide)) sh60 hs14 dX10_clause_281 ?_
            refine r_aload_n dX10_clause_282 3 rfl ?_
            refine r_getI fX10_119 (hG.lt (by decide)) sh57 fs57_5 dX10_clause_283 ?_
            refine r_join 294 [(3, .ref (ga G (67 + (ix ((muX10_clause_7 μ) 60 (ix (F_X10_kindHere  μ))))))), (2, .int ((muX10_clause_7 μ) 60 (ix (F_X10_kindHere  μ)))), (1, .int (F_X10_kindHere  μ)), (0, .ref (ga G 57))] [.int (VX10_clause_22 μ), .int ((muX10_clause_21 μ) 60 (ix (F_X10_kindHere  μ))), .int (F_X10_kindHere  μ), .ref (ga G 60)] (muX10_clause_21 μ) ?_ (fun hJ => ?_)
            · refine r_iadd dX10_clause_294 ?_
              have hs15 := hP
              refine r_iast (hG.lt (by decide)) sh60 hs15 dX10_clause_295 ?_
              refine r_mu (muX10_clause_23 μ) rfl ?_
              have e : (VX10_clause_24 μ) = (muX10_clause_23 μ) := by unfold VX10_clause_24; rw [if_neg (i32_ng c4)]
              rw [e] at hJ
              exact r_sub [0, 1, 2, 3] rfl hJ
            · refine r_if_ne 293 dX10_clause_286 (by decide) (fun c5 => ?_) (fun c5 => ?_)
              · refine r_iconst 0 dX10_clause_293 rfl ?_
                have e : (VX10_clause_22 μ) = 0 := by unfold VX10_clause_22; rw [if_pos c5]
                rw [e] at hJ
                exact r_sub [0, 1, 2, 3] rfl hJ
              · refine r_iconst 1 dX10_clause_289 rfl ?_
                refine r_goto 294 dX10_clause_290 (by decide) ?_
                have e : (VX10_clause_22 μ) = 1 := by unfold VX10_clause_22; rw [if_neg (not_not_intro c5)]
                rw [e] at hJ
                exact r_sub [0, 1, 2, 3] rfl hJ
      by_cases c4 : (F_X10_kindHere  μ) = 2
      · replace hP := hP.2.2.1 c4
        refine r_tableIn (102) 180 dX10_clause_78 (by rw [c4]; decide) (by rw [c4]; decide) (by rw [c4]; rfl) (by decide) ?_
        refine r_aload_n dX10_clause_180 2 rfl ?_
        refine r_getR 64 fX10_32 (hG.lt (by decide)) sh57 fs57_15 dX10_clause_181 ?_
        refine r_iload_n dX10_clause_184 0 rfl ?_
        refine r_aload_n dX10_clause_185 2 rfl ?_
        refine r_iconst 0 dX10_clause_186 rfl ?_
        refine r_bipush 60 dX10_clause_187 rfl ?_
        have hs17 := hP.1
        replace hP := hP.2
        refine r_cvI (ok_X10_number hG 0 60 (muX10_clause_7 μ) hs17) lX10_178 (hG.lt (by decide)) sh57 ⟨_, _, rfl⟩ dX10_clause_189 (by decide) (Nat.le_of_ble_eq_true rfl) rfl (Nat.le_of_ble_eq_true rfl) ?_
        refine r_mu (muX10_clause_26 μ) rfl ?_
        have hs18 := hP.1
        replace hP := hP.2
        refine r_iast (hG.lt (by decide)) sh64 hs18 dX10_clause_192 ?_
        refine r_mu (muX10_clause_27 μ) rfl ?_
        refine r_goto 270 dX10_clause_193 (by decide) ?_
        refine r_iload_n dX10_clause_270 1 rfl ?_
        refine r_iconst 4 dX10_clause_271 rfl ?_
        refine r_join 296 [(2, .int ((muX10_clause_7 μ) 60 (ix (F_X10_kindHere  μ)))), (1, .int (F_X10_kindHere  μ)), (0, .ref (ga G 57))] [] (VX10_clause_30 μ) ?_ (fun hJ => ?_)
        · replace hP := hP.2
          refine r_aload_n dX10_clause_296 2 rfl ?_
          refine r_bipush 59 dX10_clause_297 rfl ?_
          have hs21 := hP
          refine r_cvV (ok_X10_sign hG 59 (VX10_clause_30 μ) hs21) lX10_182 (hG.lt (by decide)) sh57 ⟨_, _, rfl⟩ dX10_clause_299 (by decide) (Nat.le_of_ble_eq_true rfl) rfl (Nat.le_of_ble_eq_true rfl) ?_
          refine r_mu (muX10_clause_31 μ) rfl ?_
          exact r_return dX10_clause_302 rfl ⟨rfl, by unfold M_X10_clause; rw [if_pos c1, if_neg c2, if_neg c3, if_pos c4]⟩
        · replace hP := hP.1
          refine r_icmp_ge 296 dX10_clause_272 (by decide) (fun c5 => ?_) (fun c5 => ?_)
          · replace hP := hP.1 c5
            have e : (VX10_clause_30 μ) = (muX10_clause_27 μ) := by unfold VX10_clause_30; rw [if_pos c5]
            rw [e] at hJ
            exact r_sub [0, 1, 2] rfl hJ
          · replace hP := hP.2 c5
            refine r_aload_n dX10_clause_275 2 rfl ?_
            refine r_getR 60 fX10_20 (hG.lt (by decide)) sh57 fs57_11 dX10_clause_276 ?_
            refine r_iload_n dX10_clause_279 1 rfl ?_
            refine r_dup2 dX10_clause_280 rfl rfl ?_
            have hs19 := hP.1
            replace hP := hP.2
            refine r_iald (hG.lt (by decide)) sh60 hs19 dX10_clause_281 ?_
            refine r_aload_n dX10_clause_282 2 rfl ?_
            refine r_getI fX10_119 (hG.lt (by decide)) sh57 fs57_5 dX10_clause_283 ?_
            refine r_join 294 [(2, .int ((muX10_clause_7 μ) 60 (ix (F_X10_kindHere  μ)))), (1, .int (F_X10_kindHere  μ)), (0, .ref (ga G 57))] [.int (VX10_clause_28 μ), .int ((muX10_clause_27 μ) 60 (ix (F_X10_kindHere  μ))), .int (F_X10_kindHere  μ), .ref (ga G 60)] (muX10_clause_27 μ) ?_ (fun hJ => ?_)
            · refine r_iadd dX10_clause_294 ?_
              have hs20 := hP
              refine r_iast (hG.lt (by decide)) sh60 hs20 dX10_clause_295 ?_
              refine r_mu (muX10_clause_29 μ) rfl ?_
              have e : (VX10_clause_30 μ) = (muX10_clause_29 μ) := by unfold VX10_clause_30; rw [if_neg (i32_ng c5)]
              rw [e] at hJ
              exact r_sub [0, 1, 2] rfl hJ
            · refine r_if_ne 293 dX10_clause_286 (by decide) (fun c6 => ?_) (fun c6 => ?_)
              · refine r_iconst 0 dX10_clause_293 rfl ?_
                have e : (VX10_clause_28 μ) = 0 := by unfold VX10_clause_28; rw [if_pos c6]
                rw [e] at hJ
                exact r_sub [0, 1, 2] rfl hJ
              · refine r_iconst 1 dX10_clause_289 rfl ?_
                refine r_goto 294 dX10_clause_290 (by decide) ?_
                have e : (VX10_clause_28 μ) = 1 := by unfold VX10_clause_28; rw [if_neg (not_not_intro c6)]
                rw [e] at hJ
                exact r_sub [0, 1, 2] rfl hJ
      by_cases c5 : (F_X10_kindHere  μ) = 3
      · replace hP := hP.2.2.2.1 c5
        refine r_tableIn (118) 196 dX10_clause_78 (by rw [c5]; decide) (by rw [c5]; decide) (by rw [c5]; rfl) (by decide) ?_
        refine r_aload_n dX10_clause_196 2 rfl ?_
        refine r_getR 88 fX10_46 (hG.lt (by decide)) sh57 fs57_19 dX10_clause_197 ?_
        refine r_iload_n dX10_clause_200 0 rfl ?_
        have hs22 := hP.1
        replace hP := hP.2
        refine r_aald (hG.lt (by decide)) sh88 hs22 dX10_clause_201 ?_
        refine r_astore_n [(3, _), (2, _), (1, _), (0, _)] dX10_clause_202 (Nat.le_of_ble_eq_true rfl) rfl ?_
        refine r_aload_n dX10_clause_203 0 rfl ?_
        refine r_iconst 0 dX10_clause_204 rfl ?_
        refine r_aload_n dX10_clause_205 3 rfl ?_
        refine r_iconst 1 dX10_clause_206 rfl ?_
        refine r_bipush 40 dX10_clause_207 rfl ?_
        have hs23 := hP.1
        replace hP := hP.2
        refine r_cvI (ok_X10_number hG 1 40 (muX10_clause_7 μ) hs23) lX10_178 (hG.lt (by decide)) sh57 ⟨_, _, rfl⟩ dX10_clause_209 (by decide) (Nat.le_of_ble_eq_true rfl) rfl (Nat.le_of_ble_eq_true rfl) ?_
        refine r_mu (muX10_clause_32 μ) rfl ?_
        refine r_iastK 0 rfl (ltR (vp_ix hs22) (by decide) hG) (shr88 _ (vp_ix hs22)) (vp_of (by decide) (by decide)) dX10_clause_212 ?_
        refine r_mu (muX10_clause_33 μ) rfl ?_
        refine r_aload_n dX10_clause_213 0 rfl ?_
        refine r_iconst 1 dX10_clause_214 rfl ?_
        refine r_aload_n dX10_clause_215 3 rfl ?_
        refine r_iconst 0 dX10_clause_216 rfl ?_
        refine r_bipush 16 dX10_clause_217 rfl ?_
        have hs24 := hP.1
        replace hP := hP.2
        refine r_cvI (ok_X10_number hG 0 16 (muX10_clause_33 μ) hs24) lX10_178 (hG.lt (by decide)) sh57 ⟨_, _, rfl⟩ dX10_clause_219 (by decide) (Nat.le_of_ble_eq_true rfl) rfl (Nat.le_of_ble_eq_true rfl) ?_
        refine r_mu (muX10_clause_34 μ) rfl ?_
        refine r_iastK 1 rfl (ltR (vp_ix hs22) (by decide) hG) (shr88 _ (vp_ix hs22)) (vp_of (by decide) (by decide)) dX10_clause_222 ?_
        refine r_mu (muX10_clause_35 μ) rfl ?_
        refine r_goto 270 dX10_clause_223 (by decide) ?_
        refine r_iload_n dX10_clause_270 2 rfl ?_
        refine r_iconst 4 dX10_clause_271 rfl ?_
        refine r_join 296 [(3, .ref (ga G (89 + (ix ((muX10_clause_7 μ) 60 (ix (F_X10_kindHere  μ))))))), (2, .int ((muX10_clause_7 μ) 60 (ix (F_X10_kindHere  μ)))), (1, .int (F_X10_kindHere  μ)), (0, .ref (ga G 57))] [] (VX10_clause_38 μ) ?_ (fun hJ => ?_)
        · replace hP := hP.2
          refine r_aload_n dX10_clause_296 3 rfl ?_
          refine r_bipush 59 dX10_clause_297 rfl ?_
          have hs27 := hP
          refine r_cvV (ok_X10_sign hG 59 (VX10_clause_38 μ) hs27) lX10_182 (hG.lt (by decide)) sh57 ⟨_, _, rfl⟩ dX10_clause_299 (by decide) (Nat.le_of_ble_eq_true rfl) rfl (Nat.le_of_ble_eq_true rfl) ?_
          refine r_mu (muX10_clause_39 μ) rfl ?_
          exact r_return dX10_clause_302 rfl ⟨rfl, by unfold M_X10_clause; rw [if_pos c1, if_neg c2, if_neg c3, if_neg c4, if_pos c5]⟩
        · replace hP := hP.1
          refine r_icmp_ge 296 dX10_clause_272 (by decide) (fun c6 => ?_) (fun c6 => ?_)
          · replace hP := hP.1 c6
            have e : (VX10_clause_38 μ) = (muX10_clause_35 μ) := by unfold VX10_clause_38; rw [if_pos c6]
            rw [e] at hJ
            exact r_sub [0, 1, 2, 3] rfl hJ
          · replace hP := hP.2 c6
            refine r_aload_n dX10_clause_275 3 rfl ?_
            refine r_getR 60 fX10_20 (hG.lt (by decide)) sh57 fs57_11 dX10_clause_276 ?_
            refine r_iload_n dX10_clause_279 2 rfl ?_
            refine r_dup2 dX10_clause_280 rfl rfl ?_
            have hs25 := hP.1
            replace hP := hP.2
            refine r_iald (hG.lt (by decide)) sh60 hs25 dX10_clause_281 ?_
            refine r_aload_n dX10_clause_282 3 rfl ?_
            refine r_getI fX10_119 (hG.lt (by decide)) sh57 fs57_5 dX10_clause_283 ?_
            refine r_join 294 [(3, .ref (ga G (89 + (ix ((muX10_clause_7 μ) 60 (ix (F_X10_kindHere  μ))))))), (2, .int ((muX10_clause_7 μ) 60 (ix (F_X10_kindHere  μ)))), (1, .int (F_X10_kindHere  μ)), (0, .ref (ga G 57))] [.int (VX10_clause_36 μ), .int ((muX10_clause_35 μ) 60 (ix (F_X10_kindHere  μ))), .int (F_X10_kindHere  μ), .ref (ga G 60)] (muX10_clause_35 μ) ?_ (fun hJ => ?_)
            · refine r_iadd dX10_clause_294 ?_
              have hs26 := hP
              refine r_iast (hG.lt (by decide)) sh60 hs26 dX10_clause_295 ?_
              refine r_mu (muX10_clause_37 μ) rfl ?_
              have e : (VX10_clause_38 μ) = (muX10_clause_37 μ) := by unfold VX10_clause_38; rw [if_neg (i32_ng c6)]
              rw [e] at hJ
              exact r_sub [0, 1, 2, 3] rfl hJ
            · refine r_if_ne 293 dX10_clause_286 (by decide) (fun c7 => ?_) (fun c7 => ?_)
              · refine r_iconst 0 dX10_clause_293 rfl ?_
                have e : (VX10_clause_36 μ) = 0 := by unfold VX10_clause_36; rw [if_pos c7]
                rw [e] at hJ
                exact r_sub [0, 1, 2, 3] rfl hJ
              · refine r_iconst 1 dX10_clause_289 rfl ?_
                refine r_goto 294 dX10_clause_290 (by decide) ?_
                have e : (VX10_clause_36 μ) = 1 := by unfold VX10_clause_36; rw [if_neg (not_not_intro c7)]
                rw [e] at hJ
                exact r_sub [0, 1, 2, 3] rfl hJ
      replace hP := hP.2.2.2.2 ⟨c2, c3, c4, c5⟩
      have ec2 := i32_ti c2
      have ec3 := i32_ti c3
      have ec4 := i32_ti c4
      have ec5 := i32_ti c5
      refine r_tableOut 226 dX10_clause_78 (by simp only [Int32.reduceToInt] at ec2 ec3 ec4 ec5; omega) (by decide) ?_
      refine r_aload_n dX10_clause_226 2 rfl ?_
      refine r_iload_n dX10_clause_227 1 rfl ?_
      refine r_iconst 4 dX10_clause_228 rfl ?_
      refine r_join 237 [(2, .int ((muX10_clause_7 μ) 60 (ix (F_X10_kindHere  μ)))), (1, .int (F_X10_kindHere  μ)), (0, .ref (ga G 57))] [.int (VX10_clause_40 μ), .ref (ga G 57)] (muX10_clause_7 μ) ?_ (fun hJ => ?_)
      · refine r_iload_n dX10_clause_237 1 rfl ?_
        refine r_iconst 4 dX10_clause_238 rfl ?_
        refine r_join 249 [(2, .int ((muX10_clause_7 μ) 60 (ix (F_X10_kindHere  μ)))), (1, .int (F_X10_kindHere  μ)), (0, .ref (ga G 57))] [.int (VX10_clause_41 μ), .int (VX10_clause_40 μ), .ref (ga G 57)] (muX10_clause_7 μ) ?_ (fun hJ => ?_)
        · have hs28 := hP.1
          replace hP := hP.2
          refine r_cvI (ok_X10_number hG (VX10_clause_40 μ) (VX10_clause_41 μ) (muX10_clause_7 μ) hs28) lX10_178 (hG.lt (by decide)) sh57 ⟨_, _, rfl⟩ dX10_clause_249 (by decide) (Nat.le_of_ble_eq_true rfl) rfl (Nat.le_of_ble_eq_true rfl) ?_
          refine r_mu (muX10_clause_42 μ) rfl ?_
          refine r_istore_n [(3, _), (2, _), (1, _), (0, _)] dX10_clause_252 (Nat.le_of_ble_eq_true rfl) rfl ?_
          refine r_aload_n dX10_clause_253 3 rfl ?_
          refine r_getI fX10_119 (hG.lt (by decide)) sh57 fs57_5 dX10_clause_254 ?_
          refine r_join 270 [(3, .int (F_X10_number (VX10_clause_40 μ) (VX10_clause_41 μ) (muX10_clause_7 μ))), (2, .int ((muX10_clause_7 μ) 60 (ix (F_X10_kindHere  μ)))), (1, .int (F_X10_kindHere  μ)), (0, .ref (ga G 57))] [] (VX10_clause_44 μ) ?_ (fun hJ => ?_)
          · replace hP := hP.2
            refine r_iload_n dX10_clause_270 2 rfl ?_
            refine r_iconst 4 dX10_clause_271 rfl ?_
            refine r_join 296 [(3, .int (F_X10_number (VX10_clause_40 μ) (VX10_clause_41 μ) (muX10_clause_7 μ))), (2, .int ((muX10_clause_7 μ) 60 (ix (F_X10_kindHere  μ)))), (1, .int (F_X10_kindHere  μ)), (0, .ref (ga G 57))] [] (VX10_clause_47 μ) ?_ (fun hJ => ?_)
            · replace hP := hP.2
              refine r_aload_n dX10_clause_296 3 rfl ?_
              refine r_bipush 59 dX10_clause_297 rfl ?_
              have hs32 := hP
              refine r_cvV (ok_X10_sign hG 59 (VX10_clause_47 μ) hs32) lX10_182 (hG.lt (by decide)) sh57 ⟨_, _, rfl⟩ dX10_clause_299 (by decide) (Nat.le_of_ble_eq_true rfl) rfl (Nat.le_of_ble_eq_true rfl) ?_
              refine r_mu (muX10_clause_48 μ) rfl ?_
              exact r_return dX10_clause_302 rfl ⟨rfl, by unfold M_X10_clause; rw [if_pos c1, if_neg c2, if_neg c3, if_neg c4, if_neg c5]⟩
            · replace hP := hP.1
              refine r_icmp_ge 296 dX10_clause_272 (by decide) (fun c6 => ?_) (fun c6 => ?_)
              · replace hP := hP.1 c6
                have e : (VX10_clause_47 μ) = (VX10_clause_44 μ) := by unfold VX10_clause_47; rw [if_pos c6]
                rw [e] at hJ
                exact r_sub [0, 1, 2, 3] rfl hJ
              · replace hP := hP.2 c6
                refine r_aload_n dX10_clause_275 3 rfl ?_
                refine r_getR 60 fX10_20 (hG.lt (by decide)) sh57 fs57_11 dX10_clause_276 ?_
                refine r_iload_n dX10_clause_279 2 rfl ?_
                refine r_dup2 dX10_clause_280 rfl rfl ?_
                have hs30 := hP.1
                replace hP := hP.2
                refine r_iald (hG.lt (by decide)) sh60 hs30 dX10_clause_281 ?_
                refine r_aload_n dX10_clause_282 3 rfl ?_
                refine r_getI fX10_119 (hG.lt (by decide)) sh57 fs57_5 dX10_clause_283 ?_
                refine r_join 294 [(3, .int (F_X10_number (VX10_clause_40 μ) (VX10_clause_41 μ) (muX10_clause_7 μ))), (2, .int ((muX10_clause_7 μ) 60 (ix (F_X10_kindHere  μ)))), (1, .int (F_X10_kindHere  μ)), (0, .ref (ga G 57))] [.int (VX10_clause_45 μ), .int ((VX10_clause_44 μ) 60 (ix (F_X10_kindHere  μ))), .int (F_X10_kindHere  μ), .ref (ga G 60)] (VX10_clause_44 μ) ?_ (fun hJ => ?_)
                · refine r_iadd dX10_clause_294 ?_
                  have hs31 := hP
                  refine r_iast (hG.lt (by decide)) sh60 hs31 dX10_clause_295 ?_
                  refine r_mu (muX10_clause_46 μ) rfl ?_
                  have e : (VX10_clause_47 μ) = (muX10_clause_46 μ) := by unfold VX10_clause_47; rw [if_neg (i32_ng c6)]
                  rw [e] at hJ
                  exact r_sub [0, 1, 2, 3] rfl hJ
                · refine r_if_ne 293 dX10_clause_286 (by decide) (fun c7 => ?_) (fun c7 => ?_)
                  · refine r_iconst 0 dX10_clause_293 rfl ?_
                    have e : (VX10_clause_45 μ) = 0 := by unfold VX10_clause_45; rw [if_pos c7]
                    rw [e] at hJ
                    exact r_sub [0, 1, 2, 3] rfl hJ
                  · refine r_iconst 1 dX10_clause_289 rfl ?_
                    refine r_goto 294 dX10_clause_290 (by decide) ?_
                    have e : (VX10_clause_45 μ) = 1 := by unfold VX10_clause_45; rw [if_neg (not_not_intro c7)]
                    rw [e] at hJ
                    exact r_sub [0, 1, 2, 3] rfl hJ
          · replace hP := hP.1
            refine r_if_ne 270 dX10_clause_257 (by decide) (fun c6 => ?_) (fun c6 => ?_)
            · replace hP := hP.1 c6
              have e : (VX10_clause_44 μ) = (muX10_clause_42 μ) := by unfold VX10_clause_44; rw [if_pos c6]
              rw [e] at hJ
              exact r_sub [0, 1, 2, 3] rfl hJ
            · replace hP := hP.2 c6
              refine r_aload_n dX10_clause_260 3 rfl ?_
              refine r_getR 60 fX10_20 (hG.lt (by decide)) sh57 fs57_11 dX10_clause_261 ?_
              refine r_iload_n dX10_clause_264 2 rfl ?_
              refine r_iload_n dX10_clause_265 0 rfl ?_
              have hs29 := hP
              refine r_iast (hG.lt (by decide)) sh60 hs29 dX10_clause_266 ?_
              refine r_mu (muX10_clause_43 μ) rfl ?_
              refine r_goto 270 dX10_clause_267 (by decide) ?_
              have e : (VX10_clause_44 μ) = (muX10_clause_43 μ) := by unfold VX10_clause_44; rw [if_neg (not_not_intro c6)]
              rw [e] at hJ
              exact r_sub [0, 1, 2, 3] rfl hJ
        · refine r_icmp_ne 247 dX10_clause_239 (by decide) (fun c6 => ?_) (fun c6 => ?_)
          · refine r_bipush 9 dX10_clause_247 rfl ?_
            have e : (VX10_clause_41 μ) = 9 := by unfold VX10_clause_41; rw [if_pos c6]
            rw [e] at hJ
            exact r_sub [0, 1, 2] rfl hJ
          · refine r_bipush 40 dX10_clause_242 rfl ?_
            refine r_goto 249 dX10_clause_244 (by decide) ?_
            have e : (VX10_clause_41 μ) = 40 := by unfold VX10_clause_41; rw [if_neg (not_not_intro c6)]
            rw [e] at hJ
            exact r_sub [0, 1, 2] rfl hJ
      · refine r_icmp_ne 236 dX10_clause_229 (by decide) (fun c6 => ?_) (fun c6 => ?_)
        · refine r_iconst 1 dX10_clause_236 rfl ?_
          have e : (VX10_clause_40 μ) = 1 := by unfold VX10_clause_40; rw [if_pos c6]
          rw [e] at hJ
          exact r_sub [0, 1, 2] rfl hJ
        · refine r_iconst 0 dX10_clause_232 rfl ?_
          refine r_goto 237 dX10_clause_233 (by decide) ?_
          have e : (VX10_clause_40 μ) = 0 := by unfold VX10_clause_40; rw [if_neg (not_not_intro c6)]
          rw [e] at hJ
          exact r_sub [0, 1, 2] rfl hJ
    · replace hP := hP.2 c1
      exact r_return dX10_clause_55 rfl ⟨rfl, by unfold M_X10_clause; rw [if_neg c1]⟩
  · refine r_icmp_ne 22 dX10_clause_7 (by decide) (fun c1 => ?_) (fun c1 => ?_)
    · refine r_aload_n dX10_clause_22 1 rfl ?_
      refine r_getI fX10_165 (hG.lt (by decide)) sh57 fs57_7 dX10_clause_23 ?_
      refine r_bipush 60 dX10_clause_26 rfl ?_
      refine r_icmp_eq 39 dX10_clause_28 (by decide) (fun c2 => ?_) (fun c2 => ?_)
      · refine r_aload_n dX10_clause_39 1 rfl ?_
        refine r_iconst 3 dX10_clause_40 rfl ?_
        refine r_aload_n dX10_clause_41 1 rfl ?_
        refine r_getI fX10_112 (hG.lt (by decide)) sh57 fs57_4 dX10_clause_42 ?_
        refine r_cvV (ok_X10_wrong hG 3 ((muX10_clause_1 μ) 57 4) (muX10_clause_1 μ)) lX10_132 (hG.lt (by decide)) sh57 ⟨_, _, rfl⟩ dX10_clause_45 (by decide) (Nat.le_of_ble_eq_true rfl) rfl (Nat.le_of_ble_eq_true rfl) ?_
        refine r_mu (muX10_clause_2 μ) rfl ?_
        have e : (VX10_clause_5 μ) = (muX10_clause_2 μ) := by unfold VX10_clause_5; rw [if_pos c1, if_pos c2]
        rw [e] at hJ
        exact r_sub [0, 1] rfl hJ
      · refine r_aload_n dX10_clause_31 1 rfl ?_
        refine r_iload_n dX10_clause_32 0 rfl ?_
        refine r_cvI (ok_X10_isFull hG (F_X10_kindHere  μ) (muX10_clause_1 μ)) lX10_175 (hG.lt (by decide)) sh57 ⟨_, _, rfl⟩ dX10_clause_33 (by decide) (Nat.le_of_ble_eq_true rfl) rfl (Nat.le_of_ble_eq_true rfl) ?_
        refine r_if_eq 48 dX10_clause_36 (by decide) (fun c3 => ?_) (fun c3 => ?_)
        · have e : (VX10_clause_5 μ) = (muX10_clause_1 μ) := by unfold VX10_clause_5; rw [if_pos c1, if_neg c2, if_pos c3]
          rw [e] at hJ
          exact r_sub [0, 1] rfl hJ
        · refine r_aload_n dX10_clause_39 1 rfl ?_
          refine r_iconst 3 dX10_clause_40 rfl ?_
          refine r_aload_n dX10_clause_41 1 rfl ?_
          refine r_getI fX10_112 (hG.lt (by decide)) sh57 fs57_4 dX10_clause_42 ?_
          refine r_cvV (ok_X10_wrong hG 3 ((muX10_clause_1 μ) 57 4) (muX10_clause_1 μ)) lX10_132 (hG.lt (by decide)) sh57 ⟨_, _, rfl⟩ dX10_clause_45 (by decide) (Nat.le_of_ble_eq_true rfl) rfl (Nat.le_of_ble_eq_true rfl) ?_
          refine r_mu (muX10_clause_3 μ) rfl ?_
          have e : (VX10_clause_5 μ) = (muX10_clause_3 μ) := by unfold VX10_clause_5; rw [if_pos c1, if_neg c2, if_neg c3]
          rw [e] at hJ
          exact r_sub [0, 1] rfl hJ
    · refine r_aload_n dX10_clause_10 1 rfl ?_
      refine r_iconst 1 dX10_clause_11 rfl ?_
      refine r_aload_n dX10_clause_12 1 rfl ?_
      refine r_getI fX10_112 (hG.lt (by decide)) sh57 fs57_4 dX10_clause_13 ?_
      refine r_cvV (ok_X10_wrong hG 1 ((muX10_clause_1 μ) 57 4) (muX10_clause_1 μ)) lX10_132 (hG.lt (by decide)) sh57 ⟨_, _, rfl⟩ dX10_clause_16 (by decide) (Nat.le_of_ble_eq_true rfl) rfl (Nat.le_of_ble_eq_true rfl) ?_
      refine r_mu (muX10_clause_4 μ) rfl ?_
      refine r_goto 48 dX10_clause_19 (by decide) ?_
      have e : (VX10_clause_5 μ) = (muX10_clause_4 μ) := by unfold VX10_clause_5; rw [if_neg (not_not_intro c1)]
      rw [e] at hJ
      exact r_sub [0, 1] rfl hJ
