def muX10_puts_1 (row : Nat) (p2 : Int32) (p3 : Int32) (μ : Mem) : Mem := (upm μ row (ix (μ 57 42)) p2)
def VX10_puts_2 (row : Nat) (p2 : Int32) (p3 : Int32) (μ : Mem) : Mem := (if p3 ≠ 0 then μ else (muX10_puts_1 row p2 p3 μ))
def muX10_puts_3 (row : Nat) (p2 : Int32) (p3 : Int32) (μ : Mem) : Mem := (upm (VX10_puts_2 row p2 p3 μ) 57 42 (((VX10_puts_2 row p2 p3 μ) 57 42) + 1))
def F_X10_puts (row : Nat) (p2 : Int32) (p3 : Int32) (μ : Mem) : Int32 := ((muX10_puts_3 row p2 p3 μ) row (ix (((muX10_puts_3 row p2 p3 μ) 57 42) - 1)))
def M_X10_puts (row : Nat) (p2 : Int32) (p3 : Int32) (μ : Mem) : Mem := (muX10_puts_3 row p2 p3 μ)
def P_X10_puts (row : Nat) (p2 : Int32) (p3 : Int32) (μ : Mem) : Prop := (((p3 ≠ 0 → True) ∧ (p3 = 0 → (vp_in (μ 57 42) 1072))) ∧ (vp_in (((muX10_puts_3 row p2 p3 μ) 57 42) - 1) 1072))
set_option maxRecDepth 20000 in
set_option maxHeartbeats 2000000 in
theorem ok_X10_puts {G : SG} (hG : GK 548 G) {row : Nat} (hlrow : row < gh G) (hsrow : shp row = (1, 1072, 0)) (p2 : Int32) (p3 : Int32) (μ : Mem) (hP : P_X10_puts row p2 p3 μ) : OkF G mX10_puts [.ref (ga G 57), .ref (ga G row), .int p2, .int p3] μ (some (.int (F_X10_puts row p2 p3 μ))) (M_X10_puts row p2 p3 μ) := by
  refine okF_of hG rfl (by decide) (Nat.le_of_ble_eq_true rfl) ?_
  unfold P_X10_puts at hP
  refine r_iload_n dX10_puts_0 3 rfl ?_
  refine r_join 11 [(0, .ref (ga G 57)), (1, .ref (ga G row)), (2, .int p2), (3, .int p3)] [] (VX10_puts_2 row p2 p3 μ) ?_ (fun hJ => ?_)
  · replace hP := hP.2
    refine r_aload_n dX10_puts_11 0 rfl ?_
    refine r_dup dX10_puts_12 rfl ?_
    refine r_getI fX10_414 (hG.lt (by decide)) sh57 fs57_42 dX10_puts_13 ?_
    refine r_iconst 1 dX10_puts_16 rfl ?_
    refine r_iadd dX10_puts_17 ?_
    refine r_put fiX10_414 (hG.lt (by decide)) sh57 fs57_42 dX10_puts_18 ?_
    refine r_mu (muX10_puts_3 row p2 p3 μ) rfl ?_
    refine r_aload_n dX10_puts_21 1 rfl ?_
    refine r_aload_n dX10_puts_22 0 rfl ?_
    refine r_getI fX10_414 (hG.lt (by decide)) sh57 fs57_42 dX10_puts_23 ?_
    refine r_iconst 1 dX10_puts_26 rfl ?_
    refine r_isub dX10_puts_27 ?_
    have hs2 := hP
    refine r_iald hlrow hsrow hs2 dX10_puts_28 ?_
    exact r_ireturn _ dX10_puts_29 rfl rfl ⟨congrArg (fun z => some (Value.int z)) (rfl), rfl⟩
  · replace hP := hP.1
    refine r_if_ne 11 dX10_puts_1 (by decide) (fun c1 => ?_) (fun c1 => ?_)
    · replace hP := hP.1 c1
      have e : (VX10_puts_2 row p2 p3 μ) = μ := by unfold VX10_puts_2; rw [if_pos c1]
      rw [e] at hJ
      exact r_sub [0, 1, 2, 3] rfl hJ
    · replace hP := hP.2 c1
      refine r_aload_n dX10_puts_4 1 rfl ?_
      refine r_aload_n dX10_puts_5 0 rfl ?_
      refine r_getI fX10_414 (hG.lt (by decide)) sh57 fs57_42 dX10_puts_6 ?_
      refine r_iload_n dX10_puts_9 2 rfl ?_
      have hs1 := hP
      refine r_iast hlrow hsrow hs1 dX10_puts_10 ?_
      refine r_mu (muX10_puts_1 row p2 p3 μ) rfl ?_
      have e : (VX10_puts_2 row p2 p3 μ) = (muX10_puts_1 row p2 p3 μ) := by unfold VX10_puts_2; rw [if_neg (not_not_intro c1)]
      rw [e] at hJ
      exact r_sub [0, 1, 2, 3] rfl hJ
def muX10_putsAll_1 (row : Nat) (p2 : Int32) (μ : Mem) : Mem := (upm μ 57 42 0)
def muX10_putsAll_2 (row : Nat) (p2 : Int32) (μ : Mem) : Mem := (M_X10_puts row ((muX10_putsAll_1 row p2 μ) 57 39) p2 (muX10_putsAll_1 row p2 μ))
def muX10_putsAll_3 (row : Nat) (p2 : Int32) (μ : Mem) : Mem := (upm (muX10_putsAll_2 row p2 μ) 57 39 (F_X10_puts row ((muX10_putsAll_1 row p2 μ) 57 39) p2 (muX10_putsAll_1 row p2 μ)))
def muX10_putsAll_21_1 (row : Nat) (v2 : Int32) (i : Nat) (s : Mem) : Mem := (M_X10_puts row (s 521 (ix (nI i))) v2 s)
def muX10_putsAll_21_2 (row : Nat) (v2 : Int32) (i : Nat) (s : Mem) : Mem := (upm (muX10_putsAll_21_1 row v2 i s) 521 (ix (nI i)) (F_X10_puts row (s 521 (ix (nI i))) v2 s))
def g_X10_putsAll_21 (row : Nat) (v2 : Int32) (i : Nat) (s : Mem) : Mem := (muX10_putsAll_21_2 row v2 i s)
def Pb_X10_putsAll_21 (row : Nat) (v2 : Int32) (i : Nat) (s : Mem) : Prop := ((63 ≤ (nI i) → False) ∧ ((nI i) < 63 → (vp_in (nI i) 63) ∧ (P_X10_puts row (s 521 (ix (nI i))) v2 s) ∧ vp_in (nI i) 63))
set_option maxRecDepth 20000 in
set_option maxHeartbeats 2000000 in
theorem lp_X10_putsAll_21 {G : SG} (hG : GK 548 G) {row : Nat} (hlrow : row < gh G) (hsrow : shp row = (1, 1072, 0)) (v2 : Int32) (s0 : Mem) (N : Nat) (sN : Mem) (eN : sN = fo N (g_X10_putsAll_21 row v2) s0) (hN : ∀ i, i < N → Pb_X10_putsAll_21 row v2 i (fo i (g_X10_putsAll_21 row v2) s0)) {t : Nat} {Q : PQ} {X : PX} (h : R G mX10_putsAll 21 [(0, .ref (ga G 57)), (1, .ref (ga G row)), (2, .int v2), (3, .int (nI N))] [] sN t Q X) : R G mX10_putsAll 21 [(0, .ref (ga G 57)), (1, .ref (ga G row)), (2, .int v2), (3, .int 0)] [] s0 t Q X := by
  subst eN
  refine down_i N (fun i => R G mX10_putsAll 21 [(0, .ref (ga G 57)), (1, .ref (ga G row)), (2, .int v2), (3, .int (nI i))] [] (fo i (g_X10_putsAll_21 row v2) s0) t Q X) h (fun i hi hS => ?_)
  have hP := hN i hi
  rw [fo_succ] at hS
  rw [nI_succ] at hS
  generalize fo i (g_X10_putsAll_21 row v2) s0 = s at hS hP ⊢
  unfold Pb_X10_putsAll_21 at hP
  refine r_iload_n dX10_putsAll_21 3 rfl ?_
  refine r_bipush 63 dX10_putsAll_22 rfl ?_
  refine r_icmp_ge 51 dX10_putsAll_24 (by decide) (fun c1 => ?_) (fun c1 => ?_)
  · replace hP := hP.1 c1
    exact hP.elim
  · replace hP := hP.2 c1
    refine r_aload_n dX10_putsAll_27 0 rfl ?_
    refine r_getR 521 fX10_73 (hG.lt (by decide)) sh57 fs57_31 dX10_putsAll_28 ?_
    refine r_iload_n dX10_putsAll_31 3 rfl ?_
    refine r_aload_n dX10_putsAll_32 0 rfl ?_
    refine r_aload_n dX10_putsAll_33 1 rfl ?_
    refine r_aload_n dX10_putsAll_34 0 rfl ?_
    refine r_getR 521 fX10_73 (hG.lt (by decide)) sh57 fs57_31 dX10_putsAll_35 ?_
    refine r_iload_n dX10_putsAll_38 3 rfl ?_
    have hs1 := hP.1
    replace hP := hP.2
    refine r_iald (hG.lt (by decide)) sh521 hs1 dX10_putsAll_39 ?_
    refine r_iload_n dX10_putsAll_40 2 rfl ?_
    have hs2 := hP.1
    replace hP := hP.2
    refine r_cvI (ok_X10_puts hG hlrow hsrow (s 521 (ix (nI i))) v2 s hs2) lX10_417 (hG.lt (by decide)) sh57 ⟨_, _, rfl⟩ dX10_putsAll_41 (by decide) (by decide) rfl (Nat.le_of_ble_eq_true rfl) ?_
    refine r_mu (muX10_putsAll_21_1 row v2 i s) rfl ?_
    have hs3 := hP
    refine r_iast (hG.lt (by decide)) sh521 hs3 dX10_putsAll_44 ?_
    refine r_mu (muX10_putsAll_21_2 row v2 i s) rfl ?_
    refine r_iinc ((nI i) + 1) [(3, _), (0, _), (1, _), (2, _)] dX10_putsAll_45 3 rfl rfl (by decide) rfl ?_
    refine r_goto 21 dX10_putsAll_48 (by decide) ?_
    have e : g_X10_putsAll_21 row v2 i s = (muX10_putsAll_21_2 row v2 i s) := by unfold g_X10_putsAll_21; rfl
    rw [e] at hS
    exact r_sub [1, 2, 3, 0] rfl hS
def NX10_putsAll_21 (row : Nat) (p2 : Int32) (μ : Mem) : Nat := 63
def SX10_putsAll_21 (row : Nat) (p2 : Int32) (μ : Mem) : Mem := fo (NX10_putsAll_21 row p2 μ) (g_X10_putsAll_21 row p2) (muX10_putsAll_3 row p2 μ)
def muX10_putsAll_62_1 (row : Nat) (v2 : Int32) (v3 : Int32) (i : Nat) (s : Mem) : Mem := (M_X10_puts row (s (527 + (ix v3)) (ix (nI i))) v2 s)
def muX10_putsAll_62_2 (row : Nat) (v2 : Int32) (v3 : Int32) (i : Nat) (s : Mem) : Mem := (upm (muX10_putsAll_62_1 row v2 v3 i s) (527 + (ix v3)) (ix (nI i)) (F_X10_puts row (s (527 + (ix v3)) (ix (nI i))) v2 s))
def g_X10_putsAll_62 (row : Nat) (v2 : Int32) (v3 : Int32) (i : Nat) (s : Mem) : Mem := (muX10_putsAll_62_2 row v2 v3 i s)
def Pb_X10_putsAll_62 (row : Nat) (v2 : Int32) (v3 : Int32) (i : Nat) (s : Mem) : Prop := ((63 ≤ (nI i) → False) ∧ ((nI i) < 63 → (vp_in v3 16) ∧ (vp_in v3 16) ∧ (vp_in (nI i) 63) ∧ (P_X10_puts row (s (527 + (ix v3)) (ix (nI i))) v2 s) ∧ vp_in (nI i) 63))
set_option maxRecDepth 20000 in
set_option maxHeartbeats 2000000 in
theorem lp_X10_putsAll_62 {G : SG} (hG : GK 548 G) {row : Nat} (hlrow : row < gh G) (hsrow : shp row = (1, 1072, 0)) (v2 : Int32) (v3 : Int32) (s0 : Mem) (N : Nat) (sN : Mem) (eN : sN = fo N (g_X10_putsAll_62 row v2 v3) s0) (hN : ∀ i, i < N → Pb_X10_putsAll_62 row v2 v3 i (fo i (g_X10_putsAll_62 row v2 v3) s0)) {t : Nat} {Q : PQ} {X : PX} (h : R G mX10_putsAll 62 [(0, .ref (ga G 57)), (1, .ref (ga G row)), (2, .int v2), (3, .int v3), (4, .int (nI N))] [] sN t Q X) : R G mX10_putsAll 62 [(0, .ref (ga G 57)), (1, .ref (ga G row)), (2, .int v2), (3, .int v3), (4, .int 0)] [] s0 t Q X := by
  subst eN
  refine down_i N (fun i => R G mX10_putsAll 62 [(0, .ref (ga G 57)), (1, .ref (ga G row)), (2, .int v2), (3, .int v3), (4, .int (nI i))] [] (fo i (g_X10_putsAll_62 row v2 v3) s0) t Q X) h (fun i hi hS => ?_)
  have hP := hN i hi
  rw [fo_succ] at hS
  rw [nI_succ] at hS
  generalize fo i (g_X10_putsAll_62 row v2 v3) s0 = s at hS hP ⊢
  unfold Pb_X10_putsAll_62 at hP
  refine r_iload dX10_putsAll_62 4 rfl ?_
  refine r_bipush 63 dX10_putsAll_64 rfl ?_
  refine r_icmp_ge 99 dX10_putsAll_66 (by decide) (fun c1 => ?_) (fun c1 => ?_)
  · replace hP := hP.1 c1
    exact hP.elim
  · replace hP := hP.2 c1
    refine r_aload_n dX10_putsAll_69 0 rfl ?_
    refine r_getR 526 fX10_88 (hG.lt (by decide)) sh57 fs57_36 dX10_putsAll_70 ?_
    refine r_iload_n dX10_putsAll_73 3 rfl ?_
    have hs1 := hP.1
    replace hP := hP.2
    refine r_aald (hG.lt (by decide)) sh526 hs1 dX10_putsAll_74 ?_
    refine r_iload dX10_putsAll_75 4 rfl ?_
    refine r_aload_n dX10_putsAll_77 0 rfl ?_
    refine r_aload_n dX10_putsAll_78 1 rfl ?_
    refine r_aload_n dX10_putsAll_79 0 rfl ?_
    refine r_getR 526 fX10_88 (hG.lt (by decide)) sh57 fs57_36 dX10_putsAll_80 ?_
    refine r_iload_n dX10_putsAll_83 3 rfl ?_
    have hs2 := hP.1
    replace hP := hP.2
    refine r_aald (hG.lt (by decide)) sh526 hs2 dX10_putsAll_84 ?_
    refine r_iload dX10_putsAll_85 4 rfl ?_
    have hs3 := hP.1
    replace hP := hP.2
    refine r_iald (ltR (vp_ix hs2) (by decide) hG) (shr526 _ (vp_ix hs2)) hs3 dX10_putsAll_87 ?_
    refine r_iload_n dX10_putsAll_88 2 rfl ?_
    have hs4 := hP.1
    replace hP := hP.2
    refine r_cvI (ok_X10_puts hG hlrow hsrow (s (527 + (ix v3)) (ix (nI i))) v2 s hs4) lX10_417 (hG.lt (by decide)) sh57 ⟨_, _, rfl⟩ dX10_putsAll_89 (by decide) (by decide) rfl (Nat.le_of_ble_eq_true rfl) ?_
    refine r_mu (muX10_putsAll_62_1 row v2 v3 i s) rfl ?_
    have hs5 := hP
    refine r_iast (ltR (vp_ix hs1) (by decide) hG) (shr526 _ (vp_ix hs1)) hs5 dX10_putsAll_92 ?_
    refine r_mu (muX10_putsAll_62_2 row v2 v3 i s) rfl ?_
    refine r_iinc ((nI i) + 1) [(4, _), (0, _), (1, _), (2, _), (3, _)] dX10_putsAll_93 4 rfl rfl (by decide) rfl ?_
    refine r_goto 62 dX10_putsAll_96 (by decide) ?_
    have e : g_X10_putsAll_62 row v2 v3 i s = (muX10_putsAll_62_2 row v2 v3 i s) := by unfold g_X10_putsAll_62; rfl
    rw [e] at hS
    exact r_sub [1, 2, 3, 4, 0] rfl hS
def NX10_putsAll_53_62 (row : Nat) (v2 : Int32) (i : Nat) (s : Mem) : Nat := 63
def SX10_putsAll_53_62 (row : Nat) (v2 : Int32) (i : Nat) (s : Mem) : Mem := fo (NX10_putsAll_53_62 row v2 i s) (g_X10_putsAll_62 row v2 (nI i)) s
def muX10_putsAll_53_1 (row : Nat) (v2 : Int32) (i : Nat) (s : Mem) : Mem := (M_X10_puts row ((SX10_putsAll_53_62 row v2 i s) (527 + (ix (nI i))) (ix (nI (NX10_putsAll_53_62 row v2 i s)))) v2 (SX10_putsAll_53_62 row v2 i s))
def muX10_putsAll_53_2 (row : Nat) (v2 : Int32) (i : Nat) (s : Mem) : Mem := (upm (muX10_putsAll_53_1 row v2 i s) (527 + (ix (nI i))) (ix (nI (NX10_putsAll_53_62 row v2 i s))) (F_X10_puts row ((SX10_putsAll_53_62 row v2 i s) (527 + (ix (nI i))) (ix (nI (NX10_putsAll_53_62 row v2 i s)))) v2 (SX10_putsAll_53_62 row v2 i s)))
def g_X10_putsAll_53 (row : Nat) (v2 : Int32) (i : Nat) (s : Mem) : Mem := (SX10_putsAll_53_62 row v2 i s)
def Pb_X10_putsAll_53 (row : Nat) (v2 : Int32) (i : Nat) (s : Mem) : Prop := ((16 ≤ (nI i) → False) ∧ ((nI i) < 16 → (∀ j9, j9 < (NX10_putsAll_53_62 row v2 i s) → Pb_X10_putsAll_62 row v2 (nI i) j9 (fo j9 (g_X10_putsAll_62 row v2 (nI i)) s)) ∧ ((63 ≤ (nI (NX10_putsAll_53_62 row v2 i s)) → True) ∧ ((nI (NX10_putsAll_53_62 row v2 i s)) < 63 → (vp_in (nI i) 16) ∧ (vp_in (nI i) 16) ∧ (vp_in (nI (NX10_putsAll_53_62 row v2 i s)) 63) ∧ (P_X10_puts row ((SX10_putsAll_53_62 row v2 i s) (527 + (ix (nI i))) (ix (nI (NX10_putsAll_53_62 row v2 i s)))) v2 (SX10_putsAll_53_62 row v2 i s)) ∧ (vp_in (nI (NX10_putsAll_53_62 row v2 i s)) 63) ∧ False))))
set_option maxRecDepth 20000 in
set_option maxHeartbeats 2000000 in
theorem lp_X10_putsAll_53 {G : SG} (hG : GK 548 G) {row : Nat} (hlrow : row < gh G) (hsrow : shp row = (1, 1072, 0)) (v2 : Int32) (s0 : Mem) (N : Nat) (sN : Mem) (eN : sN = fo N (g_X10_putsAll_53 row v2) s0) (hN : ∀ i, i < N → Pb_X10_putsAll_53 row v2 i (fo i (g_X10_putsAll_53 row v2) s0)) {t : Nat} {Q : PQ} {X : PX} (h : R G mX10_putsAll 53 [(0, .ref (ga G 57)), (1, .ref (ga G row)), (2, .int v2), (3, .int (nI N))] [] sN t Q X) : R G mX10_putsAll 53 [(0, .ref (ga G 57)), (1, .ref (ga G row)), (2, .int v2), (3, .int 0)] [] s0 t Q X := by
  subst eN
  refine down_i N (fun i => R G mX10_putsAll 53 [(0, .ref (ga G 57)), (1, .ref (ga G row)), (2, .int v2), (3, .int (nI i))] [] (fo i (g_X10_putsAll_53 row v2) s0) t Q X) h (fun i hi hS => ?_)
  have hP := hN i hi
  rw [fo_succ] at hS
  rw [nI_succ] at hS
  generalize fo i (g_X10_putsAll_53 row v2) s0 = s at hS hP ⊢
  unfold Pb_X10_putsAll_53 at hP
  refine r_iload_n dX10_putsAll_53 3 rfl ?_
  refine r_bipush 16 dX10_putsAll_54 rfl ?_
  refine r_icmp_ge 105 dX10_putsAll_56 (by decide) (fun c1 => ?_) (fun c1 => ?_)
  · replace hP := hP.1 c1
    exact hP.elim
  · replace hP := hP.2 c1
    refine r_iconst 0 dX10_putsAll_59 rfl ?_
    refine r_istore [(4, _), (0, _), (1, _), (2, _), (3, _)] dX10_putsAll_60 (by decide) rfl ?_
    have hs1 := hP.1
    replace hP := hP.2
    refine r_sub [1, 2, 3, 4, 0] rfl ?_
    refine lp_X10_putsAll_62 hG hlrow hsrow v2 (nI i) s ((NX10_putsAll_53_62 row v2 i s)) (SX10_putsAll_53_62 row v2 i s) rfl hs1 ?_
    refine r_iload dX10_putsAll_62 4 rfl ?_
    refine r_bipush 63 dX10_putsAll_64 rfl ?_
    refine r_icmp_ge 99 dX10_putsAll_66 (by decide) (fun c2 => ?_) (fun c2 => ?_)
    · replace hP := hP.1 c2
      refine r_iinc ((nI i) + 1) [(3, _), (0, _), (1, _), (2, _), (4, _)] dX10_putsAll_99 3 rfl rfl (by decide) rfl ?_
      refine r_goto 53 dX10_putsAll_102 (by decide) ?_
      have e : g_X10_putsAll_53 row v2 i s = (SX10_putsAll_53_62 row v2 i s) := by unfold g_X10_putsAll_53; rfl
      rw [e] at hS
      exact r_sub [1, 2, 3, 0] rfl hS
    · replace hP := hP.2 c2
      refine r_aload_n dX10_putsAll_69 0 rfl ?_
      refine r_getR 526 fX10_88 (hG.lt (by decide)) sh57 fs57_36 dX10_putsAll_70 ?_
      refine r_iload_n dX10_putsAll_73 3 rfl ?_
      have hs7 := hP.1
      replace hP := hP.2
      refine r_aald (hG.lt (by decide)) sh526 hs7 dX10_putsAll_74 ?_
      refine r_iload dX10_putsAll_75 4 rfl ?_
      refine r_aload_n dX10_putsAll_77 0 rfl ?_
      refine r_aload_n dX10_putsAll_78 1 rfl ?_
      refine r_aload_n dX10_putsAll_79 0 rfl ?_
      refine r_getR 526 fX10_88 (hG.lt (by decide)) sh57 fs57_36 dX10_putsAll_80 ?_
      refine r_iload_n dX10_putsAll_83 3 rfl ?_
      have hs8 := hP.1
      replace hP := hP.2
      refine r_aald (hG.lt (by decide)) sh526 hs8 dX10_putsAll_84 ?_
      refine r_iload dX10_putsAll_85 4 rfl ?_
      have hs9 := hP.1
      replace hP := hP.2
      refine r_iald (ltR (vp_ix hs8) (by decide) hG) (shr526 _ (vp_ix hs8)) hs9 dX10_putsAll_87 ?_
      refine r_iload_n dX10_putsAll_88 2 rfl ?_
      have hs10 := hP.1
      replace hP := hP.2
      refine r_cvI (ok_X10_puts hG hlrow hsrow ((SX10_putsAll_53_62 row v2 i s) (527 + (ix (nI i))) (ix (nI (NX10_putsAll_53_62 row v2 i s)))) v2 (SX10_putsAll_53_62 row v2 i s) hs10) lX10_417 (hG.lt (by decide)) sh57 ⟨_, _, rfl⟩ dX10_putsAll_89 (by decide) (by decide) rfl (Nat.le_of_ble_eq_true rfl) ?_
      refine r_mu (muX10_putsAll_53_1 row v2 i s) rfl ?_
      have hs11 := hP.1
      replace hP := hP.2
      refine r_iast (ltR (vp_ix hs7) (by decide) hG) (shr526 _ (vp_ix hs7)) hs11 dX10_putsAll_92 ?_
      refine r_mu (muX10_putsAll_53_2 row v2 i s) rfl ?_
      refine r_iinc ((nI (NX10_putsAll_53_62 row v2 i s)) + 1) [(4, _), (0, _), (1, _), (2, _), (3, _)] dX10_putsAll_93 4 rfl rfl (by decide) rfl ?_
      refine r_goto 62 dX10_putsAll_96 (by decide) ?_
      exact hP.elim
def NX10_putsAll_53 (row : Nat) (p2 : Int32) (μ : Mem) : Nat := 16
def SX10_putsAll_53 (row : Nat) (p2 : Int32) (μ : Mem) : Mem := fo (NX10_putsAll_53 row p2 μ) (g_X10_putsAll_53 row p2) (SX10_putsAll_21 row p2 μ)
def NX10_putsAll_62 (row : Nat) (p2 : Int32) (μ : Mem) : Nat := 63
def SX10_putsAll_62 (row : Nat) (p2 : Int32) (μ : Mem) : Mem := fo (NX10_putsAll_62 row p2 μ) (g_X10_putsAll_62 row p2 (nI (NX10_putsAll_53 row p2 μ))) (SX10_putsAll_53 row p2 μ)
def muX10_putsAll_4 (row : Nat) (p2 : Int32) (μ : Mem) : Mem := (M_X10_puts row ((SX10_putsAll_62 row p2 μ) (527 + (ix (nI (NX10_putsAll_53 row p2 μ)))) (ix (nI (NX10_putsAll_62 row p2 μ)))) p2 (SX10_putsAll_62 row p2 μ))
def muX10_putsAll_5 (row : Nat) (p2 : Int32) (μ : Mem) : Mem := (upm (muX10_putsAll_4 row p2 μ) (527 + (ix (nI (NX10_putsAll_53 row p2 μ)))) (ix (nI (NX10_putsAll_62 row p2 μ))) (F_X10_puts row ((SX10_putsAll_62 row p2 μ) (527 + (ix (nI (NX10_putsAll_53 row p2 μ)))) (ix (nI (NX10_putsAll_62 row p2 μ)))) p2 (SX10_putsAll_62 row p2 μ)))
def muX10_putsAll_6 (row : Nat) (p2 : Int32) (μ : Mem) : Mem := (M_X10_puts row ((SX10_putsAll_21 row p2 μ) 521 (ix (nI (NX10_putsAll_21 row p2 μ)))) p2 (SX10_putsAll_21 row p2 μ))
def muX10_putsAll_7 (row : Nat) (p2 : Int32) (μ : Mem) : Mem := (upm (muX10_putsAll_6 row p2 μ) 521 (ix (nI (NX10_putsAll_21 row p2 μ))) (F_X10_puts row ((SX10_putsAll_21 row p2 μ) 521 (ix (nI (NX10_putsAll_21 row p2 μ)))) p2 (SX10_putsAll_21 row p2 μ)))
def M_X10_putsAll (row : Nat) (p2 : Int32) (μ : Mem) : Mem := (SX10_putsAll_53 row p2 μ)
def P_X10_putsAll (row : Nat) (p2 : Int32) (μ : Mem) : Prop := ((P_X10_puts row ((muX10_putsAll_1 row p2 μ) 57 39) p2 (muX10_putsAll_1 row p2 μ)) ∧ ((∀ j9, j9 < (NX10_putsAll_21 row p2 μ) → Pb_X10_putsAll_21 row p2 j9 (fo j9 (g_X10_putsAll_21 row p2) (muX10_putsAll_3 row p2 μ))) ∧ ((63 ≤ (nI (NX10_putsAll_21 row p2 μ)) → ((∀ j9, j9 < (NX10_putsAll_53 row p2 μ) → Pb_X10_putsAll_53 row p2 j9 (fo j9 (g_X10_putsAll_53 row p2) (SX10_putsAll_21 row p2 μ))) ∧ ((16 ≤ (nI (NX10_putsAll_53 row p2 μ)) → True) ∧ ((nI (NX10_putsAll_53 row p2 μ)) < 16 → ((∀ j9, j9 < (NX10_putsAll_62 row p2 μ) → Pb_X10_putsAll_62 row p2 (nI (NX10_putsAll_53 row p2 μ)) j9 (fo j9 (g_X10_putsAll_62 row p2 (nI (NX10_putsAll_53 row p2 μ))) (SX10_putsAll_53 row p2 μ))) ∧ ((63 ≤ (nI (NX10_putsAll_62 row p2 μ)) → False) ∧ ((nI (NX10_putsAll_62 row p2 μ)) < 63 → ((vp_in (nI (NX10_putsAll_53 row p2 μ)) 16) ∧ ((vp_in (nI (NX10_putsAll_53 row p2 μ)) 16) ∧ ((vp_in (nI (NX10_putsAll_62 row p2 μ)) 63) ∧ ((P_X10_puts row ((SX10_putsAll_62 row p2 μ) (527 + (ix (nI (NX10_putsAll_53 row p2 μ)))) (ix (nI (NX10_putsAll_62 row p2 μ)))) p2 (SX10_putsAll_62 row p2 μ)) ∧ ((vp_in (nI (NX10_putsAll_62 row p2 μ)) 63) ∧ False)))))))))))) ∧ ((nI (NX10_putsAll_21 row p2 μ)) < 63 → ((vp_in (nI (NX10_putsAll_21 row p2 μ)) 63) ∧ ((P_X10_puts row ((SX10_putsAll_21 row p2 μ) 521 (ix (nI (NX10_putsAll_21 row p2 μ)))) p2 (SX10_putsAll_21 row p2 μ)) ∧ ((vp_in (nI (NX10_putsAll_21 row p2 μ)) 63) ∧ False)))))))
set_option maxRecDepth 20000 in
set_option maxHeartbeats 2000000 in
theorem ok_X10_putsAll {G : SG} (hG : GK 548 G) {row : Nat} (hlrow : row < gh G) (hsrow : shp row = (1, 1072, 0)) (p2 : Int32) (μ : Mem) (hP : P_X10_putsAll row p2 μ) : OkF G mX10_putsAll [.ref (ga G 57), .ref (ga G row), .int p2] μ none (M_X10_putsAll row p2 μ) := by
  refine okF_of hG rfl (by decide) (Nat.le_of_ble_eq_true rfl) ?_
  unfold P_X10_putsAll at hP
  refine r_aload_n dX10_putsAll_0 0 rfl ?_
  refine r_iconst 0 dX10_putsAll_1 rfl ?_
  refine r_put fiX10_414 (hG.lt (by decide)) sh57 fs57_42 dX10_putsAll_2 ?_
  refine r_mu (muX10_putsAll_1 row p2 μ) rfl ?_
  refine r_aload_n dX10_putsAll_5 0 rfl ?_
  refine r_aload_n dX10_putsAll_6 0 rfl ?_
  refine r_aload_n dX10_putsAll_7 1 rfl ?_
  refine r_aload_n dX10_putsAll_8 0 rfl ?_
  refine r_getI fX10_212 (hG.lt (by decide)) sh57 fs57_39 dX10_putsAll_9 ?_
  refine r_iload_n dX10_putsAll_12 2 rfl ?_
  have hs1 := hP.1
  replace hP := hP.2
  refine r_cvI (ok_X10_puts hG hlrow hsrow ((muX10_putsAll_1 row p2 μ) 57 39) p2 (muX10_putsAll_1 row p2 μ) hs1) lX10_417 (hG.lt (by decide)) sh57 ⟨_, _, rfl⟩ dX10_putsAll_13 (by decide) (by decide) rfl (Nat.le_of_ble_eq_true rfl) ?_
  refine r_mu (muX10_putsAll_2 row p2 μ) rfl ?_
  refine r_put fiX10_212 (hG.lt (by decide)) sh57 fs57_39 dX10_putsAll_16 ?_
  refine r_mu (muX10_putsAll_3 row p2 μ) rfl ?_
  refine r_iconst 0 dX10_putsAll_19 rfl ?_
  refine r_istore_n [(3, _), (0, _), (1, _), (2, _)] dX10_putsAll_20 (by decide) rfl ?_
  have hs2 := hP.1
  replace hP := hP.2
  refine r_sub [1, 2, 3, 0] rfl ?_
  refine lp_X10_putsAll_21 hG hlrow hsrow p2 (muX10_putsAll_3 row p2 μ) ((NX10_putsAll_21 row p2 μ)) (SX10_putsAll_21 row p2 μ) rfl hs2 ?_
  refine r_iload_n dX10_putsAll_21 3 rfl ?_
  refine r_bipush 63 dX10_putsAll_22 rfl ?_
  refine r_icmp_ge 51 dX10_putsAll_24 (by decide) (fun c1 => ?_) (fun c1 => ?_)
  · replace hP := hP.1 c1
    refine r_iconst 0 dX10_putsAll_51 rfl ?_
    refine r_istore_n [(3, _), (0, _), (1, _), (2, _)] dX10_putsAll_52 (by decide) rfl ?_
    have hs6 := hP.1
    replace hP := hP.2
    refine r_sub [1, 2, 3, 0] rfl ?_
    refine lp_X10_putsAll_53 hG hlrow hsrow p2 (SX10_putsAll_21 row p2 μ) ((NX10_putsAll_53 row p2 μ)) (SX10_putsAll_53 row p2 μ) rfl hs6 ?_
    refine r_iload_n dX10_putsAll_53 3 rfl ?_
    refine r_bipush 16 dX10_putsAll_54 rfl ?_
    refine r_icmp_ge 105 dX10_putsAll_56 (by decide) (fun c2 => ?_) (fun c2 => ?_)
    · replace hP := hP.1 c2
      exact r_return dX10_putsAll_105 rfl ⟨rfl, rfl⟩
    · replace hP := hP.2 c2
      refine r_iconst 0 dX10_putsAll_59 rfl ?_
      refine r_istore [(4, _), (0, _), (1, _), (2, _), (3, _)] dX10_putsAll_60 (by decide) rfl ?_
      have hs7 := hP.1
      replace hP := hP.2
      refine r_sub [1, 2, 3, 4, 0] rfl ?_
      refine lp_X10_putsAll_62 hG hlrow hsrow p2 (nI (NX10_putsAll_53 row p2 μ)) (SX10_putsAll_53 row p2 μ) ((NX10_putsAll_62 row p2 μ)) (SX10_putsAll_62 row p2 μ) rfl hs7 ?_
      refine r_iload dX10_putsAll_62 4 rfl ?_
      refine r_bipush 63 dX10_putsAll_64 rfl ?_
      refine r_icmp_ge 99 dX10_putsAll_66 (by decide) (fun c3 => ?_) (fun c3 => ?_)
      · replace hP := hP.1 c3
        refine r_iinc ((nI (NX10_putsAll_53 row p2 μ)) + 1) [(3, _), (0, _), (1, _), (2, _), (4, _)] dX10_putsAll_99 3 rfl rfl (by decide) rfl ?_
        refine r_goto 53 dX10_putsAll_102 (by decide) ?_
        exact hP.elim
      · replace hP := hP.2 c3
        refine r_aload_n dX10_putsAll_69 0 rfl ?_
        refine r_getR 526 fX10_88 (hG.lt (by decide)) sh57 fs57_36 dX10_putsAll_70 ?_
        refine r_iload_n dX10_putsAll_73 3 rfl ?_
        have hs13 := hP.1
        replace hP := hP.2
        refine r_aald (hG.lt (by decide)) sh526 hs13 dX10_putsAll_74 ?_
        refine r_iload dX10_putsAll_75 4 rfl ?_
        refine r_aload_n dX10_putsAll_77 0 rfl ?_
        refine r_aload_n dX10_putsAll_78 1 rfl ?_
        refine r_aload_n dX10_putsAll_79 0 rfl ?_
        refine r_getR 526 fX10_88 (hG.lt (by decide)) sh57 fs57_36 dX10_putsAll_80 ?_
        refine r_iload_n dX10_putsAll_83 3 rfl ?_
        have hs14 := hP.1
        replace hP := hP.2
        refine r_aald (hG.lt (by decide)) sh526 hs14 dX10_putsAll_84 ?_
        refine r_iload dX10_putsAll_85 4 rfl ?_
        have hs15 := hP.1
        replace hP := hP.2
        refine r_iald (ltR (vp_ix hs14) (by decide) hG) (shr526 _ (vp_ix hs14)) hs15 dX10_putsAll_87 ?_
        refine r_iload_n dX10_putsAll_88 2 rfl ?_
        have hs16 := hP.1
        replace hP := hP.2
        refine r_cvI (ok_X10_puts hG hlrow hsrow ((SX10_putsAll_62 row p2 μ) (527 + (ix (nI (NX10_putsAll_53 row p2 μ)))) (ix (nI (NX10_putsAll_62 row p2 μ)))) p2 (SX10_putsAll_62 row p2 μ) hs16) lX10_417 (hG.lt (by decide)) sh57 ⟨_, _, rfl⟩ dX10_putsAll_89 (by decide) (by decide) rfl (Nat.le_of_ble_eq_true rfl) ?_
        refine r_mu (muX10_putsAll_4 row p2 μ) rfl ?_
        have hs17 := hP.1
        replace hP := hP.2
        refine r_iast (ltR (vp_ix hs13) (by decide) hG) (shr526 _ (vp_ix hs13)) hs17 dX10_putsAll_92 ?_
        refine r_mu (muX10_putsAll_5 row p2 μ) rfl ?_
        refine r_iinc ((nI (NX10_putsAll_62 row p2 μ)) + 1) [(4, _), (0, _), (1, _), (2, _), (3, _)] dX10_putsAll_93 4 rfl rfl (by decide) rfl ?_
        refine r_goto 62 dX10_putsAll_96 (by decide) ?_
        exact hP.elim
  · replace hP := hP.2 c1
    refine r_aload_n dX10_putsAll_27 0 rfl ?_
    refine r_getR 521 fX10_73 (hG.lt (by decide)) sh57 fs57_31 dX10_putsAll_28 ?_
    refine r_iload_n dX10_putsAll_31 3 rfl ?_
    refine r_aload_n dX10_putsAll_32 0 rfl ?_
    refine r_aload_n dX10_putsAll_33 1 rfl ?_
    refine r_aload_n dX10_putsAll_34 0 rfl ?_
    refine r_getR 521 fX10_73 (hG.lt (by decide)) sh57 fs57_31 dX10_putsAll_35 ?_
    refine r_iload_n dX10_putsAll_38 3 rfl ?_
    have hs18 := hP.1
    replace hP := hP.2
    refine r_iald (hG.lt (by decide)) sh521 hs18 dX10_putsAll_39 ?_
    refine r_iload_n dX10_putsAll_40 2 rfl ?_
    have hs19 := hP.1
    replace hP := hP.2
    refine r_cvI (ok_X10_puts hG hlrow hsrow ((SX10_putsAll_21 row p2 μ) 521 (ix (nI (NX10_putsAll_21 row p2 μ)))) p2 (SX10_putsAll_21 row p2 μ) hs19) lX10_417 (hG.lt (by decide)) sh57 ⟨_, _, rfl⟩ dX10_putsAll_41 (by decide) (by decide) rfl (Nat.le_of_ble_eq_true rfl) ?_
    refine r_mu (muX10_putsAll_6 row p2 μ) rfl ?_
    have hs20 := hP.1
    replace hP := hP.2
    refine r_iast (hG.lt (by decide)) sh521 hs20 dX10_putsAll_44 ?_
    refine r_mu (muX10_putsAll_7 row p2 μ) rfl ?_
    refine r_iinc ((nI (NX10_putsAll_21 row p2 μ)) + 1) [(3, _), (0, _), (1, _), (2, _)] dX10_putsAll_45 3 rfl rfl (by decide) rfl ?_
    refine r_goto 21 dX10_putsAll_48 (by decide) ?_
    exact hP.elim
def muX10_image_1 (μ : Mem) : Mem := (upm μ 57 0 0)
def muX10_image_2 (μ : Mem) : Mem := (M_X10_putsAll (544 + (ix ((muX10_image_1 μ) 57 41))) 0 (muX10_image_1 μ))
def muX10_image_3 (μ : Mem) : Mem := (upm (muX10_image_2 μ) 57 41 (((muX10_image_2 μ) 57 41) + 1))
def F_X10_image  (μ : Mem) : Int32 := (if ((muX10_image_1 μ) 57 41) ≠ 3 then ((muX10_image_3 μ) 57 41) else (-1))
def M_X10_image  (μ : Mem) : Mem := (if ((muX10_image_1 μ) 57 41) ≠ 3 then (muX10_image_3 μ) else (muX10_image_1 μ))
def P_X10_image  (μ : Mem) : Prop := ((((muX10_image_1 μ) 57 41) ≠ 3 → ((vp_in ((muX10_image_1 μ) 57 41) 3) ∧ (P_X10_putsAll (544 + (ix ((muX10_image_1 μ) 57 41))) 0 (muX10_image_1 μ)))) ∧ (((muX10_image_1 μ) 57 41) = 3 → True))
set_option maxRecDepth 20000 in
set_option maxHeartbeats 2000000 in
theorem ok_X10_image {G : SG} (hG : GK 548 G)  (μ : Mem) (hP : P_X10_image  μ) : OkF G mX10_image [.ref (ga G 57)] μ (some (.int (F_X10_image  μ))) (M_X10_image  μ) := by
  refine okF_of hG rfl (by decide) (Nat.le_of_ble_eq_true rfl) ?_
  unfold P_X10_image at hP
  refine r_aload_n dX10_image_0 0 rfl ?_
  refine r_iconst 0 dX10_image_1 rfl ?_
  refine r_put fiX10_103 (hG.lt (by decide)) sh57 fs57_0 dX10_image_2 ?_
  refine r_mu (muX10_image_1 μ) rfl ?_
  refine r_aload_n dX10_image_5 0 rfl ?_
  refine r_getI fX10_218 (hG.lt (by decide)) sh57 fs57_41 dX10_image_6 ?_
  refine r_iconst 3 dX10_image_9 rfl ?_
  refine r_icmp_ne 15 dX10_image_10 (by decide) (fun c1 => ?_) (fun c1 => ?_)
  · replace hP := hP.1 c1
    refine r_aload_n dX10_image_15 0 rfl ?_
    refine r_aload_n dX10_image_16 0 rfl ?_
    refine r_getR 543 fX10_91 (hG.lt (by decide)) sh57 fs57_37 dX10_image_17 ?_
    refine r_aload_n dX10_image_20 0 rfl ?_
    refine r_getI fX10_218 (hG.lt (by decide)) sh57 fs57_41 dX10_image_21 ?_
    have hs1 := hP.1
    replace hP := hP.2
    refine r_aald (hG.lt (by decide)) sh543 hs1 dX10_image_24 ?_
    refine r_iconst 0 dX10_image_25 rfl ?_
    have hs2 := hP
    refine r_cvV (ok_X10_putsAll hG (ltR (vp_ix hs1) (by decide) hG) (shr543 _ (vp_ix hs1)) 0 (muX10_image_1 μ) hs2) lX10_421 (hG.lt (by decide)) sh57 ⟨_, _, rfl⟩ dX10_image_26 (by decide) (by decide) rfl (Nat.le_of_ble_eq_true rfl) ?_
    refine r_mu (muX10_image_2 μ) rfl ?_
    refine r_aload_n dX10_image_29 0 rfl ?_
    refine r_dup dX10_image_30 rfl ?_
    refine r_getI fX10_218 (hG.lt (by decide)) sh57 fs57_41 dX10_image_31 ?_
    refine r_iconst 1 dX10_image_34 rfl ?_
    refine r_iadd dX10_image_35 ?_
    refine r_put fiX10_218 (hG.lt (by decide)) sh57 fs57_41 dX10_image_36 ?_
    refine r_mu (muX10_image_3 μ) rfl ?_
    refine r_aload_n dX10_image_39 0 rfl ?_
    refine r_getI fX10_218 (hG.lt (by decide)) sh57 fs57_41 dX10_image_40 ?_
    exact r_ireturn _ dX10_image_43 rfl rfl ⟨congrArg (fun z => some (Value.int z)) (by unfold F_X10_image; rw [if_pos c1]), by unfold M_X10_image; rw [if_pos c1]⟩
  · replace hP := hP.2 c1
    refine r_iconst (-1) dX10_image_13 rfl ?_
    exact r_ireturn _ dX10_image_14 rfl rfl ⟨congrArg (fun z => some (Value.int z)) (by unfold F_X10_image; rw [if_neg (not_not_intro c1)]), by unfold M_X10_image; rw [if_neg (not_not_intro c1)]⟩
def muX10_restore_1 (μ : Mem) : Mem := (upm μ 57 0 0)
def muX10_restore_2 (μ : Mem) : Mem := (upm (muX10_restore_1 μ) 57 41 (((muX10_restore_1 μ) 57 41) - 1))
def muX10_restore_3 (μ : Mem) : Mem := (M_X10_putsAll (544 + (ix ((muX10_restore_2 μ) 57 41))) 1 (muX10_restore_2 μ))
def muX10_restore_4 (μ : Mem) : Mem := (upm (muX10_restore_3 μ) 57 40 0)
def F_X10_restore  (μ : Mem) : Int32 := (if ((muX10_restore_1 μ) 57 41) ≠ 0 then ((muX10_restore_4 μ) 57 41) else (-1))
def M_X10_restore  (μ : Mem) : Mem := (if ((muX10_restore_1 μ) 57 41) ≠ 0 then (muX10_restore_4 μ) else (muX10_restore_1 μ))
def P_X10_restore  (μ : Mem) : Prop := ((((muX10_restore_1 μ) 57 41) ≠ 0 → ((vp_in ((muX10_restore_2 μ) 57 41) 3) ∧ (P_X10_putsAll (544 + (ix ((muX10_restore_2 μ) 57 41))) 1 (muX10_restore_2 μ)))) ∧ (((muX10_restore_1 μ) 57 41) = 0 → True))
set_option maxRecDepth 20000 in
set_option maxHeartbeats 2000000 in
theorem ok_X10_restore {G : SG} (hG : GK 548 G)  (μ : Mem) (hP : P_X10_restore  μ) : OkF G mX10_restore [.ref (ga G 57)] μ (some (.int (F_X10_restore  μ))) (M_X10_restore  μ) := by
  refine okF_of hG rfl (by decide) (Nat.le_of_ble_eq_true rfl) ?_
  unfold P_X10_restore at hP
  refine r_aload_n dX10_restore_0 0 rfl ?_
  refine r_iconst 0 dX10_restore_1 rfl ?_
  refine r_put fiX10_103 (hG.lt (by decide)) sh57 fs57_0 dX10_restore_2 ?_
  refine r_mu (muX10_restore_1 μ) rfl ?_
  refine r_aload_n dX10_restore_5 0 rfl ?_
  refine r_getI fX10_218 (hG.lt (by decide)) sh57 fs57_41 dX10_restore_6 ?_
  refine r_if_ne 14 dX10_restore_9 (by decide) (fun c1 => ?_) (fun c1 => ?_)
  · replace hP := hP.1 c1
    refine r_aload_n dX10_restore_14 0 rfl ?_
    refine r_dup dX10_restore_15 rfl ?_
    refine r_getI fX10_218 (hG.lt (by decide)) sh57 fs57_41 dX10_restore_16 ?_
    refine r_iconst 1 dX10_restore_19 rfl ?_
    refine r_isub dX10_restore_20 ?_
    refine r_put fiX10_218 (hG.lt (by decide)) sh57 fs57_41 dX10_restore_21 ?_
    refine r_mu (muX10_restore_2 μ) rfl ?_
    refine r_aload_n dX10_restore_24 0 rfl ?_
    refine r_aload_n dX10_restore_25 0 rfl ?_
    refine r_getR 543 fX10_91 (hG.lt (by decide)) sh57 fs57_37 dX10_restore_26 ?_
    refine r_aload_n dX10_restore_29 0 rfl ?_
    refine r_getI fX10_218 (hG.lt (by decide)) sh57 fs57_41 dX10_restore_30 ?_
    have hs1 := hP.1
    replace hP := hP.2
    refine r_aald (hG.lt (by decide)) sh543 hs1 dX10_restore_33 ?_
    refine r_iconst 1 dX10_restore_34 rfl ?_
    have hs2 := hP
    refine r_cvV (ok_X10_putsAll hG (ltR (vp_ix hs1) (by decide) hG) (shr543 _ (vp_ix hs1)) 1 (muX10_restore_2 μ) hs2) lX10_421 (hG.lt (by decide)) sh57 ⟨_, _, rfl⟩ dX10_restore_35 (by decide) (by decide) rfl (Nat.le_of_ble_eq_true rfl) ?_
    refine r_mu (muX10_restore_3 μ) rfl ?_
    refine r_aload_n dX10_restore_38 0 rfl ?_
    refine r_iconst 0 dX10_restore_39 rfl ?_
    refine r_put fiX10_215 (hG.lt (by decide)) sh57 fs57_40 dX10_restore_40 ?_
    refine r_mu (muX10_restore_4 μ) rfl ?_
    refine r_aload_n dX10_restore_43 0 rfl ?_
    refine r_getI fX10_218 (hG.lt (by decide)) sh57 fs57_41 dX10_restore_44 ?_
    exact r_ireturn _ dX10_restore_47 rfl rfl ⟨congrArg (fun z => some (Value.int z)) (by unfold F_X10_restore; rw [if_pos c1]), by unfold M_X10_restore; rw [if_pos c1]⟩
  · replace hP := hP.2 c1
    refine r_iconst (-1) dX10_restore_12 rfl ?_
    exact r_ireturn _ dX10_restore_13 rfl rfl ⟨congrArg (fun z => some (Value.int z)) (by unfold F_X10_restore; rw [if_neg (not_not_intro c1)]), by unfold M_X10_restore; rw [if_neg (not_not_intro c1)]⟩
def muX10_status_1 (p1 : Int32) (μ : Mem) : Mem := (upm μ 57 0 0)
def F_X10_status (p1 : Int32) (μ : Mem) : Int32 := (if (F_X10_isIn p1 0 1 (muX10_status_1 p1 μ)) = 0 then (-1) else ((muX10_status_1 p1 μ) 59 (ix p1)))
def M_X10_status (p1 : Int32) (μ : Mem) : Mem := (muX10_status_1 p1 μ)
def P_X10_status (p1 : Int32) (μ : Mem) : Prop := (((F_X10_isIn p1 0 1 (muX10_status_1 p1 μ)) = 0 → True) ∧ (¬ (F_X10_isIn p1 0 1 (muX10_status_1 p1 μ)) = 0 → (vp_in p1 2)))
set_option maxRecDepth 20000 in
set_option maxHeartbeats 2000000 in
theorem ok_X10_status {G : SG} (hG : GK 548 G) (p1 : Int32) (μ : Mem) (hP : P_X10_status p1 μ) : OkF G mX10_status [.ref (ga G 57), .int p1] μ (some (.int (F_X10_status p1 μ))) (M_X10_status p1 μ) := by
  refine okF_of hG rfl (by decide) (Nat.le_of_ble_eq_true rfl) ?_
  unfold P_X10_status at hP
  refine r_aload_n dX10_status_0 0 rfl ?_
  refine r_iconst 0 dX10_status_1 rfl ?_
  refine r_put fiX10_103 (hG.lt (by decide)) sh57 fs57_0 dX10_status_2 ?_
  refine r_mu (muX10_status_1 p1 μ) rfl ?_
  refine r_iload_n dX10_status_5 1 rfl ?_
  refine r_iconst 0 dX10_status_6 rfl ?_
  refine r_iconst 1 dX10_status_7 rfl ?_
  refine r_csI (ok_X10_isIn hG p1 0 1 (muX10_status_1 p1 μ)) lX10_137 dX10_status_8 (by decide) (by decide) rfl (Nat.le_of_ble_eq_true rfl) ?_
  refine r_if_eq 23 dX10_status_11 (by decide) (fun c1 => ?_) (fun c1 => ?_)
  · replace hP := hP.1 c1
    refine r_iconst (-1) dX10_status_23 rfl ?_
    exact r_ireturn _ dX10_status_24 rfl rfl ⟨congrArg (fun z => some (Value.int z)) (by unfold F_X10_status; rw [if_pos c1]), rfl⟩
  · replace hP := hP.2 c1
    refine r_aload_n dX10_status_14 0 rfl ?_
    refine r_getR 59 fX10_17 (hG.lt (by decide)) sh57 fs57_10 dX10_status_15 ?_
    refine r_iload_n dX10_status_18 1 rfl ?_
    have hs1 := hP
    refine r_iald (hG.lt (by decide)) sh59 hs1 dX10_status_19 ?_
    refine r_goto 24 dX10_status_20 (by decide) ?_
    exact r_ireturn _ dX10_status_24 rfl rfl ⟨congrArg (fun z => some (Value.int z)) (by unfold F_X10_status; rw [if_neg c1]), rfl⟩
def muX10_count_1 (p1 : Int32) (μ : Mem) : Mem := (upm μ 57 0 0)
def F_X10_count (p1 : Int32) (μ : Mem) : Int32 := (if p1 ≠ 0 then (if p1 ≠ 1 then (if p1 ≠ 2 then (-1) else ((muX10_count_1 p1 μ) 57 39)) else ((muX10_count_1 p1 μ) 57 1)) else ((muX10_count_1 p1 μ) 57 41))
def M_X10_count (p1 : Int32) (μ : Mem) : Mem := (muX10_count_1 p1 μ)
set_option maxRecDepth 20000 in
set_option maxHeartbeats 2000000 in
theorem ok_X10_count {G : SG} (hG : GK 548 G) (p1 : Int32) (μ : Mem) : OkF G mX10_count [.ref (ga G 57), .int p1] μ (some (.int (F_X10_count p1 μ))) (M_X10_count p1 μ) := by
  refine okF_of hG rfl (by decide) (Nat.le_of_ble_eq_true rfl) ?_
  refine r_aload_n dX10_count_0 0 rfl ?_
  refine r_iconst 0 dX10_count_1 rfl ?_
  refine r_put fiX10_103 (hG.lt (by decide)) sh57 fs57_0 dX10_count_2 ?_
  refine r_mu (muX10_count_1 p1 μ) rfl ?_
  refine r_iload_n dX10_count_5 1 rfl ?_
  refine r_if_ne 16 dX10_count_6 (by decide) (fun c1 => ?_) (fun c1 => ?_)
  · refine r_iload_n dX10_count_16 1 rfl ?_
    refine r_iconst 1 dX10_count_17 rfl ?_
    refine r_icmp_ne 28 dX10_count_18 (by decide) (fun c2 => ?_) (fun c2 => ?_)
    · refine r_iload_n dX10_count_28 1 rfl ?_
      refine r_iconst 2 dX10_count_29 rfl ?_
      refine r_icmp_ne 40 dX10_count_30 (by decide) (fun c3 => ?_) (fun c3 => ?_)
      · refine r_iconst (-1) dX10_count_40 rfl ?_
        exact r_ireturn _ dX10_count_41 rfl rfl ⟨congrArg (fun z => some (Value.int z)) (by unfold F_X10_count; rw [if_pos c1, if_pos c2, if_pos c3]), rfl⟩
      · refine r_aload_n dX10_count_33 0 rfl ?_
        refine r_getI fX10_212 (hG.lt (by decide)) sh57 fs57_39 dX10_count_34 ?_
        refine r_goto 41 dX10_count_37 (by decide) ?_
        exact r_ireturn _ dX10_count_41 rfl rfl ⟨congrArg (fun z => some (Value.int z)) (by unfold F_X10_count; rw [if_pos c1, if_pos c2, if_neg (not_not_intro c3)]), rfl⟩
    · refine r_aload_n dX10_count_21 0 rfl ?_
      refine r_getI fX10_106 (hG.lt (by decide)) sh57 fs57_1 dX10_count_22 ?_
      refine r_goto 41 dX10_count_25 (by decide) ?_
      exact r_ireturn _ dX10_count_41 rfl rfl ⟨congrArg (fun z => some (Value.int z)) (by unfold F_X10_count; rw [if_pos c1, if_neg (not_not_intro c2)]), rfl⟩
  · refine r_aload_n dX10_count_9 0 rfl ?_
    refine r_getI fX10_218 (hG.lt (by decide)) sh57 fs57_41 dX10_count_10 ?_
    refine r_goto 41 dX10_count_13 (by decide) ?_
    exact r_ireturn _ dX10_count_41 rfl rfl ⟨congrArg (fun z => some (Value.int z)) (by unfold F_X10_count; rw [if_neg (not_not_intro c1)]), rfl⟩
