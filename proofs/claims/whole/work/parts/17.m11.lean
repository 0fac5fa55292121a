def muX10_puts_1 (row : Nat) (p2 : Int32) (p3 : Int32) (μ : Mem) : Mem := (upm μ row (ix (μ 57 42)) p2)
def VX10_puts_2 (row : Nat) (p2 : Int32) (p3 : Int32) (μ : Mem) : Mem := (if p3 ≠ 0 then μ else (muX10_puts_1 row p2 p3 μ))
def muX10_puts_3 (row : Nat) (p2 : Int32) (p3 : Int32) (μ : Mem) : Mem := (upm (VX10_puts_2 row p2 p3 μ) 57 42 (((VX10_puts_2 row p2 p3 μ) 57 42) + 1))
def F_X10_puts (row : Nat) (p2 : Int32) (p3 : Int32) (μ : Mem) : Int32 := ((muX10_puts_3 row p2 p3 μ) row (ix (((muX10_puts_3 row p2 p3 μ) 57 42) - 1)))
def M_X10_puts (row : Nat) (p2 : Int32) (p3 : Int32) (μ : Mem) : Mem := (muX10_puts_3 row p2 p3 μ)
def P_X10_puts (row : Nat) (p2 : Int32) (p3 : Int32) (μ : Mem) : Prop := (((p3 ≠ 0 → True) ∧ (p3 = 0 → (vp_in (μ 57 42) 1072))) ∧ (vp_in (((muX10_puts_3 row p2 p3 μ) 57 42) - 1) 1072))
set_option maxRecDepth 20000 in
set_option maxHeartbeats 2000000 in
theorem ok_X10_puts {G : SG} (hG : GK 548 G) {row : Nat} (hlrow : row < gh G) (hsrow : shp row = (1, 1072, 0)) (p2 : Int32) (p3 : Int32) (μ : Mem) (hP : P_X10_puts row p2 p3 μ) : OkF G mX10_puts [.ref (ga G 57), .ref (ga G row), .int p2, .int p3] μ (some (.int (F_X10_puts row p2 p3 μ))) (M_X10_puts row p2 p3 μ) := by
  refine okF_of hG rfl rfl (Nat.le_of_ble_eq_true rfl) ?_
  unfold P_X10_puts at hP
  refine r_iload_n dX10_puts_0 3 rfl ?_
  refine r_join 11 [(0, .ref (ga G 57)), (1, .ref (ga G row)), (2, .int p2), (3, .int p3)] [] (VX10_puts_2 row p2 p3 μ) ?_ (fun hJ => ?_)
  · replace hP := hP.2
    refine r_aload_n dX10_puts_11 0 rfl ?_
    refine r_dup dX10_puts_12 rfl ?_
    refine r_getI fX10_414 (hG.lt (by decide)) sh57 fs57_42 dX10_puts_13 ?_
    refine r_iconst 1 dX10_puts_16 rfl ?_
    refine r_iadd dX10_puts_17 ?_
    refine r_put fiX10_414 (hG.lt (by decide)) sh57 fs57_42 dX10_puts_18 ?_
    refine r_mu (muX10_puts_3 row p2 p3 μ) rfl ?_
    refine r_aload_n dX10_puts_21 1 rfl ?_
    refine r_aload_n dX10_puts_22 0 rfl ?_
    refine r_getI fX10_414 (hG.lt (by decide)) sh57 fs57_42 dX10_puts_23 ?_
    refine r_iconst 1 dX10_puts_26 rfl ?_
    refine r_isub dX10_puts_27 ?_
    have hs2 := hP
    refine r_iald hlrow hsrow hs2 dX10_puts_28 ?_
    exact r_ireturn _ dX10_puts_29 rfl rfl ⟨congrArg (fun z => some (Value.int z)) (rfl), rfl⟩
  · replace hP := hP.1
    refine r_if_ne 11 dX10_puts_1 (by decide) (fun c1 => ?_) (fun c1 => ?_)
    · replace hP := hP.1 c1
      have e : (VX10_puts_2 row p2 p3 μ) = μ := by unfold VX10_puts_2; rw [if_pos c1]
      rw [e] at hJ
      exact r_sub [0, 1, 2, 3] rfl hJ
    · replace hP := hP.2 c1
      refine r_aload_n dX10_puts_4 1 rfl ?_
      refine r_aload_n dX10_puts_5 0 rfl ?_
      refine r_getI fX10_414 (hG.lt (by decide)) sh57 fs57_42 dX10_puts_6 ?_
      refine r_iload_n dX10_puts_9 2 rfl ?_
      have hs1 := hP
      refine r_iast hlrow hsrow hs1 dX10_puts_10 ?_
      refine r_mu (muX10_puts_1 row p2 p3 μ) rfl ?_
      have e : (VX10_puts_2 row p2 p3 μ) = (muX10_puts_1 row p2 p3 μ) := by unfold VX10_puts_2; rw [if_neg (not_not_intro c1)]
      rw [e] at hJ
      exact r_sub [0, 1, 2, 3] rfl hJ
def muX10_putsAll_1 (row : Nat) (p2 : Int32) (μ : Mem) : Mem := (upm μ 57 42 0)
def muX10_putsAll_2 (row : Nat) (p2 : Int32) (μ : Mem) : Mem := (M_X10_puts row ((muX10_putsAll_1 row p2 μ) 57 39) p2 (muX10_putsAll_1 row p2 μ))
def muX10_putsAll_3 (row : Nat) (p2 : Int32) (μ : Mem) : Mem := (upm (muX10_putsAll_2 row p2 μ) 57 39 (F_X10_puts row ((muX10_putsAll_1 row p2 μ) 57 39) p2 (muX10_putsAll_1 row p2 μ)))
def muX10_putsAll_21_1 (row : Nat) (v2 : Int32) (i : Nat) (s : Mem) : Mem := (M_X10_puts row (s 521 (ix (nI i))) v2 s)
def muX10_putsAll_21_2 (row : Nat) (v2 : Int32) (i : Nat) (s : Mem) : Mem := (upm (muX10_putsAll_21_1 row v2 i s) 521 (ix (nI i)) (F_X10_puts row (s 521 (ix (nI i))) v2 s))
def g_X10_putsAll_21 (row : Nat) (v2 : Int32) (i : Nat) (s : Mem) : Mem := (muX10_putsAll_21_2 row v2 i s)
def Pb_X10_putsAll_21 (row : Nat) (v2 : Int32) (i : Nat) (s : Mem) : Prop := ((63 ≤ (nI i) → False) ∧ ((nI i) < 63 → (vp_in (nI i) 63) ∧ (P_X10_puts row (s 521 (ix (nI i))) v2 s) ∧ vp_in (nI i) 63))
set_option maxRecDepth 20000 in
set_option maxHeartbeats 2000000 in
theorem lp_X10_putsAll_21 {G : SG} (hG : GK 548 G) {row : Nat} (hlrow : row < gh G) (hsrow : shp row = (1, 1072, 0)) (v2 : Int32) (s0 : Mem) (N : Nat) (sN : Mem) (eN : sN = fo N (g_X10_putsAll_21 row v2) s0) (hN : ∀ i, i < N → Pb_X10_putsAll_21 row v2 i (fo i (g_X10_putsAll_21 row v2) s0)) {t : Nat} {Q : PQ} {X : PX} (h : R G mX10_putsAll 21 [(0, .ref (ga G 57)), (1, .ref (ga G row)), (2, .int v2), (3, .int (nI N))] [] sN t Q X) : R G mX10_putsAll 21 [(0, .ref (ga G 57)), (1, .ref (ga G row)), (2, .int v2), (3, .int 0)] [] s0 t Q X := by
  subst eN
  refine down_i N (fun i => R G mX10_putsAll 21 [(0, .ref (ga G 57)), (1, .ref (ga G row)), (2, .int v2), (3, .int (nI i))] [] (fo i (g_X10_putsAll_21 row v2) s0) t Q X) h (fun i hi hS => ?_)
  have hP := hN i hi
  rw [fo_succ] at hS
  rw [nI_succ] at hS
  generalize fo i (g_X10_putsAll_21 row v2) s0 = s at hS hP ⊢
  unfold Pb_X10_putsAll_21 at hP
  refine r_iload_n dX10_putsAll_21 3 rfl ?_
  refine r_bipush 63 dX10_putsAll_22 rfl ?_
  refine r_icmp_ge 51 dX10_putsAll_24 (by decide) (fun c1 => ?_) (fun c1 => ?_)
  · replace hP := hP.1 c1
    exact hP.elim
  · replace hP := hP.2 c1
    refine r_aload_n dX10_putsAll_27 0 rfl ?_
    refine r_getR 521 fX10_73 (hG.lt (by decide)) sh57 fs57_31 dX10_putsAll_28 ?_
    refine r_iload_n dX10_putsAll_31 3 rfl ?_
    refine r_aload_n dX10_putsAll_32 0 rfl ?_
    refine r_aload_n dX10_putsAll_33 1 rfl ?_
    refine r_aload_n dX10_putsAll_34 0 rfl ?_
    refine r_getR 521 fX10_73 (hG.lt (by decide)) sh57 fs57_31 dX10_putsAll_35 ?_
    refine r_iload_n dX10_putsAll_38 3 rfl ?_
    have hs1 := hP.1
    replace hP := hP.2
    refine r_iald (hG.lt (by decide)) sh521 hs1 dX10_putsAll_39 ?_
    refine r_iload_n dX10_putsAll_40 2 rfl ?_
    have hs2 := hP.1
    replace hP := hP.2
    refine r_cvI (ok_X10_puts hG hlrow hsrow (s 521 (ix (nI i))) v2 s hs2) lX10_417 (hG.lt (by decide)) sh57 ⟨_, _, rfl⟩ dX10_putsAll_41 (by decide) (Nat.le_of_ble_eq_true rfl) rfl (Nat.le_of_ble_eq_true rfl) ?_
    refine r_mu (muX10_putsAll_21_1 row v2 i s) rfl ?_
    have hs3 := hP
    refine r_iast (hG.lt (by decide)) sh521 hs3 dX10_putsAll_44 ?_
    refine r_mu (muX10_putsAll_21_2 row v2 i s) rfl ?_
    refine r_iinc ((nI i) + 1) [(3, _), (0, _), (1, _), (2, _)] dX10_putsAll_45 3 rfl rfl (Nat.le_of_ble_eq_true rfl) rfl ?_
    refine r_goto 21 dX10_putsAll_48 (by decide) ?_
    have e : g_X10_putsAll_21 row v2 i s = (muX10_putsAll_21_2 row v2 i s) := by unfold g_X10_putsAll_21; rfl
    rw [e] at hS
    exact r_sub [1, 2, 3, 0] rfl hS
def NX10_putsAll_21 (row : Nat) (p2 : Int32) (μ : Mem) : Nat := 63
def SX10_putsAll_21 (row : Nat) (p2 : Int32) (μ : Mem) : Mem := fo (NX10_putsAll_21 row p2 μ) (g_X10_putsAll_21 row p2) (muX10_putsAll_3 row p2 μ)
def muX10_putsAll_62_1 (row : Nat) (v2 : Int32) (v3 : Int32) (i : Nat) (s : Mem) : Mem := (M_X10_puts row (s (527 + (ix v3)) (ix (nI i))) v2 s)
def muX10_putsAll_62_2 (row : Nat) (v2 : Int32) (v3 : Int32) (i : Nat) (s : Mem) : Mem := (upm (muX10_putsAll_62_1 row v2 v3 i s) (527 + (ix v3)) (ix (nI i)) (F_X10_puts row (s (527 + (ix v3)) (ix (nI i))) v2 s))
def g_X10_putsAll_62 (row : Nat) (v2 : Int32) (v3 : Int32) (i : Nat) (s : Mem) : Mem := (muX10_putsAll_62_2 row v2 v3 i s)
def Pb_X10_putsAll_62 (row : Nat) (v2 : Int32) (v3 : Int32) (i : Nat) (s : Mem) : Prop := ((63 ≤ (nI i) → False) ∧ ((nI i) < 63 → (vp_in v3 16) ∧ (vp_in v3 16) ∧ (vp_in (nI i) 63) ∧ (P_X10_puts row (s (527 + (ix v3)) (ix (nI i))) v2 s) ∧ vp_in (nI i) 63))
set_option maxRecDepth 20000 in
set_option maxHeartbeats 2000000 in
theorem lp_X10_putsAll_62 {G : SG} (hG : GK 548 G) {row : Nat} (hlrow : row < gh G) (hsrow : shp row = (1, 1072, 0)) (v2 : Int32) (v3 : Int32) (s0 : Mem) (N : Nat) (sN : Mem) (eN : sN = fo N (g_X10_putsAll_62 row v2 v3) s0) (hN : ∀ i, i < N → Pb_X10_putsAll_62 row v2 v3 i (fo i (g_X10_putsAll_62 row v2 v3) s0)) {t : Nat} {Q : PQ} {X : PX} (h : R G mX10_putsAll 62 [(0, .ref (ga G 57)), (1, .ref (ga G row)), (2, .int v2), (3, .int v3), (4, .int (nI N))] [] sN t Q X) : R G mX10_putsAll 62 [(0, .ref (ga G 57)), (1, .ref (ga G row)), (2, .int v2), (3, .int v3), (4, .int 0)] [] s0 t Q X := by
  subst eN
  refine down_i N (fun i => R G mX10_putsAll 62 [(0, .ref (ga G 57)), (1, .ref (ga G row)), (2, .int v2), (3, .int v3), (4, .int (nI i))] [] (fo i (g_X10_putsAll_62 row v2 v3) s0) t Q X) h (fun i hi hS => ?_)
  have hP := hN i hi
  rw [fo_succ] at hS
  rw [nI_succ] at hS
  generalize fo i (g_X10_putsAll_62 row v2 v3) s0 = s at hS hP ⊢
  unfold Pb_X10_putsAll_62 at hP
  refine r_iload dX10_putsAll_62 4 rfl ?_
  refine r_bipush 63 dX10_putsAll_64 rfl ?_
  refine r_icmp_ge 99 dX10_putsAll_66 (by decide) (fun c1 => ?_) (fun c1 => ?_)
  · replace hP := hP.1 c1
    exact hP.elim
  · replace hP := hP.2 c1
    refine r_aload_n dX10_putsAll_69 0 rfl ?_
    refine r_getR 526 fX10_88 (hG.lt (by decide)) sh57 fs57_36 dX10_putsAll_70 ?_
    refine r_iload_n dX10_putsAll_73 3 rfl ?_
    have hs1 := hP.1
    replace hP := hP.2
    refine r_aald (hG.lt (by decide)) sh526 hs1 dX10_putsAll_74 ?_
    refine r_iload dX10_putsAll_75 4 rfl ?_
    refine r_aload_n dX10_putsAll_77 0 rfl ?_
    refine r_aload_n dX10_putsAll_78 1 rfl ?_
    refine r_aload_n dX10_putsAll_79 0 rfl ?_
    refine r_getR 526 fX10_88 (hG.lt (by decide)) sh57 fs57_36 dX10_putsAll_80 ?_
    refine r_iload_n dX10_putsAll_83 3 rfl ?_
    have hs2 := hP.1
    replace hP := hP.2
    refine r_aald (hG.lt (by decide)) sh526 hs2 dX10_putsAll_84 ?_
    refine r_iload dX10_putsAll_85 4 rfl ?_
    have hs3 := hP.1
    replace hP := hP.2
    refine r_iald (ltR (vp_ix hs2) (by decide) hG) (shr526 _ (vp_ix hs2)) hs3 dX10_putsAll_87 ?_
    refine r_iload_n dX10_putsAll_88 2 rfl ?_
    have hs4 := hP.1
    replace hP := hP.2
    refine r_cvI (ok_X10_puts hG hlrow hsrow (s (527 + (ix v3)) (ix (nI i))) v2 s hs4) lX10_417 (hG.lt (by decide)) sh57 ⟨_, _, rfl⟩ dX10_putsAll_89 (by decide) (Nat.le_of_ble_eq_true rfl) rfl (Nat.le_of_ble_eq_true rfl) ?_
    refine r_mu (muX10_putsAll_62_1 row v2 v3 i s) rfl ?_
    have hs5 := hP
    refine r_iast (ltR (vp_ix hs1) (by decide) hG) (shr526 _ (vp_ix hs1)) hs5 dX10_putsAll_92 ?_
    refine r_mu (muX10_putsAll_62_2 row v2 v3 i s) rfl ?_
    refine r_iinc ((nI i) + 1) [(4, _), (0, _), (1, _), (2, _), (3, _)] dX10_putsAll_93 4 rfl rfl (Nat.le_of_ble_eq_true rfl) rfl ?_
    refine r_goto 62 dX10_putsAll_96 (by decide) ?_
    have e : g_X10_putsAll_62 row v2 v3 i s = (muX10_putsAll_62_2 row v2 v3 i s) := by unfold g_X10_putsAll_62; rfl
    rw [e] at hS
    exact r_sub [1, 2, 3, 4, 0] rfl hS
def NX10_putsAll_53_62 (row : Nat) (v2 : Int32) (i : Nat) (s : Mem) : Nat := 63
def SX10_putsAll_53_62 (row : Nat) (v2 : Int32) (i : Nat) (s : Mem) : Mem := fo (NX10_putsAll_53_62 row v2 i s) (g_X10_putsAll_62 row v2 (nI i)) s
def muX10_putsAll_53_1 (row : Nat) (v2 : Int32) (i : Nat) (s : Mem) : Mem := (M_X10_puts row ((SX10_putsAll_53_62 row v2 i s) (527 + (ix (nI i))) (ix (nI (NX10_putsAll_53_62 row v2 i s)))) v2 (SX10_putsAll_53_62 row v2 i s))
def muX10_putsAll_53_2 (row : Nat) (v2 : Int32) (i : Nat) (s : Mem) : Mem := (upm (muX10_putsAll_53_1 row v2 i s) (527 + (ix (nI i))) (ix (nI (NX10_putsAll_53_62 row v2 i s))) (F_X10_puts row ((SX10_putsAll_53_62 row v2 i s) (527 + (ix (nI i))) (ix (nI (NX10_putsAll_53_62 row v2 i s)))) v2 (SX10_putsAll_53_62 row v2 i s)))
def g_X10_putsAll_53 (row : Nat) (v2 : Int32) (i : Nat) (s : Mem) : Mem := (SX10_putsAll_53_62 row v2 i s)
def Pb_X10_putsAll_53 (row : Nat) (v2 : Int32) (i : Nat) (s : Mem) : Prop := ((16 ≤ (nI i) → False) ∧ ((nI i) < 16 → (∀ j9, j9 < (NX10_putsAll_53_62 row v2 i s) → Pb_X10_putsAll_62 row v2 (nI i) j9 (fo j9 (g_X10_putsAll_62 row v2 (nI i)) s)) ∧ ((63 ≤ (nI (NX10_putsAll_53_62 row v2 i s)) → True) ∧ ((nI (NX10_putsAll_53_62 row v2 i s)) < 63 → (vp_in (nI i) 16) ∧ (vp_in (nI i) 16) ∧ (vp_in (nI (NX10_putsAll_53_62 row v2 i s)) 63) ∧ (P_X10_puts row ((SX10_putsAll_53_62 row v2 i s) (527 + (ix (nI i))) (ix (nI (NX10_putsAll_53_62 row v2 i s)))) v2 (SX10_putsAll_53_62 row v2 i s)) ∧ (vp_in (nI (NX10_putsAll_53_62 row v2 i s)) 63) ∧ False))))
set_option maxRecDepth 20000 in
set_option maxHeartbeats 2000000 in
theorem lp_X10_putsAll_53 {G : SG} (hG : GK 548 G) {row : Nat} (hlrow : row < gh G) (hsrow : shp row = (1, 1072, 0)) (v2 : Int32) (s0 : Mem) (N : Nat) (sN : Mem) (eN : sN = fo N (g_X10_putsAll_53 row v2) s0) (hN : ∀ i, i < N → Pb_X10_putsAll_53 row v2 i (fo i (g_X10_putsAll_53 row v2) s0)) {t : Nat} {Q : PQ} {X : PX} (h : R G mX10_putsAll 53 [(0, .ref (ga G 57)), (1, .ref (ga G row)), (2, .int v2), (3, .int (nI N))] [] sN t Q X) : R G mX10_putsAll 53 [(0, .ref (ga G 57)), (1, .ref (ga G row)), (2, .int v2), (3, .int 0)] [] s0 t Q X := by
  subst eN
  refine down_i N (fun i => R G mX10_putsAll 53 [(0, .ref (ga G 57)), (1, .ref (ga G row)), (2, .int v2), (3, .int (nI i))] [] (fo i (g_X10_putsAll_53 row v2) s0) t Q X) h (fun i hi hS => ?_)
  have hP := hN i hi
  rw [fo_succ] at hS
  rw [nI_succ] at hS
  generalize fo i (g_X10_putsAll_53 row v2) s0 = s at hS hP ⊢
  unfold Pb_X10_putsAll_53 at hP
  refine r_iload_n dX10_putsAll_53 3 rfl ?_
  refine r_bipush 16 dX10_putsAll_54 rfl ?_
  refine r_icmp_ge 105 dX10_putsAll_56 (by decide) (fun c1 => ?_) (fun c1 => ?_)
  · replace hP := hP.1 c1
    exact hP.elim
  · replace hP := hP.2 c1
    refine r_iconst 0 dX10_putsAll_59 rfl ?_
    refine r_istore [(4, _), (0, _), (1, _), (2, _), (3, _)] dX10_putsAll_60 (Nat.le_of_ble_eq_true rfl) rfl ?_
    have hs1 := hP.1
    replace hP := hP.2
    refine r_sub [1, 2, 3, 4, 0] rfl ?_
    refine lp_X10_putsAll_62 hG hlrow hsrow v2 (nI i) s ((NX10_putsAll_53_62 row v2 i s)) (SX10_putsAll_53_62 row v2 i s) rfl hs1 ?_
    refine r_iload dX10_putsAll_62 4 rfl ?_
    refine r_bipush 63 dX10_putsAll_64 rfl ?_
    refine r_icmp_ge 99 dX10_putsAll_66 (by decide) (fun c2 => ?_) (fun c2 => ?_)
    · replace hP := hP.1 c2
      refine r_iinc ((nI i) + 1) [(3, _), (0, _), (1, _), (2, _), (4, _)] dX10_putsAll_99 3 rfl rfl (Nat.le_of_ble_eq_true rfl) rfl ?_
      refine r_goto 53 dX10_putsAll_102 (by decide) ?_
      have e : g_X10_putsAll_53 row v2 i s = (SX10_putsAll_53_62 row v2 i s) := by unfold g_X10_putsAll_53; rfl
      rw [e] at hS
      exact r_sub [1, 2, 3, 0] rfl hS
    · replace hP := hP.2 c2
      refine r_aload_n dX10_putsAll_69 0 rfl ?_
      refine r_getR 526 fX10_88 (hG.lt (by decide)) sh57 fs57_36 dX10_putsAll_70 ?_
      refine r_iload_n dX10_putsAll_73 3 rfl ?_
      have hs7 := hP.1
      replace hP := hP.2
      refine r_aald (hG.lt (by decide)) sh526 hs7 dX10_putsAll_74 ?_
      refine r_iload dX10_putsAll_75 4 rfl ?_
      refine r_aload_n dX10_putsAll_77 0 rfl ?_
      refine r_aload_n dX10_putsAll_78 1 rfl ?_
      refine r_aload_n dX10_putsAll_79 0 rfl ?_
      refine r_getR 526 fX10_88 (hG.lt (by decide)) sh57 fs57_36 dX10_putsAll_80 ?_
      refine r_iload_n dX10_putsAll_83 3 rfl ?_
      have hs8 := hP.1
      replace hP := hP.2
      refine r_aald (hG.lt (by decide)) sh526 hs8 dX10_putsAll_84 ?_
      refine r_iload dX10_putsAll_85 4 rfl ?_
      have hs9 := hP.1
      replace hP := hP.2
      refine r_iald (ltR (vp_ix hs8) (by decide) hG) (shr526 _ (vp_ix hs8)) hs9 dX10_putsAll_87 ?_
      refine r_iload_n dX10_putsAll_88 2 rfl ?_
      have hs10 := hP.1
      replace hP := hP.2
      refine r_cvI (ok_X10_puts hG hlrow hsrow ((SX10_putsAll_53_62 row v2 i s) (527 + (ix (nI i))) (ix (nI (NX10_putsAll_53_62 row v2 i s)))) v2 (SX10_putsAll_53_62 row v2 i s) hs10) lX10_417 (hG.lt (by decide)) sh57 ⟨_, _, rfl⟩ dX10_putsAll_89 (by decide) (Nat.le_of_ble_eq_true rfl) rfl (Nat.le_of_ble_eq_true rfl) ?_
      refine r_mu (muX10_putsAll_53_1 row v2 i s) rfl ?_
      have hs11 := hP.1
      replace hP := hP.2
      refine r_iast (ltR (vp_ix hs7) (by decide) hG) (shr526 _ (vp_ix hs7)) hs11 dX10_putsAll_92 ?_
      refine r_mu (muX10_putsAll_53_2 row v2 i s) rfl ?_
      refine r_iinc ((nI (NX10_putsAll_53_62 row v2 i s)) + 1) [(4, _), (0, _), (1, _), (2, _), (3, _)] dX10_putsAll_93 4 rfl rfl (Nat.le_of_ble_eq_true rfl) rfl ?_
      refine r_goto 62 dX10_putsAll_96 (by decide) ?_
      exact hP.elim
def NX10_putsAll_53 (row : Nat) (p2 : Int32) (μ : Mem) : Nat := 16
def SX10_putsAll_53 (row : Nat) (p2 : Int32) (μ : Mem) : Mem := fo (NX10_putsAll_53 row p2 μ) (g_X10_putsAll_53 row p2) (SX10_putsAll_21 row p2 μ)
def NX10_putsAll_62 (row : Nat) (p2 : Int32) (μ : Mem) : Nat := 63
def SX10_putsAll_62 (row : Nat) (p2 : Int32) (μ : Mem) : Mem := fo (NX10_putsAll_62 row p2 μ) (g_X10_putsAll_62 row p2 (nI (NX10_putsAll_53 row p2 μ))) (SX10_putsAll_53 row p2 μ)
def muX10_putsAll_4 (row : Nat) (p2 : Int32) (μ : Mem) : Mem := (M_X10_puts row ((SX10_putsAll_62 row p2 μ) (527 + (ix (nI (NX10_putsAll_53 row p2 μ)))) (ix (nI (NX10_putsAll_62 row p2 μ)))) p2 (SX10_putsAll_62 row p2 μ))
def muX10_putsAll_5 (row : Nat) (p2 : Int32) (μ : Mem) : Mem := (upm (muX10_putsAll_4 row p2 μ) (527 + (ix (nI (NX10_putsAll_53 row p2 μ)))) (ix (nI (NX10_putsAll_62 row p2 μ))) (F_X10_puts row ((SX10_putsAll_62 row p2 μ) (527 + (ix (nI (NX10_putsAll_53 row p2 μ)))) (ix (nI (NX10_putsAll_62 row p2 μ)))) p2 (SX10_putsAll_62 row p2 μ)))
def muX10_putsAll_6 (row : Nat) (p2 : Int32) (μ : Mem) : Mem := (M_X10_puts row ((SX10_putsAll_21 row p2 μ) 521 (ix (nI (NX10_putsAll_21 row p2 μ)))) p2 (SX10_putsAll_21 row p2 μ))
def muX10_putsAll_7 (row : Nat) (p2 : Int32) (μ : Mem) : Mem := (upm (muX10_putsAll_6 row p2 μ) 521 (ix (nI (NX10_putsAll_21 row p2 μ))) (F_X10_puts row ((SX10_putsAll_21 row p2 μ) 521 (ix (nI (NX10_putsAll_21 row p2 μ)))) p2 (SX10_putsAll_21 row p2 μ)))
def M_X10_putsAll (row : Nat) (p2 : Int32) (μ : Mem) : Mem := (SX10_putsAll_53 row p2 μ)
def P_X10_putsAll (row : Nat) (p2 : Int32) (μ : Mem) : Prop := ((P_X10_puts row ((muX10_putsAll_1 row p2 μ) 57 39) p2 (muX10_putsAll_1 row p2 μ)) ∧ ((∀ j9, j9 < (NX10_putsAll_21 row p2 μ) → Pb_X10_putsAll_21 row p2 j9 (fo j9 (g_X10_putsAll_21 row p2) (muX10_putsAll_3 row p2 μ))) ∧ ((63 ≤ (nI (NX10_putsAll_21 row p2 μ)) → ((∀ j9, j9 < (NX10_putsAll_53 row p2 μ) → Pb_X10_putsAll_53 row p2 j9 (fo j9 (g_X10_putsAll_53 row p2) (SX10_putsAll_21 row p2 μ))) ∧ ((16 ≤ (nI (NX10_putsAll_53 row p2 μ)) → True) ∧ ((nI (NX10_putsAll_53 row p2 μ)) < 16 → ((∀ j9, j9 < (NX10_putsAll_62 row p2 μ) → Pb_X10_putsAll_62 row p2 (nI (NX10_putsAll_53 row p2 μ)) j9 (fo j9 (g_X10_putsAll_62 row p2 (nI (NX10_putsAll_53 row p2 μ))) (SX10_putsAll_53 row p2 μ))) ∧ ((63 ≤ (nI (NX10_putsAll_62 row p2 μ)) → False) ∧ ((nI (NX10_putsAll_62 row p2 μ)) < 63 → ((vp_in (nI (NX10_putsAll_53 row p2 μ)) 16) ∧ ((vp_in (nI (NX10_putsAll_53 row p2 μ)) 16) ∧ ((vp_in (nI (NX10_putsAll_62 row p2 μ)) 63) ∧ ((P_X10_puts row ((SX10_putsAll_62 row p2 μ) (527 + (ix (nI (NX10_putsAll_53 row p2 μ)))) (ix (nI (NX10_putsAll_62 row p2 μ)))) p2 (SX10_putsAll_62 row p2 μ)) ∧ ((vp_in (nI (NX10_putsAll_62 row p2 μ)) 63) ∧ False)))))))))))) ∧ ((nI (NX10_putsAll_21 row p2 μ)) < 63 → ((vp_in (nI (NX10_putsAll_21 row p2 μ)) 63) ∧ ((P_X10_puts row ((SX10_putsAll_21 row p2 μ) 521 (ix (nI (NX10_putsAll_21 row p2 μ)))) p2 (SX10_putsAll_21 row p2 μ)) ∧ ((vp_in (nI (NX10_putsAll_21 row p2 μ)) 63) ∧ False)))))))
set_option maxRecDepth 20000 in
set_option maxHeartbeats 2000000 in
theorem ok_X10_putsAll {G : SG} (hG : GK 548 G) {row : Nat} (hlrow : row < gh G) (hsrow : shp row = (1, 1072, 0)) (p2 : Int32) (μ : Mem) (hP : P_X10_putsAll row p2 μ) : OkF G mX10_putsAll [.ref (ga G 57), .ref (ga G row), .int p2] μ none (M_X10_putsAll row p2 μ) := by
  refine okF_of hG rfl rfl (Nat.le_of_ble_eq_true rfl) ?_
  unfold P_X10_putsAll at hP
  refine r_aload_n dX10_putsAll_0 0 rfl ?_
  refine r_iconst 0 dX10_putsAll_1 rfl ?_
  refine r_put fiX10_414 (hG.lt (by decide)) sh57 fs57_42 dX10_putsAll_2 ?_
  refine r_mu (muX10_putsAll_1 row p2 μ) rfl ?_
  refine r_aload_n dX10_putsAll_5 0 rfl ?_
  refine r_aload_n dX10_putsAll_6 0 rfl ?_
  refine r_aload_n dX10_putsAll_7 1 rfl ?_
  refine r_aload_n dX10_putsAll_8 0 rfl ?_
  refine r_getI fX10_212 (hG.lt (by decide)) sh57 fs57_39 dX10_putsAll_9 ?_
  refine r_iload_n dX10_putsAll_12 2 rfl ?_
  have hs1 := hP.1
  replace hP := hP.2
  refine r_cvI (ok_X10_puts hG hlrow hsrow ((muX10_putsAll_1 row p2 μ) 57 39) p2 (muX10_putsAll_1 row p2 μ) hs1) lX10_417 (hG.lt (by decide)) sh57 ⟨_, _, rfl⟩ dX10_putsAll_13 (by decide) (Nat.le_of_ble_eq_true rfl) rfl (Nat.le_of_ble_eq_true rfl) ?_
  refine r_mu (muX10_putsAll_2 row p2 μ) rfl ?_
  refine r_put fiX10_212 (hG.lt (by decide)) sh57 fs57_39 dX10_putsAll_16 ?_
  refine r_mu (muX10_putsAll_3 row p2 μ) rfl ?_
  refine r_iconst 0 dX10_putsAll_19 rfl ?_
  refine r_istore_n [(3, _), (0, _), (1, _), (2, _)] dX10_putsAll_20 (Nat.le_of_ble_eq_true rfl) rfl ?_
  have hs2 := hP.1
  replace hP := hP.2
  refine r_sub [1, 2, 3, 0] rfl ?_
  refine lp_X10_putsAll_21 hG hlrow hsrow p2 (muX10_putsAll_3 row p2 μ) ((NX10_putsAll_21 row p2 μ)) (SX10_putsAll_21 row p2 μ) rfl hs2 ?_
  refine r_iload_n dX10_putsAll_21 3 rfl ?_
  refine r_bipush 63 dX10_putsAll_22 rfl ?_
  refine r_icmp_ge 51 dX10_putsAll_24 (by decide) (fun c1 => ?_) (fun c1 => ?_)
  · replace hP := hP.1 c1
    refine r_iconst 0 dX10_putsAll_51 rfl ?_
    refine r_istore_n [(3, _), (0, _), (1, _), (2, _)] dX10_putsAll_52 (Nat.le_of_ble_eq_true rfl) rfl ?_
    have hs6 := hP.1
    replace hP := hP.2
    refine r_sub [1, 2, 3, 0] rfl ?_
    refine lp_X10_putsAll_53 hG hlrow hsrow p2 (SX10_putsAll_21 row p2 μ) ((NX10_putsAll_53 row p2 μ)) (SX10_putsAll_53 row p2 μ) rfl hs6 ?_
    refine r_iload_n dX10_putsAll_53 3 rfl ?_
    refine r_bipush 16 dX10_putsAll_54 rfl ?_
    refine r_icmp_ge 105 dX10_putsAll_56 (by decide) (fun c2 => ?_) (fun c2 => ?_)
    · replace hP := hP.1 c2
      exact r_return dX10_putsAll_105 rfl ⟨rfl, rfl⟩
    · replace hP := hP.2 c2
      refine r_iconst 0 dX10_putsAll_59 rfl ?_
      refine r_istore [(4, _), (0, _), (1, _), (2, _), (3, _)] dX10_putsAll_60 (Nat.le_of_ble_eq_true rfl) rfl ?_
      have hs7 := hP.1
      replace hP := hP.2
      refine r_sub [1, 2, 3, 4, 0] rfl ?_
      refine lp_X10_putsAll_62 hG hlrow hsrow p2 (nI (NX10_putsAll_53 row p2 μ)) (SX10_putsAll_53 row p2 μ) ((NX10_putsAll_62 row p2 μ)) (SX10_putsAll_62 row p2 μ) rfl hs7 ?_
      refine r_iload dX10_putsAll_62 4 rfl ?_
      refine r_bipush 63 dX10_putsAll_64 rfl ?_
      refine r_icmp_ge 99 dX10_putsAll_66 (by decide) (fun c3 => ?_) (fun c3 => ?_)
      · replace hP := hP.1 c3
        refine r_iinc ((nI (NX10_putsAll_53 row p2 μ)) + 1) [(3, _), (0, _), (1, _), (2, _), (4, _)] dX10_putsAll_99 3 rfl rfl (Nat.le_of_ble_eq_true rfl) rfl ?_
        refine r_goto 53 dX10_putsAll_102 (by decide) ?_
        exact hP.elim
      · replace hP := hP.2 c3
        refine r_aload_n dX10_putsAll_69 0 rfl ?_
        refine r_getR 526 fX10_88 (hG.lt (by decide)) sh57 fs57_36 dX10_putsAll_70 ?_
        refine r_iload_n dX10_putsAll_73 3 rfl ?_
        have hs13 := hP.1
        replace hP := hP.2
        refine r_aald (hG.lt (by decide)) sh526 hs13 dX10_putsAll_74 ?_
        refine r_iload dX10_putsAll_75 4 rfl ?_
        refine r_aload_n dX10_putsAll_77 0 rfl ?_
        refine r_aload_n dX10_putsAll_78 1 rfl ?_
        refine r_aload_n dX10_putsAll_79 0 rfl ?_
        refine r_getR 526 fX10_88 (hG.lt (by decide)) sh57 fs57_36 dX10_putsAll_80 ?_
        refine r_iload_n dX10_putsAll_83 3 rfl ?_
        have hs14 := hP.1
        replace hP := hP.2
        refine r_aald (hG.lt (by decide)) sh526 hs14 dX10_putsAll_84 ?_
        refine r_iload dX10_putsAll_85 4 rfl ?_
        have hs15 := hP.1
        replace hP := hP.2
        refine r_iald (ltR (vp_ix hs14) (by decide) hG) (shr526 _ (vp_ix hs14)) hs15 dX10_putsAll_87 ?_
        refine r_iload_n dX10_putsAll_88 2 rfl ?_
        have hs16 := hP.1
        replace hP := hP.2
        refine r_cvI (ok_X10_puts hG hlrow hsrow ((SX10_putsAll_62 row p2 μ) (527 + (ix (nI (NX10_putsAll_53 row p2 μ)))) (ix (nI (NX10_putsAll_62 row p2 μ)))) p2 (SX10_putsAll_62 row p2 μ) hs16) lX10_417 (hG.lt (by decide)) sh57 ⟨_, _, rfl⟩ dX10_putsAll_89 (by decide) (Nat.le_of_ble_eq_true rfl) rfl (Nat.le_of_ble_eq_true rfl) ?_
        refine r_mu (muX10_putsAll_4 row p2 μ) rfl ?_
        have hs17 := hP.1
        replace hP := hP.2
        refine r_iast (ltR (vp_ix hs13) (by decide) hG) (shr526 _ (vp_ix hs13)) hs17 dX10_putsAll_92 ?_
        refine r_mu (muX10_putsAll_5 row p2 μ) rfl ?_
        refine r_iinc ((nI (NX10_putsAll_62 row p2 μ)) + 1) [(4, _), (0, _), (1, _), (2, _), (3, _)] dX10_putsAll_93 4 rfl rfl (Nat.le_of_ble_eq_true rfl) rfl ?_
        refine r_goto 62 dX10_putsAll_96 (by decide) ?_
        exact hP.elim
  · replace hP := hP.2 c1
    refine r_aload_n dX10_putsAll_27 0 rfl ?_
    refine r_getR 521 fX10_73 (hG.lt (by decide)) sh57 fs57_31 dX10_putsAll_28 ?_
    refine r_iload_n dX10_putsAll_31 3 rfl ?_
    refine r_aload_n dX10_putsAll_32 0 rfl ?_
    refine r_aload_n dX10_putsAll_33 1 rfl ?_
    refine r_aload_n dX10_putsAll_34 0 rfl ?_
    refine r_getR 521 fX10_73 (hG.lt (by decide)) sh57 fs57_31 dX10_putsAll_35 ?_
    refine r_iload_n dX10_putsAll_38 3 rfl ?_
    have hs18 := hP.1
    replace hP := hP.2
    refine r_iald (hG.lt (by decide)) sh521 hs18 dX10_putsAll_39 ?_
    refine r_iload_n dX10_putsAll_40 2 rfl ?_
    have hs19 := hP.1
    replace hP := hP.2
    refine r_cvI (ok_X10_puts hG hlrow hsrow ((SX10_putsAll_21 row p2 μ) 521 (ix (nI (NX10_putsAll_21 row p2 μ)))) p2 (SX10_putsAll_21 row p2 μ) hs19) lX10_417 (hG.lt (by decide)) sh57 ⟨_, _, rfl⟩ dX10_putsAll_41 (by decide) (Nat.le_of_ble_eq_true rfl) rfl (Nat.le_of_ble_eq_true rfl) ?_
    refine r_mu (muX10_putsAll_6 row p2 μ) rfl ?_
    have hs20 := hP.1
    replace hP := hP.2
    refine r_iast (hG.lt (by decide)) sh521 hs20 dX10_putsAll_44 ?_
    refine r_mu (muX10_putsAll_7 row p2 μ) rfl ?_
    refine r_iinc ((nI (NX10_putsAll_21 row p2 μ)) + 1) [(3, _), (0, _), (1, _), (2, _)] dX10_putsAll_45 3 rfl rfl (Nat.le_of_ble_eq_true rfl) rfl ?_
    refine r_goto 21 dX10_putsAll_48 (by decide) ?_
    exact hP.elim
def muX10_image_1 (μ : Mem) : Mem := (upm μ 57 0 0)
def muX10_image_2 (μ : Mem) : Mem := (M_X10_putsAll (544 + (ix ((muX10_image_1 μ) 57 41))) 0 (muX10_image_1 μ))
def muX10_image_3 (μ : Mem) : Mem := (upm (muX10_image_2 μ) 57 41 (((muX10_image_2 μ) 57 41) + 1))
def F_X10_image  (μ : Mem) : Int32 := (if ((muX10_image_1 μ) 57 41) ≠ 3 then ((muX10_image_3 μ) 57 41) else (-1))
def M_X10_image  (μ : Mem) : Mem := (if ((muX10_image_1 μ) 57 41) ≠ 3 then (muX10_image_3 μ) else (muX10_image_1 μ))
def P_X10_image  (μ : Mem) : Prop := ((((muX10_image_1 μ) 57 41) ≠ 3 → ((vp_in ((muX10_image_1 μ) 57 41) 3) ∧ (P_X10_putsAll (544 + (ix ((muX10_image_1 μ) 57 41))) 0 (muX10_image_1 μ)))) ∧ (((muX10_image_1 μ) 57 41) = 3 → True))
set_option maxRecDepth 20000 in
set_option maxHeartbeats 2000000 in
theorem ok_X10_image {G : SG} (hG : GK 548 G)  (μ : Mem) (hP : P_X10_image  μ) : OkF G mX10_image [.ref (ga G 57)] μ (some (.int (F_X10_image  μ))) (M_X10_image  μ) := by
  refine okF_of hG rfl rfl (Nat.le_of_ble_eq_true rfl) ?_
  unfold P_X10_image at hP
  refine r_aload_n dX10_image_0 0 rfl ?_
  refine r_iconst 0 dX10_image_1 rfl ?_
  refine r_put fiX10_103 (hG.lt (by decide)) sh57 fs57_0 dX10_image_2 ?_
  refine r_mu (muX10_image_1 μ) rfl ?_
  refine r_aload_n dX10_image_5 0 rfl ?_
  refine r_getI fX10_218 (hG.lt (by decide)) sh57 fs57_41 dX10_image_6 ?_
  refine r_iconst 3 dX10_image_9 rfl ?_
  refine r_icmp_ne 15 dX10_image_10 (by decide) (fun c1 => ?_) (fun c1 => ?_)
  · replace hP := hP.1 c1
    refine r_aload_n dX10_image_15 0 rfl ?_
    refine r_aload_n dX10_image_16 0 rfl ?_
    refine r_getR 543 fX10_91 (hG.lt (by decide)) sh57 fs57_37 dX10_image_17 ?_
    refine r_aload_n dX10_image_20 0 rfl ?_
    refine r_getI fX10_218 (hG.lt (by decide)) sh57 fs57_41 dX10_image_21 ?_
    have hs1 := hP.1
    replace hP := hP.2
    refine r_aald (hG.lt (by decide)) sh543 hs1 dX10_image_24 ?_
    refine r_iconst 0 dX10_image_25 rfl ?_
    have hs2 := hP
    refine r_cvV (ok_X10_putsAll hG (ltR (vp_ix hs1) (by decide) hG) (shr543 _ (vp_ix hs1)) 0 (muX10_image_1 μ) hs2) lX10_421 (hG.lt (by decide)) sh57 ⟨_, _, rfl⟩ dX10_image_26 (by decide) (Nat.le_of_ble_eq_true rfl) rfl (Nat.le_of_ble_eq_true rfl) ?_
    refine r_mu (muX10_image_2 μ) rfl ?_
    refine r_aload_n dX10_image_29 0 rfl ?_
    refine r_dup dX10_image_30 rfl ?_
    refine r_getI fX10_218 (hG.lt (by decide)) sh57 fs57_41 dX10_image_31 ?_
    refine r_iconst 1 dX10_image_34 rfl ?_
    refine r_iadd dX10_image_35 ?_
    refine r_put fiX10_218 (hG.lt (by decide)) sh57 fs57_41 dX10_image_36 ?_
    refine r_mu (muX10_image_3 μ) rfl ?_
    refine r_aload_n dX10_image_39 0 rfl ?_
    refine r_getI fX10_218 (hG.lt (by decide)) sh57 fs57_41 dX10_image_40 ?_
    exact r_ireturn _ dX10_image_43 rfl rfl ⟨congrArg (fun z => some (Value.int z)) (by unfold F_X10_image; rw [if_pos c1]), by unfold M_X10_image; rw [if_pos c1]⟩
  · replace hP := hP.2 c1
    refine r_iconst (-1) dX10_image_13 rfl ?_
    exact r_ireturn _ dX10_image_14 rfl rfl ⟨congrArg (fun z => some (Value.int z)) (by unfold F_X10_image; rw [if_neg (not_not_intro c1)]), by unfold M_X10_image; rw [if_neg (not_not_intro c1)]⟩
def muX10_restore_1 (μ : Mem) : Mem := (upm μ 57 0 0)
def muX10_restore_2 (μ : Mem) : Mem := (upm (muX10_restore_1 μ) 57 41 (((muX10_restore_1 μ) 57 41) - 1))
def muX10_restore_3 (μ : Mem) : Mem := (M_X10_putsAll (544 + (ix ((muX10_restore_2 μ) 57 41))) 1 (muX10_restore_2 μ))
def muX10_restore_4 (μ : Mem) : Mem := (upm (muX10_restore_3 μ) 57 40 0)
def F_X10_restore  (μ : Mem) : Int32 := (if ((muX10_restore_1 μ) 57 41) ≠ 0 then ((muX10_restore_4 μ) 57 41) else (-1))
def M_X10_restore  (μ : Mem) : Mem := (if ((muX10_restore_1 μ) 57 41) ≠ 0 then (muX10_restore_4 μ) else (muX10_restore_1 μ))
def P_X10_restore  (μ : Mem) : Prop := ((((muX10_restore_1 μ) 57 41) ≠ 0 → ((vp_in ((muX10_restore_2 μ) 57 41) 3) ∧ (P_X10_putsAll (544 + (ix ((muX10_restore_2 μ) 57 41))) 1 (muX10_restore_2 μ)))) ∧ (((muX10_restore_1 μ) 57 41) = 0 → True))
set_option maxRecDepth 20000 in
set_option maxHeartbeats 2000000 in
theorem ok_X10_restore {G : SG} (hG : GK 548 G)  (μ : Mem) (hP : P_X10_restore  μ) : OkF G mX10_restore [.ref (ga G 57)] μ (some (.int (F_X10_restore  μ))) (M_X10_restore  μ) := by
  refine okF_of hG rfl rfl (Nat.le_of_ble_eq_true rfl) ?_
  unfold P_X10_restore at hP
  refine r_aload_n dX10_restore_0 0 rfl ?_
  refine r_iconst 0 dX10_restore_1 rfl ?_
  refine r_put fiX10_103 (hG.lt (by decide)) sh57 fs57_0 dX10_restore_2 ?_
  refine r_mu (muX10_restore_1 μ) rfl ?_
  refine r_aload_n dX10_restore_5 0 rfl ?_
  refine r_getI fX10_218 (hG.lt (by decide)) sh57 fs57_41 dX10_restore_6 ?_
  refine r_if_ne 14 dX10_restore_9 (by decide) (fun c1 => ?_) (fun c1 => ?_)
  · replace hP := hP.1 c1
    refine r_aload_n dX10_restore_14 0 rfl ?_
    refine r_dup dX10_restore_15 rfl ?_
    refine r_getI fX10_218 (hG.lt (by decide)) sh57 fs57_41 dX10_restore_16 ?_
    refine r_iconst 1 dX10_restore_19 rfl ?_
    refine r_isub dX10_restore_20 ?_
    refine r_put fiX10_218 (hG.lt (by decide)) sh57 fs57_41 dX10_restore_21 ?_
    refine r_mu (muX10_restore_2 μ) rfl ?_
    refine r_aload_n dX10_restore_24 0 rfl ?_
    refine r_aload_n dX10_restore_25 0 rfl ?_
    refine r_getR 543 fX10_91 (hG.lt (by decide)) sh57 fs57_37 dX10_restore_26 ?_
    refine r_aload_n dX10_restore_29 0 rfl ?_
    refine r_getI fX10_218 (hG.lt (by decide)) sh57 fs57_41 dX10_restore_30 ?_
    have hs1 := hP.1
    replace hP := hP.2
    refine r_aald (hG.lt (by decide)) sh543 hs1 dX10_restore_33 ?_
    refine r_iconst 1 dX10_restore_34 rfl ?_
    have hs2 := hP
    refine r_cvV (ok_X10_putsAll hG (ltR (vp_ix hs1) (by decide) hG) (shr543 _ (vp_ix hs1)) 1 (muX10_restore_2 μ) hs2) lX10_421 (hG.lt (by decide)) sh57 ⟨_, _, rfl⟩ dX10_restore_35 (by decide) (Nat.le_of_ble_eq_true rfl) rfl (Nat.le_of_ble_eq_true rfl) ?_
    refine r_mu (muX10_restore_3 μ) rfl ?_
    refine r_aload_n dX10_restore_38 0 rfl ?_
    refine r_iconst 0 dX10_restore_39 rfl ?_
    refine r_put fiX10_215 (hG.lt (by decide)) sh57 fs57_40 dX10_restore_40 ?_
    refine r_mu (muX10_restore_4 μ) rfl ?_
    refine r_aload_n dX10_restore_43 0 rfl ?_
    refine r_getI fX10_218 (hG.lt (by decide)) sh57 fs57_41 dX10_restore_44 ?_
    exact r_ireturn _ dX10_restore_47 rfl rfl ⟨congrArg (fun z => some (Value.int z)) (by unfold F_X10_restore; rw [if_pos c1]), by unfold M_X10_restore; rw [if_pos c1]⟩
  · replace hP := hP.2 c1
    refine r_iconst (-1) dX10_restore_12 rfl ?_
    exact r_ireturn _ dX10_restore_13 rfl rfl ⟨congrArg (fun z => some (Value.int z)) (by unfold F_X10_restore; rw [if_neg (not_not_intro c1)]), by unfold M_X10_restore; rw [if_neg (not_not_intro c1)]⟩
def muX10_status_1 (p1 : Int32) (μ : Mem) : Mem := (upm μ 57 0 0)
def F_X10_status (p1 : Int32) (μ : Mem) : Int32 := (if (F_X10_isIn p1 0 1 (muX10_status_1 p1 μ)) = 0 then (-1) else ((muX10_status_1 p1 μ) 59 (ix p1)))
def M_X10_status (p1 : Int32) (μ : Mem) : Mem := (muX10_status_1 p1 μ)
def P_X10_status (p1 : Int32) (μ : Mem) : Prop := (((F_X10_isIn p1 0 1 (muX10_status_1 p1 μ)) = 0 → True) ∧ (¬ (F_X10_isIn p1 0 1 (muX10_status_1 p1 μ)) = 0 → (vp_in p1 2)))
set_option maxRecDepth 20000 in
set_option maxHeartbeats 2000000 in
theorem ok_X10_status {G : SG} (hG : GK 548 G) (p1 : Int32) (μ : Mem) (hP : P_X10_status p1 μ) : OkF G mX10_status [.ref (ga G 57), .int p1] μ (some (.int (F_X10_status p1 μ))) (M_X10_status p1 μ) := by
  refine okF_of hG rfl rfl (Nat.le_of_ble_eq_true rfl) ?_
  unfold P_X10_status at hP
  refine r_aload_n dX10_status_0 0 rfl ?_
  refine r_iconst 0 dX10_status_1 rfl ?_
  refine r_put fiX10_103 (hG.lt (by decide)) sh57 fs57_0 dX10_status_2 ?_
  refine r_mu (muX10_status_1 p1 μ) rfl ?_
  refine r_iload_n dX10_status_5 1 rfl ?_
  refine r_iconst 0 dX10_status_6 rfl ?_
  refine r_iconst 1 dX10_status_7 rfl ?_
  refine r_csI (ok_X10_isIn hG p1 0 1 (muX10_status_1 p1 μ)) lX10_137 dX10_status_8 (by decide) (Nat.le_of_ble_eq_true rfl) rfl (Nat.le_of_ble_eq_true rfl) ?_
  refine r_if_eq 23 dX10_status_11 (by decide) (fun c1 => ?_) (fun c1 => ?_)
  · replace hP := hP.1 c1
    refine r_iconst (-1) dX10_status_23 rfl ?_
    exact r_ireturn _ dX10_status_24 rfl rfl ⟨congrArg (fun z => some (Value.int z)) (by unfold F_X10_status; rw [if_pos c1]), rfl⟩
  · replace hP := hP.2 c1
    refine r_aload_n dX10_status_14 0 rfl ?_
    refine r_getR 59 fX10_17 (hG.lt (by decide)) sh57 fs57_10 dX10_status_15 ?_
    refine r_iload_n dX10_status_18 1 rfl ?_
    have hs1 := hP
    refine r_iald (hG.lt (by decide)) sh59 hs1 dX10_status_19 ?_
    refine r_goto 24 dX10_status_20 (by decide) ?_
    exact r_ireturn _ dX10_status_24 rfl rfl ⟨congrArg (fun z => some (Value.int z)) (by unfold F_X10_status; rw [if_neg c1]), rfl⟩
def muX10_count_1 (p1 : Int32) (μ : Mem) : Mem := (upm μ 57 0 0)
def F_X10_count (p1 : Int32) (μ : Mem) : Int32 := (if p1 ≠ 0 then (if p1 ≠ 1 then (if p1 ≠ 2 then (-1) else ((muX10_count_1 p1 μ) 57 39)) else ((muX10_count_1 p1 μ) 57 1)) else ((muX10_count_1 p1 μ) 57 41))
def M_X10_count (p1 : Int32) (μ : Mem) : Mem := (muX10_count_1 p1 μ)
set_option maxRecDepth 20000 in
set_option maxHeartbeats 2000000 in
theorem ok_X10_count {G : SG} (hG : GK 548 G) (p1 : Int32) (μ : Mem) : OkF G mX10_count [.ref (ga G 57), .int p1] μ (some (.int (F_X10_count p1 μ))) (M_X10_count p1 μ) := by
  refine okF_of hG rfl rfl (Nat.le_of_ble_eq_true rfl) ?_
  refine r_aload_n dX10_count_0 0 rfl ?_
  refine r_iconst 0 dX10_count_1 rfl ?_
  refine r_put fiX10_103 (hG.lt (by decide)) sh57 fs57_0 dX10_count_2 ?_
  refine r_mu (muX10_count_1 p1 μ) rfl ?_
  refine r_iload_n dX10_count_5 1 rfl ?_
  refine r_if_ne 16 dX10_count_6 (by decide) (fun c1 => ?_) (fun c1 => ?_)
  · refine r_iload_n dX10_count_16 1 rfl ?_
    refine r_iconst 1 dX10_count_17 rfl ?_
    refine r_icmp_ne 28 dX10_count_18 (by decide) (fun c2 => ?_) (fun c2 => ?_)
    · refine r_iload_n dX10_count_28 1 rfl ?_
      refine r_iconst 2 dX10_count_29 rfl ?_
      refine r_icmp_ne 40 dX10_count_30 (by decide) (fun c3 => ?_) (fun c3 => ?_)
      · refine r_iconst (-1) dX10_count_40 rfl ?_
        exact r_ireturn _ dX10_count_41 rfl rfl ⟨congrArg (fun z => some (Value.int z)) (by unfold F_X10_count; rw [if_pos c1, if_pos c2, if_pos c3]), rfl⟩
      · refine r_aload_n dX10_count_33 0 rfl ?_
        refine r_getI fX10_212 (hG.lt (by decide)) sh57 fs57_39 dX10_count_34 ?_
        refine r_goto 41 dX10_count_37 (by decide) ?_
        exact r_ireturn _ dX10_count_41 rfl rfl ⟨congrArg (fun z => some (Value.int z)) (by unfold F_X10_count; rw [if_pos c1, if_pos c2, if_neg (not_not_intro c3)]), rfl⟩
    · refine r_aload_n dX10_count_21 0 rfl ?_
      refine r_getI fX10_106 (hG.lt (by decide)) sh57 fs57_1 dX10_count_22 ?_
      refine r_goto 41 dX10_count_25 (by decide) ?_
      exact r_ireturn _ dX10_count_41 rfl rfl ⟨congrArg (fun z => some (Value.int z)) (by unfold F_X10_count; rw [if_pos c1, if_neg (not_not_intro c2)]), rfl⟩
  · refine r_aload_n dX10_count_9 0 rfl ?_
    refine r_getI fX10_218 (hG.lt (by decide)) sh57 fs57_41 dX10_count_10 ?_
    refine r_goto 41 dX10_count_13 (by decide) ?_
    exact r_ireturn _ dX10_count_41 rfl rfl ⟨congrArg (fun z => some (Value.int z)) (by unfold F_X10_count; rw [if_neg (not_not_intro c1)]), rfl⟩
def muX10_one_1 (rM : Mem → Mem) (rP : Mem → Prop) (μ : Mem) : Mem := (M_X10_blanks  μ)
def muX10_one_2 (rM : Mem → Mem) (rP : Mem → Prop) (μ : Mem) : Mem := (M_X10_isWord 12 5 1 19 20 0 0 (muX10_one_1 rM rP μ))
def muX10_one_3 (rM : Mem → Mem) (rP : Mem → Prop) (μ : Mem) : Mem := (M_X10_isWord 13 15 19 20 0 0 0 (muX10_one_2 rM rP μ))
def VX10_one_4 (rM : Mem → Mem) (rP : Mem → Prop) (μ : Mem) : Int32 := (if (F_X10_isWord 12 5 1 19 20 0 0 (muX10_one_1 rM rP μ)) = 0 then (if (F_X10_isWord 13 15 19 20 0 0 0 (muX10_one_2 rM rP μ)) = 0 then (-1) else 7) else 6)
def VX10_one_5 (rM : Mem → Mem) (rP : Mem → Prop) (μ : Mem) : Mem := (if (F_X10_isWord 12 5 1 19 20 0 0 (muX10_one_1 rM rP μ)) = 0 then (muX10_one_3 rM rP μ) else (muX10_one_2 rM rP μ))
def muX10_one_6 (rM : Mem → Mem) (rP : Mem → Prop) (μ : Mem) : Mem := (M_X10_knownHere  (VX10_one_5 rM rP μ))
def muX10_one_7 (rM : Mem → Mem) (rP : Mem → Prop) (μ : Mem) : Mem := (M_X10_number 0 999 (muX10_one_6 rM rP μ))
def muX10_one_8 (rM : Mem → Mem) (rP : Mem → Prop) (μ : Mem) : Mem := (M_X10_notes 0 (F_X10_number 0 999 (muX10_one_6 rM rP μ)) (muX10_one_7 rM rP μ))
def muX10_one_9 (rM : Mem → Mem) (rP : Mem → Prop) (μ : Mem) : Mem := (M_X10_notes 1 (F_X10_knownHere  (VX10_one_5 rM rP μ)) (muX10_one_6 rM rP μ))
def muX10_one_10 (rM : Mem → Mem) (rP : Mem → Prop) (μ : Mem) : Mem := (M_X10_opensOne  (VX10_one_5 rM rP μ))
def muX10_one_11 (rM : Mem → Mem) (rP : Mem → Prop) (μ : Mem) : Mem := (upm (muX10_one_10 rM rP μ) 57 4 (((muX10_one_10 rM rP μ) 57 4) + 1))
def muX10_one_12 (rM : Mem → Mem) (rP : Mem → Prop) (μ : Mem) : Mem := (rM  (muX10_one_11 rM rP μ))
def muX10_one_13 (rM : Mem → Mem) (rP : Mem → Prop) (μ : Mem) : Mem := (M_X10_sign 41 (muX10_one_12 rM rP μ))
def muX10_one_14 (rM : Mem → Mem) (rP : Mem → Prop) (μ : Mem) : Mem := (upm (muX10_one_13 rM rP μ) 57 8 (((muX10_one_13 rM rP μ) 57 8) - 1))
def muX10_one_15 (rM : Mem → Mem) (rP : Mem → Prop) (μ : Mem) : Mem := (M_X10_opensOne  (VX10_one_5 rM rP μ))
def muX10_one_16 (rM : Mem → Mem) (rP : Mem → Prop) (μ : Mem) : Mem := (M_X10_skipWord  (muX10_one_15 rM rP μ))
def muX10_one_17 (rM : Mem → Mem) (rP : Mem → Prop) (μ : Mem) : Mem := (M_X10_sign 91 (muX10_one_16 rM rP μ))
def muX10_one_18 (rM : Mem → Mem) (rP : Mem → Prop) (μ : Mem) : Mem := (rM  (muX10_one_17 rM rP μ))
def muX10_one_19 (rM : Mem → Mem) (rP : Mem → Prop) (μ : Mem) : Mem := (M_X10_sign 44 (muX10_one_18 rM rP μ))
def muX10_one_20 (rM : Mem → Mem) (rP : Mem → Prop) (μ : Mem) : Mem := (rM  (muX10_one_19 rM rP μ))
def muX10_one_21 (rM : Mem → Mem) (rP : Mem → Prop) (μ : Mem) : Mem := (M_X10_sign 93 (muX10_one_20 rM rP μ))
def muX10_one_22 (rM : Mem → Mem) (rP : Mem → Prop) (μ : Mem) : Mem := (M_X10_notes (VX10_one_4 rM rP μ) 0 (muX10_one_21 rM rP μ))
def muX10_one_23 (rM : Mem → Mem) (rP : Mem → Prop) (μ : Mem) : Mem := (upm (muX10_one_22 rM rP μ) 57 8 (((muX10_one_22 rM rP μ) 57 8) - 1))
def M_X10_one (rM : Mem → Mem) (rP : Mem → Prop) (μ : Mem) : Mem := (if (μ 57 5) = 0 then (if (VX10_one_4 rM rP μ) = (-1) then (if (F_X10_byteAt ((VX10_one_5 rM rP μ) 57 4) (VX10_one_5 rM rP μ)) ≠ 40 then (if (F_X10_knownHere  (VX10_one_5 rM rP μ)) = (-1) then (muX10_one_8 rM rP μ) else (muX10_one_9 rM rP μ)) else (if (F_X10_opensOne  (VX10_one_5 rM rP μ)) ≠ 0 then (muX10_one_14 rM rP μ) else (muX10_one_10 rM rP μ))) else (if (F_X10_opensOne  (VX10_one_5 rM rP μ)) ≠ 0 then (muX10_one_23 rM rP μ) else (muX10_one_15 rM rP μ))) else μ)
def P_X10_one (rM : Mem → Mem) (rP : Mem → Prop) (μ : Mem) : Prop := (((μ 57 5) = 0 → ((P_X10_blanks  μ) ∧ ((P_X10_isWord 12 5 1 19 20 0 0 (muX10_one_1 rM rP μ)) ∧ ((((F_X10_isWord 12 5 1 19 20 0 0 (muX10_one_1 rM rP μ)) = 0 → (P_X10_isWord 13 15 19 20 0 0 0 (muX10_one_2 rM rP μ))) ∧ (¬ (F_X10_isWord 12 5 1 19 20 0 0 (muX10_one_1 rM rP μ)) = 0 → True)) ∧ (((VX10_one_4 rM rP μ) = (-1) → ((P_X10_byteAt ((VX10_one_5 rM rP μ) 57 4) (VX10_one_5 rM rP μ)) ∧ (((F_X10_byteAt ((VX10_one_5 rM rP μ) 57 4) (VX10_one_5 rM rP μ)) ≠ 40 → ((P_X10_knownHere  (VX10_one_5 rM rP μ)) ∧ (((F_X10_knownHere  (VX10_one_5 rM rP μ)) = (-1) → ((P_X10_number 0 999 (muX10_one_6 rM rP μ)) ∧ (P_X10_notes 0 (F_X10_number 0 999 (muX10_one_6 rM rP μ)) (muX10_one_7 rM rP μ)))) ∧ (¬ (F_X10_knownHere  (VX10_one_5 rM rP μ)) = (-1) → (P_X10_notes 1 (F_X10_knownHere  (VX10_one_5 rM rP μ)) (muX10_one_6 rM rP μ)))))) ∧ ((F_X10_byteAt ((VX10_one_5 rM rP μ) 57 4) (VX10_one_5 rM rP μ)) = 40 → (((F_X10_opensOne  (VX10_one_5 rM rP μ)) ≠ 0 → ((rP  (muX10_one_11 rM rP μ)) ∧ (P_X10_sign 41 (muX10_one_12 rM rP μ)))) ∧ ((F_X10_opensOne  (VX10_one_5 rM rP μ)) = 0 → True)))))) ∧ (¬ (VX10_one_4 rM rP μ) = (-1) → (((F_X10_opensOne  (VX10_one_5 rM rP μ)) ≠ 0 → ((P_X10_skipWord  (muX10_one_15 rM rP μ)) ∧ ((P_X10_sign 91 (muX10_one_16 rM rP μ)) ∧ ((rP  (muX10_one_17 rM rP μ)) ∧ ((P_X10_sign 44 (muX10_one_18 rM rP μ)) ∧ ((rP  (muX10_one_19 rM rP μ)) ∧ ((P_X10_sign 93 (muX10_one_20 rM rP μ)) ∧ (P_X10_notes (VX10_one_4 rM rP μ) 0 (muX10_one_21 rM rP μ))))))))) ∧ ((F_X10_opensOne  (VX10_one_5 rM rP μ)) = 0 → True)))))))) ∧ (¬ (μ 57 5) = 0 → True))
set_option maxRecDepth 20000 in
set_option maxHeartbeats 2000000 in
theorem ok_X10_one {G : SG} (hG : GK 548 G) {e : Nat} (he : 40 ≤ e) (rM : Mem → Mem) (rP : Mem → Prop) (hrec : ∀  (ν : Mem), rP  ν → OkF G (mX10_sum e) [.ref (ga G 57)] ν none (rM  ν)) (μ : Mem) (hP : P_X10_one rM rP μ) : OkF G (mX10_one (e + 1)) [.ref (ga G 57)] μ none (M_X10_one rM rP μ) := by
  refine okF_of hG rfl rfl (Nat.le_of_ble_eq_true rfl) ?_
  unfold P_X10_one at hP
  refine r_aload_n dX10_one_0 0 rfl ?_
  refine r_getI fX10_119 (hG.lt (by decide)) sh57 fs57_5 dX10_one_1 ?_
  refine r_if_eq 8 dX10_one_4 (by decide) (fun c1 => ?_) (fun c1 => ?_)
  · replace hP := hP.1 c1
    refine r_aload_n dX10_one_8 0 rfl ?_
    have hs1 := hP.1
    replace hP := hP.2
    refine r_cvV (ok_X10_blanks hG  μ hs1) lX10_125 (hG.lt (by decide)) sh57 ⟨_, _, rfl⟩ dX10_one_9 (dle (by decide) he) (Nat.le_of_ble_eq_true rfl) rfl (Nat.le_of_ble_eq_true rfl) ?_
    refine r_mu (muX10_one_1 rM rP μ) rfl ?_
    refine r_aload_n dX10_one_12 0 rfl ?_
    refine r_bipush 12 dX10_one_13 rfl ?_
    refine r_iconst 5 dX10_one_15 rfl ?_
    refine r_iconst 1 dX10_one_16 rfl ?_
    refine r_bipush 19 dX10_one_17 rfl ?_
    refine r_bipush 20 dX10_one_19 rfl ?_
    refine r_iconst 0 dX10_one_21 rfl ?_
    refine r_iconst 0 dX10_one_22 rfl ?_
    have hs2 := hP.1
    replace hP := hP.2
    refine r_cvI (ok_X10_isWord hG 12 5 1 19 20 0 0 (muX10_one_1 rM rP μ) hs2) lX10_158 (hG.lt (by decide)) sh57 ⟨_, _, rfl⟩ dX10_one_23 (dle (by decide) he) (Nat.le_of_ble_eq_true rfl) rfl (Nat.le_of_ble_eq_true rfl) ?_
    refine r_mu (muX10_one_2 rM rP μ) rfl ?_
    refine r_join 58 [(0, .ref (ga G 57))] [.int (VX10_one_4 rM rP μ)] (VX10_one_5 rM rP μ) ?_ (fun hJ => ?_)
    · replace hP := hP.2
      refine r_istore_n [(1, _), (0, _)] dX10_one_58 (Nat.le_of_ble_eq_true rfl) rfl ?_
      refine r_iload_n dX10_one_59 0 rfl ?_
      refine r_iconst (-1) dX10_one_60 rfl ?_
      refine r_icmp_eq 119 dX10_one_61 (by decide) (fun c2 => ?_) (fun c2 => ?_)
      · replace hP := hP.1 c2
        refine r_aload_n dX10_one_119 1 rfl ?_
        refine r_aload_n dX10_one_120 1 rfl ?_
        refine r_getI fX10_112 (hG.lt (by decide)) sh57 fs57_4 dX10_one_121 ?_
        have hs4 := hP.1
        replace hP := hP.2
        refine r_cvI (ok_X10_byteAt hG ((VX10_one_5 rM rP μ) 57 4) (VX10_one_5 rM rP μ) hs4) lX10_115 (hG.lt (by decide)) sh57 ⟨_, _, rfl⟩ dX10_one_124 (dle (by decide) he) (Nat.le_of_ble_eq_true rfl) rfl (Nat.le_of_ble_eq_true rfl) ?_
        refine r_bipush 40 dX10_one_127 rfl ?_
        refine r_icmp_ne 171 dX10_one_129 (by decide) (fun c3 => ?_) (fun c3 => ?_)
        · replace hP := hP.1 c3
          refine r_aload_n dX10_one_171 1 rfl ?_
          have hs5 := hP.1
          replace hP := hP.2
          refine r_cvI (ok_X10_knownHere hG  (VX10_one_5 rM rP μ) hs5) lX10_246 (hG.lt (by decide)) sh57 ⟨_, _, rfl⟩ dX10_one_172 (dle (by decide) he) (Nat.le_of_ble_eq_true rfl) rfl (Nat.le_of_ble_eq_true rfl) ?_
          refine r_mu (muX10_one_6 rM rP μ) rfl ?_
          refine r_istore_n [(2, _), (1, _), (0, _)] dX10_one_175 (Nat.le_of_ble_eq_true rfl) rfl ?_
          refine r_iload_n dX10_one_176 0 rfl ?_
          refine r_iconst (-1) dX10_one_177 rfl ?_
          refine r_icmp_eq 190 dX10_one_178 (by decide) (fun c4 => ?_) (fun c4 => ?_)
          · replace hP := hP.1 c4
            refine r_aload_n dX10_one_190 2 rfl ?_
            refine r_iconst 0 dX10_one_191 rfl ?_
            refine r_aload_n dX10_one_192 2 rfl ?_
            refine r_iconst 0 dX10_one_193 rfl ?_
            refine r_sipush 999 dX10_one_194 rfl ?_
            have hs6 := hP.1
            replace hP := hP.2
            refine r_cvI (ok_X10_number hG 0 999 (muX10_one_6 rM rP μ) hs6) lX10_178 (hG.lt (by decide)) sh57 ⟨_, _, rfl⟩ dX10_one_197 (dle (by decide) he) (Nat.le_of_ble_eq_true rfl) rfl (Nat.le_of_ble_eq_true rfl) ?_
            refine r_mu (muX10_one_7 rM rP μ) rfl ?_
            have hs7 := hP
            refine r_cvV (ok_X10_notes hG 0 (F_X10_number 0 999 (muX10_one_6 rM rP μ)) (muX10_one_7 rM rP μ) hs7) lX10_230 (hG.lt (by decide)) sh57 ⟨_, _, rfl⟩ dX10_one_200 (dle (by decide) he) (Nat.le_of_ble_eq_true rfl) rfl (Nat.le_of_ble_eq_true rfl) ?_
            refine r_mu (muX10_one_8 rM rP μ) rfl ?_
            exact r_return dX10_one_203 rfl ⟨rfl, by unfold M_X10_one; rw [if_pos c1, if_pos c2, if_pos c3, if_pos c4]⟩
          · replace hP := hP.2 c4
            refine r_aload_n dX10_one_181 2 rfl ?_
            refine r_iconst 1 dX10_one_182 rfl ?_
            refine r_iload_n dX10_one_183 0 rfl ?_
            have hs8 := hP
            refine r_cvV (ok_X10_notes hG 1 (F_X10_knownHere  (VX10_one_5 rM rP μ)) (muX10_one_6 rM rP μ) hs8) lX10_230 (hG.lt (by decide)) sh57 ⟨_, _, rfl⟩ dX10_one_184 (dle (by decide) he) (Nat.le_of_ble_eq_true rfl) rfl (Nat.le_of_ble_eq_true rfl) ?_
            refine r_mu (muX10_one_9 rM rP μ) rfl ?_
            refine r_goto 203 dX10_one_187 (by decide) ?_
            exact r_return dX10_one_203 rfl ⟨rfl, by unfold M_X10_one; rw [if_pos c1, if_pos c2, if_pos c3, if_neg c4]⟩
        · replace hP := hP.2 c3
          refine r_aload_n dX10_one_132 1 rfl ?_
          refine r_cvI (ok_X10_opensOne hG  (VX10_one_5 rM rP μ)) lX10_239 (hG.lt (by decide)) sh57 ⟨_, _, rfl⟩ dX10_one_133 (dle (by decide) he) (Nat.le_of_ble_eq_true rfl) rfl (Nat.le_of_ble_eq_true rfl) ?_
          refine r_mu (muX10_one_10 rM rP μ) rfl ?_
          refine r_if_ne 140 dX10_one_136 (by decide) (fun c4 => ?_) (fun c4 => ?_)
          · replace hP := hP.1 c4
            refine r_aload_n dX10_one_140 1 rfl ?_
            refine r_dup dX10_one_141 rfl ?_
            refine r_getI fX10_112 (hG.lt (by decide)) sh57 fs57_4 dX10_one_142 ?_
            refine r_iconst 1 dX10_one_145 rfl ?_
            refine r_iadd dX10_one_146 ?_
            refine r_put fiX10_112 (hG.lt (by decide)) sh57 fs57_4 dX10_one_147 ?_
            refine r_mu (muX10_one_11 rM rP μ) rfl ?_
            refine r_aload_n dX10_one_150 1 rfl ?_
            have hs9 := hP.1
            replace hP := hP.2
            refine r_cvV (hrec  (muX10_one_11 rM rP μ) hs9) (lX10_243 _) (hG.lt (by decide)) sh57 ⟨_, _, rfl⟩ dX10_one_151 (dpe (a := 0) (b := 1) (by decide)) (Nat.le_of_ble_eq_true rfl) rfl (Nat.le_of_ble_eq_true rfl) ?_
            refine r_mu (muX10_one_12 rM rP μ) rfl ?_
            refine r_aload_n dX10_one_154 1 rfl ?_
            refine r_bipush 41 dX10_one_155 rfl ?_
            have hs10 := hP
            refine r_cvV (ok_X10_sign hG 41 (muX10_one_12 rM rP μ) hs10) lX10_182 (hG.lt (by decide)) sh57 ⟨_, _, rfl⟩ dX10_one_157 (dle (by decide) he) (Nat.le_of_ble_eq_true rfl) rfl (Nat.le_of_ble_eq_true rfl) ?_
            refine r_mu (muX10_one_13 rM rP μ) rfl ?_
            refine r_aload_n dX10_one_160 1 rfl ?_
            refine r_dup dX10_one_161 rfl ?_
            refine r_getI fX10_168 (hG.lt (by decide)) sh57 fs57_8 dX10_one_162 ?_
            refine r_iconst 1 dX10_one_165 rfl ?_
            refine r_isub dX10_one_166 ?_
            refine r_put fiX10_168 (hG.lt (by decide)) sh57 fs57_8 dX10_one_167 ?_
            refine r_mu (muX10_one_14 rM rP μ) rfl ?_
            exact r_return dX10_one_170 rfl ⟨rfl, by unfold M_X10_one; rw [if_pos c1, if_pos c2, if_neg (not_not_intro c3), if_pos c4]⟩
          · replace hP := hP.2 c4
            exact r_return dX10_one_139 rfl ⟨rfl, by unfold M_X10_one; rw [if_pos c1, if_pos c2, if_neg (not_not_intro c3), if_neg (not_not_intro c4)]⟩
      · replace hP := hP.2 c2
        refine r_aload_n dX10_one_64 1 rfl ?_
        refine r_cvI (ok_X10_opensOne hG  (VX10_one_5 rM rP μ)) lX10_239 (hG.lt (by decide)) sh57 ⟨_, _, rfl⟩ dX10_one_65 (dle (by decide) he) (Nat.le_of_ble_eq_true rfl) rfl (Nat.le_of_ble_eq_true rfl) ?_
        refine r_mu (muX10_one_15 rM rP μ) rfl ?_
        refine r_if_ne 72 dX10_one_68 (by decide) (fun c3 => ?_) (fun c3 => ?_)
        · replace hP := hP.1 c3
          refine r_aload_n dX10_one_72 1 rfl ?_
          have hs11 := hP.1
          replace hP := hP.2
          refine r_cvV (ok_X10_skipWord hG  (muX10_one_15 rM rP μ) hs11) lX10_162 (hG.lt (by decide)) sh57 ⟨_, _, rfl⟩ dX10_one_73 (dle (by decide) he) (Nat.le_of_ble_eq_true rfl) rfl (Nat.le_of_ble_eq_true rfl) ?_
          refine r_mu (muX10_one_16 rM rP μ) rfl ?_
          refine r_aload_n dX10_one_76 1 rfl ?_
          refine r_bipush 91 dX10_one_77 rfl ?_
          have hs12 := hP.1
          replace hP := hP.2
          refine r_cvV (ok_X10_sign hG 91 (muX10_one_16 rM rP μ) hs12) lX10_182 (hG.lt (by decide)) sh57 ⟨_, _, rfl⟩ dX10_one_79 (dle (by decide) he) (Nat.le_of_ble_eq_true rfl) rfl (Nat.le_of_ble_eq_true rfl) ?_
          refine r_mu (muX10_one_17 rM rP μ) rfl ?_
          refine r_aload_n dX10_one_82 1 rfl ?_
          have hs13 := hP.1
          replace hP := hP.2
          refine r_cvV (hrec  (muX10_one_17 rM rP μ) hs13) (lX10_243 _) (hG.lt (by decide)) sh57 ⟨_, _, rfl⟩ dX10_one_83 (dpe (a := 0) (b := 1) (by decide)) (Nat.le_of_ble_eq_true rfl) rfl (Nat.le_of_ble_eq_true rfl) ?_
          refine r_mu (muX10_one_18 rM rP μ) rfl ?_
          refine r_aload_n dX10_one_86 1 rfl ?_
          refine r_bipush 44 dX10_one_87 rfl ?_
          have hs14 := hP.1
          replace hP := hP.2
          refine r_cvV (ok_X10_sign hG 44 (muX10_one_18 rM rP μ) hs14) lX10_182 (hG.lt (by decide)) sh57 ⟨_, _, rfl⟩ dX10_one_89 (dle (by decide) he) (Nat.le_of_ble_eq_true rfl) rfl (Nat.le_of_ble_eq_true rfl) ?_
          refine r_mu (muX10_one_19 rM rP μ) rfl ?_
          refine r_aload_n dX10_one_92 1 rfl ?_
          have hs15 := hP.1
          replace hP := hP.2
          refine r_cvV (hrec  (muX10_one_19 rM rP μ) hs15) (lX10_243 _) (hG.lt (by decide)) sh57 ⟨_, _, rfl⟩ dX10_one_93 (dpe (a := 0) (b := 1) (by decide)) (Nat.le_of_ble_eq_true rfl) rfl (Nat.le_of_ble_eq_true rfl) ?_
          refine r_mu (muX10_one_20 rM rP μ) rfl ?_
          refine r_aload_n dX10_one_96 1 rfl ?_
          refine r_bipush 93 dX10_one_97 rfl ?_
          have hs16 := hP.1
          replace hP := hP.2
          refine r_cvV (ok_X10_sign hG 93 (muX10_one_20 rM rP μ) hs16) lX10_182 (hG.lt (by decide)) sh57 ⟨_, _, rfl⟩ dX10_one_99 (dle (by decide) he) (Nat.le_of_ble_eq_true rfl) rfl (Nat.le_of_ble_eq_true rfl) ?_
          refine r_mu (muX10_one_21 rM rP μ) rfl ?_
          refine r_aload_n dX10_one_102 1 rfl ?_
          refine r_iload_n dX10_one_103 0 rfl ?_
          refine r_iconst 0 dX10_one_104 rfl ?_
          have hs17 := hP
          refine r_cvV (ok_X10_notes hG (VX10_one_4 rM rP μ) 0 (muX10_one_21 rM rP μ) hs17) lX10_230 (hG.lt (by decide)) sh57 ⟨_, _, rfl⟩ dX10_one_105 (dle (by decide) he) (Nat.le_of_ble_eq_true rfl) rfl (Nat.le_of_ble_eq_true rfl) ?_
          refine r_mu (muX10_one_22 rM rP μ) rfl ?_
          refine r_aload_n dX10_one_108 1 rfl ?_
          refine r_dup dX10_one_109 rfl ?_
          refine r_getI fX10_168 (hG.lt (by decide)) sh57 fs57_8 dX10_one_110 ?_
          refine r_iconst 1 dX10_one_113 rfl ?_
          refine r_isub dX10_one_114 ?_
          refine r_put fiX10_168 (hG.lt (by decide)) sh57 fs57_8 dX10_one_115 ?_
          refine r_mu (muX10_one_23 rM rP μ) rfl ?_
          exact r_return dX10_one_118 rfl ⟨rfl, by unfold M_X10_one; rw [if_pos c1, if_neg c2, if_pos c3]⟩
        · replace hP := hP.2 c3
          exact r_return dX10_one_71 rfl ⟨rfl, by unfold M_X10_one; rw [if_pos c1, if_neg c2, if_neg (not_not_intro c3)]⟩
    · replace hP := hP.1
      refine r_if_eq 34 dX10_one_26 (by decide) (fun c2 => ?_) (fun c2 => ?_)
      · replace hP := hP.1 c2
        refine r_aload_n dX10_one_34 0 rfl ?_
        refine r_bipush 13 dX10_one_35 rfl ?_
        refine r_bipush 15 dX10_one_37 rfl ?_
        refine r_bipush 19 dX10_one_39 rfl ?_
        refine r_bipush 20 dX10_one_41 rfl ?_
        refine r_iconst 0 dX10_one_43 rfl ?_
        refine r_iconst 0 dX10_one_44 rfl ?_
        refine r_iconst 0 dX10_one_45 rfl ?_
        have hs3 := hP
        refine r_cvI (ok_X10_isWord hG 13 15 19 20 0 0 0 (muX10_one_2 rM rP μ) hs3) lX10_158 (hG.lt (by decide)) sh57 ⟨_, _, rfl⟩ dX10_one_46 (dle (by decide) he) (Nat.le_of_ble_eq_true rfl) rfl (Nat.le_of_ble_eq_true rfl) ?_
        refine r_mu (muX10_one_3 rM rP μ) rfl ?_
        refine r_if_eq 57 dX10_one_49 (by decide) (fun c3 => ?_) (fun c3 => ?_)
        · refine r_iconst (-1) dX10_one_57 rfl ?_
          have e : (VX10_one_4 rM rP μ) = (-1) := by unfold VX10_one_4; rw [if_pos c2, if_pos c3]
          rw [e] at hJ
          clear e
          have e : (VX10_one_5 rM rP μ) = (muX10_one_3 rM rP μ) := by unfold VX10_one_5; rw [if_pos c2]
          rw [e] at hJ
          exact r_sub [0] rfl hJ
        · refine r_bipush 7 dX10_one_52 rfl ?_
          refine r_goto 58 dX10_one_54 (by decide) ?_
          have e : (VX10_one_4 rM rP μ) = 7 := by unfold VX10_one_4; rw [if_pos c2, if_neg c3]
          rw [e] at hJ
          clear e
          have e : (VX10_one_5 rM rP μ) = (muX10_one_3 rM rP μ) := by unfold VX10_one_5; rw [if_pos c2]
          rw [e] at hJ
          exact r_sub [0] rfl hJ
      · replace hP := hP.2 c2
        refine r_bipush 6 dX10_one_29 rfl ?_
        refine r_goto 58 dX10_one_31 (by decide) ?_
        have e : (VX10_one_4 rM rP μ) = 6 := by unfold VX10_one_4; rw [if_neg c2]
        rw [e] at hJ
        clear e
        have e : (VX10_one_5 rM rP μ) = (muX10_one_2 rM rP μ) := by unfold VX10_one_5; rw [if_neg c2]
        rw [e] at hJ
        exact r_sub [0] rfl hJ
  · replace hP := hP.2 c1
    exact r_return dX10_one_7 rfl ⟨rfl, by unfold M_X10_one; rw [if_neg c1]⟩
def muX10_product_1 (rM : Mem → Mem) (rP : Mem → Prop) (μ : Mem) : Mem := (M_X10_one rM rP μ)
def muX10_product_4_1 (rM : Mem → Mem) (rP : Mem → Prop) (i : Nat) (s : Mem) : Mem := (M_X10_takesSign 42 s)
def muX10_product_4_2 (rM : Mem → Mem) (rP : Mem → Prop) (i : Nat) (s : Mem) : Mem := (M_X10_takesSign 47 (muX10_product_4_1 rM rP i s))
def VX10_product_4_3 (rM : Mem → Mem) (rP : Mem → Prop) (i : Nat) (s : Mem) : Int32 := (if (F_X10_takesSign 42 s) = 0 then (if (F_X10_takesSign 47 (muX10_product_4_1 rM rP i s)) = 0 then (-1) else 5) else 4)
def VX10_product_4_4 (rM : Mem → Mem) (rP : Mem → Prop) (i : Nat) (s : Mem) : Mem := (if (F_X10_takesSign 42 s) = 0 then (muX10_product_4_2 rM rP i s) else (muX10_product_4_1 rM rP i s))
def muX10_product_4_5 (rM : Mem → Mem) (rP : Mem → Prop) (i : Nat) (s : Mem) : Mem := (M_X10_one rM rP (VX10_product_4_4 rM rP i s))
def muX10_product_4_6 (rM : Mem → Mem) (rP : Mem → Prop) (i : Nat) (s : Mem) : Mem := (M_X10_notes (VX10_product_4_3 rM rP i s) 0 (muX10_product_4_5 rM rP i s))
def g_X10_product_4 (rM : Mem → Mem) (rP : Mem → Prop) (i : Nat) (s : Mem) : Mem := (muX10_product_4_6 rM rP i s)
def Pb_X10_product_4 (rM : Mem → Mem) (rP : Mem → Prop) (i : Nat) (s : Mem) : Prop := (((s 57 5) ≠ 0 → False) ∧ ((s 57 5) = 0 → (P_X10_takesSign 42 s) ∧ ((((F_X10_takesSign 42 s) = 0 → P_X10_takesSign 47 (muX10_product_4_1 rM rP i s)) ∧ (¬ (F_X10_takesSign 42 s) = 0 → True)) ∧ (((VX10_product_4_3 rM rP i s) ≠ (-1) → (P_X10_one rM rP (VX10_product_4_4 rM rP i s)) ∧ P_X10_notes (VX10_product_4_3 rM rP i s) 0 (muX10_product_4_5 rM rP i s)) ∧ ((VX10_product_4_3 rM rP i s) = (-1) → False)))))
def Cb_X10_product_4 (rM : Mem → Mem) (rP : Mem → Prop) (i : Nat) (s : Mem) : Bool := (if (s 57 5) ≠ 0 then false else (if (VX10_product_4_3 rM rP i s) ≠ (-1) then true else false))
set_option maxRecDepth 20000 in
set_option maxHeartbeats 2000000 in
theorem lp_X10_product_4 {G : SG} (hG : GK 548 G) {e : Nat} (he : 40 ≤ e) (rM : Mem → Mem) (rP : Mem → Prop) (hrec : ∀  (ν : Mem), rP  ν → OkF G (mX10_sum e) [.ref (ga G 57)] ν none (rM  ν))  (s0 : Mem) (N : Nat) (sN : Mem) (eN : sN = fo N (g_X10_product_4 rM rP) s0) (hN : ∀ i, i < N → Pb_X10_product_4 rM rP i (fo i (g_X10_product_4 rM rP) s0)) {t : Nat} {Q : PQ} {X : PX} (h : R G (mX10_product (e + 2)) 4 [(0, .ref (ga G 57))] [] sN t Q X) : R G (mX10_product (e + 2)) 4 [(0, .ref (ga G 57))] [] s0 t Q X := by
  subst eN
  refine down_i N (fun i => R G (mX10_product (e + 2)) 4 [(0, .ref (ga G 57))] [] (fo i (g_X10_product_4 rM rP) s0) t Q X) h (fun i hi hS => ?_)
  have hP := hN i hi
  rw [fo_succ] at hS
  generalize fo i (g_X10_product_4 rM rP) s0 = s at hS hP ⊢
  unfold Pb_X10_product_4 at hP
  refine r_aload_n dX10_product_4 0 rfl ?_
  refine r_getI fX10_119 (hG.lt (by decide)) sh57 fs57_5 dX10_product_5 ?_
  refine r_if_ne 58 dX10_product_8 (by decide) (fun c1 => ?_) (fun c1 => ?_)
  · replace hP := hP.1 c1
    exact hP.elim
  · replace hP := hP.2 c1
    refine r_aload_n dX10_product_11 0 rfl ?_
    refine r_bipush 42 dX10_product_12 rfl ?_
    have hs1 := hP.1
    replace hP := hP.2
    refine r_cvI (ok_X10_takesSign hG 42 s hs1) lX10_227 (hG.lt (by decide)) sh57 ⟨_, _, rfl⟩ dX10_product_14 (dle (by decide) he) (Nat.le_of_ble_eq_true rfl) rfl (Nat.le_of_ble_eq_true rfl) ?_
    refine r_mu (muX10_product_4_1 rM rP i s) rfl ?_
    refine r_join 38 [(0, .ref (ga G 57))] [.int (VX10_product_4_3 rM rP i s)] (VX10_product_4_4 rM rP i s) ?_ (fun hJ => ?_)
    · replace hP := hP.2
      refine r_istore_n [(1, _), (0, _)] dX10_product_38 (Nat.le_of_ble_eq_true rfl) rfl ?_
      refine r_iload_n dX10_product_39 0 rfl ?_
      refine r_iconst (-1) dX10_product_40 rfl ?_
      refine r_icmp_ne 45 dX10_product_41 (by decide) (fun c2 => ?_) (fun c2 => ?_)
      · replace hP := hP.1 c2
        refine r_aload_n dX10_product_45 1 rfl ?_
        have hs3 := hP.1
        replace hP := hP.2
        refine r_cvV (ok_X10_one hG he rM rP hrec  (VX10_product_4_4 rM rP i s) hs3) (lX10_233 _) (hG.lt (by decide)) sh57 ⟨_, _, rfl⟩ dX10_product_46 (dpe (a := 1) (b := 2) (by decide)) (Nat.le_of_ble_eq_true rfl) rfl (Nat.le_of_ble_eq_true rfl) ?_
        refine r_mu (muX10_product_4_5 rM rP i s) rfl ?_
        refine r_aload_n dX10_product_49 1 rfl ?_
        refine r_iload_n dX10_product_50 0 rfl ?_
        refine r_iconst 0 dX10_product_51 rfl ?_
        have hs4 := hP
        refine r_cvV (ok_X10_notes hG (VX10_product_4_3 rM rP i s) 0 (muX10_product_4_5 rM rP i s) hs4) lX10_230 (hG.lt (by decide)) sh57 ⟨_, _, rfl⟩ dX10_product_52 (dle (by decide) he) (Nat.le_of_ble_eq_true rfl) rfl (Nat.le_of_ble_eq_true rfl) ?_
        refine r_mu (muX10_product_4_6 rM rP i s) rfl ?_
        refine r_goto 4 dX10_product_55 (by decide) ?_
        have e : g_X10_product_4 rM rP i s = (muX10_product_4_6 rM rP i s) := by unfold g_X10_product_4; rfl
        rw [e] at hS
        exact r_sub [1] rfl hS
      · replace hP := hP.2 c2
        exact hP.elim
    · replace hP := hP.1
      refine r_if_eq 24 dX10_product_17 (by decide) (fun c2 => ?_) (fun c2 => ?_)
      · replace hP := hP.1 c2
        refine r_aload_n dX10_product_24 0 rfl ?_
        refine r_bipush 47 dX10_product_25 rfl ?_
        have hs2 := hP
        refine r_cvI (ok_X10_takesSign hG 47 (muX10_product_4_1 rM rP i s) hs2) lX10_227 (hG.lt (by decide)) sh57 ⟨_, _, rfl⟩ dX10_product_27 (dle (by decide) he) (Nat.le_of_ble_eq_true rfl) rfl (Nat.le_of_ble_eq_true rfl) ?_
        refine r_mu (muX10_product_4_2 rM rP i s) rfl ?_
        refine r_if_eq 37 dX10_product_30 (by decide) (fun c3 => ?_) (fun c3 => ?_)
        · refine r_iconst (-1) dX10_product_37 rfl ?_
          have e : (VX10_product_4_3 rM rP i s) = (-1) := by unfold VX10_product_4_3; rw [if_pos c2, if_pos c3]
          rw [e] at hJ
          clear e
          have e : (VX10_product_4_4 rM rP i s) = (muX10_product_4_2 rM rP i s) := by unfold VX10_product_4_4; rw [if_pos c2]
          rw [e] at hJ
          exact r_sub [0] rfl hJ
        · refine r_iconst 5 dX10_product_33 rfl ?_
          refine r_goto 38 dX10_product_34 (by decide) ?_
          have e : (VX10_product_4_3 rM rP i s) = 5 := by unfold VX10_product_4_3; rw [if_pos c2, if_neg c3]
          rw [e] at hJ
          clear e
          have e : (VX10_product_4_4 rM rP i s) = (muX10_product_4_2 rM rP i s) := by unfold VX10_product_4_4; rw [if_pos c2]
          rw [e] at hJ
          exact r_sub [0] rfl hJ
      · replace hP := hP.2 c2
        refine r_iconst 4 dX10_product_20 rfl ?_
        refine r_goto 38 dX10_product_21 (by decide) ?_
        have e : (VX10_product_4_3 rM rP i s) = 4 := by unfold VX10_product_4_3; rw [if_neg c2]
        rw [e] at hJ
        clear e
        have e : (VX10_product_4_4 rM rP i s) = (muX10_product_4_1 rM rP i s) := by unfold VX10_product_4_4; rw [if_neg c2]
        rw [e] at hJ
        exact r_sub [0] rfl hJ
def NX10_product_4 (rM : Mem → Mem) (rP : Mem → Prop) (μ : Mem) : Nat := (fst 152 (fun j9 => !Cb_X10_product_4 rM rP j9 (fo j9 (g_X10_product_4 rM rP) (muX10_product_1 rM rP μ))))
def SX10_product_4 (rM : Mem → Mem) (rP : Mem → Prop) (μ : Mem) : Mem := fo (NX10_product_4 rM rP μ) (g_X10_product_4 rM rP) (muX10_product_1 rM rP μ)
def muX10_product_2 (rM : Mem → Mem) (rP : Mem → Prop) (μ : Mem) : Mem := (M_X10_takesSign 42 (SX10_product_4 rM rP μ))
def muX10_product_3 (rM : Mem → Mem) (rP : Mem → Prop) (μ : Mem) : Mem := (M_X10_takesSign 47 (muX10_product_2 rM rP μ))
def VX10_product_4 (rM : Mem → Mem) (rP : Mem → Prop) (μ : Mem) : Int32 := (if (F_X10_takesSign 42 (SX10_product_4 rM rP μ)) = 0 then (if (F_X10_takesSign 47 (muX10_product_2 rM rP μ)) = 0 then (-1) else 5) else 4)
def VX10_product_5 (rM : Mem → Mem) (rP : Mem → Prop) (μ : Mem) : Mem := (if (F_X10_takesSign 42 (SX10_product_4 rM rP μ)) = 0 then (muX10_product_3 rM rP μ) else (muX10_product_2 rM rP μ))
def muX10_product_6 (rM : Mem → Mem) (rP : Mem → Prop) (μ : Mem) : Mem := (M_X10_one rM rP (VX10_product_5 rM rP μ))
def muX10_product_7 (rM : Mem → Mem) (rP : Mem → Prop) (μ : Mem) : Mem := (M_X10_notes (VX10_product_4 rM rP μ) 0 (muX10_product_6 rM rP μ))
def M_X10_product (rM : Mem → Mem) (rP : Mem → Prop) (μ : Mem) : Mem := (if ((SX10_product_4 rM rP μ) 57 5) ≠ 0 then (SX10_product_4 rM rP μ) else (VX10_product_5 rM rP μ))
def P_X10_product (rM : Mem → Mem) (rP : Mem → Prop) (μ : Mem) : Prop := ((P_X10_one rM rP μ) ∧ ((∀ j9, j9 < (NX10_product_4 rM rP μ) → Pb_X10_product_4 rM rP j9 (fo j9 (g_X10_product_4 rM rP) (muX10_product_1 rM rP μ))) ∧ ((((SX10_product_4 rM rP μ) 57 5) ≠ 0 → True) ∧ (((SX10_product_4 rM rP μ) 57 5) = 0 → ((P_X10_takesSign 42 (SX10_product_4 rM rP μ)) ∧ ((((F_X10_takesSign 42 (SX10_product_4 rM rP μ)) = 0 → (P_X10_takesSign 47 (muX10_product_2 rM rP μ))) ∧ (¬ (F_X10_takesSign 42 (SX10_product_4 rM rP μ)) = 0 → True)) ∧ (((VX10_product_4 rM rP μ) ≠ (-1) → ((P_X10_one rM rP (VX10_product_5 rM rP μ)) ∧ ((P_X10_notes (VX10_product_4 rM rP μ) 0 (muX10_product_6 rM rP μ)) ∧ False))) ∧ ((VX10_product_4 rM rP μ) = (-1) → True))))))))
set_option maxRecDepth 20000 in
set_option maxHeartbeats 2000000 in
theorem ok_X10_product {G : SG} (hG : GK 548 G) {e : Nat} (he : 40 ≤ e) (rM : Mem → Mem) (rP : Mem → Prop) (hrec : ∀  (ν : Mem), rP  ν → OkF G (mX10_sum e) [.ref (ga G 57)] ν none (rM  ν)) (μ : Mem) (hP : P_X10_product rM rP μ) : OkF G (mX10_product (e + 2)) [.ref (ga G 57)] μ none (M_X10_product rM rP μ) := by
  refine okF_of hG rfl rfl (Nat.le_of_ble_eq_true rfl) ?_
  unfold P_X10_product at hP
  refine r_aload_n dX10_product_0 0 rfl ?_
  have hs1 := hP.1
  replace hP := hP.2
  refine r_cvV (ok_X10_one hG he rM rP hrec  μ hs1) (lX10_233 _) (hG.lt (by decide)) sh57 ⟨_, _, rfl⟩ dX10_product_1 (dpe (a := 1) (b := 2) (by decide)) (Nat.le_of_ble_eq_true rfl) rfl (Nat.le_of_ble_eq_true rfl) ?_
  refine r_mu (muX10_product_1 rM rP μ) rfl ?_
  have hs2 := hP.1
  replace hP := hP.2
  refine r_sub [0] rfl ?_
  refine lp_X10_product_4 hG he rM rP hrec (muX10_product_1 rM rP μ) ((NX10_product_4 rM rP μ)) (SX10_product_4 rM rP μ) rfl hs2 ?_
  refine r_aload_n dX10_product_4 0 rfl ?_
  refine r_getI fX10_119 (hG.lt (by decide)) sh57 fs57_5 dX10_product_5 ?_
  refine r_if_ne 58 dX10_product_8 (by decide) (fun c1 => ?_) (fun c1 => ?_)
  · replace hP := hP.1 c1
    exact r_return dX10_product_58 rfl ⟨rfl, by unfold M_X10_product; rw [if_pos c1]⟩
  · replace hP := hP.2 c1
    refine r_aload_n dX10_product_11 0 rfl ?_
    refine r_bipush 42 dX10_product_12 rfl ?_
    have hs3 := hP.1
    replace hP := hP.2
    refine r_cvI (ok_X10_takesSign hG 42 (SX10_product_4 rM rP μ) hs3) lX10_227 (hG.lt (by decide)) sh57 ⟨_, _, rfl⟩ dX10_product_14 (dle (by decide) he) (Nat.le_of_ble_eq_true rfl) rfl (Nat.le_of_ble_eq_true rfl) ?_
    refine r_mu (muX10_product_2 rM rP μ) rfl ?_
    refine r_join 38 [(0, .ref (ga G 57))] [.int (VX10_product_4 rM rP μ)] (VX10_product_5 rM rP μ) ?_ (fun hJ => ?_)
    · replace hP := hP.2
      refine r_istore_n [(1, _), (0, _)] dX10_product_38 (Nat.le_of_ble_eq_true rfl) rfl ?_
      refine r_iload_n dX10_product_39 0 rfl ?_
      refine r_iconst (-1) dX10_product_40 rfl ?_
      refine r_icmp_ne 45 dX10_product_41 (by decide) (fun c2 => ?_) (fun c2 => ?_)
      · replace hP := hP.1 c2
        refine r_aload_n dX10_product_45 1 rfl ?_
        have hs5 := hP.1
        replace hP := hP.2
        refine r_cvV (ok_X10_one hG he rM rP hrec  (VX10_product_5 rM rP μ) hs5) (lX10_233 _) (hG.lt (by decide)) sh57 ⟨_, _, rfl⟩ dX10_product_46 (dpe (a := 1) (b := 2) (by decide)) (Nat.le_of_ble_eq_true rfl) rfl (Nat.le_of_ble_eq_true rfl) ?_
        refine r_mu (muX10_product_6 rM rP μ) rfl ?_
        refine r_aload_n dX10_product_49 1 rfl ?_
        refine r_iload_n dX10_product_50 0 rfl ?_
        refine r_iconst 0 dX10_product_51 rfl ?_
        have hs6 := hP.1
        replace hP := hP.2
        refine r_cvV (ok_X10_notes hG (VX10_product_4 rM rP μ) 0 (muX10_product_6 rM rP μ) hs6) lX10_230 (hG.lt (by decide)) sh57 ⟨_, _, rfl⟩ dX10_product_52 (dle (by decide) he) (Nat.le_of_ble_eq_true rfl) rfl (Nat.le_of_ble_eq_true rfl) ?_
        refine r_mu (muX10_product_7 rM rP μ) rfl ?_
        refine r_goto 4 dX10_product_55 (by decide) ?_
        exact hP.elim
      · replace hP := hP.2 c2
        exact r_return dX10_product_44 rfl ⟨rfl, by unfold M_X10_product; rw [if_neg (not_not_intro c1)]⟩
    · replace hP := hP.1
      refine r_if_eq 24 dX10_product_17 (by decide) (fun c2 => ?_) (fun c2 => ?_)
      · replace hP := hP.1 c2
        refine r_aload_n dX10_product_24 0 rfl ?_
        refine r_bipush 47 dX10_product_25 rfl ?_
        have hs4 := hP
        refine r_cvI (ok_X10_takesSign hG 47 (muX10_product_2 rM rP μ) hs4) lX10_227 (hG.lt (by decide)) sh57 ⟨_, _, rfl⟩ dX10_product_27 (dle (by decide) he) (Nat.le_of_ble_eq_true rfl) rfl (Nat.le_of_ble_eq_true rfl) ?_
        refine r_mu (muX10_product_3 rM rP μ) rfl ?_
        refine r_if_eq 37 dX10_product_30 (by decide) (fun c3 => ?_) (fun c3 => ?_)
        · refine r_iconst (-1) dX10_product_37 rfl ?_
          have e : (VX10_product_4 rM rP μ) = (-1) := by unfold VX10_product_4; rw [if_pos c2, if_pos c3]
          rw [e] at hJ
          clear e
          have e : (VX10_product_5 rM rP μ) = (muX10_product_3 rM rP μ) := by unfold VX10_product_5; rw [if_pos c2]
          rw [e] at hJ
          exact r_sub [0] rfl hJ
        · refine r_iconst 5 dX10_product_33 rfl ?_
          refine r_goto 38 dX10_product_34 (by decide) ?_
          have e : (VX10_product_4 rM rP μ) = 5 := by unfold VX10_product_4; rw [if_pos c2, if_neg c3]
          rw [e] at hJ
          clear e
          have e : (VX10_product_5 rM rP μ) = (muX10_product_3 rM rP μ) := by unfold VX10_product_5; rw [if_pos c2]
          rw [e] at hJ
          exact r_sub [0] rfl hJ
      · replace hP := hP.2 c2
        refine r_iconst 4 dX10_product_20 rfl ?_
        refine r_goto 38 dX10_product_21 (by decide) ?_
        have e : (VX10_product_4 rM rP μ) = 4 := by unfold VX10_product_4; rw [if_neg c2]
        rw [e] at hJ
        clear e
        have e : (VX10_product_5 rM rP μ) = (muX10_product_2 rM rP μ) := by unfold VX10_product_5; rw [if_neg c2]
        rw [e] at hJ
        exact r_sub [0] rfl hJ
def muX10_sum_1 (rM : Mem → Mem) (rP : Mem → Prop) (μ : Mem) : Mem := (M_X10_product rM rP μ)
def muX10_sum_4_1 (rM : Mem → Mem) (rP : Mem → Prop) (i : Nat) (s : Mem) : Mem := (M_X10_takesSign 43 s)
def muX10_sum_4_2 (rM : Mem → Mem) (rP : Mem → Prop) (i : Nat) (s : Mem) : Mem := (M_X10_takesSign 45 (muX10_sum_4_1 rM rP i s))
def VX10_sum_4_3 (rM : Mem → Mem) (rP : Mem → Prop) (i : Nat) (s : Mem) : Int32 := (if (F_X10_takesSign 43 s) = 0 then (if (F_X10_takesSign 45 (muX10_sum_4_1 rM rP i s)) = 0 then (-1) else 3) else 2)
def VX10_sum_4_4 (rM : Mem → Mem) (rP : Mem → Prop) (i : Nat) (s : Mem) : Mem := (if (F_X10_takesSign 43 s) = 0 then (muX10_sum_4_2 rM rP i s) else (muX10_sum_4_1 rM rP i s))
def muX10_sum_4_5 (rM : Mem → Mem) (rP : Mem → Prop) (i : Nat) (s : Mem) : Mem := (M_X10_product rM rP (VX10_sum_4_4 rM rP i s))
def muX10_sum_4_6 (rM : Mem → Mem) (rP : Mem → Prop) (i : Nat) (s : Mem) : Mem := (M_X10_notes (VX10_sum_4_3 rM rP i s) 0 (muX10_sum_4_5 rM rP i s))
def g_X10_sum_4 (rM : Mem → Mem) (rP : Mem → Prop) (i : Nat) (s : Mem) : Mem := (muX10_sum_4_6 rM rP i s)
def Pb_X10_sum_4 (rM : Mem → Mem) (rP : Mem → Prop) (i : Nat) (s : Mem) : Prop := (((s 57 5) ≠ 0 → False) ∧ ((s 57 5) = 0 → (P_X10_takesSign 43 s) ∧ ((((F_X10_takesSign 43 s) = 0 → P_X10_takesSign 45 (muX10_sum_4_1 rM rP i s)) ∧ (¬ (F_X10_takesSign 43 s) = 0 → True)) ∧ (((VX10_sum_4_3 rM rP i s) ≠ (-1) → (P_X10_product rM rP (VX10_sum_4_4 rM rP i s)) ∧ P_X10_notes (VX10_sum_4_3 rM rP i s) 0 (muX10_sum_4_5 rM rP i s)) ∧ ((VX10_sum_4_3 rM rP i s) = (-1) → False)))))
def Cb_X10_sum_4 (rM : Mem → Mem) (rP : Mem → Prop) (i : Nat) (s : Mem) : Bool := (if (s 57 5) ≠ 0 then false else (if (VX10_sum_4_3 rM rP i s) ≠ (-1) then true else false))
set_option maxRecDepth 20000 in
set_option maxHeartbeats 2000000 in
theorem lp_X10_sum_4 {G : SG} (hG : GK 548 G) {e : Nat} (he : 40 ≤ e) (rM : Mem → Mem) (rP : Mem → Prop) (hrec : ∀  (ν : Mem), rP  ν → OkF G (mX10_sum e) [.ref (ga G 57)] ν none (rM  ν))  (s0 : Mem) (N : Nat) (sN : Mem) (eN : sN = fo N (g_X10_sum_4 rM rP) s0) (hN : ∀ i, i < N → Pb_X10_sum_4 rM rP i (fo i (g_X10_sum_4 rM rP) s0)) {t : Nat} {Q : PQ} {X : PX} (h : R G (mX10_sum (e + 3)) 4 [(0, .ref (ga G 57))] [] sN t Q X) : R G (mX10_sum (e + 3)) 4 [(0, .ref (ga G 57))] [] s0 t Q X := by
  subst eN
  refine down_i N (fun i => R G (mX10_sum (e + 3)) 4 [(0, .ref (ga G 57))] [] (fo i (g_X10_sum_4 rM rP) s0) t Q X) h (fun i hi hS => ?_)
  have hP := hN i hi
  rw [fo_succ] at hS
  generalize fo i (g_X10_sum_4 rM rP) s0 = s at hS hP ⊢
  unfold Pb_X10_sum_4 at hP
  refine r_aload_n dX10_sum_4 0 rfl ?_
  refine r_getI fX10_119 (hG.lt (by decide)) sh57 fs57_5 dX10_sum_5 ?_
  refine r_if_ne 58 dX10_sum_8 (by decide) (fun c1 => ?_) (fun c1 => ?_)
  · replace hP := hP.1 c1
    exact hP.elim
  · replace hP := hP.2 c1
    refine r_aload_n dX10_sum_11 0 rfl ?_
    refine r_bipush 43 dX10_sum_12 rfl ?_
    have hs1 := hP.1
    replace hP := hP.2
    refine r_cvI (ok_X10_takesSign hG 43 s hs1) lX10_227 (hG.lt (by decide)) sh57 ⟨_, _, rfl⟩ dX10_sum_14 (dle (by decide) he) (Nat.le_of_ble_eq_true rfl) rfl (Nat.le_of_ble_eq_true rfl) ?_
    refine r_mu (muX10_sum_4_1 rM rP i s) rfl ?_
    refine r_join 38 [(0, .ref (ga G 57))] [.int (VX10_sum_4_3 rM rP i s)] (VX10_sum_4_4 rM rP i s) ?_ (fun hJ => ?_)
    · replace hP := hP.2
      refine r_istore_n [(1, _), (0, _)] dX10_sum_38 (Nat.le_of_ble_eq_true rfl) rfl ?_
      refine r_iload_n dX10_sum_39 0 rfl ?_
      refine r_iconst (-1) dX10_sum_40 rfl ?_
      refine r_icmp_ne 45 dX10_sum_41 (by decide) (fun c2 => ?_) (fun c2 => ?_)
      · replace hP := hP.1 c2
        refine r_aload_n dX10_sum_45 1 rfl ?_
        have hs3 := hP.1
        replace hP := hP.2
        refine r_cvV (ok_X10_product hG he rM rP hrec  (VX10_sum_4_4 rM rP i s) hs3) (lX10_224 _) (hG.lt (by decide)) sh57 ⟨_, _, rfl⟩ dX10_sum_46 (dpe (a := 2) (b := 3) (by decide)) (Nat.le_of_ble_eq_true rfl) rfl (Nat.le_of_ble_eq_true rfl) ?_
        refine r_mu (muX10_sum_4_5 rM rP i s) rfl ?_
        refine r_aload_n dX10_sum_49 1 rfl ?_
        refine r_iload_n dX10_sum_50 0 rfl ?_
        refine r_iconst 0 dX10_sum_51 rfl ?_
        have hs4 := hP
        refine r_cvV (ok_X10_notes hG (VX10_sum_4_3 rM rP i s) 0 (muX10_sum_4_5 rM rP i s) hs4) lX10_230 (hG.lt (by decide)) sh57 ⟨_, _, rfl⟩ dX10_sum_52 (dle (by decide) he) (Nat.le_of_ble_eq_true rfl) rfl (Nat.le_of_ble_eq_true rfl) ?_
        refine r_mu (muX10_sum_4_6 rM rP i s) rfl ?_
        refine r_goto 4 dX10_sum_55 (by decide) ?_
        have e : g_X10_sum_4 rM rP i s = (muX10_sum_4_6 rM rP i s) := by unfold g_X10_sum_4; rfl
        rw [e] at hS
        exact r_sub [1] rfl hS
      · replace hP := hP.2 c2
        exact hP.elim
    · replace hP := hP.1
      refine r_if_eq 24 dX10_sum_17 (by decide) (fun c2 => ?_) (fun c2 => ?_)
      · replace hP := hP.1 c2
        refine r_aload_n dX10_sum_24 0 rfl ?_
        refine r_bipush 45 dX10_sum_25 rfl ?_
        have hs2 := hP
        refine r_cvI (ok_X10_takesSign hG 45 (muX10_sum_4_1 rM rP i s) hs2) lX10_227 (hG.lt (by decide)) sh57 ⟨_, _, rfl⟩ dX10_sum_27 (dle (by decide) he) (Nat.le_of_ble_eq_true rfl) rfl (Nat.le_of_ble_eq_true rfl) ?_
        refine r_mu (muX10_sum_4_2 rM rP i s) rfl ?_
        refine r_if_eq 37 dX10_sum_30 (by decide) (fun c3 => ?_) (fun c3 => ?_)
        · refine r_iconst (-1) dX10_sum_37 rfl ?_
          have e : (VX10_sum_4_3 rM rP i s) = (-1) := by unfold VX10_sum_4_3; rw [if_pos c2, if_pos c3]
          rw [e] at hJ
          clear e
          have e : (VX10_sum_4_4 rM rP i s) = (muX10_sum_4_2 rM rP i s) := by unfold VX10_sum_4_4; rw [if_pos c2]
          rw [e] at hJ
          exact r_sub [0] rfl hJ
        · refine r_iconst 3 dX10_sum_33 rfl ?_
          refine r_goto 38 dX10_sum_34 (by decide) ?_
          have e : (VX10_sum_4_3 rM rP i s) = 3 := by unfold VX10_sum_4_3; rw [if_pos c2, if_neg c3]
          rw [e] at hJ
          clear e
          have e : (VX10_sum_4_4 rM rP i s) = (muX10_sum_4_2 rM rP i s) := by unfold VX10_sum_4_4; rw [if_pos c2]
          rw [e] at hJ
          exact r_sub [0] rfl hJ
      · replace hP := hP.2 c2
        refine r_iconst 2 dX10_sum_20 rfl ?_
        refine r_goto 38 dX10_sum_21 (by decide) ?_
        have e : (VX10_sum_4_3 rM rP i s) = 2 := by unfold VX10_sum_4_3; rw [if_neg c2]
        rw [e] at hJ
        clear e
        have e : (VX10_sum_4_4 rM rP i s) = (muX10_sum_4_1 rM rP i s) := by unfold VX10_sum_4_4; rw [if_neg c2]
        rw [e] at hJ
        exact r_sub [0] rfl hJ
def NX10_sum_4 (rM : Mem → Mem) (rP : Mem → Prop) (μ : Mem) : Nat := (fst 152 (fun j9 => !Cb_X10_sum_4 rM rP j9 (fo j9 (g_X10_sum_4 rM rP) (muX10_sum_1 rM rP μ))))
def SX10_sum_4 (rM : Mem → Mem) (rP : Mem → Prop) (μ : Mem) : Mem := fo (NX10_sum_4 rM rP μ) (g_X10_sum_4 rM rP) (muX10_sum_1 rM rP μ)
def muX10_sum_2 (rM : Mem → Mem) (rP : Mem → Prop) (μ : Mem) : Mem := (M_X10_takesSign 43 (SX10_sum_4 rM rP μ))
def muX10_sum_3 (rM : Mem → Mem) (rP : Mem → Prop) (μ : Mem) : Mem := (M_X10_takesSign 45 (muX10_sum_2 rM rP μ))
def VX10_sum_4 (rM : Mem → Mem) (rP : Mem → Prop) (μ : Mem) : Int32 := (if (F_X10_takesSign 43 (SX10_sum_4 rM rP μ)) = 0 then (if (F_X10_takesSign 45 (muX10_sum_2 rM rP μ)) = 0 then (-1) else 3) else 2)
def VX10_sum_5 (rM : Mem → Mem) (rP : Mem → Prop) (μ : Mem) : Mem := (if (F_X10_takesSign 43 (SX10_sum_4 rM rP μ)) = 0 then (muX10_sum_3 rM rP μ) else (muX10_sum_2 rM rP μ))
def muX10_sum_6 (rM : Mem → Mem) (rP : Mem → Prop) (μ : Mem) : Mem := (M_X10_product rM rP (VX10_sum_5 rM rP μ))
def muX10_sum_7 (rM : Mem → Mem) (rP : Mem → Prop) (μ : Mem) : Mem := (M_X10_notes (VX10_sum_4 rM rP μ) 0 (muX10_sum_6 rM rP μ))
def M_X10_sum (rM : Mem → Mem) (rP : Mem → Prop) (μ : Mem) : Mem := (if ((SX10_sum_4 rM rP μ) 57 5) ≠ 0 then (SX10_sum_4 rM rP μ) else (VX10_sum_5 rM rP μ))
def P_X10_sum (rM : Mem → Mem) (rP : Mem → Prop) (μ : Mem) : Prop := ((P_X10_product rM rP μ) ∧ ((∀ j9, j9 < (NX10_sum_4 rM rP μ) → Pb_X10_sum_4 rM rP j9 (fo j9 (g_X10_sum_4 rM rP) (muX10_sum_1 rM rP μ))) ∧ ((((SX10_sum_4 rM rP μ) 57 5) ≠ 0 → True) ∧ (((SX10_sum_4 rM rP μ) 57 5) = 0 → ((P_X10_takesSign 43 (SX10_sum_4 rM rP μ)) ∧ ((((F_X10_takesSign 43 (SX10_sum_4 rM rP μ)) = 0 → (P_X10_takesSign 45 (muX10_sum_2 rM rP μ))) ∧ (¬ (F_X10_takesSign 43 (SX10_sum_4 rM rP μ)) = 0 → True)) ∧ (((VX10_sum_4 rM rP μ) ≠ (-1) → ((P_X10_product rM rP (VX10_sum_5 rM rP μ)) ∧ ((P_X10_notes (VX10_sum_4 rM rP μ) 0 (muX10_sum_6 rM rP μ)) ∧ False))) ∧ ((VX10_sum_4 rM rP μ) = (-1) → True))))))))
set_option maxRecDepth 20000 in
set_option maxHeartbeats 2000000 in
theorem ok_X10_sum {G : SG} (hG : GK 548 G) {e : Nat} (he : 40 ≤ e) (rM : Mem → Mem) (rP : Mem → Prop) (hrec : ∀  (ν : Mem), rP  ν → OkF G (mX10_sum e) [.ref (ga G 57)] ν none (rM  ν)) (μ : Mem) (hP : P_X10_sum rM rP μ) : OkF G (mX10_sum (e + 3)) [.ref (ga G 57)] μ none (M_X10_sum rM rP μ) := by
  refine okF_of hG rfl rfl (Nat.le_of_ble_eq_true rfl) ?_
  unfold P_X10_sum at hP
  refine r_aload_n dX10_sum_0 0 rfl ?_
  have hs1 := hP.1
  replace hP := hP.2
  refine r_cvV (ok_X10_product hG he rM rP hrec  μ hs1) (lX10_224 _) (hG.lt (by decide)) sh57 ⟨_, _, rfl⟩ dX10_sum_1 (dpe (a := 2) (b := 3) (by decide)) (Nat.le_of_ble_eq_true rfl) rfl (Nat.le_of_ble_eq_true rfl) ?_
  refine r_mu (muX10_sum_1 rM rP μ) rfl ?_
  have hs2 := hP.1
  replace hP := hP.2
  refine r_sub [0] rfl ?_
  refine lp_X10_sum_4 hG he rM rP hrec (muX10_sum_1 rM rP μ) ((NX10_sum_4 rM rP μ)) (SX10_sum_4 rM rP μ) rfl hs2 ?_
  refine r_aload_n dX10_sum_4 0 rfl ?_
  refine r_getI fX10_119 (hG.lt (by decide)) sh57 fs57_5 dX10_sum_5 ?_
  refine r_if_ne 58 dX10_sum_8 (by decide) (fun c1 => ?_) (fun c1 => ?_)
  · replace hP := hP.1 c1
    exact r_return dX10_sum_58 rfl ⟨rfl, by unfold M_X10_sum; rw [if_pos c1]⟩
  · replace hP := hP.2 c1
    refine r_aload_n dX10_sum_11 0 rfl ?_
    refine r_bipush 43 dX10_sum_12 rfl ?_
    have hs3 := hP.1
    replace hP := hP.2
    refine r_cvI (ok_X10_takesSign hG 43 (SX10_sum_4 rM rP μ) hs3) lX10_227 (hG.lt (by decide)) sh57 ⟨_, _, rfl⟩ dX10_sum_14 (dle (by decide) he) (Nat.le_of_ble_eq_true rfl) rfl (Nat.le_of_ble_eq_true rfl) ?_
    refine r_mu (muX10_sum_2 rM rP μ) rfl ?_
    refine r_join 38 [(0, .ref (ga G 57))] [.int (VX10_sum_4 rM rP μ)] (VX10_sum_5 rM rP μ) ?_ (fun hJ => ?_)
    · replace hP := hP.2
      refine r_istore_n [(1, _), (0, _)] dX10_sum_38 (Nat.le_of_ble_eq_true rfl) rfl ?_
      refine r_iload_n dX10_sum_39 0 rfl ?_
      refine r_iconst (-1) dX10_sum_40 rfl ?_
      refine r_icmp_ne 45 dX10_sum_41 (by decide) (fun c2 => ?_) (fun c2 => ?_)
      · replace hP := hP.1 c2
        refine r_aload_n dX10_sum_45 1 rfl ?_
        have hs5 := hP.1
        replace hP := hP.2
        refine r_cvV (ok_X10_product hG he rM rP hrec  (VX10_sum_5 rM rP μ) hs5) (lX10_224 _) (hG.lt (by decide)) sh57 ⟨_, _, rfl⟩ dX10_sum_46 (dpe (a := 2) (b := 3) (by decide)) (Nat.le_of_ble_eq_true rfl) rfl (Nat.le_of_ble_eq_true rfl) ?_
        refine r_mu (muX10_sum_6 rM rP μ) rfl ?_
        refine r_aload_n dX10_sum_49 1 rfl ?_
        refine r_iload_n dX10_sum_50 0 rfl ?_
        refine r_iconst 0 dX10_sum_51 rfl ?_
        have hs6 := hP.1
        replace hP := hP.2
        refine r_cvV (ok_X10_notes hG (VX10_sum_4 rM rP μ) 0 (muX10_sum_6 rM rP μ) hs6) lX10_230 (hG.lt (by decide)) sh57 ⟨_, _, rfl⟩ dX10_sum_52 (dle (by decide) he) (Nat.le_of_ble_eq_true rfl) rfl (Nat.le_of_ble_eq_true rfl) ?_
        refine r_mu (muX10_sum_7 rM rP μ) rfl ?_
        refine r_goto 4 dX10_sum_55 (by decide) ?_
        exact hP.elim
      · replace hP := hP.2 c2
        exact r_return dX10_sum_44 rfl ⟨rfl, by unfold M_X10_sum; rw [if_neg (not_not_intro c1)]⟩
    · replace hP := hP.1
      refine r_if_eq 24 dX10_sum_17 (by decide) (fun c2 => ?_) (fun c2 => ?_)
      · replace hP := hP.1 c2
        refine r_aload_n dX10_sum_24 0 rfl ?_
        refine r_bipush 45 dX10_sum_25 rfl ?_
        have hs4 := hP
        refine r_cvI (ok_X10_takesSign hG 45 (muX10_sum_2 rM rP μ) hs4) lX10_227 (hG.lt (by decide)) sh57 ⟨_, _, rfl⟩ dX10_sum_27 (dle (by decide) he) (Nat.le_of_ble_eq_true rfl) rfl (Nat.le_of_ble_eq_true rfl) ?_
        refine r_mu (muX10_sum_3 rM rP μ) rfl ?_
        refine r_if_eq 37 dX10_sum_30 (by decide) (fun c3 => ?_) (fun c3 => ?_)
        · refine r_iconst (-1) dX10_sum_37 rfl ?_
          have e : (VX10_sum_4 rM rP μ) = (-1) := by unfold VX10_sum_4; rw [if_pos c2, if_pos c3]
          rw [e] at hJ
          clear e
          have e : (VX10_sum_5 rM rP μ) = (muX10_sum_3 rM rP μ) := by unfold VX10_sum_5; rw [if_pos c2]
          rw [e] at hJ
          exact r_sub [0] rfl hJ
        · refine r_iconst 3 dX10_sum_33 rfl ?_
          refine r_goto 38 dX10_sum_34 (by decide) ?_
          have e : (VX10_sum_4 rM rP μ) = 3 := by unfold VX10_sum_4; rw [if_pos c2, if_neg c3]
          rw [e] at hJ
          clear e
          have e : (VX10_sum_5 rM rP μ) = (muX10_sum_3 rM rP μ) := by unfold VX10_sum_5; rw [if_pos c2]
          rw [e] at hJ
          exact r_sub [0] rfl hJ
      · replace hP := hP.2 c2
        refine r_iconst 2 dX10_sum_20 rfl ?_
        refine r_goto 38 dX10_sum_21 (by decide) ?_
        have e : (VX10_sum_4 rM rP μ) = 2 := by unfold VX10_sum_4; rw [if_neg c2]
        rw [e] at hJ
        clear e
        have e : (VX10_sum_5 rM rP μ) = (muX10_sum_2 rM rP μ) := by unfold VX10_sum_5; rw [if_neg c2]
        rw [e] at hJ
        exact r_sub [0] rfl hJ
def muX10_readsStep_1 (rM : Mem → Mem) (rP : Mem → Prop) (μ : Mem) : Mem := (M_X10_stepHere  μ)
def muX10_readsStep_2 (rM : Mem → Mem) (rP : Mem → Prop) (μ : Mem) : Mem := (M_X10_wrong 1 ((muX10_readsStep_1 rM rP μ) 57 4) (muX10_readsStep_1 rM rP μ))
def VX10_readsStep_3 (rM : Mem → Mem) (rP : Mem → Prop) (μ : Mem) : Mem := (if (F_X10_stepHere  μ) ≠ (-1) then (muX10_readsStep_1 rM rP μ) else (muX10_readsStep_2 rM rP μ))
def muX10_readsStep_4 (rM : Mem → Mem) (rP : Mem → Prop) (μ : Mem) : Mem := (M_X10_skipWord  (VX10_readsStep_3 rM rP μ))
def muX10_readsStep_5 (rM : Mem → Mem) (rP : Mem → Prop) (μ : Mem) : Mem := (upm (muX10_readsStep_4 rM rP μ) 57 30 (((muX10_readsStep_4 rM rP μ) 57 30) + 1))
def muX10_readsStep_6 (rM : Mem → Mem) (rP : Mem → Prop) (μ : Mem) : Mem := (upm (muX10_readsStep_5 rM rP μ) (441 + (ix ((muX10_readsStep_4 rM rP μ) 57 30))) 0 (F_X10_stepHere  μ))
def muX10_readsStep_7 (rM : Mem → Mem) (rP : Mem → Prop) (μ : Mem) : Mem := (M_X10_number 0 (((muX10_readsStep_6 rM rP μ) 61 1) - 1) (muX10_readsStep_6 rM rP μ))
def muX10_readsStep_8 (rM : Mem → Mem) (rP : Mem → Prop) (μ : Mem) : Mem := (upm (muX10_readsStep_7 rM rP μ) (441 + (ix ((muX10_readsStep_4 rM rP μ) 57 30))) 1 (F_X10_number 0 (((muX10_readsStep_6 rM rP μ) 61 1) - 1) (muX10_readsStep_6 rM rP μ)))
def VX10_readsStep_9 (rM : Mem → Mem) (rP : Mem → Prop) (μ : Mem) : Mem := (if 4 ≤ (F_X10_stepHere  μ) then (muX10_readsStep_6 rM rP μ) else (muX10_readsStep_8 rM rP μ))
def muX10_readsStep_10 (rM : Mem → Mem) (rP : Mem → Prop) (μ : Mem) : Mem := (M_X10_number 0 (((VX10_readsStep_9 rM rP μ) 61 0) - 1) (VX10_readsStep_9 rM rP μ))
def muX10_readsStep_11 (rM : Mem → Mem) (rP : Mem → Prop) (μ : Mem) : Mem := (upm (muX10_readsStep_10 rM rP μ) (441 + (ix ((muX10_readsStep_4 rM rP μ) 57 30))) 1 (F_X10_number 0 (((VX10_readsStep_9 rM rP μ) 61 0) - 1) (VX10_readsStep_9 rM rP μ)))
def VX10_readsStep_12 (rM : Mem → Mem) (rP : Mem → Prop) (μ : Mem) : Mem := (if (F_X10_stepHere  μ) ≠ 4 then (VX10_readsStep_9 rM rP μ) else (muX10_readsStep_11 rM rP μ))
def muX10_readsStep_13 (rM : Mem → Mem) (rP : Mem → Prop) (μ : Mem) : Mem := (upm (VX10_readsStep_12 rM rP μ) (441 + (ix ((muX10_readsStep_4 rM rP μ) 57 30))) 2 ((VX10_readsStep_12 rM rP μ) 57 30))
def muX10_readsStep_14 (rM : Mem → Mem) (rP : Mem → Prop) (μ : Mem) : Mem := (M_X10_sign 59 (muX10_readsStep_13 rM rP μ))
def muX10_readsStep_15 (rM : Mem → Mem) (rP : Mem → Prop) (μ : Mem) : Mem := (M_X10_number 0 20 (VX10_readsStep_12 rM rP μ))
def muX10_readsStep_16 (rM : Mem → Mem) (rP : Mem → Prop) (μ : Mem) : Mem := (upm (muX10_readsStep_15 rM rP μ) (441 + (ix ((muX10_readsStep_4 rM rP μ) 57 30))) 1 (F_X10_number 0 20 (VX10_readsStep_12 rM rP μ)))
def muX10_readsStep_17 (rM : Mem → Mem) (rP : Mem → Prop) (μ : Mem) : Mem := (M_X10_sign 91 (muX10_readsStep_16 rM rP μ))
def muX10_readsStep_18 (rM : Mem → Mem) (rP : Mem → Prop) (μ : Mem) : Mem := (M_X10_blanks  (muX10_readsStep_17 rM rP μ))
def muX10_readsStep_137_1 (rM : Mem → Mem) (rP : Mem → Prop) (rw2 : Nat) (v1 : Int32) (i : Nat) (s : Mem) : Mem := (rM  s)
def muX10_readsStep_137_2 (rM : Mem → Mem) (rP : Mem → Prop) (rw2 : Nat) (v1 : Int32) (i : Nat) (s : Mem) : Mem := (M_X10_blanks  (muX10_readsStep_137_1 rM rP rw2 v1 i s))
def g_X10_readsStep_137 (rM : Mem → Mem) (rP : Mem → Prop) (rw2 : Nat) (v1 : Int32) (i : Nat) (s : Mem) : Mem := (muX10_readsStep_137_2 rM rP rw2 v1 i s)
def Pb_X10_readsStep_137 (rM : Mem → Mem) (rP : Mem → Prop) (rw2 : Nat) (v1 : Int32) (i : Nat) (s : Mem) : Prop := (((s 57 5) ≠ 0 → False) ∧ ((s 57 5) = 0 → (P_X10_byteAt (s 57 4) s) ∧ (((F_X10_byteAt (s 57 4) s) = 93 → False) ∧ (¬ (F_X10_byteAt (s 57 4) s) = 93 → (rP  s) ∧ P_X10_blanks  (muX10_readsStep_137_1 rM rP rw2 v1 i s)))))
def Cb_X10_readsStep_137 (rM : Mem → Mem) (rP : Mem → Prop) (rw2 : Nat) (v1 : Int32) (i : Nat) (s : Mem) : Bool := (if (s 57 5) ≠ 0 then false else (if (F_X10_byteAt (s 57 4) s) = 93 then false else true))
set_option maxRecDepth 20000 in
set_option maxHeartbeats 2000000 in
theorem lp_X10_readsStep_137 {G : SG} (hG : GK 548 G) {e : Nat} (he : 40 ≤ e) (rM : Mem → Mem) (rP : Mem → Prop) (hrec : ∀  (ν : Mem), rP  ν → OkF G (mX10_readsStep e) [.ref (ga G 57)] ν none (rM  ν)) {rw2 : Nat} (hlrw2 : rw2 < gh G) (hsrw2 : shp rw2 = (1, 3, 0)) (v1 : Int32) (s0 : Mem) (N : Nat) (sN : Mem) (eN : sN = fo N (g_X10_readsStep_137 rM rP rw2 v1) s0) (hN : ∀ i, i < N → Pb_X10_readsStep_137 rM rP rw2 v1 i (fo i (g_X10_readsStep_137 rM rP rw2 v1) s0)) {t : Nat} {Q : PQ} {X : PX} (h : R G (mX10_readsStep (e + 1)) 137 [(0, .ref (ga G 57)), (1, .int v1), (2, .ref (ga G rw2))] [] sN t Q X) : R G (mX10_readsStep (e + 1)) 137 [(0, .ref (ga G 57)), (1, .int v1), (2, .ref (ga G rw2))] [] s0 t Q X := by
  subst eN
  refine down_i N (fun i => R G (mX10_readsStep (e + 1)) 137 [(0, .ref (ga G 57)), (1, .int v1), (2, .ref (ga G rw2))] [] (fo i (g_X10_readsStep_137 rM rP rw2 v1) s0) t Q X) h (fun i hi hS => ?_)
  have hP := hN i hi
  rw [fo_succ] at hS
  generalize fo i (g_X10_readsStep_137 rM rP rw2 v1) s0 = s at hS hP ⊢
  unfold Pb_X10_readsStep_137 at hP
  refine r_aload_n dX10_readsStep_137 0 rfl ?_
  refine r_getI fX10_119 (hG.lt (by decide)) sh57 fs57_5 dX10_readsStep_138 ?_
  refine r_if_ne 168 dX10_readsStep_141 (by decide) (fun c1 => ?_) (fun c1 => ?_)
  · replace hP := hP.1 c1
    exact hP.elim
  · replace hP := hP.2 c1
    refine r_aload_n dX10_readsStep_144 0 rfl ?_
    refine r_aload_n dX10_readsStep_145 0 rfl ?_
    refine r_getI fX10_112 (hG.lt (by decide)) sh57 fs57_4 dX10_readsStep_146 ?_
    have hs1 := hP.1
    replace hP := hP.2
    refine r_cvI (ok_X10_byteAt hG (s 57 4) s hs1) lX10_115 (hG.lt (by decide)) sh57 ⟨_, _, rfl⟩ dX10_readsStep_149 (dle (by decide) he) (Nat.le_of_ble_eq_true rfl) rfl (Nat.le_of_ble_eq_true rfl) ?_
    refine r_bipush 93 dX10_readsStep_152 rfl ?_
    refine r_icmp_eq 168 dX10_readsStep_154 (by decide) (fun c2 => ?_) (fun c2 => ?_)
    · replace hP := hP.1 c2
      exact hP.elim
    · replace hP := hP.2 c2
      refine r_aload_n dX10_readsStep_157 0 rfl ?_
      have hs2 := hP.1
      replace hP := hP.2
      refine r_cvV (hrec  s hs2) (lX10_265 _) (hG.lt (by decide)) sh57 ⟨_, _, rfl⟩ dX10_readsStep_158 (dpe (a := 0) (b := 1) (by decide)) (Nat.le_of_ble_eq_true rfl) rfl (Nat.le_of_ble_eq_true rfl) ?_
      refine r_mu (muX10_readsStep_137_1 rM rP rw2 v1 i s) rfl ?_
      refine r_aload_n dX10_readsStep_161 0 rfl ?_
      have hs3 := hP
      refine r_cvV (ok_X10_blanks hG  (muX10_readsStep_137_1 rM rP rw2 v1 i s) hs3) lX10_125 (hG.lt (by decide)) sh57 ⟨_, _, rfl⟩ dX10_readsStep_162 (dle (by decide) he) (Nat.le_of_ble_eq_true rfl) rfl (Nat.le_of_ble_eq_true rfl) ?_
      refine r_mu (muX10_readsStep_137_2 rM rP rw2 v1 i s) rfl ?_
      refine r_goto 137 dX10_readsStep_165 (by decide) ?_
      have e : g_X10_readsStep_137 rM rP rw2 v1 i s = (muX10_readsStep_137_2 rM rP rw2 v1 i s) := by unfold g_X10_readsStep_137; rfl
      rw [e] at hS
      exact r_sub [0, 1, 2] rfl hS
def NX10_readsStep_137 (rM : Mem → Mem) (rP : Mem → Prop) (μ : Mem) : Nat := (fst 152 (fun j9 => !Cb_X10_readsStep_137 rM rP (441 + (ix ((muX10_readsStep_4 rM rP μ) 57 30))) (F_X10_stepHere  μ) j9 (fo j9 (g_X10_readsStep_137 rM rP (441 + (ix ((muX10_readsStep_4 rM rP μ) 57 30))) (F_X10_stepHere  μ)) (muX10_readsStep_18 rM rP μ))))
def SX10_readsStep_137 (rM : Mem → Mem) (rP : Mem → Prop) (μ : Mem) : Mem := fo (NX10_readsStep_137 rM rP μ) (g_X10_readsStep_137 rM rP (441 + (ix ((muX10_readsStep_4 rM rP μ) 57 30))) (F_X10_stepHere  μ)) (muX10_readsStep_18 rM rP μ)
def muX10_readsStep_19 (rM : Mem → Mem) (rP : Mem → Prop) (μ : Mem) : Mem := (M_X10_sign 93 (SX10_readsStep_137 rM rP μ))
def muX10_readsStep_20 (rM : Mem → Mem) (rP : Mem → Prop) (μ : Mem) : Mem := (upm (muX10_readsStep_19 rM rP μ) 57 8 (((muX10_readsStep_19 rM rP μ) 57 8) - 1))
def muX10_readsStep_21 (rM : Mem → Mem) (rP : Mem → Prop) (μ : Mem) : Mem := (upm (muX10_readsStep_20 rM rP μ) (441 + (ix ((muX10_readsStep_4 rM rP μ) 57 30))) 2 ((muX10_readsStep_20 rM rP μ) 57 30))
def muX10_readsStep_22 (rM : Mem → Mem) (rP : Mem → Prop) (μ : Mem) : Mem := (M_X10_sign 59 (muX10_readsStep_21 rM rP μ))
def muX10_readsStep_23 (rM : Mem → Mem) (rP : Mem → Prop) (μ : Mem) : Mem := (M_X10_sign 93 (SX10_readsStep_137 rM rP μ))
def muX10_readsStep_24 (rM : Mem → Mem) (rP : Mem → Prop) (μ : Mem) : Mem := (upm (muX10_readsStep_23 rM rP μ) 57 8 (((muX10_readsStep_23 rM rP μ) 57 8) - 1))
def muX10_readsStep_25 (rM : Mem → Mem) (rP : Mem → Prop) (μ : Mem) : Mem := (upm (muX10_readsStep_24 rM rP μ) (441 + (ix ((muX10_readsStep_4 rM rP μ) 57 30))) 2 ((muX10_readsStep_24 rM rP μ) 57 30))
def muX10_readsStep_26 (rM : Mem → Mem) (rP : Mem → Prop) (μ : Mem) : Mem := (M_X10_sign 59 (muX10_readsStep_25 rM rP μ))
def muX10_readsStep_27 (rM : Mem → Mem) (rP : Mem → Prop) (μ : Mem) : Mem := (rM  (SX10_readsStep_137 rM rP μ))
def muX10_readsStep_28 (rM : Mem → Mem) (rP : Mem → Prop) (μ : Mem) : Mem := (M_X10_blanks  (muX10_readsStep_27 rM rP μ))
def muX10_readsStep_29 (rM : Mem → Mem) (rP : Mem → Prop) (μ : Mem) : Mem := (M_X10_opensOne  (VX10_readsStep_3 rM rP μ))
def muX10_readsStep_30 (rM : Mem → Mem) (rP : Mem → Prop) (μ : Mem) : Mem := (M_X10_skipWord  (muX10_readsStep_29 rM rP μ))
def muX10_readsStep_31 (rM : Mem → Mem) (rP : Mem → Prop) (μ : Mem) : Mem := (upm (muX10_readsStep_30 rM rP μ) 57 30 (((muX10_readsStep_30 rM rP μ) 57 30) + 1))
def muX10_readsStep_32 (rM : Mem → Mem) (rP : Mem → Prop) (μ : Mem) : Mem := (upm (muX10_readsStep_31 rM rP μ) (441 + (ix ((muX10_readsStep_30 rM rP μ) 57 30))) 0 (F_X10_stepHere  μ))
def muX10_readsStep_33 (rM : Mem → Mem) (rP : Mem → Prop) (μ : Mem) : Mem := (M_X10_number 0 (((muX10_readsStep_32 rM rP μ) 61 1) - 1) (muX10_readsStep_32 rM rP μ))
def muX10_readsStep_34 (rM : Mem → Mem) (rP : Mem → Prop) (μ : Mem) : Mem := (upm (muX10_readsStep_33 rM rP μ) (441 + (ix ((muX10_readsStep_30 rM rP μ) 57 30))) 1 (F_X10_number 0 (((muX10_readsStep_32 rM rP μ) 61 1) - 1) (muX10_readsStep_32 rM rP μ)))
def VX10_readsStep_35 (rM : Mem → Mem) (rP : Mem → Prop) (μ : Mem) : Mem := (if 4 ≤ (F_X10_stepHere  μ) then (muX10_readsStep_32 rM rP μ) else (muX10_readsStep_34 rM rP μ))
def muX10_readsStep_36 (rM : Mem → Mem) (rP : Mem → Prop) (μ : Mem) : Mem := (M_X10_number 0 (((VX10_readsStep_35 rM rP μ) 61 0) - 1) (VX10_readsStep_35 rM rP μ))
def muX10_readsStep_37 (rM : Mem → Mem) (rP : Mem → Prop) (μ : Mem) : Mem := (upm (muX10_readsStep_36 rM rP μ) (441 + (ix ((muX10_readsStep_30 rM rP μ) 57 30))) 1 (F_X10_number 0 (((VX10_readsStep_35 rM rP μ) 61 0) - 1) (VX10_readsStep_35 rM rP μ)))
def VX10_readsStep_38 (rM : Mem → Mem) (rP : Mem → Prop) (μ : Mem) : Mem := (if (F_X10_stepHere  μ) ≠ 4 then (VX10_readsStep_35 rM rP μ) else (muX10_readsStep_37 rM rP μ))
def muX10_readsStep_39 (rM : Mem → Mem) (rP : Mem → Prop) (μ : Mem) : Mem := (upm (VX10_readsStep_38 rM rP μ) (441 + (ix ((muX10_readsStep_30 rM rP μ) 57 30))) 2 ((VX10_readsStep_38 rM rP μ) 57 30))
def muX10_readsStep_40 (rM : Mem → Mem) (rP : Mem → Prop) (μ : Mem) : Mem := (M_X10_sign 59 (muX10_readsStep_39 rM rP μ))
def muX10_readsStep_41 (rM : Mem → Mem) (rP : Mem → Prop) (μ : Mem) : Mem := (M_X10_number 0 20 (VX10_readsStep_38 rM rP μ))
def muX10_readsStep_42 (rM : Mem → Mem) (rP : Mem → Prop) (μ : Mem) : Mem := (upm (muX10_readsStep_41 rM rP μ) (441 + (ix ((muX10_readsStep_30 rM rP μ) 57 30))) 1 (F_X10_number 0 20 (VX10_readsStep_38 rM rP μ)))
def muX10_readsStep_43 (rM : Mem → Mem) (rP : Mem → Prop) (μ : Mem) : Mem := (M_X10_sign 91 (muX10_readsStep_42 rM rP μ))
def muX10_readsStep_44 (rM : Mem → Mem) (rP : Mem → Prop) (μ : Mem) : Mem := (M_X10_blanks  (muX10_readsStep_43 rM rP μ))
def NX10_readsStep_137' (rM : Mem → Mem) (rP : Mem → Prop) (μ : Mem) : Nat := (fst 152 (fun j9 => !Cb_X10_readsStep_137 rM rP (441 + (ix ((muX10_readsStep_30 rM rP μ) 57 30))) (F_X10_stepHere  μ) j9 (fo j9 (g_X10_readsStep_137 rM rP (441 + (ix ((muX10_readsStep_30 rM rP μ) 57 30))) (F_X10_stepHere  μ)) (muX10_readsStep_44 rM rP μ))))
def SX10_readsStep_137' (rM : Mem → Mem) (rP : Mem → Prop) (μ : Mem) : Mem := fo (NX10_readsStep_137' rM rP μ) (g_X10_readsStep_137 rM rP (441 + (ix ((muX10_readsStep_30 rM rP μ) 57 30))) (F_X10_stepHere  μ)) (muX10_readsStep_44 rM rP μ)
def muX10_readsStep_45 (rM : Mem → Mem) (rP : Mem → Prop) (μ : Mem) : Mem := (M_X10_sign 93 (SX10_readsStep_137' rM rP μ))
def muX10_readsStep_46 (rM : Mem → Mem) (rP : Mem → Prop) (μ : Mem) : Mem := (upm (muX10_readsStep_45 rM rP μ) 57 8 (((muX10_readsStep_45 rM rP μ) 57 8) - 1))
def muX10_readsStep_47 (rM : Mem → Mem) (rP : Mem → Prop) (μ : Mem) : Mem := (upm (muX10_readsStep_46 rM rP μ) (441 + (ix ((muX10_readsStep_30 rM rP μ) 57 30))) 2 ((muX10_readsStep_46 rM rP μ) 57 30))
def muX10_readsStep_48 (rM : Mem → Mem) (rP : Mem → Prop) (μ : Mem) : Mem := (M_X10_sign 59 (muX10_readsStep_47 rM rP μ))
def muX10_readsStep_49 (rM : Mem → Mem) (rP : Mem → Prop) (μ : Mem) : Mem := (M_X10_sign 93 (SX10_readsStep_137' rM rP μ))
def muX10_readsStep_50 (rM : Mem → Mem) (rP : Mem → Prop) (μ : Mem) : Mem := (upm (muX10_readsStep_49 rM rP μ) 57 8 (((muX10_readsStep_49 rM rP μ) 57 8) - 1))
def muX10_readsStep_51 (rM : Mem → Mem) (rP : Mem → Prop) (μ : Mem) : Mem := (upm (muX10_readsStep_50 rM rP μ) (441 + (ix ((muX10_readsStep_30 rM rP μ) 57 30))) 2 ((muX10_readsStep_50 rM rP μ) 57 30))
def muX10_readsStep_52 (rM : Mem → Mem) (rP : Mem → Prop) (μ : Mem) : Mem := (M_X10_sign 59 (muX10_readsStep_51 rM rP μ))
def muX10_readsStep_53 (rM : Mem → Mem) (rP : Mem → Prop) (μ : Mem) : Mem := (rM  (SX10_readsStep_137' rM rP μ))
def muX10_readsStep_54 (rM : Mem → Mem) (rP : Mem → Prop) (μ : Mem) : Mem := (M_X10_blanks  (muX10_readsStep_53 rM rP μ))
def M_X10_readsStep (rM : Mem → Mem) (rP : Mem → Prop) (μ : Mem) : Mem := (if (F_X10_stepHere  μ) ≠ 6 then (if ((VX10_readsStep_3 rM rP μ) 57 5) = 0 then (if (F_X10_stepHere  μ) ≠ 6 then (muX10_readsStep_14 rM rP μ) else (if ((SX10_readsStep_137 rM rP μ) 57 5) ≠ 0 then (muX10_readsStep_22 rM rP μ) else (muX10_readsStep_26 rM rP μ))) else (VX10_readsStep_3 rM rP μ)) else (if (F_X10_opensOne  (VX10_readsStep_3 rM rP μ)) ≠ 0 then (if ((muX10_readsStep_29 rM rP μ) 57 5) = 0 then (if (F_X10_stepHere  μ) ≠ 6 then (muX10_readsStep_40 rM rP μ) else (if ((SX10_readsStep_137' rM rP μ) 57 5) ≠ 0 then (muX10_readsStep_48 rM rP μ) else (muX10_readsStep_52 rM rP μ))) else (muX10_readsStep_29 rM rP μ)) else (muX10_readsStep_29 rM rP μ)))
def P_X10_readsStep (rM : Mem → Mem) (rP : Mem → Prop) (μ : Mem) : Prop := ((P_X10_stepHere  μ) ∧ (((F_X10_stepHere  μ) ≠ 6 → ((((VX10_readsStep_3 rM rP μ) 57 5) = 0 → ((P_X10_skipWord  (VX10_readsStep_3 rM rP μ)) ∧ ((vp_in ((muX10_readsStep_4 rM rP μ) 57 30) 80) ∧ (((4 ≤ (F_X10_stepHere  μ) → True) ∧ ((F_X10_stepHere  μ) < 4 → (P_X10_number 0 (((muX10_readsStep_6 rM rP μ) 61 1) - 1) (muX10_readsStep_6 rM rP μ)))) ∧ ((((F_X10_stepHere  μ) ≠ 4 → True) ∧ ((F_X10_stepHere  μ) = 4 → (P_X10_number 0 (((VX10_readsStep_9 rM rP μ) 61 0) - 1) (VX10_readsStep_9 rM rP μ)))) ∧ (((F_X10_stepHere  μ) ≠ 6 → (P_X10_sign 59 (muX10_readsStep_13 rM rP μ))) ∧ ((F_X10_stepHere  μ) = 6 → ((P_X10_number 0 20 (VX10_readsStep_12 rM rP μ)) ∧ ((P_X10_sign 91 (muX10_readsStep_16 rM rP μ)) ∧ ((P_X10_blanks  (muX10_readsStep_17 rM rP μ)) ∧ ((∀ j9, j9 < (NX10_readsStep_137 rM rP μ) → Pb_X10_readsStep_137 rM rP (441 + (ix ((muX10_readsStep_4 rM rP μ) 57 30))) (F_X10_stepHere  μ) j9 (fo j9 (g_X10_readsStep_137 rM rP (441 + (ix ((muX10_readsStep_4 rM rP μ) 57 30))) (F_X10_stepHere  μ)) (muX10_readsStep_18 rM rP μ))) ∧ ((((SX10_readsStep_137 rM rP μ) 57 5) ≠ 0 → ((P_X10_sign 93 (SX10_readsStep_137 rM rP μ)) ∧ (P_X10_sign 59 (muX10_readsStep_21 rM rP μ)))) ∧ (((SX10_readsStep_137 rM rP μ) 57 5) = 0 → ((P_X10_byteAt ((SX10_readsStep_137 rM rP μ) 57 4) (SX10_readsStep_137 rM rP μ)) ∧ (((F_X10_byteAt ((SX10_readsStep_137 rM rP μ) 57 4) (SX10_readsStep_137 rM rP μ)) = 93 → ((P_X10_sign 93 (SX10_readsStep_137 rM rP μ)) ∧ (P_X10_sign 59 (muX10_readsStep_25 rM rP μ)))) ∧ (¬ (F_X10_byteAt ((SX10_readsStep_137 rM rP μ) 57 4) (SX10_readsStep_137 rM rP μ)) = 93 → ((rP  (SX10_readsStep_137 rM rP μ)) ∧ ((P_X10_blanks  (muX10_readsStep_27 rM rP μ)) ∧ False)))))))))))))))))) ∧ (¬ ((VX10_readsStep_3 rM rP μ) 57 5) = 0 → True))) ∧ ((F_X10_stepHere  μ) = 6 → (((F_X10_opensOne  (VX10_readsStep_3 rM rP μ)) ≠ 0 → ((((muX10_readsStep_29 rM rP μ) 57 5) = 0 → ((P_X10_skipWord  (muX10_readsStep_29 rM rP μ)) ∧ ((vp_in ((muX10_readsStep_30 rM rP μ) 57 30) 80) ∧ (((4 ≤ (F_X10_stepHere  μ) → True) ∧ ((F_X10_stepHere  μ) < 4 → (P_X10_number 0 (((muX10_readsStep_32 rM rP μ) 61 1) - 1) (muX10_readsStep_32 rM rP μ)))) ∧ ((((F_X10_stepHere  μ) ≠ 4 → True) ∧ ((F_X10_stepHere  μ) = 4 → (P_X10_number 0 (((VX10_readsStep_35 rM rP μ) 61 0) - 1) (VX10_readsStep_35 rM rP μ)))) ∧ (((F_X10_stepHere  μ) ≠ 6 → (P_X10_sign 59 (muX10_readsStep_39 rM rP μ))) ∧ ((F_X10_stepHere  μ) = 6 → ((P_X10_number 0 20 (VX10_readsStep_38 rM rP μ)) ∧ ((P_X10_sign 91 (muX10_readsStep_42 rM rP μ)) ∧ ((P_X10_blanks  (muX10_readsStep_43 rM rP μ)) ∧ ((∀ j9, j9 < (NX10_readsStep_137' rM rP μ) → Pb_X10_readsStep_137 rM rP (441 + (ix ((muX10_readsStep_30 rM rP μ) 57 30))) (F_X10_stepHere  μ) j9 (fo j9 (g_X10_readsStep_137 rM rP (441 + (ix ((muX10_readsStep_30 rM rP μ) 57 30))) (F_X10_stepHere  μ)) (muX10_readsStep_44 rM rP μ))) ∧ ((((SX10_readsStep_137' rM rP μ) 57 5) ≠ 0 → ((P_X10_sign 93 (SX10_readsStep_137' rM rP μ)) ∧ (P_X10_sign 59 (muX10_readsStep_47 rM rP μ)))) ∧ (((SX10_readsStep_137' rM rP μ) 57 5) = 0 → ((P_X10_byteAt ((SX10_readsStep_137' rM rP μ) 57 4) (SX10_readsStep_137' rM rP μ)) ∧ (((F_X10_byteAt ((SX10_readsStep_137' rM rP μ) 57 4) (SX10_readsStep_137' rM rP μ)) = 93 → ((P_X10_sign 93 (SX10_readsStep_137' rM rP μ)) ∧ (P_X10_sign 59 (muX10_readsStep_51 rM rP μ)))) ∧ (¬ (F_X10_byteAt ((SX10_readsStep_137' rM rP μ) 57 4) (SX10_readsStep_137' rM rP μ)) = 93 → ((rP  (SX10_readsStep_137' rM rP μ)) ∧ ((P_X10_blanks  (muX10_readsStep_53 rM rP μ)) ∧ False)))))))))))))))))) ∧ (¬ ((muX10_readsStep_29 rM rP μ) 57 5) = 0 → True))) ∧ ((F_X10_opensOne  (VX10_readsStep_3 rM rP μ)) = 0 → True)))))
set_option maxRecDepth 20000 in
set_option maxHeartbeats 2000000 in
theorem ok_X10_readsStep {G : SG} (hG : GK 548 G) {e : Nat} (he : 40 ≤ e) (rM : Mem → Mem) (rP : Mem → Prop) (hrec : ∀  (ν : Mem), rP  ν → OkF G (mX10_readsStep e) [.ref (ga G 57)] ν none (rM  ν)) (μ : Mem) (hP : P_X10_readsStep rM rP μ) : OkF G (mX10_readsStep (e + 1)) [.ref (ga G 57)] μ none (M_X10_readsStep rM rP μ) := by
  refine okF_of hG rfl rfl (Nat.le_of_ble_eq_true rfl) ?_
  unfold P_X10_readsStep at hP
  refine r_aload_n dX10_readsStep_0 0 rfl ?_
  have hs1 := hP.1
  replace hP := hP.2
  refine r_cvI (ok_X10_stepHere hG  μ hs1) lX10_259 (hG.lt (by decide)) sh57 ⟨_, _, rfl⟩ dX10_readsStep_1 (dle (by decide) he) (Nat.le_of_ble_eq_true rfl) rfl (Nat.le_of_ble_eq_true rfl) ?_
  refine r_mu (muX10_readsStep_1 rM rP μ) rfl ?_
  refine r_istore_n [(1, _), (0, _)] dX10_readsStep_4 (Nat.le_of_ble_eq_true rfl) rfl ?_
  refine r_iload_n dX10_readsStep_5 0 rfl ?_
  refine r_iconst (-1) dX10_readsStep_6 rfl ?_
  refine r_join 19 [(1, .int (F_X10_stepHere  μ)), (0, .ref (ga G 57))] [] (VX10_readsStep_3 rM rP μ) ?_ (fun hJ => ?_)
  · refine r_iload_n dX10_readsStep_19 0 rfl ?_
    refine r_bipush 6 dX10_readsStep_20 rfl ?_
    refine r_icmp_ne 33 dX10_readsStep_22 (by decide) (fun c1 => ?_) (fun c1 => ?_)
    · replace hP := hP.1 c1
      refine r_aload_n dX10_readsStep_33 1 rfl ?_
      refine r_getI fX10_119 (hG.lt (by decide)) sh57 fs57_5 dX10_readsStep_34 ?_
      refine r_if_eq 41 dX10_readsStep_37 (by decide) (fun c2 => ?_) (fun c2 => ?_)
      · replace hP := hP.1 c2
        refine r_aload_n dX10_readsStep_41 1 rfl ?_
        have hs2 := hP.1
        replace hP := hP.2
        refine r_cvV (ok_X10_skipWord hG  (VX10_readsStep_3 rM rP μ) hs2) lX10_162 (hG.lt (by decide)) sh57 ⟨_, _, rfl⟩ dX10_readsStep_42 (dle (by decide) he) (Nat.le_of_ble_eq_true rfl) rfl (Nat.le_of_ble_eq_true rfl) ?_
        refine r_mu (muX10_readsStep_4 rM rP μ) rfl ?_
        refine r_aload_n dX10_readsStep_45 1 rfl ?_
        refine r_getR 440 fX10_70 (hG.lt (by decide)) sh57 fs57_29 dX10_readsStep_46 ?_
        refine r_aload_n dX10_readsStep_49 1 rfl ?_
        refine r_getI fX10_262 (hG.lt (by decide)) sh57 fs57_30 dX10_readsStep_50 ?_
        have hs3 := hP.1
        replace hP := hP.2
        refine r_aald (hG.lt (by decide)) sh440 hs3 dX10_readsStep_53 ?_
        refine r_astore_n [(2, _), (1, _), (0, _)] dX10_readsStep_54 (Nat.le_of_ble_eq_true rfl) rfl ?_
        refine r_aload_n dX10_readsStep_55 2 rfl ?_
        refine r_dup dX10_readsStep_56 rfl ?_
        refine r_getI fX10_262 (hG.lt (by decide)) sh57 fs57_30 dX10_readsStep_57 ?_
        refine r_iconst 1 dX10_readsStep_60 rfl ?_
        refine r_iadd dX10_readsStep_61 ?_
        refine r_put fiX10_262 (hG.lt (by decide)) sh57 fs57_30 dX10_readsStep_62 ?_
        refine r_mu (muX10_readsStep_5 rM rP μ) rfl ?_
        refine r_aload_n dX10_readsStep_65 0 rfl ?_
        refine r_iconst 0 dX10_readsStep_66 rfl ?_
        refine r_iload_n dX10_readsStep_67 1 rfl ?_
        refine r_iastK 0 rfl (ltR (vp_ix hs3) (by decide) hG) (shr440 _ (vp_ix hs3)) (vp_of (by decide) (by decide)) dX10_readsStep_68 ?_
        refine r_mu (muX10_readsStep_6 rM rP μ) rfl ?_
        refine r_iload_n dX10_readsStep_69 1 rfl ?_
        refine r_iconst 4 dX10_readsStep_70 rfl ?_
        refine r_join 90 [(2, .ref (ga G (441 + (ix ((muX10_readsStep_4 rM rP μ) 57 30))))), (1, .int (F_X10_stepHere  μ)), (0, .ref (ga G 57))] [] (VX10_readsStep_9 rM rP μ) ?_ (fun hJ => ?_)
        · replace hP := hP.2
          refine r_iload_n dX10_readsStep_90 1 rfl ?_
          refine r_iconst 4 dX10_readsStep_91 rfl ?_
          refine r_join 111 [(2, .ref (ga G (441 + (ix ((muX10_readsStep_4 rM rP μ) 57 30))))), (1, .int (F_X10_stepHere  μ)), (0, .ref (ga G 57))] [] (VX10_readsStep_12 rM rP μ) ?_ (fun hJ => ?_)
          · replace hP := hP.2
            refine r_iload_n dX10_readsStep_111 1 rfl ?_
            refine r_bipush 6 dX10_readsStep_112 rfl ?_
            refine r_icmp_ne 184 dX10_readsStep_114 (by decide) (fun c3 => ?_) (fun c3 => ?_)
            · replace hP := hP.1 c3
              refine r_aload_n dX10_readsStep_184 0 rfl ?_
              refine r_iconst 2 dX10_readsStep_185 rfl ?_
              refine r_aload_n dX10_readsStep_186 2 rfl ?_
              refine r_getI fX10_262 (hG.lt (by decide)) sh57 fs57_30 dX10_readsStep_187 ?_
              refine r_iastK 2 rfl (ltR (vp_ix hs3) (by decide) hG) (shr440 _ (vp_ix hs3)) (vp_of (by decide) (by decide)) dX10_readsStep_190 ?_
              refine r_mu (muX10_readsStep_13 rM rP μ) rfl ?_
              refine r_aload_n dX10_readsStep_191 2 rfl ?_
              refine r_bipush 59 dX10_readsStep_192 rfl ?_
              have hs20 := hP
              refine r_cvV (ok_X10_sign hG 59 (muX10_readsStep_13 rM rP μ) hs20) lX10_182 (hG.lt (by decide)) sh57 ⟨_, _, rfl⟩ dX10_readsStep_194 (dle (by decide) he) (Nat.le_of_ble_eq_true rfl) rfl (Nat.le_of_ble_eq_true rfl) ?_
              refine r_mu (muX10_readsStep_14 rM rP μ) rfl ?_
              exact r_return dX10_readsStep_197 rfl ⟨rfl, by unfold M_X10_readsStep; rw [if_pos c1, if_pos c2, if_pos c3]⟩
            · replace hP := hP.2 c3
              refine r_aload_n dX10_readsStep_117 0 rfl ?_
              refine r_iconst 1 dX10_readsStep_118 rfl ?_
              refine r_aload_n dX10_readsStep_119 2 rfl ?_
              refine r_iconst 0 dX10_readsStep_120 rfl ?_
              refine r_bipush 20 dX10_readsStep_121 rfl ?_
              have hs21 := hP.1
              replace hP := hP.2
              refine r_cvI (ok_X10_number hG 0 20 (VX10_readsStep_12 rM rP μ) hs21) lX10_178 (hG.lt (by decide)) sh57 ⟨_, _, rfl⟩ dX10_readsStep_123 (dle (by decide) he) (Nat.le_of_ble_eq_true rfl) rfl (Nat.le_of_ble_eq_true rfl) ?_
              refine r_mu (muX10_readsStep_15 rM rP μ) rfl ?_
              refine r_iastK 1 rfl (ltR (vp_ix hs3) (by decide) hG) (shr440 _ (vp_ix hs3)) (vp_of (by decide) (by decide)) dX10_readsStep_126 ?_
              refine r_mu (muX10_readsStep_16 rM rP μ) rfl ?_
              refine r_aload_n dX10_readsStep_127 2 rfl ?_
              refine r_bipush 91 dX10_readsStep_128 rfl ?_
              have hs22 := hP.1
              replace hP := hP.2
              refine r_cvV (ok_X10_sign hG 91 (muX10_readsStep_16 rM rP μ) hs22) lX10_182 (hG.lt (by decide)) sh57 ⟨_, _, rfl⟩ dX10_readsStep_130 (dle (by decide) he) (Nat.le_of_ble_eq_true rfl) rfl (Nat.le_of_ble_eq_true rfl) ?_
              refine r_mu (muX10_readsStep_17 rM rP μ) rfl ?_
              refine r_aload_n dX10_readsStep_133 2 rfl ?_
              have hs23 := hP.1
              replace hP := hP.2
              refine r_cvV (ok_X10_blanks hG  (muX10_readsStep_17 rM rP μ) hs23) lX10_125 (hG.lt (by decide)) sh57 ⟨_, _, rfl⟩ dX10_readsStep_134 (dle (by decide) he) (Nat.le_of_ble_eq_true rfl) rfl (Nat.le_of_ble_eq_true rfl) ?_
              refine r_mu (muX10_readsStep_18 rM rP μ) rfl ?_
              have hs24 := hP.1
              replace hP := hP.2
              refine r_sub [2, 1, 0] rfl ?_
              refine lp_X10_readsStep_137 hG he rM rP hrec (ltR (vp_ix hs3) (by decide) hG) (shr440 _ (vp_ix hs3)) (F_X10_stepHere  μ) (muX10_readsStep_18 rM rP μ) ((NX10_readsStep_137 rM rP μ)) (SX10_readsStep_137 rM rP μ) rfl hs24 ?_
              refine r_aload_n dX10_readsStep_137 0 rfl ?_
              refine r_getI fX10_119 (hG.lt (by decide)) sh57 fs57_5 dX10_readsStep_138 ?_
              refine r_if_ne 168 dX10_readsStep_141 (by decide) (fun c4 => ?_) (fun c4 => ?_)
              · replace hP := hP.1 c4
                refine r_aload_n dX10_readsStep_168 0 rfl ?_
                refine r_bipush 93 dX10_readsStep_169 rfl ?_
                have hs28 := hP.1
                replace hP := hP.2
                refine r_cvV (ok_X10_sign hG 93 (SX10_readsStep_137 rM rP μ) hs28) lX10_182 (hG.lt (by decide)) sh57 ⟨_, _, rfl⟩ dX10_readsStep_171 (dle (by decide) he) (Nat.le_of_ble_eq_true rfl) rfl (Nat.le_of_ble_eq_true rfl) ?_
                refine r_mu (muX10_readsStep_19 rM rP μ) rfl ?_
                refine r_aload_n dX10_readsStep_174 0 rfl ?_
                refine r_dup dX10_readsStep_175 rfl ?_
                refine r_getI fX10_168 (hG.lt (by decide)) sh57 fs57_8 dX10_readsStep_176 ?_
                refine r_iconst 1 dX10_readsStep_179 rfl ?_
                refine r_isub dX10_readsStep_180 ?_
                refine r_put fiX10_168 (hG.lt (by decide)) sh57 fs57_8 dX10_readsStep_181 ?_
                refine r_mu (muX10_readsStep_20 rM rP μ) rfl ?_
                refine r_aload_n dX10_readsStep_184 2 rfl ?_
                refine r_iconst 2 dX10_readsStep_185 rfl ?_
                refine r_aload_n dX10_readsStep_186 0 rfl ?_
                refine r_getI fX10_262 (hG.lt (by decide)) sh57 fs57_30 dX10_readsStep_187 ?_
                refine r_iastK 2 rfl (ltR (vp_ix hs3) (by decide) hG) (shr440 _ (vp_ix hs3)) (vp_of (by decide) (by decide)) dX10_readsStep_190 ?_
                refine r_mu (muX10_readsStep_21 rM rP μ) rfl ?_
                refine r_aload_n dX10_readsStep_191 0 rfl ?_
                refine r_bipush 59 dX10_readsStep_192 rfl ?_
                have hs29 := hP
                refine r_cvV (ok_X10_sign hG 59 (muX10_readsStep_21 rM rP μ) hs29) lX10_182 (hG.lt (by decide)) sh57 ⟨_, _, rfl⟩ dX10_readsStep_194 (dle (by decide) he) (Nat.le_of_ble_eq_true rfl) rfl (Nat.le_of_ble_eq_true rfl) ?_
                refine r_mu (muX10_readsStep_22 rM rP μ) rfl ?_
                exact r_return dX10_readsStep_197 rfl ⟨rfl, by unfold M_X10_readsStep; rw [if_pos c1, if_pos c2, if_neg (not_not_intro c3), if_pos c4]⟩
              · replace hP := hP.2 c4
                refine r_aload_n dX10_readsStep_144 0 rfl ?_
                refine r_aload_n dX10_readsStep_145 0 rfl ?_
                refine r_getI fX10_112 (hG.lt (by decide)) sh57 fs57_4 dX10_readsStep_146 ?_
                have hs30 := hP.1
                replace hP := hP.2
                refine r_cvI (ok_X10_byteAt hG ((SX10_readsStep_137 rM rP μ) 57 4) (SX10_readsStep_137 rM rP μ) hs30) lX10_115 (hG.lt (by decide)) sh57 ⟨_, _, rfl⟩ dX10_readsStep_149 (dle (by decide) he) (Nat.le_of_ble_eq_true rfl) rfl (Nat.le_of_ble_eq_true rfl) ?_
                refine r_bipush 93 dX10_readsStep_152 rfl ?_
                refine r_icmp_eq 168 dX10_readsStep_154 (by decide) (fun c5 => ?_) (fun c5 => ?_)
                · replace hP := hP.1 c5
                  refine r_aload_n dX10_readsStep_168 0 rfl ?_
                  refine r_bipush 93 dX10_readsStep_169 rfl ?_
                  have hs33 := hP.1
                  replace hP := hP.2
                  refine r_cvV (ok_X10_sign hG 93 (SX10_readsStep_137 rM rP μ) hs33) lX10_182 (hG.lt (by decide)) sh57 ⟨_, _, rfl⟩ dX10_readsStep_171 (dle (by decide) he) (Nat.le_of_ble_eq_true rfl) rfl (Nat.le_of_ble_eq_true rfl) ?_
                  refine r_mu (muX10_readsStep_23 rM rP μ) rfl ?_
                  refine r_aload_n dX10_readsStep_174 0 rfl ?_
                  refine r_dup dX10_readsStep_175 rfl ?_
                  refine r_getI fX10_168 (hG.lt (by decide)) sh57 fs57_8 dX10_readsStep_176 ?_
                  refine r_iconst 1 dX10_readsStep_179 rfl ?_
                  refine r_isub dX10_readsStep_180 ?_
                  refine r_put fiX10_168 (hG.lt (by decide)) sh57 fs57_8 dX10_readsStep_181 ?_
                  refine r_mu (muX10_readsStep_24 rM rP μ) rfl ?_
                  refine r_aload_n dX10_readsStep_184 2 rfl ?_
                  refine r_iconst 2 dX10_readsStep_185 rfl ?_
                  refine r_aload_n dX10_readsStep_186 0 rfl ?_
                  refine r_getI fX10_262 (hG.lt (by decide)) sh57 fs57_30 dX10_readsStep_187 ?_
                  refine r_iastK 2 rfl (ltR (vp_ix hs3) (by decide) hG) (shr440 _ (vp_ix hs3)) (vp_of (by decide) (by decide)) dX10_readsStep_190 ?_
                  refine r_mu (muX10_readsStep_25 rM rP μ) rfl ?_
                  refine r_aload_n dX10_readsStep_191 0 rfl ?_
                  refine r_bipush 59 dX10_readsStep_192 rfl ?_
                  have hs34 := hP
                  refine r_cvV (ok_X10_sign hG 59 (muX10_readsStep_25 rM rP μ) hs34) lX10_182 (hG.lt (by decide)) sh57 ⟨_, _, rfl⟩ dX10_readsStep_194 (dle (by decide) he) (Nat.le_of_ble_eq_true rfl) rfl (Nat.le_of_ble_eq_true rfl) ?_
                  refine r_mu (muX10_readsStep_26 rM rP μ) rfl ?_
                  exact r_return dX10_readsStep_197 rfl ⟨rfl, by unfold M_X10_readsStep; rw [if_pos c1, if_pos c2, if_neg (not_not_intro c3), if_neg (not_not_intro c4)]⟩
                · replace hP := hP.2 c5
                  refine r_aload_n dX10_readsStep_157 0 rfl ?_
                  have hs35 := hP.1
                  replace hP := hP.2
                  refine r_cvV (hrec  (SX10_readsStep_137 rM rP μ) hs35) (lX10_265 _) (hG.lt (by decide)) sh57 ⟨_, _, rfl⟩ dX10_readsStep_158 (dpe (a := 0) (b := 1) (by decide)) (Nat.le_of_ble_eq_true rfl) rfl (Nat.le_of_ble_eq_true rfl) ?_
                  refine r_mu (muX10_readsStep_27 rM rP μ) rfl ?_
                  refine r_aload_n dX10_readsStep_161 0 rfl ?_
                  have hs36 := hP.1
                  replace hP := hP.2
                  refine r_cvV (ok_X10_blanks hG  (muX10_readsStep_27 rM rP μ) hs36) lX10_125 (hG.lt (by decide)) sh57 ⟨_, _, rfl⟩ dX10_readsStep_162 (dle (by decide) he) (Nat.le_of_ble_eq_true rfl) rfl (Nat.le_of_ble_eq_true rfl) ?_
                  refine r_mu (muX10_readsStep_28 rM rP μ) rfl ?_
                  refine r_goto 137 dX10_readsStep_165 (by decide) ?_
                  exact hP.elim
          · replace hP := hP.1
            refine r_icmp_ne 111 dX10_readsStep_92 (by decide) (fun c3 => ?_) (fun c3 => ?_)
            · replace hP := hP.1 c3
              have e : (VX10_readsStep_12 rM rP μ) = (VX10_readsStep_9 rM rP μ) := by unfold VX10_readsStep_12; rw [if_pos c3]
              rw [e] at hJ
              exact r_sub [0, 1, 2] rfl hJ
            · replace hP := hP.2 c3
              refine r_aload_n dX10_readsStep_95 0 rfl ?_
              refine r_iconst 1 dX10_readsStep_96 rfl ?_
              refine r_aload_n dX10_readsStep_97 2 rfl ?_
              refine r_iconst 0 dX10_readsStep_98 rfl ?_
              refine r_aload_n dX10_readsStep_99 2 rfl ?_
              refine r_getR 61 fX10_23 (hG.lt (by decide)) sh57 fs57_12 dX10_readsStep_100 ?_
              refine r_iconst 0 dX10_readsStep_103 rfl ?_
              refine r_ialdK 0 rfl (hG.lt (by decide)) sh61 (vp_of (by decide) (by decide)) dX10_readsStep_104 ?_
              refine r_iconst 1 dX10_readsStep_105 rfl ?_
              refine r_isub dX10_readsStep_106 ?_
              have hs5 := hP
              refine r_cvI (ok_X10_number hG 0 (((VX10_readsStep_9 rM rP μ) 61 0) - 1) (VX10_readsStep_9 rM rP μ) hs5) lX10_178 (hG.lt (by decide)) sh57 ⟨_, _, rfl⟩ dX10_readsStep_107 (dle (by decide) he) (Nat.le_of_ble_eq_true rfl) rfl (Nat.le_of_ble_eq_true rfl) ?_
              refine r_mu (muX10_readsStep_10 rM rP μ) rfl ?_
              refine r_iastK 1 rfl (ltR (vp_ix hs3) (by decide) hG) (shr440 _ (vp_ix hs3)) (vp_of (by decide) (by decide)) dX10_readsStep_110 ?_
              refine r_mu (muX10_readsStep_11 rM rP μ) rfl ?_
              have e : (VX10_readsStep_12 rM rP μ) = (muX10_readsStep_11 rM rP μ) := by unfold VX10_readsStep_12; rw [if_neg (not_not_intro c3)]
              rw [e] at hJ
              exact r_sub [0, 1, 2] rfl hJ
        · replace hP := hP.1
          refine r_icmp_ge 90 dX10_readsStep_71 (by decide) (fun c3 => ?_) (fun c3 => ?_)
          · replace hP := hP.1 c3
            have e : (VX10_readsStep_9 rM rP μ) = (muX10_readsStep_6 rM rP μ) := by unfold VX10_readsStep_9; rw [if_pos c3]
            rw [e] at hJ
            exact r_sub [0, 1, 2] rfl hJ
          · replace hP := hP.2 c3
            refine r_aload_n dX10_readsStep_74 0 rfl ?_
            refine r_iconst 1 dX10_readsStep_75 rfl ?_
            refine r_aload_n dX10_readsStep_76 2 rfl ?_
            refine r_iconst 0 dX10_readsStep_77 rfl ?_
            refine r_aload_n dX10_readsStep_78 2 rfl ?_
            refine r_getR 61 fX10_23 (hG.lt (by decide)) sh57 fs57_12 dX10_readsStep_79 ?_
            refine r_iconst 1 dX10_readsStep_82 rfl ?_
            refine r_ialdK 1 rfl (hG.lt (by decide)) sh61 (vp_of (by decide) (by decide)) dX10_readsStep_83 ?_
            refine r_iconst 1 dX10_readsStep_84 rfl ?_
            refine r_isub dX10_readsStep_85 ?_
            have hs4 := hP
            refine r_cvI (ok_X10_number hG 0 (((muX10_readsStep_6 rM rP μ) 61 1) - 1) (muX10_readsStep_6 rM rP μ) hs4) lX10_178 (hG.lt (by decide)) sh57 ⟨_, _, rfl⟩ dX10_readsStep_86 (dle (by decide) he) (Nat.le_of_ble_eq_true rfl) rfl (Nat.le_of_ble_eq_true rfl) ?_
            refine r_mu (muX10_readsStep_7 rM rP μ) rfl ?_
            refine r_iastK 1 rfl (ltR (vp_ix hs3) (by decide) hG) (shr440 _ (vp_ix hs3)) (vp_of (by decide) (by decide)) dX10_readsStep_89 ?_
            refine r_mu (muX10_readsStep_8 rM rP μ) rfl ?_
            have e : (VX10_readsStep_9 rM rP μ) = (muX10_readsStep_8 rM rP μ) := by unfold VX10_readsStep_9; rw [if_neg (i32_ng c3)]
            rw [e] at hJ
            exact r_sub [0, 1, 2] rfl hJ
      · replace hP := hP.2 c2
        exact r_return dX10_readsStep_40 rfl ⟨rfl, by unfold M_X10_readsStep; rw [if_pos c1, if_neg c2]⟩
    · replace hP := hP.2 c1
      refine r_aload_n dX10_readsStep_25 1 rfl ?_
      refine r_cvI (ok_X10_opensOne hG  (VX10_readsStep_3 rM rP μ)) lX10_239 (hG.lt (by decide)) sh57 ⟨_, _, rfl⟩ dX10_readsStep_26 (dle (by decide) he) (Nat.le_of_ble_eq_true rfl) rfl (Nat.le_of_ble_eq_true rfl) ?_
      refine r_mu (muX10_readsStep_29 rM rP μ) rfl ?_
      refine r_if_ne 33 dX10_readsStep_29 (by decide) (fun c2 => ?_) (fun c2 => ?_)
      · replace hP := hP.1 c2
        refine r_aload_n dX10_readsStep_33 1 rfl ?_
        refine r_getI fX10_119 (hG.lt (by decide)) sh57 fs57_5 dX10_readsStep_34 ?_
        refine r_if_eq 41 dX10_readsStep_37 (by decide) (fun c3 => ?_) (fun c3 => ?_)
        · replace hP := hP.1 c3
          refine r_aload_n dX10_readsStep_41 1 rfl ?_
          have hs37 := hP.1
          replace hP := hP.2
          refine r_cvV (ok_X10_skipWord hG  (muX10_readsStep_29 rM rP μ) hs37) lX10_162 (hG.lt (by decide)) sh57 ⟨_, _, rfl⟩ dX10_readsStep_42 (dle (by decide) he) (Nat.le_of_ble_eq_true rfl) rfl (Nat.le_of_ble_eq_true rfl) ?_
          refine r_mu (muX10_readsStep_30 rM rP μ) rfl ?_
          refine r_aload_n dX10_readsStep_45 1 rfl ?_
          refine r_getR 440 fX10_70 (hG.lt (by decide)) sh57 fs57_29 dX10_readsStep_46 ?_
          refine r_aload_n dX10_readsStep_49 1 rfl ?_
          refine r_getI fX10_262 (hG.lt (by decide)) sh57 fs57_30 dX10_readsStep_50 ?_
          have hs38 := hP.1
          replace hP := hP.2
          refine r_aald (hG.lt (by decide)) sh440 hs38 dX10_readsStep_53 ?_
          refine r_astore_n [(2, _), (1, _), (0, _)] dX10_readsStep_54 (Nat.le_of_ble_eq_true rfl) rfl ?_
          refine r_aload_n dX10_readsStep_55 2 rfl ?_
          refine r_dup dX10_readsStep_56 rfl ?_
          refine r_getI fX10_262 (hG.lt (by decide)) sh57 fs57_30 dX10_readsStep_57 ?_
          refine r_iconst 1 dX10_readsStep_60 rfl ?_
          refine r_iadd dX10_readsStep_61 ?_
          refine r_put fiX10_262 (hG.lt (by decide)) sh57 fs57_30 dX10_readsStep_62 ?_
          refine r_mu (muX10_readsStep_31 rM rP μ) rfl ?_
          refine r_aload_n dX10_readsStep_65 0 rfl ?_
          refine r_iconst 0 dX10_readsStep_66 rfl ?_
          refine r_iload_n dX10_readsStep_67 1 rfl ?_
          refine r_iastK 0 rfl (ltR (vp_ix hs38) (by decide) hG) (shr440 _ (vp_ix hs38)) (vp_of (by decide) (by decide)) dX10_readsStep_68 ?_
          refine r_mu (muX10_readsStep_32 rM rP μ) rfl ?_
          refine r_iload_n dX10_readsStep_69 1 rfl ?_
          refine r_iconst 4 dX10_readsStep_70 rfl ?_
          refine r_join 90 [(2, .ref (ga G (441 + (ix ((muX10_readsStep_30 rM rP μ) 57 30))))), (1, .int (F_X10_stepHere  μ)), (0, .ref (ga G 57))] [] (VX10_readsStep_35 rM rP μ) ?_ (fun hJ => ?_)
          · replace hP := hP.2
            refine r_iload_n dX10_readsStep_90 1 rfl ?_
            refine r_iconst 4 dX10_readsStep_91 rfl ?_
            refine r_join 111 [(2, .ref (ga G (441 + (ix ((muX10_readsStep_30 rM rP μ) 57 30))))), (1, .int (F_X10_stepHere  μ)), (0, .ref (ga G 57))] [] (VX10_readsStep_38 rM rP μ) ?_ (fun hJ => ?_)
            · replace hP := hP.2
              refine r_iload_n dX10_readsStep_111 1 rfl ?_
              refine r_bipush 6 dX10_readsStep_112 rfl ?_
              refine r_icmp_ne 184 dX10_readsStep_114 (by decide) (fun c4 => ?_) (fun c4 => ?_)
              · replace hP := hP.1 c4
                refine r_aload_n dX10_readsStep_184 0 rfl ?_
                refine r_iconst 2 dX10_readsStep_185 rfl ?_
                refine r_aload_n dX10_readsStep_186 2 rfl ?_
                refine r_getI fX10_262 (hG.lt (by decide)) sh57 fs57_30 dX10_readsStep_187 ?_
                refine r_iastK 2 rfl (ltR (vp_ix hs38) (by decide) hG) (shr440 _ (vp_ix hs38)) (vp_of (by decide) (by decide)) dX10_readsStep_190 ?_
                refine r_mu (muX10_readsStep_39 rM rP μ) rfl ?_
                refine r_aload_n dX10_readsStep_191 2 rfl ?_
                refine r_bipush 59 dX10_readsStep_192 rfl ?_
                have hs55 := hP
                refine r_cvV (ok_X10_sign hG 59 (muX10_readsStep_39 rM rP μ) hs55) lX10_182 (hG.lt (by decide)) sh57 ⟨_, _, rfl⟩ dX10_readsStep_194 (dle (by decide) he) (Nat.le_of_ble_eq_true rfl) rfl (Nat.le_of_ble_eq_true rfl) ?_
                refine r_mu (muX10_readsStep_40 rM rP μ) rfl ?_
                exact r_return dX10_readsStep_197 rfl ⟨rfl, by unfold M_X10_readsStep; rw [if_neg (not_not_intro c1), if_pos c2, if_pos c3, if_pos c4]⟩
              · replace hP := hP.2 c4
                refine r_aload_n dX10_readsStep_117 0 rfl ?_
                refine r_iconst 1 dX10_readsStep_118 rfl ?_
                refine r_aload_n dX10_readsStep_119 2 rfl ?_
                refine r_iconst 0 dX10_readsStep_120 rfl ?_
                refine r_bipush 20 dX10_readsStep_121 rfl ?_
                have hs56 := hP.1
                replace hP := hP.2
                refine r_cvI (ok_X10_number hG 0 20 (VX10_readsStep_38 rM rP μ) hs56) lX10_178 (hG.lt (by decide)) sh57 ⟨_, _, rfl⟩ dX10_readsStep_123 (dle (by decide) he) (Nat.le_of_ble_eq_true rfl) rfl (Nat.le_of_ble_eq_true rfl) ?_
                refine r_mu (muX10_readsStep_41 rM rP μ) rfl ?_
                refine r_iastK 1 rfl (ltR (vp_ix hs38) (by decide) hG) (shr440 _ (vp_ix hs38)) (vp_of (by decide) (by decide)) dX10_readsStep_126 ?_
                refine r_mu (muX10_readsStep_42 rM rP μ) rfl ?_
                refine r_aload_n dX10_readsStep_127 2 rfl ?_
                refine r_bipush 91 dX10_readsStep_128 rfl ?_
                have hs57 := hP.1
                replace hP := hP.2
                refine r_cvV (ok_X10_sign hG 91 (muX10_readsStep_42 rM rP μ) hs57) lX10_182 (hG.lt (by decide)) sh57 ⟨_, _, rfl⟩ dX10_readsStep_130 (dle (by decide) he) (Nat.le_of_ble_eq_true rfl) rfl (Nat.le_of_ble_eq_true rfl) ?_
                refine r_mu (muX10_readsStep_43 rM rP μ) rfl ?_
                refine r_aload_n dX10_readsStep_133 2 rfl ?_
                have hs58 := hP.1
                replace hP := hP.2
                refine r_cvV (ok_X10_blanks hG  (muX10_readsStep_43 rM rP μ) hs58) lX10_125 (hG.lt (by decide)) sh57 ⟨_, _, rfl⟩ dX10_readsStep_134 (dle (by decide) he) (Nat.le_of_ble_eq_true rfl) rfl (Nat.le_of_ble_eq_true rfl) ?_
                refine r_mu (muX10_readsStep_44 rM rP μ) rfl ?_
                have hs59 := hP.1
                replace hP := hP.2
                refine r_sub [2, 1, 0] rfl ?_
                refine lp_X10_readsStep_137 hG he rM rP hrec (ltR (vp_ix hs38) (by decide) hG) (shr440 _ (vp_ix hs38)) (F_X10_stepHere  μ) (muX10_readsStep_44 rM rP μ) ((NX10_readsStep_137' rM rP μ)) (SX10_readsStep_137' rM rP μ) rfl hs59 ?_
                refine r_aload_n dX10_readsStep_137 0 rfl ?_
                refine r_getI fX10_119 (hG.lt (by decide)) sh57 fs57_5 dX10_readsStep_138 ?_
                refine r_if_ne 168 dX10_readsStep_141 (by decide) (fun c5 => ?_) (fun c5 => ?_)
                · replace hP := hP.1 c5
                  refine r_aload_n dX10_readsStep_168 0 rfl ?_
                  refine r_bipush 93 dX10_readsStep_169 rfl ?_
                  have hs63 := hP.1
                  replace hP := hP.2
                  refine r_cvV (ok_X10_sign hG 93 (SX10_readsStep_137' rM rP μ) hs63) lX10_182 (hG.lt (by decide)) sh57 ⟨_, _, rfl⟩ dX10_readsStep_171 (dle (by decide) he) (Nat.le_of_ble_eq_true rfl) rfl (Nat.le_of_ble_eq_true rfl) ?_
                  refine r_mu (muX10_readsStep_45 rM rP μ) rfl ?_
                  refine r_aload_n dX10_readsStep_174 0 rfl ?_
                  refine r_dup dX10_readsStep_175 rfl ?_
                  refine r_getI fX10_168 (hG.lt (by decide)) sh57 fs57_8 dX10_readsStep_176 ?_
                  refine r_iconst 1 dX10_readsStep_179 rfl ?_
                  refine r_isub dX10_readsStep_180 ?_
                  refine r_put fiX10_168 (hG.lt (by decide)) sh57 fs57_8 dX10_readsStep_181 ?_
                  refine r_mu (muX10_readsStep_46 rM rP μ) rfl ?_
                  refine r_aload_n dX10_readsStep_184 2 rfl ?_
                  refine r_iconst 2 dX10_readsStep_185 rfl ?_
                  refine r_aload_n dX10_readsStep_186 0 rfl ?_
                  refine r_getI fX10_262 (hG.lt (by decide)) sh57 fs57_30 dX10_readsStep_187 ?_
                  refine r_iastK 2 rfl (ltR (vp_ix hs38) (by decide) hG) (shr440 _ (vp_ix hs38)) (vp_of (by decide) (by decide)) dX10_readsStep_190 ?_
                  refine r_mu (muX10_readsStep_47 rM rP μ) rfl ?_
                  refine r_aload_n dX10_readsStep_191 0 rfl ?_
                  refine r_bipush 59 dX10_readsStep_192 rfl ?_
                  have hs64 := hP
                  refine r_cvV (ok_X10_sign hG 59 (muX10_readsStep_47 rM rP μ) hs64) lX10_182 (hG.lt (by decide)) sh57 ⟨_, _, rfl⟩ dX10_readsStep_194 (dle (by decide) he) (Nat.le_of_ble_eq_true rfl) rfl (Nat.le_of_ble_eq_true rfl) ?_
                  refine r_mu (muX10_readsStep_48 rM rP μ) rfl ?_
                  exact r_return dX10_readsStep_197 rfl ⟨rfl, by unfold M_X10_readsStep; rw [if_neg (not_not_intro c1), if_pos c2, if_pos c3, if_neg (not_not_intro c4), if_pos c5]⟩
                · replace hP := hP.2 c5
                  refine r_aload_n dX10_readsStep_144 0 rfl ?_
                  refine r_aload_n dX10_readsStep_145 0 rfl ?_
                  refine r_getI fX10_112 (hG.lt (by decide)) sh57 fs57_4 dX10_readsStep_146 ?_
                  have hs65 := hP.1
                  replace hP := hP.2
                  refine r_cvI (ok_X10_byteAt hG ((SX10_readsStep_137' rM rP μ) 57 4) (SX10_readsStep_137' rM rP μ) hs65) lX10_115 (hG.lt (by decide)) sh57 ⟨_, _, rfl⟩ dX10_readsStep_149 (dle (by decide) he) (Nat.le_of_ble_eq_true rfl) rfl (Nat.le_of_ble_eq_true rfl) ?_
                  refine r_bipush 93 dX10_readsStep_152 rfl ?_
                  refine r_icmp_eq 168 dX10_readsStep_154 (by decide) (fun c6 => ?_) (fun c6 => ?_)
                  · replace hP := hP.1 c6
                    refine r_aload_n dX10_readsStep_168 0 rfl ?_
                    refine r_bipush 93 dX10_readsStep_169 rfl ?_
                    have hs68 := hP.1
                    replace hP := hP.2
                    refine r_cvV (ok_X10_sign hG 93 (SX10_readsStep_137' rM rP μ) hs68) lX10_182 (hG.lt (by decide)) sh57 ⟨_, _, rfl⟩ dX10_readsStep_171 (dle (by decide) he) (Nat.le_of_ble_eq_true rfl) rfl (Nat.le_of_ble_eq_true rfl) ?_
                    refine r_mu (muX10_readsStep_49 rM rP μ) rfl ?_
                    refine r_aload_n dX10_readsStep_174 0 rfl ?_
                    refine r_dup dX10_readsStep_175 rfl ?_
                    refine r_getI fX10_168 (hG.lt (by decide)) sh57 fs57_8 dX10_readsStep_176 ?_
                    refine r_iconst 1 dX10_readsStep_179 rfl ?_
                    refine r_isub dX10_readsStep_180 ?_
                    refine r_put fiX10_168 (hG.lt (by decide)) sh57 fs57_8 dX10_readsStep_181 ?_
                    refine r_mu (muX10_readsStep_50 rM rP μ) rfl ?_
                    refine r_aload_n dX10_readsStep_184 2 rfl ?_
                    refine r_iconst 2 dX10_readsStep_185 rfl ?_
                    refine r_aload_n dX10_readsStep_186 0 rfl ?_
                    refine r_getI fX10_262 (hG.lt (by decide)) sh57 fs57_30 dX10_readsStep_187 ?_
                    refine r_iastK 2 rfl (ltR (vp_ix hs38) (by decide) hG) (shr440 _ (vp_ix hs38)) (vp_of (by decide) (by decide)) dX10_readsStep_190 ?_
                    refine r_mu (muX10_readsStep_51 rM rP μ) rfl ?_
                    refine r_aload_n dX10_readsStep_191 0 rfl ?_
                    refine r_bipush 59 dX10_readsStep_192 rfl ?_
                    have hs69 := hP
                    refine r_cvV (ok_X10_sign hG 59 (muX10_readsStep_51 rM rP μ) hs69) lX10_182 (hG.lt (by decide)) sh57 ⟨_, _, rfl⟩ dX10_readsStep_194 (dle (by decide) he) (Nat.le_of_ble_eq_true rfl) rfl (Nat.le_of_ble_eq_true rfl) ?_
                    refine r_mu (muX10_readsStep_52 rM rP μ) rfl ?_
                    exact r_return dX10_readsStep_197 rfl ⟨rfl, by unfold M_X10_readsStep; rw [if_neg (not_not_intro c1), if_pos c2, if_pos c3, if_neg (not_not_intro c4), if_neg (not_not_intro c5)]⟩
                  · replace hP := hP.2 c6
                    refine r_aload_n dX10_readsStep_157 0 rfl ?_
                    have hs70 := hP.1
                    replace hP := hP.2
                    refine r_cvV (hrec  (SX10_readsStep_137' rM rP μ) hs70) (lX10_265 _) (hG.lt (by decide)) sh57 ⟨_, _, rfl⟩ dX10_readsStep_158 (dpe (a := 0) (b := 1) (by decide)) (Nat.le_of_ble_eq_true rfl) rfl (Nat.le_of_ble_eq_true rfl) ?_
                    refine r_mu (muX10_readsStep_53 rM rP μ) rfl ?_
                    refine r_aload_n dX10_readsStep_161 0 rfl ?_
                    have hs71 := hP.1
                    replace hP := hP.2
                    refine r_cvV (ok_X10_blanks hG  (muX10_readsStep_53 rM rP μ) hs71) lX10_125 (hG.lt (by decide)) sh57 ⟨_, _, rfl⟩ dX10_readsStep_162 (dle (by decide) he) (Nat.le_of_ble_eq_true rfl) rfl (Nat.le_of_ble_eq_true rfl) ?_
                    refine r_mu (muX10_readsStep_54 rM rP μ) rfl ?_
                    refine r_goto 137 dX10_readsStep_165 (by decide) ?_
                    exact hP.elim
            · replace hP := hP.1
              refine r_icmp_ne 111 dX10_readsStep_92 (by decide) (fun c4 => ?_) (fun c4 => ?_)
              · replace hP := hP.1 c4
                have e : (VX10_readsStep_38 rM rP μ) = (VX10_readsStep_35 rM rP μ) := by unfold VX10_readsStep_38; rw [if_pos c4]
                rw [e] at hJ
                exact r_sub [0, 1, 2] rfl hJ
              · replace hP := hP.2 c4
                refine r_aload_n dX10_readsStep_95 0 rfl ?_
                refine r_iconst 1 dX10_readsStep_96 rfl ?_
                refine r_aload_n dX10_readsStep_97 2 rfl ?_
                refine r_iconst 0 dX10_readsStep_98 rfl ?_
                refine r_aload_n dX10_readsStep_99 2 rfl ?_
                refine r_getR 61 fX10_23 (hG.lt (by decide)) sh57 fs57_12 dX10_readsStep_100 ?_
                refine r_iconst 0 dX10_readsStep_103 rfl ?_
                refine r_ialdK 0 rfl (hG.lt (by decide)) sh61 (vp_of (by decide) (by decide)) dX10_readsStep_104 ?_
                refine r_iconst 1 dX10_readsStep_105 rfl ?_
                refine r_isub dX10_readsStep_106 ?_
                have hs40 := hP
                refine r_cvI (ok_X10_number hG 0 (((VX10_readsStep_35 rM rP μ) 61 0) - 1) (VX10_readsStep_35 rM rP μ) hs40) lX10_178 (hG.lt (by decide)) sh57 ⟨_, _, rfl⟩ dX10_readsStep_107 (dle (by decide) he) (Nat.le_of_ble_eq_true rfl) rfl (Nat.le_of_ble_eq_true rfl) ?_
                refine r_mu (muX10_readsStep_36 rM rP μ) rfl ?_
                refine r_iastK 1 rfl (ltR (vp_ix hs38) (by decide) hG) (shr440 _ (vp_ix hs38)) (vp_of (by decide) (by decide)) dX10_readsStep_110 ?_
                refine r_mu (muX10_readsStep_37 rM rP μ) rfl ?_
                have e : (VX10_readsStep_38 rM rP μ) = (muX10_readsStep_37 rM rP μ) := by unfold VX10_readsStep_38; rw [if_neg (not_not_intro c4)]
                rw [e] at hJ
                exact r_sub [0, 1, 2] rfl hJ
          · replace hP := hP.1
            refine r_icmp_ge 90 dX10_readsStep_71 (by decide) (fun c4 => ?_) (fun c4 => ?_)
            · replace hP := hP.1 c4
              have e : (VX10_readsStep_35 rM rP μ) = (muX10_readsStep_32 rM rP μ) := by unfold VX10_readsStep_35; rw [if_pos c4]
              rw [e] at hJ
              exact r_sub [0, 1, 2] rfl hJ
            · replace hP := hP.2 c4
              refine r_aload_n dX10_readsStep_74 0 rfl ?_
              refine r_iconst 1 dX10_readsStep_75 rfl ?_
              refine r_aload_n dX10_readsStep_76 2 rfl ?_
              refine r_iconst 0 dX10_readsStep_77 rfl ?_
              refine r_aload_n dX10_readsStep_78 2 rfl ?_
              refine r_getR 61 fX10_23 (hG.lt (by decide)) sh57 fs57_12 dX10_readsStep_79 ?_
              refine r_iconst 1 dX10_readsStep_82 rfl ?_
              refine r_ialdK 1 rfl (hG.lt (by decide)) sh61 (vp_of (by decide) (by decide)) dX10_readsStep_83 ?_
              refine r_iconst 1 dX10_readsStep_84 rfl ?_
              refine r_isub dX10_readsStep_85 ?_
              have hs39 := hP
              refine r_cvI (ok_X10_number hG 0 (((muX10_readsStep_32 rM rP μ) 61 1) - 1) (muX10_readsStep_32 rM rP μ) hs39) lX10_178 (hG.lt (by decide)) sh57 ⟨_, _, rfl⟩ dX10_readsStep_86 (dle (by decide) he) (Nat.le_of_ble_eq_true rfl) rfl (Nat.le_of_ble_eq_true rfl) ?_
              refine r_mu (muX10_readsStep_33 rM rP μ) rfl ?_
              refine r_iastK 1 rfl (ltR (vp_ix hs38) (by decide) hG) (shr440 _ (vp_ix hs38)) (vp_of (by decide) (by decide)) dX10_readsStep_89 ?_
              refine r_mu (muX10_readsStep_34 rM rP μ) rfl ?_
              have e : (VX10_readsStep_35 rM rP μ) = (muX10_readsStep_34 rM rP μ) := by unfold VX10_readsStep_35; rw [if_neg (i32_ng c4)]
              rw [e] at hJ
              exact r_sub [0, 1, 2] rfl hJ
        · replace hP := hP.2 c3
          exact r_return dX10_readsStep_40 rfl ⟨rfl, by unfold M_X10_readsStep; rw [if_neg (not_not_intro c1), if_pos c2, if_neg c3]⟩
      · replace hP := hP.2 c2
        exact r_return dX10_readsStep_32 rfl ⟨rfl, by unfold M_X10_readsStep; rw [if_neg (not_not_intro c1), if_neg (not_not_intro c2)]⟩
  · refine r_icmp_ne 19 dX10_readsStep_7 (by decide) (fun c1 => ?_) (fun c1 => ?_)
    · have e : (VX10_readsStep_3 rM rP μ) = (muX10_readsStep_1 rM rP μ) := by unfold VX10_readsStep_3; rw [if_pos c1]
      rw [e] at hJ
      exact r_sub [0, 1] rfl hJ
    · refine r_aload_n dX10_readsStep_10 1 rfl ?_
      refine r_iconst 1 dX10_readsStep_11 rfl ?_
      refine r_aload_n dX10_readsStep_12 1 rfl ?_
      refine r_getI fX10_112 (hG.lt (by decide)) sh57 fs57_4 dX10_readsStep_13 ?_
      refine r_cvV (ok_X10_wrong hG 1 ((muX10_readsStep_1 rM rP μ) 57 4) (muX10_readsStep_1 rM rP μ)) lX10_132 (hG.lt (by decide)) sh57 ⟨_, _, rfl⟩ dX10_readsStep_16 (dle (by decide) he) (Nat.le_of_ble_eq_true rfl) rfl (Nat.le_of_ble_eq_true rfl) ?_
      refine r_mu (muX10_readsStep_2 rM rP μ) rfl ?_
      have e : (VX10_readsStep_3 rM rP μ) = (muX10_readsStep_2 rM rP μ) := by unfold VX10_readsStep_3; rw [if_neg (not_not_intro c1)]
      rw [e] at hJ
      exact r_sub [0, 1] rfl hJ
