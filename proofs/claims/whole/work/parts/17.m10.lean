def muX10_gain_1 (p1 : Int32) (p2 : Int32) (p3 : Int32) (μ : Mem) : Mem := (upm μ 57 0 0)
def VX10_gain_2 (p1 : Int32) (p2 : Int32) (p3 : Int32) (μ : Mem) : Int32 := (if (F_X10_isHouse p1 (muX10_gain_1 p1 p2 p3 μ)) ≠ 0 then 0 else 1)
theorem bo_VX10_gain_2 (p1 : Int32) (p2 : Int32) (p3 : Int32) (μ : Mem) : (VX10_gain_2 p1 p2 p3 μ) = 0 ∨ (VX10_gain_2 p1 p2 p3 μ) = 1 := by
  unfold VX10_gain_2
  split
  · exact Or.inl rfl
  · exact Or.inr rfl
def muX10_gain_3 (p1 : Int32) (p2 : Int32) (p3 : Int32) (μ : Mem) : Mem := (M_X10_bad (VX10_gain_2 p1 p2 p3 μ) 1 0 (muX10_gain_1 p1 p2 p3 μ))
def VX10_gain_4 (p1 : Int32) (p2 : Int32) (p3 : Int32) (μ : Mem) : Int32 := (if (F_X10_isIn p2 0 60 (muX10_gain_3 p1 p2 p3 μ)) = 0 then 1 else (if (F_X10_isIn p3 0 1 (muX10_gain_3 p1 p2 p3 μ)) ≠ 0 then 0 else 1))
theorem bo_VX10_gain_4 (p1 : Int32) (p2 : Int32) (p3 : Int32) (μ : Mem) : (VX10_gain_4 p1 p2 p3 μ) = 0 ∨ (VX10_gain_4 p1 p2 p3 μ) = 1 := by
  unfold VX10_gain_4
  split
  · exact Or.inr rfl
  · split
    · exact Or.inl rfl
    · exact Or.inr rfl
def muX10_gain_5 (p1 : Int32) (p2 : Int32) (p3 : Int32) (μ : Mem) : Mem := (M_X10_bad (VX10_gain_4 p1 p2 p3 μ) 2 1 (muX10_gain_3 p1 p2 p3 μ))
def VX10_gain_71_1 (v1 : Int32) (v2 : Int32) (v3 : Int32) (v5 : Int32) (μ : Mem) (i : Nat) (s : Int32) : Int32 := (if (F_X10_waterBy 521 v1 (F_X10_heightIn ((μ 521 62) + (nI i)) μ) μ) ≤ 0 then 0 else 1)
theorem bo_VX10_gain_71_1 (v1 : Int32) (v2 : Int32) (v3 : Int32) (v5 : Int32) (μ : Mem) (i : Nat) (s : Int32) : (VX10_gain_71_1 v1 v2 v3 v5 μ i s) = 0 ∨ (VX10_gain_71_1 v1 v2 v3 v5 μ i s) = 1 := by
  unfold VX10_gain_71_1
  split
  · exact Or.inl rfl
  · exact Or.inr rfl
def g_X10_gain_71 (v1 : Int32) (v2 : Int32) (v3 : Int32) (v5 : Int32) (μ : Mem) (i : Nat) (s : Int32) : Int32 := (s + (VX10_gain_71_1 v1 v2 v3 v5 μ i s))
def Pb_X10_gain_71 (v1 : Int32) (v2 : Int32) (v3 : Int32) (v5 : Int32) (μ : Mem) (i : Nat) (s : Int32) : Prop := ((v2 ≤ (nI i) → False) ∧ ((nI i) < v2 → (P_X10_heightIn ((μ 521 62) + (nI i)) μ) ∧ P_X10_waterBy 521 v1 (F_X10_heightIn ((μ 521 62) + (nI i)) μ) μ))
set_option maxRecDepth 20000 in
set_option maxHeartbeats 2000000 in
theorem lp_X10_gain_71 {G : SG} (hG : GK 548 G)  (v1 : Int32) (v2 : Int32) (v3 : Int32) (v5 : Int32) (μ : Mem) (s0 : Int32) (N : Nat) (sN : Int32) (eN : sN = fo N (g_X10_gain_71 v1 v2 v3 v5 μ) s0) (hN : ∀ i, i < N → Pb_X10_gain_71 v1 v2 v3 v5 μ i (fo i (g_X10_gain_71 v1 v2 v3 v5 μ) s0)) {t : Nat} {Q : PQ} {X : PX} (h : R G mX10_gain 71 [(0, .ref (ga G 57)), (1, .int v1), (2, .int v2), (3, .int v3), (4, .int sN), (5, .int v5), (6, .int (nI N))] [] μ t Q X) : R G mX10_gain 71 [(0, .ref (ga G 57)), (1, .int v1), (2, .int v2), (3, .int v3), (4, .int s0), (5, .int v5), (6, .int 0)] [] μ t Q X := by
  subst eN
  refine down_i N (fun i => R G mX10_gain 71 [(0, .ref (ga G 57)), (1, .int v1), (2, .int v2), (3, .int v3), (4, .int (fo i (g_X10_gain_71 v1 v2 v3 v5 μ) s0)), (5, .int v5), (6, .int (nI i))] [] μ t Q X) h (fun i hi hS => ?_)
  have hP := hN i hi
  rw [fo_succ] at hS
  rw [nI_succ] at hS
  generalize fo i (g_X10_gain_71 v1 v2 v3 v5 μ) s0 = s at hS hP ⊢
  unfold Pb_X10_gain_71 at hP
  refine r_iload dX10_gain_71 6 rfl ?_
  refine r_iload_n dX10_gain_73 2 rfl ?_
  refine r_icmp_ge 119 dX10_gain_74 (by decide) (fun c1 => ?_) (fun c1 => ?_)
  · replace hP := hP.1 c1
    exact hP.elim
  · replace hP := hP.2 c1
    refine r_iload dX10_gain_77 4 rfl ?_
    refine r_aload_n dX10_gain_79 0 rfl ?_
    refine r_aload_n dX10_gain_80 0 rfl ?_
    refine r_getR 521 fX10_73 (hG.lt (by decide)) sh57 fs57_31 dX10_gain_81 ?_
    refine r_iload_n dX10_gain_84 1 rfl ?_
    refine r_aload_n dX10_gain_85 0 rfl ?_
    refine r_aload_n dX10_gain_86 0 rfl ?_
    refine r_getR 521 fX10_73 (hG.lt (by decide)) sh57 fs57_31 dX10_gain_87 ?_
    refine r_bipush 62 dX10_gain_90 rfl ?_
    refine r_ialdK 62 rfl (hG.lt (by decide)) sh521 (vp_of (by decide) (by decide)) dX10_gain_92 ?_
    refine r_iload dX10_gain_93 6 rfl ?_
    refine r_iadd dX10_gain_95 ?_
    have hs1 := hP.1
    replace hP := hP.2
    refine r_cvI (ok_X10_heightIn hG ((μ 521 62) + (nI i)) μ hs1) lX10_276 (hG.lt (by decide)) sh57 ⟨_, _, rfl⟩ dX10_gain_96 (by decide) (Nat.le_of_ble_eq_true rfl) rfl (Nat.le_of_ble_eq_true rfl) ?_
    have hs2 := hP
    refine r_cvI (ok_X10_waterBy hG (hG.lt (by decide)) sh521 v1 (F_X10_heightIn ((μ 521 62) + (nI i)) μ) μ hs2) lX10_282 (hG.lt (by decide)) sh57 ⟨_, _, rfl⟩ dX10_gain_99 (by decide) (Nat.le_of_ble_eq_true rfl) rfl (Nat.le_of_ble_eq_true rfl) ?_
    refine r_join 110 [(0, .ref (ga G 57)), (1, .int v1), (2, .int v2), (3, .int v3), (4, .int s), (5, .int v5), (6, .int (nI i))] [.int (VX10_gain_71_1 v1 v2 v3 v5 μ i s), .int s] μ ?_ (fun hJ => ?_)
    · refine r_iadd dX10_gain_110 ?_
      refine r_istore [(4, _), (0, _), (1, _), (2, _), (3, _), (5, _), (6, _)] dX10_gain_111 (Nat.le_of_ble_eq_true rfl) rfl ?_
      refine r_iinc ((nI i) + 1) [(6, _), (4, _), (0, _), (1, _), (2, _), (3, _), (5, _)] dX10_gain_113 6 rfl rfl (Nat.le_of_ble_eq_true rfl) rfl ?_
      refine r_goto 71 dX10_gain_116 (by decide) ?_
      have e : g_X10_gain_71 v1 v2 v3 v5 μ i s = (s + (VX10_gain_71_1 v1 v2 v3 v5 μ i s)) := by unfold g_X10_gain_71; rfl
      rw [e] at hS
      exact r_sub [2, 3, 4, 5, 1, 6, 0] rfl hS
    · refine r_if_le 109 dX10_gain_102 (by decide) (fun c2 => ?_) (fun c2 => ?_)
      · refine r_iconst 0 dX10_gain_109 rfl ?_
        have e : (VX10_gain_71_1 v1 v2 v3 v5 μ i s) = 0 := by unfold VX10_gain_71_1; rw [if_pos c2]
        rw [e] at hJ
        exact r_sub [0, 1, 2, 3, 4, 5, 6] rfl hJ
      · refine r_iconst 1 dX10_gain_105 rfl ?_
        refine r_goto 110 dX10_gain_106 (by decide) ?_
        have e : (VX10_gain_71_1 v1 v2 v3 v5 μ i s) = 1 := by unfold VX10_gain_71_1; rw [if_neg (i32_ng c2)]
        rw [e] at hJ
        exact r_sub [0, 1, 2, 3, 4, 5, 6] rfl hJ
def NX10_gain_71 (p1 : Int32) (p2 : Int32) (p3 : Int32) (μ : Mem) : Nat := ix p2
def SX10_gain_71 (p1 : Int32) (p2 : Int32) (p3 : Int32) (μ : Mem) : Int32 := fo (NX10_gain_71 p1 p2 p3 μ) (g_X10_gain_71 p1 p2 p3 0 (muX10_gain_5 p1 p2 p3 μ)) 0
def g_X10_gain_122 (v1 : Int32) (v2 : Int32) (v3 : Int32) (v4 : Int32) (μ : Mem) (i : Nat) (s : Int32) : Int32 := (s + ((μ (96 + (ix (nI i))) 0) * (μ (96 + (ix (nI i))) 1)))
def Pb_X10_gain_122 (v1 : Int32) (v2 : Int32) (v3 : Int32) (v4 : Int32) (μ : Mem) (i : Nat) (s : Int32) : Prop := (((μ 61 3) ≤ (nI i) → False) ∧ ((nI i) < (μ 61 3) → (vp_in (nI i) 6) ∧ vp_in (nI i) 6))
set_option maxRecDepth 20000 in
set_option maxHeartbeats 2000000 in
theorem lp_X10_gain_122 {G : SG} (hG : GK 548 G)  (v1 : Int32) (v2 : Int32) (v3 : Int32) (v4 : Int32) (μ : Mem) (s0 : Int32) (N : Nat) (sN : Int32) (eN : sN = fo N (g_X10_gain_122 v1 v2 v3 v4 μ) s0) (hN : ∀ i, i < N → Pb_X10_gain_122 v1 v2 v3 v4 μ i (fo i (g_X10_gain_122 v1 v2 v3 v4 μ) s0)) {t : Nat} {Q : PQ} {X : PX} (h : R G mX10_gain 122 [(0, .ref (ga G 57)), (1, .int v1), (2, .int v2), (3, .int v3), (4, .int v4), (5, .int sN), (6, .int (nI N))] [] μ t Q X) : R G mX10_gain 122 [(0, .ref (ga G 57)), (1, .int v1), (2, .int v2), (3, .int v3), (4, .int v4), (5, .int s0), (6, .int 0)] [] μ t Q X := by
  subst eN
  refine down_i N (fun i => R G mX10_gain 122 [(0, .ref (ga G 57)), (1, .int v1), (2, .int v2), (3, .int v3), (4, .int v4), (5, .int (fo i (g_X10_gain_122 v1 v2 v3 v4 μ) s0)), (6, .int (nI i))] [] μ t Q X) h (fun i hi hS => ?_)
  have hP := hN i hi
  rw [fo_succ] at hS
  rw [nI_succ] at hS
  generalize fo i (g_X10_gain_122 v1 v2 v3 v4 μ) s0 = s at hS hP ⊢
  unfold Pb_X10_gain_122 at hP
  refine r_iload dX10_gain_122 6 rfl ?_
  refine r_aload_n dX10_gain_124 0 rfl ?_
  refine r_getR 61 fX10_23 (hG.lt (by decide)) sh57 fs57_12 dX10_gain_125 ?_
  refine r_iconst 3 dX10_gain_128 rfl ?_
  refine r_ialdK 3 rfl (hG.lt (by decide)) sh61 (vp_of (by decide) (by decide)) dX10_gain_129 ?_
  refine r_icmp_ge 163 dX10_gain_130 (by decide) (fun c1 => ?_) (fun c1 => ?_)
  · replace hP := hP.1 c1
    exact hP.elim
  · replace hP := hP.2 c1
    refine r_iload dX10_gain_133 5 rfl ?_
    refine r_aload_n dX10_gain_135 0 rfl ?_
    refine r_getR 95 fX10_49 (hG.lt (by decide)) sh57 fs57_20 dX10_gain_136 ?_
    refine r_iload dX10_gain_139 6 rfl ?_
    have hs1 := hP.1
    replace hP := hP.2
    refine r_aald (hG.lt (by decide)) sh95 hs1 dX10_gain_141 ?_
    refine r_iconst 0 dX10_gain_142 rfl ?_
    refine r_ialdK 0 rfl (ltR (vp_ix hs1) (by decide) hG) (shr95 _ (vp_ix hs1)) (vp_of (by decide) (by decide)) dX10_gain_143 ?_
    refine r_aload_n dX10_gain_144 0 rfl ?_
    refine r_getR 95 fX10_49 (hG.lt (by decide)) sh57 fs57_20 dX10_gain_145 ?_
    refine r_iload dX10_gain_148 6 rfl ?_
    have hs2 := hP
    refine r_aald (hG.lt (by decide)) sh95 hs2 dX10_gain_150 ?_
    refine r_iconst 1 dX10_gain_151 rfl ?_
    refine r_ialdK 1 rfl (ltR (vp_ix hs2) (by decide) hG) (shr95 _ (vp_ix hs2)) (vp_of (by decide) (by decide)) dX10_gain_152 ?_
    refine r_imul dX10_gain_153 ?_
    refine r_iadd dX10_gain_154 ?_
    refine r_istore [(5, _), (0, _), (1, _), (2, _), (3, _), (4, _), (6, _)] dX10_gain_155 (Nat.le_of_ble_eq_true rfl) rfl ?_
    refine r_iinc ((nI i) + 1) [(6, _), (5, _), (0, _), (1, _), (2, _), (3, _), (4, _)] dX10_gain_157 6 rfl rfl (Nat.le_of_ble_eq_true rfl) rfl ?_
    refine r_goto 122 dX10_gain_160 (by decide) ?_
    have e : g_X10_gain_122 v1 v2 v3 v4 μ i s = (s + ((μ (96 + (ix (nI i))) 0) * (μ (96 + (ix (nI i))) 1))) := by unfold g_X10_gain_122; rfl
    rw [e] at hS
    exact r_sub [2, 3, 4, 5, 6, 1, 0] rfl hS
def NX10_gain_122 (p1 : Int32) (p2 : Int32) (p3 : Int32) (μ : Mem) : Nat := ix ((muX10_gain_5 p1 p2 p3 μ) 61 3)
def SX10_gain_122 (p1 : Int32) (p2 : Int32) (p3 : Int32) (μ : Mem) : Int32 := fo (NX10_gain_122 p1 p2 p3 μ) (g_X10_gain_122 p1 p2 p3 (SX10_gain_71 p1 p2 p3 μ) (muX10_gain_5 p1 p2 p3 μ)) 0
def g_X10_gain_174 (v1 : Int32) (v2 : Int32) (v3 : Int32) (v4 : Int32) (v5 : Int32) (μ : Mem) (i : Nat) (s : Int32 × Int32) : Int32 × Int32 := (s.2, (s.1 - s.1 / s.2 * s.2))
def Pb_X10_gain_174 (v1 : Int32) (v2 : Int32) (v3 : Int32) (v4 : Int32) (v5 : Int32) (μ : Mem) (i : Nat) (s : Int32 × Int32) : Prop := ((s.2 = 0 → False) ∧ (¬ s.2 = 0 → ¬ s.2 = 0))
def Cb_X10_gain_174 (v1 : Int32) (v2 : Int32) (v3 : Int32) (v4 : Int32) (v5 : Int32) (μ : Mem) (i : Nat) (s : Int32 × Int32) : Bool := (if s.2 = 0 then false else true)
set_option maxRecDepth 20000 in
set_option maxHeartbeats 2000000 in
theorem lp_X10_gain_174 {G : SG} (hG : GK 548 G)  (v1 : Int32) (v2 : Int32) (v3 : Int32) (v4 : Int32) (v5 : Int32) (μ : Mem) (s0 : Int32 × Int32) (N : Nat) (sN : Int32 × Int32) (eN : sN = fo N (g_X10_gain_174 v1 v2 v3 v4 v5 μ) s0) (hN : ∀ i, i < N → Pb_X10_gain_174 v1 v2 v3 v4 v5 μ i (fo i (g_X10_gain_174 v1 v2 v3 v4 v5 μ) s0)) {t : Nat} {Q : PQ} {X : PX} (h : R G mX10_gain 174 [(0, .ref (ga G 57)), (1, .int v1), (2, .int v2), (3, .int v3), (4, .int v4), (5, .int v5), (6, .int (sN).1), (7, .int (sN).2)] [] μ t Q X) : R G mX10_gain 174 [(0, .ref (ga G 57)), (1, .int v1), (2, .int v2), (3, .int v3), (4, .int v4), (5, .int v5), (6, .int (s0).1), (7, .int (s0).2)] [] μ t Q X := by
  subst eN
  refine down_i N (fun i => R G mX10_gain 174 [(0, .ref (ga G 57)), (1, .int v1), (2, .int v2), (3, .int v3), (4, .int v4), (5, .int v5), (6, .int ((fo i (g_X10_gain_174 v1 v2 v3 v4 v5 μ) s0)).1), (7, .int ((fo i (g_X10_gain_174 v1 v2 v3 v4 v5 μ) s0)).2)] [] μ t Q X) h (fun i hi hS => ?_)
  have hP := hN i hi
  rw [fo_succ] at hS
  generalize fo i (g_X10_gain_174 v1 v2 v3 v4 v5 μ) s0 = s at hS hP ⊢
  unfold Pb_X10_gain_174 at hP
  refine r_iload dX10_gain_174 7 rfl ?_
  refine r_if_eq 197 dX10_gain_176 (by decide) (fun c1 => ?_) (fun c1 => ?_)
  · replace hP := hP.1 c1
    exact hP.elim
  · replace hP := hP.2 c1
    refine r_iload dX10_gain_179 6 rfl ?_
    refine r_iload dX10_gain_181 7 rfl ?_
    have hs1 := hP
    refine r_irem dX10_gain_183 hs1 ?_
    refine r_istore [(8, _), (0, _), (1, _), (2, _), (3, _), (4, _), (5, _), (6, _), (7, _)] dX10_gain_184 (Nat.le_of_ble_eq_true rfl) rfl ?_
    refine r_iload dX10_gain_186 8 rfl ?_
    refine r_istore [(6, _), (8, _), (0, _), (1, _), (2, _), (3, _), (4, _), (5, _), (7, _)] dX10_gain_188 (Nat.le_of_ble_eq_true rfl) rfl ?_
    refine r_iload dX10_gain_190 1 rfl ?_
    refine r_istore [(7, _), (6, _), (8, _), (0, _), (1, _), (2, _), (3, _), (4, _), (5, _)] dX10_gain_192 (Nat.le_of_ble_eq_true rfl) rfl ?_
    refine r_goto 174 dX10_gain_194 (by decide) ?_
    have e : g_X10_gain_174 v1 v2 v3 v4 v5 μ i s = (s.2, (s.1 - s.1 / s.2 * s.2)) := by unfold g_X10_gain_174; rfl
    rw [e] at hS
    dsimp only at hS
    exact r_sub [3, 4, 5, 6, 7, 8, 1, 0] rfl hS
def NX10_gain_174 (p1 : Int32) (p2 : Int32) (p3 : Int32) (μ : Mem) : Nat := (fst 10 (fun j9 => !Cb_X10_gain_174 p1 p2 p3 (SX10_gain_71 p1 p2 p3 μ) (SX10_gain_122 p1 p2 p3 μ) (muX10_gain_5 p1 p2 p3 μ) j9 (fo j9 (g_X10_gain_174 p1 p2 p3 (SX10_gain_71 p1 p2 p3 μ) (SX10_gain_122 p1 p2 p3 μ) (muX10_gain_5 p1 p2 p3 μ)) (16, ((SX10_gain_71 p1 p2 p3 μ) * (SX10_gain_122 p1 p2 p3 μ))))))
def SX10_gain_174 (p1 : Int32) (p2 : Int32) (p3 : Int32) (μ : Mem) : Int32 × Int32 := fo (NX10_gain_174 p1 p2 p3 μ) (g_X10_gain_174 p1 p2 p3 (SX10_gain_71 p1 p2 p3 μ) (SX10_gain_122 p1 p2 p3 μ) (muX10_gain_5 p1 p2 p3 μ)) (16, ((SX10_gain_71 p1 p2 p3 μ) * (SX10_gain_122 p1 p2 p3 μ)))
def VX10_gain_6 (p1 : Int32) (p2 : Int32) (p3 : Int32) (μ : Mem) : Int32 := (if (F_X10_waterBy 521 p1 (F_X10_heightIn (((muX10_gain_5 p1 p2 p3 μ) 521 62) + (nI (NX10_gain_71 p1 p2 p3 μ))) (muX10_gain_5 p1 p2 p3 μ)) (muX10_gain_5 p1 p2 p3 μ)) ≤ 0 then 0 else 1)
theorem bo_VX10_gain_6 (p1 : Int32) (p2 : Int32) (p3 : Int32) (μ : Mem) : (VX10_gain_6 p1 p2 p3 μ) = 0 ∨ (VX10_gain_6 p1 p2 p3 μ) = 1 := by
  unfold VX10_gain_6
  split
  · exact Or.inl rfl
  · exact Or.inr rfl
def F_X10_gain (p1 : Int32) (p2 : Int32) (p3 : Int32) (μ : Mem) : Int32 := (if (F_X10_bad (VX10_gain_2 p1 p2 p3 μ) 1 0 (muX10_gain_1 p1 p2 p3 μ)) ≠ 0 then 0 else (if (F_X10_bad (VX10_gain_4 p1 p2 p3 μ) 2 1 (muX10_gain_3 p1 p2 p3 μ)) = 0 then (if p3 ≠ 0 then (16 / (SX10_gain_174 p1 p2 p3 μ).1) else (((SX10_gain_71 p1 p2 p3 μ) * (SX10_gain_122 p1 p2 p3 μ)) / (SX10_gain_174 p1 p2 p3 μ).1)) else 0))
def M_X10_gain (p1 : Int32) (p2 : Int32) (p3 : Int32) (μ : Mem) : Mem := (if (F_X10_bad (VX10_gain_2 p1 p2 p3 μ) 1 0 (muX10_gain_1 p1 p2 p3 μ)) ≠ 0 then (muX10_gain_3 p1 p2 p3 μ) else (muX10_gain_5 p1 p2 p3 μ))
def P_X10_gain (p1 : Int32) (p2 : Int32) (p3 : Int32) (μ : Mem) : Prop := ((P_X10_bad (VX10_gain_2 p1 p2 p3 μ) 1 0 (muX10_gain_1 p1 p2 p3 μ)) ∧ (((F_X10_bad (VX10_gain_2 p1 p2 p3 μ) 1 0 (muX10_gain_1 p1 p2 p3 μ)) ≠ 0 → True) ∧ ((F_X10_bad (VX10_gain_2 p1 p2 p3 μ) 1 0 (muX10_gain_1 p1 p2 p3 μ)) = 0 → ((P_X10_bad (VX10_gain_4 p1 p2 p3 μ) 2 1 (muX10_gain_3 p1 p2 p3 μ)) ∧ (((F_X10_bad (VX10_gain_4 p1 p2 p3 μ) 2 1 (muX10_gain_3 p1 p2 p3 μ)) = 0 → ((∀ j9, j9 < (NX10_gain_71 p1 p2 p3 μ) → Pb_X10_gain_71 p1 p2 p3 0 (muX10_gain_5 p1 p2 p3 μ) j9 (fo j9 (g_X10_gain_71 p1 p2 p3 0 (muX10_gain_5 p1 p2 p3 μ)) 0)) ∧ ((p2 ≤ (nI (NX10_gain_71 p1 p2 p3 μ)) → ((∀ j9, j9 < (NX10_gain_122 p1 p2 p3 μ) → Pb_X10_gain_122 p1 p2 p3 (SX10_gain_71 p1 p2 p3 μ) (muX10_gain_5 p1 p2 p3 μ) j9 (fo j9 (g_X10_gain_122 p1 p2 p3 (SX10_gain_71 p1 p2 p3 μ) (muX10_gain_5 p1 p2 p3 μ)) 0)) ∧ ((((muX10_gain_5 p1 p2 p3 μ) 61 3) ≤ (nI (NX10_gain_122 p1 p2 p3 μ)) → ((∀ j9, j9 < (NX10_gain_174 p1 p2 p3 μ) → Pb_X10_gain_174 p1 p2 p3 (SX10_gain_71 p1 p2 p3 μ) (SX10_gain_122 p1 p2 p3 μ) (muX10_gain_5 p1 p2 p3 μ) j9 (fo j9 (g_X10_gain_174 p1 p2 p3 (SX10_gain_71 p1 p2 p3 μ) (SX10_gain_122 p1 p2 p3 μ) (muX10_gain_5 p1 p2 p3 μ)) (16, ((SX10_gain_71 p1 p2 p3 μ) * (SX10_gain_122 p1 p2 p3 μ))))) ∧ (((SX10_gain_174 p1 p2 p3 μ).2 = 0 → ((p3 ≠ 0 → (¬ (SX10_gain_174 p1 p2 p3 μ).1 = 0)) ∧ (p3 = 0 → (¬ (SX10_gain_174 p1 p2 p3 μ).1 = 0)))) ∧ (¬ (SX10_gain_174 p1 p2 p3 μ).2 = 0 → ((¬ (SX10_gain_174 p1 p2 p3 μ).2 = 0) ∧ False))))) ∧ ((nI (NX10_gain_122 p1 p2 p3 μ)) < ((muX10_gain_5 p1 p2 p3 μ) 61 3) → ((vp_in (nI (NX10_gain_122 p1 p2 p3 μ)) 6) ∧ ((vp_in (nI (NX10_gain_122 p1 p2 p3 μ)) 6) ∧ False)))))) ∧ ((nI (NX10_gain_71 p1 p2 p3 μ)) < p2 → ((P_X10_heightIn (((muX10_gain_5 p1 p2 p3 μ) 521 62) + (nI (NX10_gain_71 p1 p2 p3 μ))) (muX10_gain_5 p1 p2 p3 μ)) ∧ ((P_X10_waterBy 521 p1 (F_X10_heightIn (((muX10_gain_5 p1 p2 p3 μ) 521 62) + (nI (NX10_gain_71 p1 p2 p3 μ))) (muX10_gain_5 p1 p2 p3 μ)) (muX10_gain_5 p1 p2 p3 μ)) ∧ False)))))) ∧ (¬ (F_X10_bad (VX10_gain_4 p1 p2 p3 μ) 2 1 (muX10_gain_3 p1 p2 p3 μ)) = 0 → True))))))
set_option maxRecDepth 20000 in
set_option maxHeartbeats 2000000 in
theorem ok_X10_gain {G : SG} (hG : GK 548 G) (p1 : Int32) (p2 : Int32) (p3 : Int32) (μ : Mem) (hP : P_X10_gain p1 p2 p3 μ) : OkF G mX10_gain [.ref (ga G 57), .int p1, .int p2, .int p3] μ (some (.int (F_X10_gain p1 p2 p3 μ))) (M_X10_gain p1 p2 p3 μ) := by
  refine okF_of hG rfl rfl (Nat.le_of_ble_eq_true rfl) ?_
  unfold P_X10_gain at hP
  refine r_aload_n dX10_gain_0 0 rfl ?_
  refine r_iconst 0 dX10_gain_1 rfl ?_
  refine r_put fiX10_103 (hG.lt (by decide)) sh57 fs57_0 dX10_gain_2 ?_
  refine r_mu (muX10_gain_1 p1 p2 p3 μ) rfl ?_
  refine r_aload_n dX10_gain_5 0 rfl ?_
  refine r_aload_n dX10_gain_6 0 rfl ?_
  refine r_iload_n dX10_gain_7 1 rfl ?_
  refine r_cvI (ok_X10_isHouse hG p1 (muX10_gain_1 p1 p2 p3 μ)) lX10_347 (hG.lt (by decide)) sh57 ⟨_, _, rfl⟩ dX10_gain_8 (by decide) (Nat.le_of_ble_eq_true rfl) rfl (Nat.le_of_ble_eq_true rfl) ?_
  refine r_join 19 [(0, .ref (ga G 57)), (1, .int p1), (2, .int p2), (3, .int p3)] [.int (VX10_gain_2 p1 p2 p3 μ), .ref (ga G 57)] (muX10_gain_1 p1 p2 p3 μ) ?_ (fun hJ => ?_)
  · refine r_iconst 1 dX10_gain_19 rfl ?_
    refine r_iconst 0 dX10_gain_20 rfl ?_
    have hs1 := hP.1
    replace hP := hP.2
    refine r_cvI (ok_X10_bad hG (VX10_gain_2 p1 p2 p3 μ) 1 0 (muX10_gain_1 p1 p2 p3 μ) hs1) lX10_186 (hG.lt (by decide)) sh57 ⟨_, _, rfl⟩ dX10_gain_21 (by decide) (Nat.le_of_ble_eq_true rfl) rfl (Nat.le_of_ble_eq_true rfl) ?_
    refine r_mu (muX10_gain_3 p1 p2 p3 μ) rfl ?_
    refine r_if_ne 60 dX10_gain_24 (by decide) (fun c1 => ?_) (fun c1 => ?_)
    · replace hP := hP.1 c1
      refine r_iconst 0 dX10_gain_60 rfl ?_
      exact r_ireturn _ dX10_gain_61 rfl rfl ⟨congrArg (fun z => some (Value.int z)) (by unfold F_X10_gain; rw [if_pos c1]), by unfold M_X10_gain; rw [if_pos c1]⟩
    · replace hP := hP.2 c1
      refine r_aload_n dX10_gain_27 0 rfl ?_
      refine r_iload_n dX10_gain_28 2 rfl ?_
      refine r_iconst 0 dX10_gain_29 rfl ?_
      refine r_bipush 60 dX10_gain_30 rfl ?_
      refine r_csI (ok_X10_isIn hG p2 0 60 (muX10_gain_3 p1 p2 p3 μ)) lX10_137 dX10_gain_32 (by decide) (Nat.le_of_ble_eq_true rfl) rfl (Nat.le_of_ble_eq_true rfl) ?_
      refine r_join 52 [(0, .ref (ga G 57)), (1, .int p1), (2, .int p2), (3, .int p3)] [.int (VX10_gain_4 p1 p2 p3 μ), .ref (ga G 57)] (muX10_gain_3 p1 p2 p3 μ) ?_ (fun hJ => ?_)
      · refine r_iconst 2 dX10_gain_52 rfl ?_
        refine r_iconst 1 dX10_gain_53 rfl ?_
        have hs2 := hP.1
        replace hP := hP.2
        refine r_cvI (ok_X10_bad hG (VX10_gain_4 p1 p2 p3 μ) 2 1 (muX10_gain_3 p1 p2 p3 μ) hs2) lX10_186 (hG.lt (by decide)) sh57 ⟨_, _, rfl⟩ dX10_gain_54 (by decide) (Nat.le_of_ble_eq_true rfl) rfl (Nat.le_of_ble_eq_true rfl) ?_
        refine r_mu (muX10_gain_5 p1 p2 p3 μ) rfl ?_
        refine r_if_eq 62 dX10_gain_57 (by decide) (fun c2 => ?_) (fun c2 => ?_)
        · replace hP := hP.1 c2
          refine r_iconst 0 dX10_gain_62 rfl ?_
          refine r_istore [(4, _), (0, _), (1, _), (2, _), (3, _)] dX10_gain_63 (Nat.le_of_ble_eq_true rfl) rfl ?_
          refine r_iconst 0 dX10_gain_65 rfl ?_
          refine r_istore [(5, _), (4, _), (0, _), (1, _), (2, _), (3, _)] dX10_gain_66 (Nat.le_of_ble_eq_true rfl) rfl ?_
          refine r_iconst 0 dX10_gain_68 rfl ?_
          refine r_istore [(6, _), (5, _), (4, _), (0, _), (1, _), (2, _), (3, _)] dX10_gain_69 (Nat.le_of_ble_eq_true rfl) rfl ?_
          have hs3 := hP.1
          replace hP := hP.2
          refine r_sub [3, 4, 5, 6, 2, 1, 0] rfl ?_
          refine lp_X10_gain_71 hG p1 p2 p3 0 (muX10_gain_5 p1 p2 p3 μ) 0 ((NX10_gain_71 p1 p2 p3 μ)) (SX10_gain_71 p1 p2 p3 μ) rfl hs3 ?_
          refine r_iload dX10_gain_71 6 rfl ?_
          refine r_iload_n dX10_gain_73 2 rfl ?_
          refine r_icmp_ge 119 dX10_gain_74 (by decide) (fun c3 => ?_) (fun c3 => ?_)
          · replace hP := hP.1 c3
            refine r_iconst 0 dX10_gain_119 rfl ?_
            refine r_istore [(6, _), (0, _), (1, _), (2, _), (3, _), (4, _), (5, _)] dX10_gain_120 (Nat.le_of_ble_eq_true rfl) rfl ?_
            have hs6 := hP.1
            replace hP := hP.2
            refine r_sub [1, 2, 3, 4, 5, 6, 0] rfl ?_
            refine lp_X10_gain_122 hG p1 p2 p3 (SX10_gain_71 p1 p2 p3 μ) (muX10_gain_5 p1 p2 p3 μ) 0 ((NX10_gain_122 p1 p2 p3 μ)) (SX10_gain_122 p1 p2 p3 μ) rfl hs6 ?_
            refine r_iload dX10_gain_122 6 rfl ?_
            refine r_aload_n dX10_gain_124 0 rfl ?_
            refine r_getR 61 fX10_23 (hG.lt (by decide)) sh57 fs57_12 dX10_gain_125 ?_
            refine r_iconst 3 dX10_gain_128 rfl ?_
            refine r_ialdK 3 rfl (hG.lt (by decide)) sh61 (vp_of (by decide) (by decide)) dX10_gain_129 ?_
            refine r_icmp_ge 163 dX10_gain_130 (by decide) (fun c4 => ?_) (fun c4 => ?_)
            · replace hP := hP.1 c4
              refine r_bipush 16 dX10_gain_163 rfl ?_
              refine r_istore [(6, _), (0, _), (1, _), (2, _), (3, _), (4, _), (5, _)] dX10_gain_165 (Nat.le_of_ble_eq_true rfl) rfl ?_
              refine r_iload dX10_gain_167 5 rfl ?_
              refine r_iload dX10_gain_169 6 rfl ?_
              refine r_imul dX10_gain_171 ?_
              refine r_istore [(7, _), (6, _), (0, _), (1, _), (2, _), (3, _), (4, _), (5, _)] dX10_gain_172 (Nat.le_of_ble_eq_true rfl) rfl ?_
              have hs9 := hP.1
              replace hP := hP.2
              refine r_sub [2, 3, 4, 5, 6, 7, 1, 0] rfl ?_
              refine lp_X10_gain_174 hG p1 p2 p3 (SX10_gain_71 p1 p2 p3 μ) (SX10_gain_122 p1 p2 p3 μ) (muX10_gain_5 p1 p2 p3 μ) (16, ((SX10_gain_71 p1 p2 p3 μ) * (SX10_gain_122 p1 p2 p3 μ))) ((NX10_gain_174 p1 p2 p3 μ)) (SX10_gain_174 p1 p2 p3 μ) rfl hs9 ?_
              refine r_iload dX10_gain_174 7 rfl ?_
              refine r_if_eq 197 dX10_gain_176 (by decide) (fun c5 => ?_) (fun c5 => ?_)
              · replace hP := hP.1 c5
                refine r_iload_n dX10_gain_197 3 rfl ?_
                refine r_if_ne 212 dX10_gain_198 (by decide) (fun c6 => ?_) (fun c6 => ?_)
                · replace hP := hP.1 c6
                  refine r_bipush 16 dX10_gain_212 rfl ?_
                  refine r_iload dX10_gain_214 6 rfl ?_
                  have hs11 := hP
                  refine r_idiv dX10_gain_216 hs11 ?_
                  exact r_ireturn _ dX10_gain_217 rfl rfl ⟨congrArg (fun z => some (Value.int z)) (by unfold F_X10_gain; rw [if_neg (not_not_intro c1), if_pos c2, if_pos c6]), by unfold M_X10_gain; rw [if_neg (not_not_intro c1)]⟩
                · replace hP := hP.2 c6
                  refine r_iload dX10_gain_201 4 rfl ?_
                  refine r_iload dX10_gain_203 5 rfl ?_
                  refine r_imul dX10_gain_205 ?_
                  refine r_iload dX10_gain_206 6 rfl ?_
                  have hs12 := hP
                  refine r_idiv dX10_gain_208 hs12 ?_
                  refine r_goto 217 dX10_gain_209 (by decide) ?_
                  exact r_ireturn _ dX10_gain_217 rfl rfl ⟨congrArg (fun z => some (Value.int z)) (by unfold F_X10_gain; rw [if_neg (not_not_intro c1), if_pos c2, if_neg (not_not_intro c6)]), by unfold M_X10_gain; rw [if_neg (not_not_intro c1)]⟩
              · replace hP := hP.2 c5
                refine r_iload dX10_gain_179 6 rfl ?_
                refine r_iload dX10_gain_181 7 rfl ?_
                have hs13 := hP.1
                replace hP := hP.2
                refine r_irem dX10_gain_183 hs13 ?_
                refine r_istore [(8, _), (0, _), (1, _), (2, _), (3, _), (4, _), (5, _), (6, _), (7, _)] dX10_gain_184 (Nat.le_of_ble_eq_true rfl) rfl ?_
                refine r_iload dX10_gain_186 8 rfl ?_
                refine r_istore [(6, _), (8, _), (0, _), (1, _), (2, _), (3, _), (4, _), (5, _), (7, _)] dX10_gain_188 (Nat.le_of_ble_eq_true rfl) rfl ?_
                refine r_iload dX10_gain_190 1 rfl ?_
                refine r_istore [(7, _), (6, _), (8, _), (0, _), (1, _), (2, _), (3, _), (4, _), (5, _)] dX10_gain_192 (Nat.le_of_ble_eq_true rfl) rfl ?_
                refine r_goto 174 dX10_gain_194 (by decide) ?_
                exact hP.elim
            · replace hP := hP.2 c4
              refine r_iload dX10_gain_133 5 rfl ?_
              refine r_aload_n dX10_gain_135 0 rfl ?_
              refine r_getR 95 fX10_49 (hG.lt (by decide)) sh57 fs57_20 dX10_gain_136 ?_
              refine r_iload dX10_gain_139 6 rfl ?_
              have hs14 := hP.1
              replace hP := hP.2
              refine r_aald (hG.lt (by decide)) sh95 hs14 dX10_gain_141 ?_
              refine r_iconst 0 dX10_gain_142 rfl ?_
              refine r_ialdK 0 rfl (ltR (vp_ix hs14) (by decide) hG) (shr95 _ (vp_ix hs14)) (vp_of (by decide) (by decide)) dX10_gain_143 ?_
              refine r_aload_n dX10_gain_144 0 rfl ?_
              refine r_getR 95 fX10_49 (hG.lt (by decide)) sh57 fs57_20 dX10_gain_145 ?_
              refine r_iload dX10_gain_148 6 rfl ?_
              have hs15 := hP.1
              replace hP := hP.2
              refine r_aald (hG.lt (by decide)) sh95 hs15 dX10_gain_150 ?_
              refine r_iconst 1 dX10_gain_151 rfl ?_
              refine r_ialdK 1 rfl (ltR (vp_ix hs15) (by decide) hG) (shr95 _ (vp_ix hs15)) (vp_of (by decide) (by decide)) dX10_gain_152 ?_
              refine r_imul dX10_gain_153 ?_
              refine r_iadd dX10_gain_154 ?_
              refine r_istore [(5, _), (0, _), (1, _), (2, _), (3, _), (4, _), (6, _)] dX10_gain_155 (Nat.le_of_ble_eq_true rfl) rfl ?_
              refine r_iinc ((nI (NX10_gain_122 p1 p2 p3 μ)) + 1) [(6, _), (5, _), (0, _), (1, _), (2, _), (3, _), (4, _)] dX10_gain_157 6 rfl rfl (Nat.le_of_ble_eq_true rfl) rfl ?_
              refine r_goto 122 dX10_gain_160 (by decide) ?_
              exact hP.elim
          · replace hP := hP.2 c3
            refine r_iload dX10_gain_77 4 rfl ?_
            refine r_aload_n dX10_gain_79 0 rfl ?_
            refine r_aload_n dX10_gain_80 0 rfl ?_
            refine r_getR 521 fX10_73 (hG.lt (by decide)) sh57 fs57_31 dX10_gain_81 ?_
            refine r_iload_n dX10_gain_84 1 rfl ?_
            refine r_aload_n dX10_gain_85 0 rfl ?_
            refine r_aload_n dX10_gain_86 0 rfl ?_
            refine r_getR 521 fX10_73 (hG.lt (by decide)) sh57 fs57_31 dX10_gain_87 ?_
            refine r_bipush 62 dX10_gain_90 rfl ?_
            refine r_ialdK 62 rfl (hG.lt (by decide)) sh521 (vp_of (by decide) (by decide)) dX10_gain_92 ?_
            refine r_iload dX10_gain_93 6 rfl ?_
            refine r_iadd dX10_gain_95 ?_
            have hs16 := hP.1
            replace hP := hP.2
            refine r_cvI (ok_X10_heightIn hG (((muX10_gain_5 p1 p2 p3 μ) 521 62) + (nI (NX10_gain_71 p1 p2 p3 μ))) (muX10_gain_5 p1 p2 p3 μ) hs16) lX10_276 (hG.lt (by decide)) sh57 ⟨_, _, rfl⟩ dX10_gain_96 (by decide) (Nat.le_of_ble_eq_true rfl) rfl (Nat.le_of_ble_eq_true rfl) ?_
            have hs17 := hP.1
            replace hP := hP.2
            refine r_cvI (ok_X10_waterBy hG (hG.lt (by decide)) sh521 p1 (F_X10_heightIn (((muX10_gain_5 p1 p2 p3 μ) 521 62) + (nI (NX10_gain_71 p1 p2 p3 μ))) (muX10_gain_5 p1 p2 p3 μ)) (muX10_gain_5 p1 p2 p3 μ) hs17) lX10_282 (hG.lt (by decide)) sh57 ⟨_, _, rfl⟩ dX10_gain_99 (by decide) (Nat.le_of_ble_eq_true rfl) rfl (Nat.le_of_ble_eq_true rfl) ?_
            refine r_join 110 [(0, .ref (ga G 57)), (1, .int p1), (2, .int p2), (3, .int p3), (4, .int (SX10_gain_71 p1 p2 p3 μ)), (5, .int 0), (6, .int (nI (NX10_gain_71 p1 p2 p3 μ)))] [.int (VX10_gain_6 p1 p2 p3 μ), .int (SX10_gain_71 p1 p2 p3 μ)] (muX10_gain_5 p1 p2 p3 μ) ?_ (fun hJ => ?_)
            · refine r_iadd dX10_gain_110 ?_
              refine r_istore [(4, _), (0, _), (1, _), (2, _), (3, _), (5, _), (6, _)] dX10_gain_111 (Nat.le_of_ble_eq_true rfl) rfl ?_
              refine r_iinc ((nI (NX10_gain_71 p1 p2 p3 μ)) + 1) [(6, _), (4, _), (0, _), (1, _), (2, _), (3, _), (5, _)] dX10_gain_113 6 rfl rfl (Nat.le_of_ble_eq_true rfl) rfl ?_
              refine r_goto 71 dX10_gain_116 (by decide) ?_
              exact hP.elim
            · refine r_if_le 109 dX10_gain_102 (by decide) (fun c4 => ?_) (fun c4 => ?_)
              · refine r_iconst 0 dX10_gain_109 rfl ?_
                have e : (VX10_gain_6 p1 p2 p3 μ) = 0 := by unfold VX10_gain_6; rw [if_pos c4]
                rw [e] at hJ
                exact r_sub [0, 1, 2, 3, 4, 5, 6] rfl hJ
              · refine r_iconst 1 dX10_gain_105 rfl ?_
                refine r_goto 110 dX10_gain_106 (by decide) ?_
                have e : (VX10_gain_6 p1 p2 p3 μ) = 1 := by unfold VX10_gain_6; rw [if_neg (i32_ng c4)]
                rw [e] at hJ
                exact r_sub [0, 1, 2, 3, 4, 5, 6] rfl hJ
        · replace hP := hP.2 c2
          refine r_iconst 0 dX10_gain_60 rfl ?_
          exact r_ireturn _ dX10_gain_61 rfl rfl ⟨congrArg (fun z => some (Value.int z)) (by unfold F_X10_gain; rw [if_neg (not_not_intro c1), if_neg c2]), by unfold M_X10_gain; rw [if_neg (not_not_intro c1)]⟩
      · refine r_if_eq 47 dX10_gain_35 (by decide) (fun c2 => ?_) (fun c2 => ?_)
        · refine r_iconst 1 dX10_gain_47 rfl ?_
          refine r_goto 52 dX10_gain_48 (by decide) ?_
          have e : (VX10_gain_4 p1 p2 p3 μ) = 1 := by unfold VX10_gain_4; rw [if_pos c2]
          rw [e] at hJ
          exact r_sub [0, 1, 2, 3] rfl hJ
        · refine r_iload_n dX10_gain_38 3 rfl ?_
          refine r_iconst 0 dX10_gain_39 rfl ?_
          refine r_iconst 1 dX10_gain_40 rfl ?_
          refine r_csI (ok_X10_isIn hG p3 0 1 (muX10_gain_3 p1 p2 p3 μ)) lX10_137 dX10_gain_41 (by decide) (Nat.le_of_ble_eq_true rfl) rfl (Nat.le_of_ble_eq_true rfl) ?_
          refine r_if_ne 51 dX10_gain_44 (by decide) (fun c3 => ?_) (fun c3 => ?_)
          · refine r_iconst 0 dX10_gain_51 rfl ?_
            have e : (VX10_gain_4 p1 p2 p3 μ) = 0 := by unfold VX10_gain_4; rw [if_neg c2, if_pos c3]
            rw [e] at hJ
            exact r_sub [0, 1, 2, 3] rfl hJ
          · refine r_iconst 1 dX10_gain_47 rfl ?_
            refine r_goto 52 dX10_gain_48 (by decide) ?_
            have e : (VX10_gain_4 p1 p2 p3 μ) = 1 := by unfold VX10_gain_4; rw [if_neg c2, if_neg (not_not_intro c3)]
            rw [e] at hJ
            exact r_sub [0, 1, 2, 3] rfl hJ
  · refine r_if_ne 18 dX10_gain_11 (by decide) (fun c1 => ?_) (fun c1 => ?_)
    · refine r_iconst 0 dX10_gain_18 rfl ?_
      have e : (VX10_gain_2 p1 p2 p3 μ) = 0 := by unfold VX10_gain_2; rw [if_pos c1]
      rw [e] at hJ
      exact r_sub [0, 1, 2, 3] rfl hJ
    · refine r_iconst 1 dX10_gain_14 rfl ?_
      refine r_goto 19 dX10_gain_15 (by decide) ?_
      have e : (VX10_gain_2 p1 p2 p3 μ) = 1 := by unfold VX10_gain_2; rw [if_neg (not_not_intro c1)]
      rw [e] at hJ
      exact r_sub [0, 1, 2, 3] rfl hJ
def VX10_givenBy_5_1 (v1 : Int32) (v2 : Int32) (μ : Mem) (i : Nat) (s : Int32) : Int32 := (if (F_X10_has v1 (nI i) μ) = 0 then 0 else (F_X10_less v2 (μ 521 (ix (56 + (nI i)))) μ))
def g_X10_givenBy_5 (v1 : Int32) (v2 : Int32) (μ : Mem) (i : Nat) (s : Int32) : Int32 := (s + (VX10_givenBy_5_1 v1 v2 μ i s))
def Pb_X10_givenBy_5 (v1 : Int32) (v2 : Int32) (μ : Mem) (i : Nat) (s : Int32) : Prop := (((μ 61 0) ≤ (nI i) → False) ∧ ((nI i) < (μ 61 0) → (((F_X10_has v1 (nI i) μ) = 0 → True) ∧ (¬ (F_X10_has v1 (nI i) μ) = 0 → vp_in (56 + (nI i)) 63))))
set_option maxRecDepth 20000 in
set_option maxHeartbeats 2000000 in
theorem lp_X10_givenBy_5 {G : SG} (hG : GK 548 G)  (v1 : Int32) (v2 : Int32) (μ : Mem) (s0 : Int32) (N : Nat) (sN : Int32) (eN : sN = fo N (g_X10_givenBy_5 v1 v2 μ) s0) (hN : ∀ i, i < N → Pb_X10_givenBy_5 v1 v2 μ i (fo i (g_X10_givenBy_5 v1 v2 μ) s0)) {t : Nat} {Q : PQ} {X : PX} (h : R G mX10_givenBy 5 [(0, .ref (ga G 57)), (1, .int v1), (2, .int v2), (3, .int sN), (4, .int (nI N))] [] μ t Q X) : R G mX10_givenBy 5 [(0, .ref (ga G 57)), (1, .int v1), (2, .int v2), (3, .int s0), (4, .int 0)] [] μ t Q X := by
  subst eN
  refine down_i N (fun i => R G mX10_givenBy 5 [(0, .ref (ga G 57)), (1, .int v1), (2, .int v2), (3, .int (fo i (g_X10_givenBy_5 v1 v2 μ) s0)), (4, .int (nI i))] [] μ t Q X) h (fun i hi hS => ?_)
  have hP := hN i hi
  rw [fo_succ] at hS
  rw [nI_succ] at hS
  generalize fo i (g_X10_givenBy_5 v1 v2 μ) s0 = s at hS hP ⊢
  unfold Pb_X10_givenBy_5 at hP
  refine r_iload dX10_givenBy_5 4 rfl ?_
  refine r_aload_n dX10_givenBy_7 0 rfl ?_
  refine r_getR 61 fX10_23 (hG.lt (by decide)) sh57 fs57_12 dX10_givenBy_8 ?_
  refine r_iconst 0 dX10_givenBy_11 rfl ?_
  refine r_ialdK 0 rfl (hG.lt (by decide)) sh61 (vp_of (by decide) (by decide)) dX10_givenBy_12 ?_
  refine r_icmp_ge 52 dX10_givenBy_13 (by decide) (fun c1 => ?_) (fun c1 => ?_)
  · replace hP := hP.1 c1
    exact hP.elim
  · replace hP := hP.2 c1
    refine r_iload_n dX10_givenBy_16 3 rfl ?_
    refine r_iload_n dX10_givenBy_17 1 rfl ?_
    refine r_iload dX10_givenBy_18 4 rfl ?_
    refine r_csI (ok_X10_has hG v1 (nI i) μ) lX10_268 dX10_givenBy_20 (by decide) (Nat.le_of_ble_eq_true rfl) rfl (Nat.le_of_ble_eq_true rfl) ?_
    refine r_join 44 [(0, .ref (ga G 57)), (1, .int v1), (2, .int v2), (3, .int s), (4, .int (nI i))] [.int (VX10_givenBy_5_1 v1 v2 μ i s), .int s] μ ?_ (fun hJ => ?_)
    · refine r_iadd dX10_givenBy_44 ?_
      refine r_istore_n [(3, _), (0, _), (1, _), (2, _), (4, _)] dX10_givenBy_45 (Nat.le_of_ble_eq_true rfl) rfl ?_
      refine r_iinc ((nI i) + 1) [(4, _), (3, _), (0, _), (1, _), (2, _)] dX10_givenBy_46 4 rfl rfl (Nat.le_of_ble_eq_true rfl) rfl ?_
      refine r_goto 5 dX10_givenBy_49 (by decide) ?_
      have e : g_X10_givenBy_5 v1 v2 μ i s = (s + (VX10_givenBy_5_1 v1 v2 μ i s)) := by unfold g_X10_givenBy_5; rfl
      rw [e] at hS
      exact r_sub [2, 3, 4, 1, 0] rfl hS
    · refine r_if_eq 43 dX10_givenBy_23 (by decide) (fun c2 => ?_) (fun c2 => ?_)
      · replace hP := hP.1 c2
        refine r_iconst 0 dX10_givenBy_43 rfl ?_
        have e : (VX10_givenBy_5_1 v1 v2 μ i s) = 0 := by unfold VX10_givenBy_5_1; rw [if_pos c2]
        rw [e] at hJ
        exact r_sub [0, 1, 2, 3, 4] rfl hJ
      · replace hP := hP.2 c2
        refine r_iload_n dX10_givenBy_26 2 rfl ?_
        refine r_aload_n dX10_givenBy_27 0 rfl ?_
        refine r_getR 521 fX10_73 (hG.lt (by decide)) sh57 fs57_31 dX10_givenBy_28 ?_
        refine r_bipush 56 dX10_givenBy_31 rfl ?_
        refine r_iload dX10_givenBy_33 4 rfl ?_
        refine r_iadd dX10_givenBy_35 ?_
        have hs1 := hP
        refine r_iald (hG.lt (by decide)) sh521 hs1 dX10_givenBy_36 ?_
        refine r_csI (ok_X10_less hG v2 (μ 521 (ix (56 + (nI i)))) μ) lX10_249 dX10_givenBy_37 (by decide) (Nat.le_of_ble_eq_true rfl) rfl (Nat.le_of_ble_eq_true rfl) ?_
        refine r_goto 44 dX10_givenBy_40 (by decide) ?_
        have e : (VX10_givenBy_5_1 v1 v2 μ i s) = (F_X10_less v2 (μ 521 (ix (56 + (nI i)))) μ) := by unfold VX10_givenBy_5_1; rw [if_neg c2]
        rw [e] at hJ
        exact r_sub [0, 1, 2, 3, 4] rfl hJ
def NX10_givenBy_5 (p1 : Int32) (p2 : Int32) (μ : Mem) : Nat := ix (μ 61 0)
def SX10_givenBy_5 (p1 : Int32) (p2 : Int32) (μ : Mem) : Int32 := fo (NX10_givenBy_5 p1 p2 μ) (g_X10_givenBy_5 p1 p2 μ) 0
def VX10_givenBy_1 (p1 : Int32) (p2 : Int32) (μ : Mem) : Int32 := (if (F_X10_has p1 (nI (NX10_givenBy_5 p1 p2 μ)) μ) = 0 then 0 else (F_X10_less p2 (μ 521 (ix (56 + (nI (NX10_givenBy_5 p1 p2 μ))))) μ))
def F_X10_givenBy (p1 : Int32) (p2 : Int32) (μ : Mem) : Int32 := (SX10_givenBy_5 p1 p2 μ)
def P_X10_givenBy (p1 : Int32) (p2 : Int32) (μ : Mem) : Prop := ((∀ j9, j9 < (NX10_givenBy_5 p1 p2 μ) → Pb_X10_givenBy_5 p1 p2 μ j9 (fo j9 (g_X10_givenBy_5 p1 p2 μ) 0)) ∧ (((μ 61 0) ≤ (nI (NX10_givenBy_5 p1 p2 μ)) → True) ∧ ((nI (NX10_givenBy_5 p1 p2 μ)) < (μ 61 0) → ((((F_X10_has p1 (nI (NX10_givenBy_5 p1 p2 μ)) μ) = 0 → True) ∧ (¬ (F_X10_has p1 (nI (NX10_givenBy_5 p1 p2 μ)) μ) = 0 → (vp_in (56 + (nI (NX10_givenBy_5 p1 p2 μ))) 63))) ∧ False))))
set_option maxRecDepth 20000 in
set_option maxHeartbeats 2000000 in
theorem ok_X10_givenBy {G : SG} (hG : GK 548 G) (p1 : Int32) (p2 : Int32) (μ : Mem) (hP : P_X10_givenBy p1 p2 μ) : OkF G mX10_givenBy [.ref (ga G 57), .int p1, .int p2] μ (some (.int (F_X10_givenBy p1 p2 μ))) μ := by
  refine okF_of hG rfl rfl (Nat.le_of_ble_eq_true rfl) ?_
  unfold P_X10_givenBy at hP
  refine r_iconst 0 dX10_givenBy_0 rfl ?_
  refine r_istore_n [(3, _), (0, _), (1, _), (2, _)] dX10_givenBy_1 (Nat.le_of_ble_eq_true rfl) rfl ?_
  refine r_iconst 0 dX10_givenBy_2 rfl ?_
  refine r_istore [(4, _), (3, _), (0, _), (1, _), (2, _)] dX10_givenBy_3 (Nat.le_of_ble_eq_true rfl) rfl ?_
  have hs1 := hP.1
  replace hP := hP.2
  refine r_sub [2, 3, 4, 1, 0] rfl ?_
  refine lp_X10_givenBy_5 hG p1 p2 μ 0 ((NX10_givenBy_5 p1 p2 μ)) (SX10_givenBy_5 p1 p2 μ) rfl hs1 ?_
  refine r_iload dX10_givenBy_5 4 rfl ?_
  refine r_aload_n dX10_givenBy_7 0 rfl ?_
  refine r_getR 61 fX10_23 (hG.lt (by decide)) sh57 fs57_12 dX10_givenBy_8 ?_
  refine r_iconst 0 dX10_givenBy_11 rfl ?_
  refine r_ialdK 0 rfl (hG.lt (by decide)) sh61 (vp_of (by decide) (by decide)) dX10_givenBy_12 ?_
  refine r_icmp_ge 52 dX10_givenBy_13 (by decide) (fun c1 => ?_) (fun c1 => ?_)
  · replace hP := hP.1 c1
    refine r_iload_n dX10_givenBy_52 3 rfl ?_
    exact r_ireturn _ dX10_givenBy_53 rfl rfl ⟨congrArg (fun z => some (Value.int z)) (rfl), rfl⟩
  · replace hP := hP.2 c1
    refine r_iload_n dX10_givenBy_16 3 rfl ?_
    refine r_iload_n dX10_givenBy_17 1 rfl ?_
    refine r_iload dX10_givenBy_18 4 rfl ?_
    refine r_csI (ok_X10_has hG p1 (nI (NX10_givenBy_5 p1 p2 μ)) μ) lX10_268 dX10_givenBy_20 (by decide) (Nat.le_of_ble_eq_true rfl) rfl (Nat.le_of_ble_eq_true rfl) ?_
    refine r_join 44 [(0, .ref (ga G 57)), (1, .int p1), (2, .int p2), (3, .int (SX10_givenBy_5 p1 p2 μ)), (4, .int (nI (NX10_givenBy_5 p1 p2 μ)))] [.int (VX10_givenBy_1 p1 p2 μ), .int (SX10_givenBy_5 p1 p2 μ)] μ ?_ (fun hJ => ?_)
    · replace hP := hP.2
      refine r_iadd dX10_givenBy_44 ?_
      refine r_istore_n [(3, _), (0, _), (1, _), (2, _), (4, _)] dX10_givenBy_45 (Nat.le_of_ble_eq_true rfl) rfl ?_
      refine r_iinc ((nI (NX10_givenBy_5 p1 p2 μ)) + 1) [(4, _), (3, _), (0, _), (1, _), (2, _)] dX10_givenBy_46 4 rfl rfl (Nat.le_of_ble_eq_true rfl) rfl ?_
      refine r_goto 5 dX10_givenBy_49 (by decide) ?_
      exact hP.elim
    · replace hP := hP.1
      refine r_if_eq 43 dX10_givenBy_23 (by decide) (fun c2 => ?_) (fun c2 => ?_)
      · replace hP := hP.1 c2
        refine r_iconst 0 dX10_givenBy_43 rfl ?_
        have e : (VX10_givenBy_1 p1 p2 μ) = 0 := by unfold VX10_givenBy_1; rw [if_pos c2]
        rw [e] at hJ
        exact r_sub [0, 1, 2, 3, 4] rfl hJ
      · replace hP := hP.2 c2
        refine r_iload_n dX10_givenBy_26 2 rfl ?_
        refine r_aload_n dX10_givenBy_27 0 rfl ?_
        refine r_getR 521 fX10_73 (hG.lt (by decide)) sh57 fs57_31 dX10_givenBy_28 ?_
        refine r_bipush 56 dX10_givenBy_31 rfl ?_
        refine r_iload dX10_givenBy_33 4 rfl ?_
        refine r_iadd dX10_givenBy_35 ?_
        have hs3 := hP
        refine r_iald (hG.lt (by decide)) sh521 hs3 dX10_givenBy_36 ?_
        refine r_csI (ok_X10_less hG p2 (μ 521 (ix (56 + (nI (NX10_givenBy_5 p1 p2 μ))))) μ) lX10_249 dX10_givenBy_37 (by decide) (Nat.le_of_ble_eq_true rfl) rfl (Nat.le_of_ble_eq_true rfl) ?_
        refine r_goto 44 dX10_givenBy_40 (by decide) ?_
        have e : (VX10_givenBy_1 p1 p2 μ) = (F_X10_less p2 (μ 521 (ix (56 + (nI (NX10_givenBy_5 p1 p2 μ))))) μ) := by unfold VX10_givenBy_1; rw [if_neg c2]
        rw [e] at hJ
        exact r_sub [0, 1, 2, 3, 4] rfl hJ
def muX10_share_1 (p1 : Int32) (p2 : Int32) (p3 : Int32) (μ : Mem) : Mem := (upm μ 57 0 0)
def VX10_share_2 (p1 : Int32) (p2 : Int32) (p3 : Int32) (μ : Mem) : Int32 := (if (F_X10_isHouse p1 (muX10_share_1 p1 p2 p3 μ)) ≠ 0 then 0 else 1)
theorem bo_VX10_share_2 (p1 : Int32) (p2 : Int32) (p3 : Int32) (μ : Mem) : (VX10_share_2 p1 p2 p3 μ) = 0 ∨ (VX10_share_2 p1 p2 p3 μ) = 1 := by
  unfold VX10_share_2
  split
  · exact Or.inl rfl
  · exact Or.inr rfl
def muX10_share_3 (p1 : Int32) (p2 : Int32) (p3 : Int32) (μ : Mem) : Mem := (M_X10_bad (VX10_share_2 p1 p2 p3 μ) 1 0 (muX10_share_1 p1 p2 p3 μ))
def VX10_share_4 (p1 : Int32) (p2 : Int32) (p3 : Int32) (μ : Mem) : Int32 := (if (F_X10_areHouses p2 (muX10_share_3 p1 p2 p3 μ)) = 0 then 1 else (if (F_X10_isIn p3 0 999 (muX10_share_3 p1 p2 p3 μ)) ≠ 0 then 0 else 1))
theorem bo_VX10_share_4 (p1 : Int32) (p2 : Int32) (p3 : Int32) (μ : Mem) : (VX10_share_4 p1 p2 p3 μ) = 0 ∨ (VX10_share_4 p1 p2 p3 μ) = 1 := by
  unfold VX10_share_4
  split
  · exact Or.inr rfl
  · split
    · exact Or.inl rfl
    · exact Or.inr rfl
def muX10_share_5 (p1 : Int32) (p2 : Int32) (p3 : Int32) (μ : Mem) : Mem := (M_X10_bad (VX10_share_4 p1 p2 p3 μ) 2 1 (muX10_share_3 p1 p2 p3 μ))
def g_X10_share_102 (v1 : Int32) (v2 : Int32) (v3 : Int32) (μ : Mem) (i : Nat) (s : Unit) : Unit := ()
def Pb_X10_share_102 (v1 : Int32) (v2 : Int32) (v3 : Int32) (μ : Mem) (i : Nat) (s : Unit) : Prop := (P_X10_givenBy v2 ((nI i) + 1) μ) ∧ ((v3 < (F_X10_givenBy v2 ((nI i) + 1) μ) → False) ∧ ((F_X10_givenBy v2 ((nI i) + 1) μ) ≤ v3 → True))
def Cb_X10_share_102 (v1 : Int32) (v2 : Int32) (v3 : Int32) (μ : Mem) (i : Nat) (s : Unit) : Bool := (if v3 < (F_X10_givenBy v2 ((nI i) + 1) μ) then false else true)
set_option maxRecDepth 20000 in
set_option maxHeartbeats 2000000 in
theorem lp_X10_share_102 {G : SG} (hG : GK 548 G)  (v1 : Int32) (v2 : Int32) (v3 : Int32) (μ : Mem) (s0 : Unit) (N : Nat) (sN : Unit) (eN : sN = fo N (g_X10_share_102 v1 v2 v3 μ) s0) (hN : ∀ i, i < N → Pb_X10_share_102 v1 v2 v3 μ i (fo i (g_X10_share_102 v1 v2 v3 μ) s0)) {t : Nat} {Q : PQ} {X : PX} (h : R G mX10_share 102 [(0, .ref (ga G 57)), (1, .int v1), (2, .int v2), (3, .int v3), (4, .int (nI N))] [] μ t Q X) : R G mX10_share 102 [(0, .ref (ga G 57)), (1, .int v1), (2, .int v2), (3, .int v3), (4, .int 0)] [] μ t Q X := by
  subst eN
  refine down_i N (fun i => R G mX10_share 102 [(0, .ref (ga G 57)), (1, .int v1), (2, .int v2), (3, .int v3), (4, .int (nI i))] [] μ t Q X) h (fun i hi hS => ?_)
  have hP := hN i hi
  rw [nI_succ] at hS
  generalize fo i (g_X10_share_102 v1 v2 v3 μ) s0 = s at hS hP ⊢
  unfold Pb_X10_share_102 at hP
  refine r_aload_n dX10_share_102 0 rfl ?_
  refine r_iload_n dX10_share_103 2 rfl ?_
  refine r_iload dX10_share_104 4 rfl ?_
  refine r_iconst 1 dX10_share_106 rfl ?_
  refine r_iadd dX10_share_107 ?_
  have hs1 := hP.1
  replace hP := hP.2
  refine r_cvI (ok_X10_givenBy hG v2 ((nI i) + 1) μ hs1) lX10_397 (hG.lt (by decide)) sh57 ⟨_, _, rfl⟩ dX10_share_108 (by decide) (Nat.le_of_ble_eq_true rfl) rfl (Nat.le_of_ble_eq_true rfl) ?_
  refine r_iload_n dX10_share_111 3 rfl ?_
  refine r_icmp_gt 121 dX10_share_112 (by decide) (fun c1 => ?_) (fun c1 => ?_)
  · replace hP := hP.1 c1
    exact hP.elim
  · replace hP := hP.2 c1
    refine r_iinc ((nI i) + 1) [(4, _), (0, _), (1, _), (2, _), (3, _)] dX10_share_115 4 rfl rfl (Nat.le_of_ble_eq_true rfl) rfl ?_
    refine r_goto 102 dX10_share_118 (by decide) ?_
    exact r_sub [1, 2, 3, 4, 0] rfl hS
def NX10_share_102 (p1 : Int32) (p2 : Int32) (p3 : Int32) (μ : Mem) : Nat := (fst 1001 (fun j9 => !Cb_X10_share_102 p1 p2 p3 (muX10_share_5 p1 p2 p3 μ) j9 (fo j9 (g_X10_share_102 p1 p2 p3 (muX10_share_5 p1 p2 p3 μ)) ())))
def SX10_share_102 (p1 : Int32) (p2 : Int32) (p3 : Int32) (μ : Mem) : Unit := fo (NX10_share_102 p1 p2 p3 μ) (g_X10_share_102 p1 p2 p3 (muX10_share_5 p1 p2 p3 μ)) ()
def F_X10_share (p1 : Int32) (p2 : Int32) (p3 : Int32) (μ : Mem) : Int32 := (if (F_X10_bad (VX10_share_2 p1 p2 p3 μ) 1 0 (muX10_share_1 p1 p2 p3 μ)) ≠ 0 then 0 else (if (F_X10_bad (VX10_share_4 p1 p2 p3 μ) 2 1 (muX10_share_3 p1 p2 p3 μ)) = 0 then (if (F_X10_has p2 p1 (muX10_share_5 p1 p2 p3 μ)) ≠ 0 then (if p3 < (F_X10_givenBy p2 (F_X10_paidIn 521 (muX10_share_5 p1 p2 p3 μ)) (muX10_share_5 p1 p2 p3 μ)) then (F_X10_less (nI (NX10_share_102 p1 p2 p3 μ)) ((muX10_share_5 p1 p2 p3 μ) 521 (ix (56 + p1))) (muX10_share_5 p1 p2 p3 μ)) else ((muX10_share_5 p1 p2 p3 μ) 521 (ix (56 + p1)))) else 0) else 0))
def M_X10_share (p1 : Int32) (p2 : Int32) (p3 : Int32) (μ : Mem) : Mem := (if (F_X10_bad (VX10_share_2 p1 p2 p3 μ) 1 0 (muX10_share_1 p1 p2 p3 μ)) ≠ 0 then (muX10_share_3 p1 p2 p3 μ) else (muX10_share_5 p1 p2 p3 μ))
def P_X10_share (p1 : Int32) (p2 : Int32) (p3 : Int32) (μ : Mem) : Prop := ((P_X10_bad (VX10_share_2 p1 p2 p3 μ) 1 0 (muX10_share_1 p1 p2 p3 μ)) ∧ (((F_X10_bad (VX10_share_2 p1 p2 p3 μ) 1 0 (muX10_share_1 p1 p2 p3 μ)) ≠ 0 → True) ∧ ((F_X10_bad (VX10_share_2 p1 p2 p3 μ) 1 0 (muX10_share_1 p1 p2 p3 μ)) = 0 → ((P_X10_bad (VX10_share_4 p1 p2 p3 μ) 2 1 (muX10_share_3 p1 p2 p3 μ)) ∧ (((F_X10_bad (VX10_share_4 p1 p2 p3 μ) 2 1 (muX10_share_3 p1 p2 p3 μ)) = 0 → (((F_X10_has p2 p1 (muX10_share_5 p1 p2 p3 μ)) ≠ 0 → ((P_X10_paidIn 521 (muX10_share_5 p1 p2 p3 μ)) ∧ ((P_X10_givenBy p2 (F_X10_paidIn 521 (muX10_share_5 p1 p2 p3 μ)) (muX10_share_5 p1 p2 p3 μ)) ∧ ((p3 < (F_X10_givenBy p2 (F_X10_paidIn 521 (muX10_share_5 p1 p2 p3 μ)) (muX10_share_5 p1 p2 p3 μ)) → ((∀ j9, j9 < (NX10_share_102 p1 p2 p3 μ) → Pb_X10_share_102 p1 p2 p3 (muX10_share_5 p1 p2 p3 μ) j9 (fo j9 (g_X10_share_102 p1 p2 p3 (muX10_share_5 p1 p2 p3 μ)) ())) ∧ ((P_X10_givenBy p2 ((nI (NX10_share_102 p1 p2 p3 μ)) + 1) (muX10_share_5 p1 p2 p3 μ)) ∧ ((p3 < (F_X10_givenBy p2 ((nI (NX10_share_102 p1 p2 p3 μ)) + 1) (muX10_share_5 p1 p2 p3 μ)) → (vp_in (56 + p1) 63)) ∧ ((F_X10_givenBy p2 ((nI (NX10_share_102 p1 p2 p3 μ)) + 1) (muX10_share_5 p1 p2 p3 μ)) ≤ p3 → False))))) ∧ ((F_X10_givenBy p2 (F_X10_paidIn 521 (muX10_share_5 p1 p2 p3 μ)) (muX10_share_5 p1 p2 p3 μ)) ≤ p3 → (vp_in (56 + p1) 63)))))) ∧ ((F_X10_has p2 p1 (muX10_share_5 p1 p2 p3 μ)) = 0 → True))) ∧ (¬ (F_X10_bad (VX10_share_4 p1 p2 p3 μ) 2 1 (muX10_share_3 p1 p2 p3 μ)) = 0 → True))))))
set_option maxRecDepth 20000 in
set_option maxHeartbeats 2000000 in
theorem ok_X10_share {G : SG} (hG : GK 548 G) (p1 : Int32) (p2 : Int32) (p3 : Int32) (μ : Mem) (hP : P_X10_share p1 p2 p3 μ) : OkF G mX10_share [.ref (ga G 57), .int p1, .int p2, .int p3] μ (some (.int (F_X10_share p1 p2 p3 μ))) (M_X10_share p1 p2 p3 μ) := by
  refine okF_of hG rfl rfl (Nat.le_of_ble_eq_true rfl) ?_
  unfold P_X10_share at hP
  refine r_aload_n dX10_share_0 0 rfl ?_
  refine r_iconst 0 dX10_share_1 rfl ?_
  refine r_put fiX10_103 (hG.lt (by decide)) sh57 fs57_0 dX10_share_2 ?_
  refine r_mu (muX10_share_1 p1 p2 p3 μ) rfl ?_
  refine r_aload_n dX10_share_5 0 rfl ?_
  refine r_aload_n dX10_share_6 0 rfl ?_
  refine r_iload_n dX10_share_7 1 rfl ?_
  refine r_cvI (ok_X10_isHouse hG p1 (muX10_share_1 p1 p2 p3 μ)) lX10_347 (hG.lt (by decide)) sh57 ⟨_, _, rfl⟩ dX10_share_8 (by decide) (Nat.le_of_ble_eq_true rfl) rfl (Nat.le_of_ble_eq_true rfl) ?_
  refine r_join 19 [(0, .ref (ga G 57)), (1, .int p1), (2, .int p2), (3, .int p3)] [.int (VX10_share_2 p1 p2 p3 μ), .ref (ga G 57)] (muX10_share_1 p1 p2 p3 μ) ?_ (fun hJ => ?_)
  · refine r_iconst 1 dX10_share_19 rfl ?_
    refine r_iconst 0 dX10_share_20 rfl ?_
    have hs1 := hP.1
    replace hP := hP.2
    refine r_cvI (ok_X10_bad hG (VX10_share_2 p1 p2 p3 μ) 1 0 (muX10_share_1 p1 p2 p3 μ) hs1) lX10_186 (hG.lt (by decide)) sh57 ⟨_, _, rfl⟩ dX10_share_21 (by decide) (Nat.le_of_ble_eq_true rfl) rfl (Nat.le_of_ble_eq_true rfl) ?_
    refine r_mu (muX10_share_3 p1 p2 p3 μ) rfl ?_
    refine r_if_ne 60 dX10_share_24 (by decide) (fun c1 => ?_) (fun c1 => ?_)
    · replace hP := hP.1 c1
      refine r_iconst 0 dX10_share_60 rfl ?_
      exact r_ireturn _ dX10_share_61 rfl rfl ⟨congrArg (fun z => some (Value.int z)) (by unfold F_X10_share; rw [if_pos c1]), by unfold M_X10_share; rw [if_pos c1]⟩
    · replace hP := hP.2 c1
      refine r_aload_n dX10_share_27 0 rfl ?_
      refine r_aload_n dX10_share_28 0 rfl ?_
      refine r_iload_n dX10_share_29 2 rfl ?_
      refine r_cvI (ok_X10_areHouses hG p2 (muX10_share_3 p1 p2 p3 μ)) lX10_362 (hG.lt (by decide)) sh57 ⟨_, _, rfl⟩ dX10_share_30 (by decide) (Nat.le_of_ble_eq_true rfl) rfl (Nat.le_of_ble_eq_true rfl) ?_
      refine r_join 52 [(0, .ref (ga G 57)), (1, .int p1), (2, .int p2), (3, .int p3)] [.int (VX10_share_4 p1 p2 p3 μ), .ref (ga G 57)] (muX10_share_3 p1 p2 p3 μ) ?_ (fun hJ => ?_)
      · refine r_iconst 2 dX10_share_52 rfl ?_
        refine r_iconst 1 dX10_share_53 rfl ?_
        have hs2 := hP.1
        replace hP := hP.2
        refine r_cvI (ok_X10_bad hG (VX10_share_4 p1 p2 p3 μ) 2 1 (muX10_share_3 p1 p2 p3 μ) hs2) lX10_186 (hG.lt (by decide)) sh57 ⟨_, _, rfl⟩ dX10_share_54 (by decide) (Nat.le_of_ble_eq_true rfl) rfl (Nat.le_of_ble_eq_true rfl) ?_
        refine r_mu (muX10_share_5 p1 p2 p3 μ) rfl ?_
        refine r_if_eq 62 dX10_share_57 (by decide) (fun c2 => ?_) (fun c2 => ?_)
        · replace hP := hP.1 c2
          refine r_iload_n dX10_share_62 2 rfl ?_
          refine r_iload_n dX10_share_63 1 rfl ?_
          refine r_csI (ok_X10_has hG p2 p1 (muX10_share_5 p1 p2 p3 μ)) lX10_268 dX10_share_64 (by decide) (Nat.le_of_ble_eq_true rfl) rfl (Nat.le_of_ble_eq_true rfl) ?_
          refine r_if_ne 72 dX10_share_67 (by decide) (fun c3 => ?_) (fun c3 => ?_)
          · replace hP := hP.1 c3
            refine r_aload_n dX10_share_72 0 rfl ?_
            refine r_iload_n dX10_share_73 2 rfl ?_
            refine r_aload_n dX10_share_74 0 rfl ?_
            refine r_aload_n dX10_share_75 0 rfl ?_
            refine r_getR 521 fX10_73 (hG.lt (by decide)) sh57 fs57_31 dX10_share_76 ?_
            have hs3 := hP.1
            replace hP := hP.2
            refine r_cvI (ok_X10_paidIn hG (hG.lt (by decide)) sh521 (muX10_share_5 p1 p2 p3 μ) hs3) lX10_344 (hG.lt (by decide)) sh57 ⟨_, _, rfl⟩ dX10_share_79 (by decide) (Nat.le_of_ble_eq_true rfl) rfl (Nat.le_of_ble_eq_true rfl) ?_
            have hs4 := hP.1
            replace hP := hP.2
            refine r_cvI (ok_X10_givenBy hG p2 (F_X10_paidIn 521 (muX10_share_5 p1 p2 p3 μ)) (muX10_share_5 p1 p2 p3 μ) hs4) lX10_397 (hG.lt (by decide)) sh57 ⟨_, _, rfl⟩ dX10_share_82 (by decide) (Nat.le_of_ble_eq_true rfl) rfl (Nat.le_of_ble_eq_true rfl) ?_
            refine r_iload_n dX10_share_85 3 rfl ?_
            refine r_icmp_gt 99 dX10_share_86 (by decide) (fun c4 => ?_) (fun c4 => ?_)
            · replace hP := hP.1 c4
              refine r_iconst 0 dX10_share_99 rfl ?_
              refine r_istore [(4, _), (0, _), (1, _), (2, _), (3, _)] dX10_share_100 (Nat.le_of_ble_eq_true rfl) rfl ?_
              have hs5 := hP.1
              replace hP := hP.2
              refine r_sub [1, 2, 3, 4, 0] rfl ?_
              refine lp_X10_share_102 hG p1 p2 p3 (muX10_share_5 p1 p2 p3 μ) () ((NX10_share_102 p1 p2 p3 μ)) (SX10_share_102 p1 p2 p3 μ) rfl hs5 ?_
              refine r_aload_n dX10_share_102 0 rfl ?_
              refine r_iload_n dX10_share_103 2 rfl ?_
              refine r_iload dX10_share_104 4 rfl ?_
              refine r_iconst 1 dX10_share_106 rfl ?_
              refine r_iadd dX10_share_107 ?_
              have hs6 := hP.1
              replace hP := hP.2
              refine r_cvI (ok_X10_givenBy hG p2 ((nI (NX10_share_102 p1 p2 p3 μ)) + 1) (muX10_share_5 p1 p2 p3 μ) hs6) lX10_397 (hG.lt (by decide)) sh57 ⟨_, _, rfl⟩ dX10_share_108 (by decide) (Nat.le_of_ble_eq_true rfl) rfl (Nat.le_of_ble_eq_true rfl) ?_
              refine r_iload_n dX10_share_111 3 rfl ?_
              refine r_icmp_gt 121 dX10_share_112 (by decide) (fun c5 => ?_) (fun c5 => ?_)
              · replace hP := hP.1 c5
                refine r_iload dX10_share_121 4 rfl ?_
                refine r_aload_n dX10_share_123 0 rfl ?_
                refine r_getR 521 fX10_73 (hG.lt (by decide)) sh57 fs57_31 dX10_share_124 ?_
                refine r_bipush 56 dX10_share_127 rfl ?_
                refine r_iload_n dX10_share_129 1 rfl ?_
                refine r_iadd dX10_share_130 ?_
                have hs7 := hP
                refine r_iald (hG.lt (by decide)) sh521 hs7 dX10_share_131 ?_
                refine r_csI (ok_X10_less hG (nI (NX10_share_102 p1 p2 p3 μ)) ((muX10_share_5 p1 p2 p3 μ) 521 (ix (56 + p1))) (muX10_share_5 p1 p2 p3 μ)) lX10_249 dX10_share_132 (by decide) (Nat.le_of_ble_eq_true rfl) rfl (Nat.le_of_ble_eq_true rfl) ?_
                exact r_ireturn _ dX10_share_135 rfl rfl ⟨congrArg (fun z => some (Value.int z)) (by unfold F_X10_share; rw [if_neg (not_not_intro c1), if_pos c2, if_pos c3, if_pos c4]), by unfold M_X10_share; rw [if_neg (not_not_intro c1)]⟩
              · replace hP := hP.2 c5
                refine r_iinc ((nI (NX10_share_102 p1 p2 p3 μ)) + 1) [(4, _), (0, _), (1, _), (2, _), (3, _)] dX10_share_115 4 rfl rfl (Nat.le_of_ble_eq_true rfl) rfl ?_
                refine r_goto 102 dX10_share_118 (by decide) ?_
                exact hP.elim
            · replace hP := hP.2 c4
              refine r_aload_n dX10_share_89 0 rfl ?_
              refine r_getR 521 fX10_73 (hG.lt (by decide)) sh57 fs57_31 dX10_share_90 ?_
              refine r_bipush 56 dX10_share_93 rfl ?_
              refine r_iload_n dX10_share_95 1 rfl ?_
              refine r_iadd dX10_share_96 ?_
              have hs8 := hP
              refine r_iald (hG.lt (by decide)) sh521 hs8 dX10_share_97 ?_
              exact r_ireturn _ dX10_share_98 rfl rfl ⟨congrArg (fun z => some (Value.int z)) (by unfold F_X10_share; rw [if_neg (not_not_intro c1), if_pos c2, if_pos c3, if_neg (i32_nl c4)]), by unfold M_X10_share; rw [if_neg (not_not_intro c1)]⟩
          · replace hP := hP.2 c3
            refine r_iconst 0 dX10_share_70 rfl ?_
            exact r_ireturn _ dX10_share_71 rfl rfl ⟨congrArg (fun z => some (Value.int z)) (by unfold F_X10_share; rw [if_neg (not_not_intro c1), if_pos c2, if_neg (not_not_intro c3)]), by unfold M_X10_share; rw [if_neg (not_not_intro c1)]⟩
        · replace hP := hP.2 c2
          refine r_iconst 0 dX10_share_60 rfl ?_
          exact r_ireturn _ dX10_share_61 rfl rfl ⟨congrArg (fun z => some (Value.int z)) (by unfold F_X10_share; rw [if_neg (not_not_intro c1), if_neg c2]), by unfold M_X10_share; rw [if_neg (not_not_intro c1)]⟩
      · refine r_if_eq 47 dX10_share_33 (by decide) (fun c2 => ?_) (fun c2 => ?_)
        · refine r_iconst 1 dX10_share_47 rfl ?_
          refine r_goto 52 dX10_share_48 (by decide) ?_
          have e : (VX10_share_4 p1 p2 p3 μ) = 1 := by unfold VX10_share_4; rw [if_pos c2]
          rw [e] at hJ
          exact r_sub [0, 1, 2, 3] rfl hJ
        · refine r_iload_n dX10_share_36 3 rfl ?_
          refine r_iconst 0 dX10_share_37 rfl ?_
          refine r_sipush 999 dX10_share_38 rfl ?_
          refine r_csI (ok_X10_isIn hG p3 0 999 (muX10_share_3 p1 p2 p3 μ)) lX10_137 dX10_share_41 (by decide) (Nat.le_of_ble_eq_true rfl) rfl (Nat.le_of_ble_eq_true rfl) ?_
          refine r_if_ne 51 dX10_share_44 (by decide) (fun c3 => ?_) (fun c3 => ?_)
          · refine r_iconst 0 dX10_share_51 rfl ?_
            have e : (VX10_share_4 p1 p2 p3 μ) = 0 := by unfold VX10_share_4; rw [if_neg c2, if_pos c3]
            rw [e] at hJ
            exact r_sub [0, 1, 2, 3] rfl hJ
          · refine r_iconst 1 dX10_share_47 rfl ?_
            refine r_goto 52 dX10_share_48 (by decide) ?_
            have e : (VX10_share_4 p1 p2 p3 μ) = 1 := by unfold VX10_share_4; rw [if_neg c2, if_neg (not_not_intro c3)]
            rw [e] at hJ
            exact r_sub [0, 1, 2, 3] rfl hJ
  · refine r_if_ne 18 dX10_share_11 (by decide) (fun c1 => ?_) (fun c1 => ?_)
    · refine r_iconst 0 dX10_share_18 rfl ?_
      have e : (VX10_share_2 p1 p2 p3 μ) = 0 := by unfold VX10_share_2; rw [if_pos c1]
      rw [e] at hJ
      exact r_sub [0, 1, 2, 3] rfl hJ
    · refine r_iconst 1 dX10_share_14 rfl ?_
      refine r_goto 19 dX10_share_15 (by decide) ?_
      have e : (VX10_share_2 p1 p2 p3 μ) = 1 := by unfold VX10_share_2; rw [if_neg (not_not_intro c1)]
      rw [e] at hJ
      exact r_sub [0, 1, 2, 3] rfl hJ
def muX10_yearBy_1 (p1 : Int32) (p2 : Int32) (p3 : Int32) (p4 : Int32) (μ : Mem) : Mem := (M_X10_copies 521 522 μ)
def muX10_yearBy_2 (p1 : Int32) (p2 : Int32) (p3 : Int32) (p4 : Int32) (μ : Mem) : Mem := (upm (muX10_yearBy_1 p1 p2 p3 p4 μ) 57 48 p1)
def muX10_yearBy_3 (p1 : Int32) (p2 : Int32) (p3 : Int32) (p4 : Int32) (μ : Mem) : Mem := (upm (muX10_yearBy_2 p1 p2 p3 p4 μ) 57 49 0)
def muX10_yearBy_24_1 (v1 : Int32) (v2 : Int32) (v3 : Int32) (v4 : Int32) (i : Nat) (s : Mem) : Mem := (upm s 57 48 (((s 57 48) * 1103515245) + 12345))
def VX10_yearBy_24_2 (v1 : Int32) (v2 : Int32) (v3 : Int32) (v4 : Int32) (i : Nat) (s : Mem) : Int32 := (if v3 ≤ ((((muX10_yearBy_24_1 v1 v2 v3 v4 i s) 57 48) >>> 16) &&& 15) then 0 else v4)
def muX10_yearBy_24_3 (v1 : Int32) (v2 : Int32) (v3 : Int32) (v4 : Int32) (i : Nat) (s : Mem) : Mem := (upm (muX10_yearBy_24_1 v1 v2 v3 v4 i s) 57 43 (VX10_yearBy_24_2 v1 v2 v3 v4 i s))
def VX10_yearBy_24_4 (v1 : Int32) (v2 : Int32) (v3 : Int32) (v4 : Int32) (i : Nat) (s : Mem) : Int32 := (if v3 ≤ ((((muX10_yearBy_24_3 v1 v2 v3 v4 i s) 57 48) >>> 16) &&& 15) then 0 else 1)
theorem bo_VX10_yearBy_24_4 (v1 : Int32) (v2 : Int32) (v3 : Int32) (v4 : Int32) (i : Nat) (s : Mem) : (VX10_yearBy_24_4 v1 v2 v3 v4 i s) = 0 ∨ (VX10_yearBy_24_4 v1 v2 v3 v4 i s) = 1 := by
  unfold VX10_yearBy_24_4
  split
  · exact Or.inl rfl
  · exact Or.inr rfl
def muX10_yearBy_24_5 (v1 : Int32) (v2 : Int32) (v3 : Int32) (v4 : Int32) (i : Nat) (s : Mem) : Mem := (upm (muX10_yearBy_24_3 v1 v2 v3 v4 i s) 57 49 (((muX10_yearBy_24_3 v1 v2 v3 v4 i s) 57 49) + (VX10_yearBy_24_4 v1 v2 v3 v4 i s)))
def muX10_yearBy_24_6 (v1 : Int32) (v2 : Int32) (v3 : Int32) (v4 : Int32) (i : Nat) (s : Mem) : Mem := (M_X10_tideComes 522 (muX10_yearBy_24_5 v1 v2 v3 v4 i s))
def g_X10_yearBy_24 (v1 : Int32) (v2 : Int32) (v3 : Int32) (v4 : Int32) (i : Nat) (s : Mem) : Mem := (muX10_yearBy_24_6 v1 v2 v3 v4 i s)
def Pb_X10_yearBy_24 (v1 : Int32) (v2 : Int32) (v3 : Int32) (v4 : Int32) (i : Nat) (s : Mem) : Prop := ((v2 ≤ (nI i) → False) ∧ ((nI i) < v2 → P_X10_tideComes 522 (muX10_yearBy_24_5 v1 v2 v3 v4 i s)))
set_option maxRecDepth 20000 in
set_option maxHeartbeats 2000000 in
theorem lp_X10_yearBy_24 {G : SG} (hG : GK 548 G)  (v1 : Int32) (v2 : Int32) (v3 : Int32) (v4 : Int32) (s0 : Mem) (N : Nat) (sN : Mem) (eN : sN = fo N (g_X10_yearBy_24 v1 v2 v3 v4) s0) (hN : ∀ i, i < N → Pb_X10_yearBy_24 v1 v2 v3 v4 i (fo i (g_X10_yearBy_24 v1 v2 v3 v4) s0)) {t : Nat} {Q : PQ} {X : PX} (h : R G mX10_yearBy 24 [(0, .ref (ga G 57)), (1, .int v1), (2, .int v2), (3, .int v3), (4, .int v4), (5, .int (nI N))] [] sN t Q X) : R G mX10_yearBy 24 [(0, .ref (ga G 57)), (1, .int v1), (2, .int v2), (3, .int v3), (4, .int v4), (5, .int 0)] [] s0 t Q X := by
  subst eN
  refine down_i N (fun i => R G mX10_yearBy 24 [(0, .ref (ga G 57)), (1, .int v1), (2, .int v2), (3, .int v3), (4, .int v4), (5, .int (nI i))] [] (fo i (g_X10_yearBy_24 v1 v2 v3 v4) s0) t Q X) h (fun i hi hS => ?_)
  have hP := hN i hi
  rw [fo_succ] at hS
  rw [nI_succ] at hS
  generalize fo i (g_X10_yearBy_24 v1 v2 v3 v4) s0 = s at hS hP ⊢
  unfold Pb_X10_yearBy_24 at hP
  refine r_iload dX10_yearBy_24 5 rfl ?_
  refine r_iload_n dX10_yearBy_26 2 rfl ?_
  refine r_icmp_ge 112 dX10_yearBy_27 (by decide) (fun c1 => ?_) (fun c1 => ?_)
  · replace hP := hP.1 c1
    exact hP.elim
  · replace hP := hP.2 c1
    refine r_aload_n dX10_yearBy_30 0 rfl ?_
    refine r_aload_n dX10_yearBy_31 0 rfl ?_
    refine r_getI fX10_400 (hG.lt (by decide)) sh57 fs57_48 dX10_yearBy_32 ?_
    refine r_ldcwI 1103515245 (bc8 228 (by decide +kernel) (by decide +kernel)) dX10_yearBy_35 ?_
    refine r_imul dX10_yearBy_38 ?_
    refine r_sipush 12345 dX10_yearBy_39 rfl ?_
    refine r_iadd dX10_yearBy_42 ?_
    refine r_put fiX10_400 (hG.lt (by decide)) sh57 fs57_48 dX10_yearBy_43 ?_
    refine r_mu (muX10_yearBy_24_1 v1 v2 v3 v4 i s) rfl ?_
    refine r_aload_n dX10_yearBy_46 0 rfl ?_
    refine r_aload_n dX10_yearBy_47 0 rfl ?_
    refine r_getI fX10_400 (hG.lt (by decide)) sh57 fs57_48 dX10_yearBy_48 ?_
    refine r_bipush 16 dX10_yearBy_51 rfl ?_
    refine r_ishr (z := 16) dX10_yearBy_53 (by decide) ?_
    refine r_bipush 15 dX10_yearBy_54 rfl ?_
    refine r_iand dX10_yearBy_56 ?_
    refine r_iload_n dX10_yearBy_57 3 rfl ?_
    refine r_join 67 [(0, .ref (ga G 57)), (1, .int v1), (2, .int v2), (3, .int v3), (4, .int v4), (5, .int (nI i))] [.int (VX10_yearBy_24_2 v1 v2 v3 v4 i s), .ref (ga G 57)] (muX10_yearBy_24_1 v1 v2 v3 v4 i s) ?_ (fun hJ => ?_)
    · refine r_put fiX10_279 (hG.lt (by decide)) sh57 fs57_43 dX10_yearBy_67 ?_
      refine r_mu (muX10_yearBy_24_3 v1 v2 v3 v4 i s) rfl ?_
      refine r_aload_n dX10_yearBy_70 0 rfl ?_
      refine r_dup dX10_yearBy_71 rfl ?_
      refine r_getI fX10_403 (hG.lt (by decide)) sh57 fs57_49 dX10_yearBy_72 ?_
      refine r_aload_n dX10_yearBy_75 0 rfl ?_
      refine r_getI fX10_400 (hG.lt (by decide)) sh57 fs57_48 dX10_yearBy_76 ?_
      refine r_bipush 16 dX10_yearBy_79 rfl ?_
      refine r_ishr (z := 16) dX10_yearBy_81 (by decide) ?_
      refine r_bipush 15 dX10_yearBy_82 rfl ?_
      refine r_iand dX10_yearBy_84 ?_
      refine r_iload_n dX10_yearBy_85 3 rfl ?_
      refine r_join 94 [(0, .ref (ga G 57)), (1, .int v1), (2, .int v2), (3, .int v3), (4, .int v4), (5, .int (nI i))] [.int (VX10_yearBy_24_4 v1 v2 v3 v4 i s), .int ((muX10_yearBy_24_3 v1 v2 v3 v4 i s) 57 49), .ref (ga G 57)] (muX10_yearBy_24_3 v1 v2 v3 v4 i s) ?_ (fun hJ => ?_)
      · refine r_iadd dX10_yearBy_94 ?_
        refine r_put fiX10_403 (hG.lt (by decide)) sh57 fs57_49 dX10_yearBy_95 ?_
        refine r_mu (muX10_yearBy_24_5 v1 v2 v3 v4 i s) rfl ?_
        refine r_aload_n dX10_yearBy_98 0 rfl ?_
        refine r_aload_n dX10_yearBy_99 0 rfl ?_
        refine r_getR 522 fX10_76 (hG.lt (by decide)) sh57 fs57_32 dX10_yearBy_100 ?_
        have hs1 := hP
        refine r_cvV (ok_X10_tideComes hG (hG.lt (by decide)) sh522 (muX10_yearBy_24_5 v1 v2 v3 v4 i s) hs1) lX10_317 (hG.lt (by decide)) sh57 ⟨_, _, rfl⟩ dX10_yearBy_103 (by decide) (Nat.le_of_ble_eq_true rfl) rfl (Nat.le_of_ble_eq_true rfl) ?_
        refine r_mu (muX10_yearBy_24_6 v1 v2 v3 v4 i s) rfl ?_
        refine r_iinc ((nI i) + 1) [(5, _), (0, _), (1, _), (2, _), (3, _), (4, _)] dX10_yearBy_106 5 rfl rfl (Nat.le_of_ble_eq_true rfl) rfl ?_
        refine r_goto 24 dX10_yearBy_109 (by decide) ?_
        have e : g_X10_yearBy_24 v1 v2 v3 v4 i s = (muX10_yearBy_24_6 v1 v2 v3 v4 i s) := by unfold g_X10_yearBy_24; rfl
        rw [e] at hS
        exact r_sub [1, 2, 3, 4, 5, 0] rfl hS
      · refine r_icmp_ge 93 dX10_yearBy_86 (by decide) (fun c2 => ?_) (fun c2 => ?_)
        · refine r_iconst 0 dX10_yearBy_93 rfl ?_
          have e : (VX10_yearBy_24_4 v1 v2 v3 v4 i s) = 0 := by unfold VX10_yearBy_24_4; rw [if_pos c2]
          rw [e] at hJ
          exact r_sub [0, 1, 2, 3, 4, 5] rfl hJ
        · refine r_iconst 1 dX10_yearBy_89 rfl ?_
          refine r_goto 94 dX10_yearBy_90 (by decide) ?_
          have e : (VX10_yearBy_24_4 v1 v2 v3 v4 i s) = 1 := by unfold VX10_yearBy_24_4; rw [if_neg (i32_ng c2)]
          rw [e] at hJ
          exact r_sub [0, 1, 2, 3, 4, 5] rfl hJ
    · refine r_icmp_ge 66 dX10_yearBy_58 (by decide) (fun c2 => ?_) (fun c2 => ?_)
      · refine r_iconst 0 dX10_yearBy_66 rfl ?_
        have e : (VX10_yearBy_24_2 v1 v2 v3 v4 i s) = 0 := by unfold VX10_yearBy_24_2; rw [if_pos c2]
        rw [e] at hJ
        exact r_sub [0, 1, 2, 3, 4, 5] rfl hJ
      · refine r_iload dX10_yearBy_61 4 rfl ?_
        refine r_goto 67 dX10_yearBy_63 (by decide) ?_
        have e : (VX10_yearBy_24_2 v1 v2 v3 v4 i s) = v4 := by unfold VX10_yearBy_24_2; rw [if_neg (i32_ng c2)]
        rw [e] at hJ
        exact r_sub [0, 1, 2, 3, 4, 5] rfl hJ
def NX10_yearBy_24 (p1 : Int32) (p2 : Int32) (p3 : Int32) (p4 : Int32) (μ : Mem) : Nat := ix p2
def SX10_yearBy_24 (p1 : Int32) (p2 : Int32) (p3 : Int32) (p4 : Int32) (μ : Mem) : Mem := fo (NX10_yearBy_24 p1 p2 p3 p4 μ) (g_X10_yearBy_24 p1 p2 p3 p4) (muX10_yearBy_3 p1 p2 p3 p4 μ)
def muX10_yearBy_4 (p1 : Int32) (p2 : Int32) (p3 : Int32) (p4 : Int32) (μ : Mem) : Mem := (upm (SX10_yearBy_24 p1 p2 p3 p4 μ) 57 43 0)
def muX10_yearBy_5 (p1 : Int32) (p2 : Int32) (p3 : Int32) (p4 : Int32) (μ : Mem) : Mem := (upm (SX10_yearBy_24 p1 p2 p3 p4 μ) 57 48 ((((SX10_yearBy_24 p1 p2 p3 p4 μ) 57 48) * 1103515245) + 12345))
def VX10_yearBy_6 (p1 : Int32) (p2 : Int32) (p3 : Int32) (p4 : Int32) (μ : Mem) : Int32 := (if p3 ≤ ((((muX10_yearBy_5 p1 p2 p3 p4 μ) 57 48) >>> 16) &&& 15) then 0 else p4)
def muX10_yearBy_7 (p1 : Int32) (p2 : Int32) (p3 : Int32) (p4 : Int32) (μ : Mem) : Mem := (upm (muX10_yearBy_5 p1 p2 p3 p4 μ) 57 43 (VX10_yearBy_6 p1 p2 p3 p4 μ))
def VX10_yearBy_8 (p1 : Int32) (p2 : Int32) (p3 : Int32) (p4 : Int32) (μ : Mem) : Int32 := (if p3 ≤ ((((muX10_yearBy_7 p1 p2 p3 p4 μ) 57 48) >>> 16) &&& 15) then 0 else 1)
theorem bo_VX10_yearBy_8 (p1 : Int32) (p2 : Int32) (p3 : Int32) (p4 : Int32) (μ : Mem) : (VX10_yearBy_8 p1 p2 p3 p4 μ) = 0 ∨ (VX10_yearBy_8 p1 p2 p3 p4 μ) = 1 := by
  unfold VX10_yearBy_8
  split
  · exact Or.inl rfl
  · exact Or.inr rfl
def muX10_yearBy_9 (p1 : Int32) (p2 : Int32) (p3 : Int32) (p4 : Int32) (μ : Mem) : Mem := (upm (muX10_yearBy_7 p1 p2 p3 p4 μ) 57 49 (((muX10_yearBy_7 p1 p2 p3 p4 μ) 57 49) + (VX10_yearBy_8 p1 p2 p3 p4 μ)))
def muX10_yearBy_10 (p1 : Int32) (p2 : Int32) (p3 : Int32) (p4 : Int32) (μ : Mem) : Mem := (M_X10_tideComes 522 (muX10_yearBy_9 p1 p2 p3 p4 μ))
def M_X10_yearBy (p1 : Int32) (p2 : Int32) (p3 : Int32) (p4 : Int32) (μ : Mem) : Mem := (muX10_yearBy_4 p1 p2 p3 p4 μ)
def P_X10_yearBy (p1 : Int32) (p2 : Int32) (p3 : Int32) (p4 : Int32) (μ : Mem) : Prop := ((P_X10_copies 521 522 μ) ∧ ((∀ j9, j9 < (NX10_yearBy_24 p1 p2 p3 p4 μ) → Pb_X10_yearBy_24 p1 p2 p3 p4 j9 (fo j9 (g_X10_yearBy_24 p1 p2 p3 p4) (muX10_yearBy_3 p1 p2 p3 p4 μ))) ∧ ((p2 ≤ (nI (NX10_yearBy_24 p1 p2 p3 p4 μ)) → True) ∧ ((nI (NX10_yearBy_24 p1 p2 p3 p4 μ)) < p2 → ((P_X10_tideComes 522 (muX10_yearBy_9 p1 p2 p3 p4 μ)) ∧ False)))))
set_option maxRecDepth 20000 in
set_option maxHeartbeats 2000000 in
theorem ok_X10_yearBy {G : SG} (hG : GK 548 G) (p1 : Int32) (p2 : Int32) (p3 : Int32) (p4 : Int32) (μ : Mem) (hP : P_X10_yearBy p1 p2 p3 p4 μ) : OkF G mX10_yearBy [.ref (ga G 57), .int p1, .int p2, .int p3, .int p4] μ none (M_X10_yearBy p1 p2 p3 p4 μ) := by
  refine okF_of hG rfl rfl (Nat.le_of_ble_eq_true rfl) ?_
  unfold P_X10_yearBy at hP
  refine r_aload_n dX10_yearBy_0 0 rfl ?_
  refine r_getR 521 fX10_73 (hG.lt (by decide)) sh57 fs57_31 dX10_yearBy_1 ?_
  refine r_aload_n dX10_yearBy_4 0 rfl ?_
  refine r_getR 522 fX10_76 (hG.lt (by decide)) sh57 fs57_32 dX10_yearBy_5 ?_
  have hs1 := hP.1
  replace hP := hP.2
  refine r_csV (ok_X10_copies hG (hG.lt (by decide)) sh521 (hG.lt (by decide)) sh522 μ hs1) lX10_333 dX10_yearBy_8 (by decide) (Nat.le_of_ble_eq_true rfl) rfl (Nat.le_of_ble_eq_true rfl) ?_
  refine r_mu (muX10_yearBy_1 p1 p2 p3 p4 μ) rfl ?_
  refine r_aload_n dX10_yearBy_11 0 rfl ?_
  refine r_iload_n dX10_yearBy_12 1 rfl ?_
  refine r_put fiX10_400 (hG.lt (by decide)) sh57 fs57_48 dX10_yearBy_13 ?_
  refine r_mu (muX10_yearBy_2 p1 p2 p3 p4 μ) rfl ?_
  refine r_aload_n dX10_yearBy_16 0 rfl ?_
  refine r_iconst 0 dX10_yearBy_17 rfl ?_
  refine r_put fiX10_403 (hG.lt (by decide)) sh57 fs57_49 dX10_yearBy_18 ?_
  refine r_mu (muX10_yearBy_3 p1 p2 p3 p4 μ) rfl ?_
  refine r_iconst 0 dX10_yearBy_21 rfl ?_
  refine r_istore [(5, _), (0, _), (1, _), (2, _), (3, _), (4, _)] dX10_yearBy_22 (Nat.le_of_ble_eq_true rfl) rfl ?_
  have hs2 := hP.1
  replace hP := hP.2
  refine r_sub [1, 2, 3, 4, 5, 0] rfl ?_
  refine lp_X10_yearBy_24 hG p1 p2 p3 p4 (muX10_yearBy_3 p1 p2 p3 p4 μ) ((NX10_yearBy_24 p1 p2 p3 p4 μ)) (SX10_yearBy_24 p1 p2 p3 p4 μ) rfl hs2 ?_
  refine r_iload dX10_yearBy_24 5 rfl ?_
  refine r_iload_n dX10_yearBy_26 2 rfl ?_
  refine r_icmp_ge 112 dX10_yearBy_27 (by decide) (fun c1 => ?_) (fun c1 => ?_)
  · replace hP := hP.1 c1
    refine r_aload_n dX10_yearBy_112 0 rfl ?_
    refine r_iconst 0 dX10_yearBy_113 rfl ?_
    refine r_put fiX10_279 (hG.lt (by decide)) sh57 fs57_43 dX10_yearBy_114 ?_
    refine r_mu (muX10_yearBy_4 p1 p2 p3 p4 μ) rfl ?_
    exact r_return dX10_yearBy_117 rfl ⟨rfl, rfl⟩
  · replace hP := hP.2 c1
    refine r_aload_n dX10_yearBy_30 0 rfl ?_
    refine r_aload_n dX10_yearBy_31 0 rfl ?_
    refine r_getI fX10_400 (hG.lt (by decide)) sh57 fs57_48 dX10_yearBy_32 ?_
    refine r_ldcwI 1103515245 (bc8 228 (by decide +kernel) (by decide +kernel)) dX10_yearBy_35 ?_
    refine r_imul dX10_yearBy_38 ?_
    refine r_sipush 12345 dX10_yearBy_39 rfl ?_
    refine r_iadd dX10_yearBy_42 ?_
    refine r_put fiX10_400 (hG.lt (by decide)) sh57 fs57_48 dX10_yearBy_43 ?_
    refine r_mu (muX10_yearBy_5 p1 p2 p3 p4 μ) rfl ?_
    refine r_aload_n dX10_yearBy_46 0 rfl ?_
    refine r_aload_n dX10_yearBy_47 0 rfl ?_
    refine r_getI fX10_400 (hG.lt (by decide)) sh57 fs57_48 dX10_yearBy_48 ?_
    refine r_bipush 16 dX10_yearBy_51 rfl ?_
    refine r_ishr (z := 16) dX10_yearBy_53 (by decide) ?_
    refine r_bipush 15 dX10_yearBy_54 rfl ?_
    refine r_iand dX10_yearBy_56 ?_
    refine r_iload_n dX10_yearBy_57 3 rfl ?_
    refine r_join 67 [(0, .ref (ga G 57)), (1, .int p1), (2, .int p2), (3, .int p3), (4, .int p4), (5, .int (nI (NX10_yearBy_24 p1 p2 p3 p4 μ)))] [.int (VX10_yearBy_6 p1 p2 p3 p4 μ), .ref (ga G 57)] (muX10_yearBy_5 p1 p2 p3 p4 μ) ?_ (fun hJ => ?_)
    · refine r_put fiX10_279 (hG.lt (by decide)) sh57 fs57_43 dX10_yearBy_67 ?_
      refine r_mu (muX10_yearBy_7 p1 p2 p3 p4 μ) rfl ?_
      refine r_aload_n dX10_yearBy_70 0 rfl ?_
      refine r_dup dX10_yearBy_71 rfl ?_
      refine r_getI fX10_403 (hG.lt (by decide)) sh57 fs57_49 dX10_yearBy_72 ?_
      refine r_aload_n dX10_yearBy_75 0 rfl ?_
      refine r_getI fX10_400 (hG.lt (by decide)) sh57 fs57_48 dX10_yearBy_76 ?_
      refine r_bipush 16 dX10_yearBy_79 rfl ?_
      refine r_ishr (z := 16) dX10_yearBy_81 (by decide) ?_
      refine r_bipush 15 dX10_yearBy_82 rfl ?_
      refine r_iand dX10_yearBy_84 ?_
      refine r_iload_n dX10_yearBy_85 3 rfl ?_
      refine r_join 94 [(0, .ref (ga G 57)), (1, .int p1), (2, .int p2), (3, .int p3), (4, .int p4), (5, .int (nI (NX10_yearBy_24 p1 p2 p3 p4 μ)))] [.int (VX10_yearBy_8 p1 p2 p3 p4 μ), .int ((muX10_yearBy_7 p1 p2 p3 p4 μ) 57 49), .ref (ga G 57)] (muX10_yearBy_7 p1 p2 p3 p4 μ) ?_ (fun hJ => ?_)
      · refine r_iadd dX10_yearBy_94 ?_
        refine r_put fiX10_403 (hG.lt (by decide)) sh57 fs57_49 dX10_yearBy_95 ?_
        refine r_mu (muX10_yearBy_9 p1 p2 p3 p4 μ) rfl ?_
        refine r_aload_n dX10_yearBy_98 0 rfl ?_
        refine r_aload_n dX10_yearBy_99 0 rfl ?_
        refine r_getR 522 fX10_76 (hG.lt (by decide)) sh57 fs57_32 dX10_yearBy_100 ?_
        have hs4 := hP.1
        replace hP := hP.2
        refine r_cvV (ok_X10_tideComes hG (hG.lt (by decide)) sh522 (muX10_yearBy_9 p1 p2 p3 p4 μ) hs4) lX10_317 (hG.lt (by decide)) sh57 ⟨_, _, rfl⟩ dX10_yearBy_103 (by decide) (Nat.le_of_ble_eq_true rfl) rfl (Nat.le_of_ble_eq_true rfl) ?_
        refine r_mu (muX10_yearBy_10 p1 p2 p3 p4 μ) rfl ?_
        refine r_iinc ((nI (NX10_yearBy_24 p1 p2 p3 p4 μ)) + 1) [(5, _), (0, _), (1, _), (2, _), (3, _), (4, _)] dX10_yearBy_106 5 rfl rfl (Nat.le_of_ble_eq_true rfl) rfl ?_
        refine r_goto 24 dX10_yearBy_109 (by decide) ?_
        exact hP.elim
      · refine r_icmp_ge 93 dX10_yearBy_86 (by decide) (fun c2 => ?_) (fun c2 => ?_)
        · refine r_iconst 0 dX10_yearBy_93 rfl ?_
          have e : (VX10_yearBy_8 p1 p2 p3 p4 μ) = 0 := by unfold VX10_yearBy_8; rw [if_pos c2]
          rw [e] at hJ
          exact r_sub [0, 1, 2, 3, 4, 5] rfl hJ
        · refine r_iconst 1 dX10_yearBy_89 rfl ?_
          refine r_goto 94 dX10_yearBy_90 (by decide) ?_
          have e : (VX10_yearBy_8 p1 p2 p3 p4 μ) = 1 := by unfold VX10_yearBy_8; rw [if_neg (i32_ng c2)]
          rw [e] at hJ
          exact r_sub [0, 1, 2, 3, 4, 5] rfl hJ
    · refine r_icmp_ge 66 dX10_yearBy_58 (by decide) (fun c2 => ?_) (fun c2 => ?_)
      · refine r_iconst 0 dX10_yearBy_66 rfl ?_
        have e : (VX10_yearBy_6 p1 p2 p3 p4 μ) = 0 := by unfold VX10_yearBy_6; rw [if_pos c2]
        rw [e] at hJ
        exact r_sub [0, 1, 2, 3, 4, 5] rfl hJ
      · refine r_iload dX10_yearBy_61 4 rfl ?_
        refine r_goto 67 dX10_yearBy_63 (by decide) ?_
        have e : (VX10_yearBy_6 p1 p2 p3 p4 μ) = p4 := by unfold VX10_yearBy_6; rw [if_neg (i32_ng c2)]
        rw [e] at hJ
        exact r_sub [0, 1, 2, 3, 4, 5] rfl hJ
def F_X10_isYear (p0 : Int32) (p1 : Int32) (p2 : Int32) (μ : Mem) : Int32 := (if (F_X10_isIn p0 1 96 μ) = 0 then 0 else (if (F_X10_isIn p1 0 16 μ) = 0 then 0 else (if (F_X10_isIn p2 0 20 μ) = 0 then 0 else 1)))
theorem bo_X10_isYear (p0 : Int32) (p1 : Int32) (p2 : Int32) (μ : Mem) : F_X10_isYear p0 p1 p2 μ = 0 ∨ F_X10_isYear p0 p1 p2 μ = 1 := by
  unfold F_X10_isYear
  split
  · exact Or.inl rfl
  · split
    · exact Or.inl rfl
    · split
      · exact Or.inl rfl
      · exact Or.inr rfl
set_option maxRecDepth 20000 in
set_option maxHeartbeats 2000000 in
theorem ok_X10_isYear {G : SG} (hG : GK 548 G) (p0 : Int32) (p1 : Int32) (p2 : Int32) (μ : Mem) : OkF G mX10_isYear [.int p0, .int p1, .int p2] μ (some (.int (F_X10_isYear p0 p1 p2 μ))) μ := by
  refine okF_of hG rfl rfl (Nat.le_of_ble_eq_true rfl) ?_
  refine r_iload_n dX10_isYear_0 0 rfl ?_
  refine r_iconst 1 dX10_isYear_1 rfl ?_
  refine r_bipush 96 dX10_isYear_2 rfl ?_
  refine r_csI (ok_X10_isIn hG p0 1 96 μ) lX10_137 dX10_isYear_4 (by decide) (Nat.le_of_ble_eq_true rfl) rfl (Nat.le_of_ble_eq_true rfl) ?_
  refine r_if_eq 34 dX10_isYear_7 (by decide) (fun c1 => ?_) (fun c1 => ?_)
  · refine r_iconst 0 dX10_isYear_34 rfl ?_
    exact r_ireturn _ dX10_isYear_35 rfl rfl ⟨congrArg (fun z => some (Value.int z)) (by unfold F_X10_isYear; rw [if_pos c1]), rfl⟩
  · refine r_iload_n dX10_isYear_10 1 rfl ?_
    refine r_iconst 0 dX10_isYear_11 rfl ?_
    refine r_bipush 16 dX10_isYear_12 rfl ?_
    refine r_csI (ok_X10_isIn hG p1 0 16 μ) lX10_137 dX10_isYear_14 (by decide) (Nat.le_of_ble_eq_true rfl) rfl (Nat.le_of_ble_eq_true rfl) ?_
    refine r_if_eq 34 dX10_isYear_17 (by decide) (fun c2 => ?_) (fun c2 => ?_)
    · refine r_iconst 0 dX10_isYear_34 rfl ?_
      exact r_ireturn _ dX10_isYear_35 rfl rfl ⟨congrArg (fun z => some (Value.int z)) (by unfold F_X10_isYear; rw [if_neg c1, if_pos c2]), rfl⟩
    · refine r_iload_n dX10_isYear_20 2 rfl ?_
      refine r_iconst 0 dX10_isYear_21 rfl ?_
      refine r_bipush 20 dX10_isYear_22 rfl ?_
      refine r_csI (ok_X10_isIn hG p2 0 20 μ) lX10_137 dX10_isYear_24 (by decide) (Nat.le_of_ble_eq_true rfl) rfl (Nat.le_of_ble_eq_true rfl) ?_
      refine r_if_eq 34 dX10_isYear_27 (by decide) (fun c3 => ?_) (fun c3 => ?_)
      · refine r_iconst 0 dX10_isYear_34 rfl ?_
        exact r_ireturn _ dX10_isYear_35 rfl rfl ⟨congrArg (fun z => some (Value.int z)) (by unfold F_X10_isYear; rw [if_neg c1, if_neg c2, if_pos c3]), rfl⟩
      · refine r_iconst 1 dX10_isYear_30 rfl ?_
        refine r_goto 35 dX10_isYear_31 (by decide) ?_
        exact r_ireturn _ dX10_isYear_35 rfl rfl ⟨congrArg (fun z => some (Value.int z)) (by unfold F_X10_isYear; rw [if_neg c1, if_neg c2, if_neg c3]), rfl⟩
def muX10_year_1 (p1 : Int32) (p2 : Int32) (p3 : Int32) (p4 : Int32) (p5 : Int32) (μ : Mem) : Mem := (upm μ 57 0 0)
def VX10_year_2 (p1 : Int32) (p2 : Int32) (p3 : Int32) (p4 : Int32) (p5 : Int32) (μ : Mem) : Int32 := (if (F_X10_isYear p2 p3 p4 (muX10_year_1 p1 p2 p3 p4 p5 μ)) = 0 then 1 else (if (F_X10_isIn p5 0 3 (muX10_year_1 p1 p2 p3 p4 p5 μ)) ≠ 0 then 0 else 1))
theorem bo_VX10_year_2 (p1 : Int32) (p2 : Int32) (p3 : Int32) (p4 : Int32) (p5 : Int32) (μ : Mem) : (VX10_year_2 p1 p2 p3 p4 p5 μ) = 0 ∨ (VX10_year_2 p1 p2 p3 p4 p5 μ) = 1 := by
  unfold VX10_year_2
  split
  · exact Or.inr rfl
  · split
    · exact Or.inl rfl
    · exact Or.inr rfl
def muX10_year_3 (p1 : Int32) (p2 : Int32) (p3 : Int32) (p4 : Int32) (p5 : Int32) (μ : Mem) : Mem := (M_X10_bad (VX10_year_2 p1 p2 p3 p4 p5 μ) 1 1 (muX10_year_1 p1 p2 p3 p4 p5 μ))
def muX10_year_4 (p1 : Int32) (p2 : Int32) (p3 : Int32) (p4 : Int32) (p5 : Int32) (μ : Mem) : Mem := (M_X10_yearBy p1 p2 p3 p4 (muX10_year_3 p1 p2 p3 p4 p5 μ))
def F_X10_year (p1 : Int32) (p2 : Int32) (p3 : Int32) (p4 : Int32) (p5 : Int32) (μ : Mem) : Int32 := (if (F_X10_bad (VX10_year_2 p1 p2 p3 p4 p5 μ) 1 1 (muX10_year_1 p1 p2 p3 p4 p5 μ)) = 0 then (if p5 = 0 then (F_X10_worthIn 522 (muX10_year_4 p1 p2 p3 p4 p5 μ)) else (if p5 = 1 then ((F_X10_paidIn 522 (muX10_year_4 p1 p2 p3 p4 p5 μ)) - (F_X10_paidIn 521 (muX10_year_4 p1 p2 p3 p4 p5 μ))) else (if p5 = 2 then (F_X10_goneIn 522 (muX10_year_4 p1 p2 p3 p4 p5 μ)) else ((muX10_year_4 p1 p2 p3 p4 p5 μ) 57 49)))) else 0)
def M_X10_year (p1 : Int32) (p2 : Int32) (p3 : Int32) (p4 : Int32) (p5 : Int32) (μ : Mem) : Mem := (if (F_X10_bad (VX10_year_2 p1 p2 p3 p4 p5 μ) 1 1 (muX10_year_1 p1 p2 p3 p4 p5 μ)) = 0 then (muX10_year_4 p1 p2 p3 p4 p5 μ) else (muX10_year_3 p1 p2 p3 p4 p5 μ))
def P_X10_year (p1 : Int32) (p2 : Int32) (p3 : Int32) (p4 : Int32) (p5 : Int32) (μ : Mem) : Prop := ((P_X10_bad (VX10_year_2 p1 p2 p3 p4 p5 μ) 1 1 (muX10_year_1 p1 p2 p3 p4 p5 μ)) ∧ (((F_X10_bad (VX10_year_2 p1 p2 p3 p4 p5 μ) 1 1 (muX10_year_1 p1 p2 p3 p4 p5 μ)) = 0 → ((P_X10_yearBy p1 p2 p3 p4 (muX10_year_3 p1 p2 p3 p4 p5 μ)) ∧ ((p5 = 0 → (P_X10_worthIn 522 (muX10_year_4 p1 p2 p3 p4 p5 μ))) ∧ (p5 = 1 → ((P_X10_paidIn 522 (muX10_year_4 p1 p2 p3 p4 p5 μ)) ∧ (P_X10_paidIn 521 (muX10_year_4 p1 p2 p3 p4 p5 μ)))) ∧ (p5 = 2 → (P_X10_goneIn 522 (muX10_year_4 p1 p2 p3 p4 p5 μ))) ∧ (¬ p5 = 0 ∧ ¬ p5 = 1 ∧ ¬ p5 = 2 → True)))) ∧ (¬ (F_X10_bad (VX10_year_2 p1 p2 p3 p4 p5 μ) 1 1 (muX10_year_1 p1 p2 p3 p4 p5 μ)) = 0 → True)))
set_option maxRecDepth 20000 in
set_option maxHeartbeats 2000000 in
theorem ok_X10_year {G : SG} (hG : GK 548 G) (p1 : Int32) (p2 : Int32) (p3 : Int32) (p4 : Int32) (p5 : Int32) (μ : Mem) (hP : P_X10_year p1 p2 p3 p4 p5 μ) : OkF G mX10_year [.ref (ga G 57), .int p1, .int p2, .int p3, .int p4, .int p5] μ (some (.int (F_X10_year p1 p2 p3 p4 p5 μ))) (M_X10_year p1 p2 p3 p4 p5 μ) := by
  refine okF_of hG rfl rfl (Nat.le_of_ble_eq_true rfl) ?_
  unfold P_X10_year at hP
  refine r_aload_n dX10_year_0 0 rfl ?_
  refine r_iconst 0 dX10_year_1 rfl ?_
  refine r_put fiX10_103 (hG.lt (by decide)) sh57 fs57_0 dX10_year_2 ?_
  refine r_mu (muX10_year_1 p1 p2 p3 p4 p5 μ) rfl ?_
  refine r_aload_n dX10_year_5 0 rfl ?_
  refine r_iload_n dX10_year_6 2 rfl ?_
  refine r_iload_n dX10_year_7 3 rfl ?_
  refine r_iload dX10_year_8 4 rfl ?_
  refine r_csI (ok_X10_isYear hG p2 p3 p4 (muX10_year_1 p1 p2 p3 p4 p5 μ)) lX10_407 dX10_year_10 (by decide) (Nat.le_of_ble_eq_true rfl) rfl (Nat.le_of_ble_eq_true rfl) ?_
  refine r_join 31 [(0, .ref (ga G 57)), (1, .int p1), (2, .int p2), (3, .int p3), (4, .int p4), (5, .int p5)] [.int (VX10_year_2 p1 p2 p3 p4 p5 μ), .ref (ga G 57)] (muX10_year_1 p1 p2 p3 p4 p5 μ) ?_ (fun hJ => ?_)
  · refine r_iconst 1 dX10_year_31 rfl ?_
    refine r_iconst 1 dX10_year_32 rfl ?_
    have hs1 := hP.1
    replace hP := hP.2
    refine r_cvI (ok_X10_bad hG (VX10_year_2 p1 p2 p3 p4 p5 μ) 1 1 (muX10_year_1 p1 p2 p3 p4 p5 μ) hs1) lX10_186 (hG.lt (by decide)) sh57 ⟨_, _, rfl⟩ dX10_year_33 (by decide) (Nat.le_of_ble_eq_true rfl) rfl (Nat.le_of_ble_eq_true rfl) ?_
    refine r_mu (muX10_year_3 p1 p2 p3 p4 p5 μ) rfl ?_
    refine r_if_eq 41 dX10_year_36 (by decide) (fun c1 => ?_) (fun c1 => ?_)
    · replace hP := hP.1 c1
      refine r_aload_n dX10_year_41 0 rfl ?_
      refine r_iload_n dX10_year_42 1 rfl ?_
      refine r_iload_n dX10_year_43 2 rfl ?_
      refine r_iload_n dX10_year_44 3 rfl ?_
      refine r_iload dX10_year_45 4 rfl ?_
      have hs2 := hP.1
      replace hP := hP.2
      refine r_cvV (ok_X10_yearBy hG p1 p2 p3 p4 (muX10_year_3 p1 p2 p3 p4 p5 μ) hs2) lX10_410 (hG.lt (by decide)) sh57 ⟨_, _, rfl⟩ dX10_year_47 (by decide) (Nat.le_of_ble_eq_true rfl) rfl (Nat.le_of_ble_eq_true rfl) ?_
      refine r_mu (muX10_year_4 p1 p2 p3 p4 p5 μ) rfl ?_
      refine r_iload dX10_year_50 5 rfl ?_
      by_cases c2 : p5 = 0
      · replace hP := hP.1 c2
        refine r_tableIn (28) 80 dX10_year_52 (by rw [c2]; decide) (by rw [c2]; decide) (by rw [c2]; rfl) (by decide) ?_
        refine r_aload_n dX10_year_80 0 rfl ?_
        refine r_aload_n dX10_year_81 0 rfl ?_
        refine r_getR 522 fX10_76 (hG.lt (by decide)) sh57 fs57_32 dX10_year_82 ?_
        have hs3 := hP
        refine r_cvI (ok_X10_worthIn hG (hG.lt (by decide)) sh522 (muX10_year_4 p1 p2 p3 p4 p5 μ) hs3) lX10_341 (hG.lt (by decide)) sh57 ⟨_, _, rfl⟩ dX10_year_85 (by decide) (Nat.le_of_ble_eq_true rfl) rfl (Nat.le_of_ble_eq_true rfl) ?_
        exact r_ireturn _ dX10_year_88 rfl rfl ⟨congrArg (fun z => some (Value.int z)) (by unfold F_X10_year; rw [if_pos c1, if_pos c2]), by unfold M_X10_year; rw [if_pos c1]⟩
      by_cases c3 : p5 = 1
      · replace hP := hP.2.1 c3
        refine r_tableIn (37) 89 dX10_year_52 (by rw [c3]; decide) (by rw [c3]; decide) (by rw [c3]; rfl) (by decide) ?_
        refine r_aload_n dX10_year_89 0 rfl ?_
        refine r_aload_n dX10_year_90 0 rfl ?_
        refine r_getR 522 fX10_76 (hG.lt (by decide)) sh57 fs57_32 dX10_year_91 ?_
        have hs4 := hP.1
        replace hP := hP.2
        refine r_cvI (ok_X10_paidIn hG (hG.lt (by decide)) sh522 (muX10_year_4 p1 p2 p3 p4 p5 μ) hs4) lX10_344 (hG.lt (by decide)) sh57 ⟨_, _, rfl⟩ dX10_year_94 (by decide) (Nat.le_of_ble_eq_true rfl) rfl (Nat.le_of_ble_eq_true rfl) ?_
        refine r_aload_n dX10_year_97 0 rfl ?_
        refine r_aload_n dX10_year_98 0 rfl ?_
        refine r_getR 521 fX10_73 (hG.lt (by decide)) sh57 fs57_31 dX10_year_99 ?_
        have hs5 := hP
        refine r_cvI (ok_X10_paidIn hG (hG.lt (by decide)) sh521 (muX10_year_4 p1 p2 p3 p4 p5 μ) hs5) lX10_344 (hG.lt (by decide)) sh57 ⟨_, _, rfl⟩ dX10_year_102 (by decide) (Nat.le_of_ble_eq_true rfl) rfl (Nat.le_of_ble_eq_true rfl) ?_
        refine r_isub dX10_year_105 ?_
        exact r_ireturn _ dX10_year_106 rfl rfl ⟨congrArg (fun z => some (Value.int z)) (by unfold F_X10_year; rw [if_pos c1, if_neg c2, if_pos c3]), by unfold M_X10_year; rw [if_pos c1]⟩
      by_cases c4 : p5 = 2
      · replace hP := hP.2.2.1 c4
        refine r_tableIn (55) 107 dX10_year_52 (by rw [c4]; decide) (by rw [c4]; decide) (by rw [c4]; rfl) (by decide) ?_
        refine r_aload_n dX10_year_107 0 rfl ?_
        refine r_aload_n dX10_year_108 0 rfl ?_
        refine r_getR 522 fX10_76 (hG.lt (by decide)) sh57 fs57_32 dX10_year_109 ?_
        have hs6 := hP
        refine r_cvI (ok_X10_goneIn hG (hG.lt (by decide)) sh522 (muX10_year_4 p1 p2 p3 p4 p5 μ) hs6) lX10_337 (hG.lt (by decide)) sh57 ⟨_, _, rfl⟩ dX10_year_112 (by decide) (Nat.le_of_ble_eq_true rfl) rfl (Nat.le_of_ble_eq_true rfl) ?_
        exact r_ireturn _ dX10_year_115 rfl rfl ⟨congrArg (fun z => some (Value.int z)) (by unfold F_X10_year; rw [if_pos c1, if_neg c2, if_neg c3, if_pos c4]), by unfold M_X10_year; rw [if_pos c1]⟩
      replace hP := hP.2.2.2 ⟨c2, c3, c4⟩
      have ec2 := i32_ti c2
      have ec3 := i32_ti c3
      have ec4 := i32_ti c4
      refine r_tableOut 116 dX10_year_52 (by simp only [Int32.reduceToInt] at ec2 ec3 ec4; omega) (by decide) ?_
      refine r_aload_n dX10_year_116 0 rfl ?_
      refine r_getI fX10_403 (hG.lt (by decide)) sh57 fs57_49 dX10_year_117 ?_
      exact r_ireturn _ dX10_year_120 rfl rfl ⟨congrArg (fun z => some (Value.int z)) (by unfold F_X10_year; rw [if_pos c1, if_neg c2, if_neg c3, if_neg c4]), by unfold M_X10_year; rw [if_pos c1]⟩
    · replace hP := hP.2 c1
      refine r_iconst 0 dX10_year_39 rfl ?_
      exact r_ireturn _ dX10_year_40 rfl rfl ⟨congrArg (fun z => some (Value.int z)) (by unfold F_X10_year; rw [if_neg c1]), by unfold M_X10_year; rw [if_neg c1]⟩
  · refine r_if_eq 26 dX10_year_13 (by decide) (fun c1 => ?_) (fun c1 => ?_)
    · refine r_iconst 1 dX10_year_26 rfl ?_
      refine r_goto 31 dX10_year_27 (by decide) ?_
      have e : (VX10_year_2 p1 p2 p3 p4 p5 μ) = 1 := by unfold VX10_year_2; rw [if_pos c1]
      rw [e] at hJ
      exact r_sub [0, 1, 2, 3, 4, 5] rfl hJ
    · refine r_iload dX10_year_16 5 rfl ?_
      refine r_iconst 0 dX10_year_18 rfl ?_
      refine r_iconst 3 dX10_year_19 rfl ?_
      refine r_csI (ok_X10_isIn hG p5 0 3 (muX10_year_1 p1 p2 p3 p4 p5 μ)) lX10_137 dX10_year_20 (by decide) (Nat.le_of_ble_eq_true rfl) rfl (Nat.le_of_ble_eq_true rfl) ?_
      refine r_if_ne 30 dX10_year_23 (by decide) (fun c2 => ?_) (fun c2 => ?_)
      · refine r_iconst 0 dX10_year_30 rfl ?_
        have e : (VX10_year_2 p1 p2 p3 p4 p5 μ) = 0 := by unfold VX10_year_2; rw [if_neg c1, if_pos c2]
        rw [e] at hJ
        exact r_sub [0, 1, 2, 3, 4, 5] rfl hJ
      · refine r_iconst 1 dX10_year_26 rfl ?_
        refine r_goto 31 dX10_year_27 (by decide) ?_
        have e : (VX10_year_2 p1 p2 p3 p4 p5 μ) = 1 := by unfold VX10_year_2; rw [if_neg c1, if_neg (not_not_intro c2)]
        rw [e] at hJ
        exact r_sub [0, 1, 2, 3, 4, 5] rfl hJ
def muX10_span_1 (p1 : Int32) (p2 : Int32) (p3 : Int32) (p4 : Int32) (p5 : Int32) (p6 : Int32) (p7 : Int32) (μ : Mem) : Mem := (upm μ 57 0 0)
def VX10_span_2 (p1 : Int32) (p2 : Int32) (p3 : Int32) (p4 : Int32) (p5 : Int32) (p6 : Int32) (p7 : Int32) (μ : Mem) : Int32 := (if (F_X10_isIn p2 1 20 (muX10_span_1 p1 p2 p3 p4 p5 p6 p7 μ)) = 0 then 1 else (if (F_X10_isYear p3 p4 p5 (muX10_span_1 p1 p2 p3 p4 p5 p6 p7 μ)) = 0 then 1 else (if (F_X10_isIn p6 0 2 (muX10_span_1 p1 p2 p3 p4 p5 p6 p7 μ)) = 0 then 1 else (if (F_X10_isThing p7 (muX10_span_1 p1 p2 p3 p4 p5 p6 p7 μ)) ≠ 0 then 0 else 1))))
theorem bo_VX10_span_2 (p1 : Int32) (p2 : Int32) (p3 : Int32) (p4 : Int32) (p5 : Int32) (p6 : Int32) (p7 : Int32) (μ : Mem) : (VX10_span_2 p1 p2 p3 p4 p5 p6 p7 μ) = 0 ∨ (VX10_span_2 p1 p2 p3 p4 p5 p6 p7 μ) = 1 := by
  unfold VX10_span_2
  split
  · exact Or.inr rfl
  · split
    · exact Or.inr rfl
    · split
      · exact Or.inr rfl
      · split
        · exact Or.inl rfl
        · exact Or.inr rfl
def muX10_span_3 (p1 : Int32) (p2 : Int32) (p3 : Int32) (p4 : Int32) (p5 : Int32) (p6 : Int32) (p7 : Int32) (μ : Mem) : Mem := (M_X10_bad (VX10_span_2 p1 p2 p3 p4 p5 p6 p7 μ) 1 1 (muX10_span_1 p1 p2 p3 p4 p5 p6 p7 μ))
def muX10_span_73_1 (v1 : Int32) (v2 : Int32) (v3 : Int32) (v4 : Int32) (v5 : Int32) (v6 : Int32) (v7 : Int32) (i : Nat) (s : Int32 × Int32 × Int32 × Mem) : Mem := (M_X10_yearBy (v1 + (nI i)) v3 v4 v5 s.2.2.2)
def VX10_span_73_2 (v1 : Int32) (v2 : Int32) (v3 : Int32) (v4 : Int32) (v5 : Int32) (v6 : Int32) (v7 : Int32) (i : Nat) (s : Int32 × Int32 × Int32 × Mem) : Int32 := (if s.1 ≠ (-1) then (F_X10_less s.1 (F_X10_goneIn 522 (muX10_span_73_1 v1 v2 v3 v4 v5 v6 v7 i s)) (muX10_span_73_1 v1 v2 v3 v4 v5 v6 v7 i s)) else (F_X10_goneIn 522 (muX10_span_73_1 v1 v2 v3 v4 v5 v6 v7 i s)))
def VX10_span_73_3 (v1 : Int32) (v2 : Int32) (v3 : Int32) (v4 : Int32) (v5 : Int32) (v6 : Int32) (v7 : Int32) (i : Nat) (s : Int32 × Int32 × Int32 × Mem) : Int32 := (if ((muX10_span_73_1 v1 v2 v3 v4 v5 v6 v7 i s) 522 (ix (0 + v7))) = (-1) then 0 else 1)
theorem bo_VX10_span_73_3 (v1 : Int32) (v2 : Int32) (v3 : Int32) (v4 : Int32) (v5 : Int32) (v6 : Int32) (v7 : Int32) (i : Nat) (s : Int32 × Int32 × Int32 × Mem) : (VX10_span_73_3 v1 v2 v3 v4 v5 v6 v7 i s) = 0 ∨ (VX10_span_73_3 v1 v2 v3 v4 v5 v6 v7 i s) = 1 := by
  unfold VX10_span_73_3
  split
  · exact Or.inl rfl
  · exact Or.inr rfl
def g_X10_span_73 (v1 : Int32) (v2 : Int32) (v3 : Int32) (v4 : Int32) (v5 : Int32) (v6 : Int32) (v7 : Int32) (i : Nat) (s : Int32 × Int32 × Int32 × Mem) : Int32 × Int32 × Int32 × Mem := ((VX10_span_73_2 v1 v2 v3 v4 v5 v6 v7 i s), (F_X10_more s.2.1 (F_X10_goneIn 522 (muX10_span_73_1 v1 v2 v3 v4 v5 v6 v7 i s)) (muX10_span_73_1 v1 v2 v3 v4 v5 v6 v7 i s)), (s.2.2.1 + (VX10_span_73_3 v1 v2 v3 v4 v5 v6 v7 i s)), (muX10_span_73_1 v1 v2 v3 v4 v5 v6 v7 i s))
def Pb_X10_span_73 (v1 : Int32) (v2 : Int32) (v3 : Int32) (v4 : Int32) (v5 : Int32) (v6 : Int32) (v7 : Int32) (i : Nat) (s : Int32 × Int32 × Int32 × Mem) : Prop := ((v2 ≤ (nI i) → False) ∧ ((nI i) < v2 → (P_X10_yearBy (v1 + (nI i)) v3 v4 v5 s.2.2.2) ∧ (P_X10_goneIn 522 (muX10_span_73_1 v1 v2 v3 v4 v5 v6 v7 i s)) ∧ vp_in (0 + v7) 63))
set_option maxRecDepth 20000 in
set_option maxHeartbeats 2000000 in
theorem lp_X10_span_73 {G : SG} (hG : GK 548 G)  (v1 : Int32) (v2 : Int32) (v3 : Int32) (v4 : Int32) (v5 : Int32) (v6 : Int32) (v7 : Int32) (s0 : Int32 × Int32 × Int32 × Mem) (N : Nat) (sN : Int32 × Int32 × Int32 × Mem) (eN : sN = fo N (g_X10_span_73 v1 v2 v3 v4 v5 v6 v7) s0) (hN : ∀ i, i < N → Pb_X10_span_73 v1 v2 v3 v4 v5 v6 v7 i (fo i (g_X10_span_73 v1 v2 v3 v4 v5 v6 v7) s0)) {t : Nat} {Q : PQ} {X : PX} (h : R G mX10_span 73 [(0, .ref (ga G 57)), (1, .int v1), (2, .int v2), (3, .int v3), (4, .int v4), (5, .int v5), (6, .int v6), (7, .int v7), (8, .int (sN).1), (9, .int (sN).2.1), (10, .int (sN).2.2.1), (11, .int (nI N))] [] (sN).2.2.2 t Q X) : R G mX10_span 73 [(0, .ref (ga G 57)), (1, .int v1), (2, .int v2), (3, .int v3), (4, .int v4), (5, .int v5), (6, .int v6), (7, .int v7), (8, .int (s0).1), (9, .int (s0).2.1), (10, .int (s0).2.2.1), (11, .int 0)] [] (s0).2.2.2 t Q X := by
  subst eN
  refine down_i N (fun i => R G mX10_span 73 [(0, .ref (ga G 57)), (1, .int v1), (2, .int v2), (3, .int v3), (4, .int v4), (5, .int v5), (6, .int v6), (7, .int v7), (8, .int ((fo i (g_X10_span_73 v1 v2 v3 v4 v5 v6 v7) s0)).1), (9, .int ((fo i (g_X10_span_73 v1 v2 v3 v4 v5 v6 v7) s0)).2.1), (10, .int ((fo i (g_X10_span_73 v1 v2 v3 v4 v5 v6 v7) s0)).2.2.1), (11, .int (nI i))] [] ((fo i (g_X10_span_73 v1 v2 v3 v4 v5 v6 v7) s0)).2.2.2 t Q X) h (fun i hi hS => ?_)
  have hP := hN i hi
  rw [fo_succ] at hS
  rw [nI_succ] at hS
  generalize fo i (g_X10_span_73 v1 v2 v3 v4 v5 v6 v7) s0 = s at hS hP ⊢
  unfold Pb_X10_span_73 at hP
  refine r_iload dX10_span_73 11 rfl ?_
  refine r_iload_n dX10_span_75 2 rfl ?_
  refine r_icmp_ge 160 dX10_span_76 (by decide) (fun c1 => ?_) (fun c1 => ?_)
  · replace hP := hP.1 c1
    exact hP.elim
  · replace hP := hP.2 c1
    refine r_aload_n dX10_span_79 0 rfl ?_
    refine r_iload_n dX10_span_80 1 rfl ?_
    refine r_iload dX10_span_81 11 rfl ?_
    refine r_iadd dX10_span_83 ?_
    refine r_iload_n dX10_span_84 3 rfl ?_
    refine r_iload dX10_span_85 4 rfl ?_
    refine r_iload dX10_span_87 5 rfl ?_
    have hs1 := hP.1
    replace hP := hP.2
    refine r_cvV (ok_X10_yearBy hG (v1 + (nI i)) v3 v4 v5 s.2.2.2 hs1) lX10_410 (hG.lt (by decide)) sh57 ⟨_, _, rfl⟩ dX10_span_89 (by decide) (Nat.le_of_ble_eq_true rfl) rfl (Nat.le_of_ble_eq_true rfl) ?_
    refine r_mu (muX10_span_73_1 v1 v2 v3 v4 v5 v6 v7 i s) rfl ?_
    refine r_aload_n dX10_span_92 0 rfl ?_
    refine r_aload_n dX10_span_93 0 rfl ?_
    refine r_getR 522 fX10_76 (hG.lt (by decide)) sh57 fs57_32 dX10_span_94 ?_
    have hs2 := hP.1
    replace hP := hP.2
    refine r_cvI (ok_X10_goneIn hG (hG.lt (by decide)) sh522 (muX10_span_73_1 v1 v2 v3 v4 v5 v6 v7 i s) hs2) lX10_337 (hG.lt (by decide)) sh57 ⟨_, _, rfl⟩ dX10_span_97 (by decide) (Nat.le_of_ble_eq_true rfl) rfl (Nat.le_of_ble_eq_true rfl) ?_
    refine r_istore [(12, _), (0, _), (1, _), (2, _), (3, _), (4, _), (5, _), (6, _), (7, _), (8, _), (9, _), (10, _), (11, _)] dX10_span_100 (Nat.le_of_ble_eq_true rfl) rfl ?_
    refine r_iload dX10_span_102 9 rfl ?_
    refine r_iconst (-1) dX10_span_104 rfl ?_
    refine r_join 120 [(12, .int (F_X10_goneIn 522 (muX10_span_73_1 v1 v2 v3 v4 v5 v6 v7 i s))), (0, .ref (ga G 57)), (1, .int v1), (2, .int v2), (3, .int v3), (4, .int v4), (5, .int v5), (6, .int v6), (7, .int v7), (8, .int s.1), (9, .int s.2.1), (10, .int s.2.2.1), (11, .int (nI i))] [.int (VX10_span_73_2 v1 v2 v3 v4 v5 v6 v7 i s)] (muX10_span_73_1 v1 v2 v3 v4 v5 v6 v7 i s) ?_ (fun hJ => ?_)
    · refine r_istore [(8, _), (12, _), (0, _), (1, _), (2, _), (3, _), (4, _), (5, _), (6, _), (7, _), (9, _), (10, _), (11, _)] dX10_span_120 (Nat.le_of_ble_eq_true rfl) rfl ?_
      refine r_iload dX10_span_122 10 rfl ?_
      refine r_iload dX10_span_124 1 rfl ?_
      refine r_csI (ok_X10_more hG s.2.1 (F_X10_goneIn 522 (muX10_span_73_1 v1 v2 v3 v4 v5 v6 v7 i s)) (muX10_span_73_1 v1 v2 v3 v4 v5 v6 v7 i s)) lX10_252 dX10_span_126 (by decide) (Nat.le_of_ble_eq_true rfl) rfl (Nat.le_of_ble_eq_true rfl) ?_
      refine r_istore [(9, _), (8, _), (12, _), (0, _), (1, _), (2, _), (3, _), (4, _), (5, _), (6, _), (7, _), (10, _), (11, _)] dX10_span_129 (Nat.le_of_ble_eq_true rfl) rfl ?_
      refine r_iload dX10_span_131 11 rfl ?_
      refine r_aload_n dX10_span_133 3 rfl ?_
      refine r_getR 522 fX10_76 (hG.lt (by decide)) sh57 fs57_32 dX10_span_134 ?_
      refine r_iconst 0 dX10_span_137 rfl ?_
      refine r_iload dX10_span_138 10 rfl ?_
      refine r_iadd dX10_span_140 ?_
      have hs3 := hP
      refine r_iald (hG.lt (by decide)) sh522 hs3 dX10_span_141 ?_
      refine r_iconst (-1) dX10_span_142 rfl ?_
      refine r_join 151 [(9, .int (F_X10_more s.2.1 (F_X10_goneIn 522 (muX10_span_73_1 v1 v2 v3 v4 v5 v6 v7 i s)) (muX10_span_73_1 v1 v2 v3 v4 v5 v6 v7 i s))), (8, .int (VX10_span_73_2 v1 v2 v3 v4 v5 v6 v7 i s)), (12, .int (F_X10_goneIn 522 (muX10_span_73_1 v1 v2 v3 v4 v5 v6 v7 i s))), (0, .ref (ga G 57)), (1, .int v1), (2, .int v2), (3, .int v3), (4, .int v4), (5, .int v5), (6, .int v6), (7, .int v7), (10, .int s.2.2.1), (11, .int (nI i))] [.int (VX10_span_73_3 v1 v2 v3 v4 v5 v6 v7 i s), .int s.2.2.1] (muX10_span_73_1 v1 v2 v3 v4 v5 v6 v7 i s) ?_ (fun hJ => ?_)
      · refine r_iadd dX10_span_151 ?_
        refine r_istore [(10, _), (9, _), (8, _), (12, _), (0, _), (1, _), (2, _), (3, _), (4, _), (5, _), (6, _), (7, _), (11, _)] dX10_span_152 (Nat.le_of_ble_eq_true rfl) rfl ?_
        refine r_iinc ((nI i) + 1) [(11, _), (10, _), (9, _), (8, _), (12, _), (0, _), (1, _), (2, _), (3, _), (4, _), (5, _), (6, _), (7, _)] dX10_span_154 12 rfl rfl (Nat.le_of_ble_eq_true rfl) rfl ?_
        refine r_goto 73 dX10_span_157 (by decide) ?_
        have e : g_X10_span_73 v1 v2 v3 v4 v5 v6 v7 i s = ((VX10_span_73_2 v1 v2 v3 v4 v5 v6 v7 i s), (F_X10_more s.2.1 (F_X10_goneIn 522 (muX10_span_73_1 v1 v2 v3 v4 v5 v6 v7 i s)) (muX10_span_73_1 v1 v2 v3 v4 v5 v6 v7 i s)), (s.2.2.1 + (VX10_span_73_3 v1 v2 v3 v4 v5 v6 v7 i s)), (muX10_span_73_1 v1 v2 v3 v4 v5 v6 v7 i s)) := by unfold g_X10_span_73; rfl
        rw [e] at hS
        dsimp only at hS
        exact r_sub [5, 6, 7, 8, 9, 10, 11, 12, 3, 2, 1, 0] rfl hS
      · refine r_icmp_eq 150 dX10_span_143 (by decide) (fun c2 => ?_) (fun c2 => ?_)
        · refine r_iconst 0 dX10_span_150 rfl ?_
          have e : (VX10_span_73_3 v1 v2 v3 v4 v5 v6 v7 i s) = 0 := by unfold VX10_span_73_3; rw [if_pos c2]
          rw [e] at hJ
          exact r_sub [0, 1, 2, 3, 4, 5, 6, 7, 8, 9, 10, 11, 12] rfl hJ
        · refine r_iconst 1 dX10_span_146 rfl ?_
          refine r_goto 151 dX10_span_147 (by decide) ?_
          have e : (VX10_span_73_3 v1 v2 v3 v4 v5 v6 v7 i s) = 1 := by unfold VX10_span_73_3; rw [if_neg c2]
          rw [e] at hJ
          exact r_sub [0, 1, 2, 3, 4, 5, 6, 7, 8, 9, 10, 11, 12] rfl hJ
    · refine r_icmp_ne 113 dX10_span_105 (by decide) (fun c2 => ?_) (fun c2 => ?_)
      · refine r_iload dX10_span_113 9 rfl ?_
        refine r_iload dX10_span_115 0 rfl ?_
        refine r_csI (ok_X10_less hG s.1 (F_X10_goneIn 522 (muX10_span_73_1 v1 v2 v3 v4 v5 v6 v7 i s)) (muX10_span_73_1 v1 v2 v3 v4 v5 v6 v7 i s)) lX10_249 dX10_span_117 (by decide) (Nat.le_of_ble_eq_true rfl) rfl (Nat.le_of_ble_eq_true rfl) ?_
        have e : (VX10_span_73_2 v1 v2 v3 v4 v5 v6 v7 i s) = (F_X10_less s.1 (F_X10_goneIn 522 (muX10_span_73_1 v1 v2 v3 v4 v5 v6 v7 i s)) (muX10_span_73_1 v1 v2 v3 v4 v5 v6 v7 i s)) := by unfold VX10_span_73_2; rw [if_pos c2]
        rw [e] at hJ
        exact r_sub [0, 1, 2, 3, 4, 5, 6, 7, 8, 9, 10, 11, 12] rfl hJ
      · refine r_iload dX10_span_108 0 rfl ?_
        refine r_goto 120 dX10_span_110 (by decide) ?_
        have e : (VX10_span_73_2 v1 v2 v3 v4 v5 v6 v7 i s) = (F_X10_goneIn 522 (muX10_span_73_1 v1 v2 v3 v4 v5 v6 v7 i s)) := by unfold VX10_span_73_2; rw [if_neg (not_not_intro c2)]
        rw [e] at hJ
        exact r_sub [0, 1, 2, 3, 4, 5, 6, 7, 8, 9, 10, 11, 12] rfl hJ
def NX10_span_73 (p1 : Int32) (p2 : Int32) (p3 : Int32) (p4 : Int32) (p5 : Int32) (p6 : Int32) (p7 : Int32) (μ : Mem) : Nat := ix p2
def SX10_span_73 (p1 : Int32) (p2 : Int32) (p3 : Int32) (p4 : Int32) (p5 : Int32) (p6 : Int32) (p7 : Int32) (μ : Mem) : Int32 × Int32 × Int32 × Mem := fo (NX10_span_73 p1 p2 p3 p4 p5 p6 p7 μ) (g_X10_span_73 p1 p2 p3 p4 p5 p6 p7) ((-1), 0, 0, (muX10_span_3 p1 p2 p3 p4 p5 p6 p7 μ))
def muX10_span_4 (p1 : Int32) (p2 : Int32) (p3 : Int32) (p4 : Int32) (p5 : Int32) (p6 : Int32) (p7 : Int32) (μ : Mem) : Mem := (M_X10_yearBy (p1 + (nI (NX10_span_73 p1 p2 p3 p4 p5 p6 p7 μ))) p3 p4 p5 (SX10_span_73 p1 p2 p3 p4 p5 p6 p7 μ).2.2.2)
def VX10_span_5 (p1 : Int32) (p2 : Int32) (p3 : Int32) (p4 : Int32) (p5 : Int32) (p6 : Int32) (p7 : Int32) (μ : Mem) : Int32 := (if (SX10_span_73 p1 p2 p3 p4 p5 p6 p7 μ).1 ≠ (-1) then (F_X10_less (SX10_span_73 p1 p2 p3 p4 p5 p6 p7 μ).1 (F_X10_goneIn 522 (muX10_span_4 p1 p2 p3 p4 p5 p6 p7 μ)) (muX10_span_4 p1 p2 p3 p4 p5 p6 p7 μ)) else (F_X10_goneIn 522 (muX10_span_4 p1 p2 p3 p4 p5 p6 p7 μ)))
def VX10_span_6 (p1 : Int32) (p2 : Int32) (p3 : Int32) (p4 : Int32) (p5 : Int32) (p6 : Int32) (p7 : Int32) (μ : Mem) : Int32 := (if ((muX10_span_4 p1 p2 p3 p4 p5 p6 p7 μ) 522 (ix (0 + p7))) = (-1) then 0 else 1)
theorem bo_VX10_span_6 (p1 : Int32) (p2 : Int32) (p3 : Int32) (p4 : Int32) (p5 : Int32) (p6 : Int32) (p7 : Int32) (μ : Mem) : (VX10_span_6 p1 p2 p3 p4 p5 p6 p7 μ) = 0 ∨ (VX10_span_6 p1 p2 p3 p4 p5 p6 p7 μ) = 1 := by
  unfold VX10_span_6
  split
  · exact Or.inl rfl
  · exact Or.inr rfl
def F_X10_span (p1 : Int32) (p2 : Int32) (p3 : Int32) (p4 : Int32) (p5 : Int32) (p6 : Int32) (p7 : Int32) (μ : Mem) : Int32 := (if (F_X10_bad (VX10_span_2 p1 p2 p3 p4 p5 p6 p7 μ) 1 1 (muX10_span_1 p1 p2 p3 p4 p5 p6 p7 μ)) = 0 then (if p6 ≠ 0 then (if p6 ≠ 1 then (SX10_span_73 p1 p2 p3 p4 p5 p6 p7 μ).2.2.1 else (SX10_span_73 p1 p2 p3 p4 p5 p6 p7 μ).2.1) else (SX10_span_73 p1 p2 p3 p4 p5 p6 p7 μ).1) else 0)
def M_X10_span (p1 : Int32) (p2 : Int32) (p3 : Int32) (p4 : Int32) (p5 : Int32) (p6 : Int32) (p7 : Int32) (μ : Mem) : Mem := (if (F_X10_bad (VX10_span_2 p1 p2 p3 p4 p5 p6 p7 μ) 1 1 (muX10_span_1 p1 p2 p3 p4 p5 p6 p7 μ)) = 0 then (SX10_span_73 p1 p2 p3 p4 p5 p6 p7 μ).2.2.2 else (muX10_span_3 p1 p2 p3 p4 p5 p6 p7 μ))
def P_X10_span (p1 : Int32) (p2 : Int32) (p3 : Int32) (p4 : Int32) (p5 : Int32) (p6 : Int32) (p7 : Int32) (μ : Mem) : Prop := ((P_X10_bad (VX10_span_2 p1 p2 p3 p4 p5 p6 p7 μ) 1 1 (muX10_span_1 p1 p2 p3 p4 p5 p6 p7 μ)) ∧ (((F_X10_bad (VX10_span_2 p1 p2 p3 p4 p5 p6 p7 μ) 1 1 (muX10_span_1 p1 p2 p3 p4 p5 p6 p7 μ)) = 0 → ((∀ j9, j9 < (NX10_span_73 p1 p2 p3 p4 p5 p6 p7 μ) → Pb_X10_span_73 p1 p2 p3 p4 p5 p6 p7 j9 (fo j9 (g_X10_span_73 p1 p2 p3 p4 p5 p6 p7) ((-1), 0, 0, (muX10_span_3 p1 p2 p3 p4 p5 p6 p7 μ)))) ∧ ((p2 ≤ (nI (NX10_span_73 p1 p2 p3 p4 p5 p6 p7 μ)) → True) ∧ ((nI (NX10_span_73 p1 p2 p3 p4 p5 p6 p7 μ)) < p2 → ((P_X10_yearBy (p1 + (nI (NX10_span_73 p1 p2 p3 p4 p5 p6 p7 μ))) p3 p4 p5 (SX10_span_73 p1 p2 p3 p4 p5 p6 p7 μ).2.2.2) ∧ ((P_X10_goneIn 522 (muX10_span_4 p1 p2 p3 p4 p5 p6 p7 μ)) ∧ ((vp_in (0 + p7) 63) ∧ False))))))) ∧ (¬ (F_X10_bad (VX10_span_2 p1 p2 p3 p4 p5 p6 p7 μ) 1 1 (muX10_span_1 p1 p2 p3 p4 p5 p6 p7 μ)) = 0 → True)))
set_option maxRecDepth 20000 in
set_option maxHeartbeats 2000000 in
theorem ok_X10_span {G : SG} (hG : GK 548 G) (p1 : Int32) (p2 : Int32) (p3 : Int32) (p4 : Int32) (p5 : Int32) (p6 : Int32) (p7 : Int32) (μ : Mem) (hP : P_X10_span p1 p2 p3 p4 p5 p6 p7 μ) : OkF G mX10_span [.ref (ga G 57), .int p1, .int p2, .int p3, .int p4, .int p5, .int p6, .int p7] μ (some (.int (F_X10_span p1 p2 p3 p4 p5 p6 p7 μ))) (M_X10_span p1 p2 p3 p4 p5 p6 p7 μ) := by
  refine okF_of hG rfl rfl (Nat.le_of_ble_eq_true rfl) ?_
  unfold P_X10_span at hP
  refine r_aload_n dX10_span_0 0 rfl ?_
  refine r_iconst 0 dX10_span_1 rfl ?_
  refine r_put fiX10_103 (hG.lt (by decide)) sh57 fs57_0 dX10_span_2 ?_
  refine r_mu (muX10_span_1 p1 p2 p3 p4 p5 p6 p7 μ) rfl ?_
  refine r_aload_n dX10_span_5 0 rfl ?_
  refine r_iload_n dX10_span_6 2 rfl ?_
  refine r_iconst 1 dX10_span_7 rfl ?_
  refine r_bipush 20 dX10_span_8 rfl ?_
  refine r_csI (ok_X10_isIn hG p2 1 20 (muX10_span_1 p1 p2 p3 p4 p5 p6 p7 μ)) lX10_137 dX10_span_10 (by decide) (Nat.le_of_ble_eq_true rfl) rfl (Nat.le_of_ble_eq_true rfl) ?_
  refine r_join 51 [(0, .ref (ga G 57)), (1, .int p1), (2, .int p2), (3, .int p3), (4, .int p4), (5, .int p5), (6, .int p6), (7, .int p7)] [.int (VX10_span_2 p1 p2 p3 p4 p5 p6 p7 μ), .ref (ga G 57)] (muX10_span_1 p1 p2 p3 p4 p5 p6 p7 μ) ?_ (fun hJ => ?_)
  · refine r_iconst 1 dX10_span_51 rfl ?_
    refine r_iconst 1 dX10_span_52 rfl ?_
    have hs1 := hP.1
    replace hP := hP.2
    refine r_cvI (ok_X10_bad hG (VX10_span_2 p1 p2 p3 p4 p5 p6 p7 μ) 1 1 (muX10_span_1 p1 p2 p3 p4 p5 p6 p7 μ) hs1) lX10_186 (hG.lt (by decide)) sh57 ⟨_, _, rfl⟩ dX10_span_53 (by decide) (Nat.le_of_ble_eq_true rfl) rfl (Nat.le_of_ble_eq_true rfl) ?_
    refine r_mu (muX10_span_3 p1 p2 p3 p4 p5 p6 p7 μ) rfl ?_
    refine r_if_eq 61 dX10_span_56 (by decide) (fun c1 => ?_) (fun c1 => ?_)
    · replace hP := hP.1 c1
      refine r_iconst (-1) dX10_span_61 rfl ?_
      refine r_istore [(8, _), (0, _), (1, _), (2, _), (3, _), (4, _), (5, _), (6, _), (7, _)] dX10_span_62 (Nat.le_of_ble_eq_true rfl) rfl ?_
      refine r_iconst 0 dX10_span_64 rfl ?_
      refine r_istore [(9, _), (8, _), (0, _), (1, _), (2, _), (3, _), (4, _), (5, _), (6, _), (7, _)] dX10_span_65 (Nat.le_of_ble_eq_true rfl) rfl ?_
      refine r_iconst 0 dX10_span_67 rfl ?_
      refine r_istore [(10, _), (9, _), (8, _), (0, _), (1, _), (2, _), (3, _), (4, _), (5, _), (6, _), (7, _)] dX10_span_68 (Nat.le_of_ble_eq_true rfl) rfl ?_
      refine r_iconst 0 dX10_span_70 rfl ?_
      refine r_istore [(11, _), (10, _), (9, _), (8, _), (0, _), (1, _), (2, _), (3, _), (4, _), (5, _), (6, _), (7, _)] dX10_span_71 (Nat.le_of_ble_eq_true rfl) rfl ?_
      have hs2 := hP.1
      replace hP := hP.2
      refine r_sub [4, 5, 6, 7, 8, 9, 10, 11, 3, 2, 1, 0] rfl ?_
      refine lp_X10_span_73 hG p1 p2 p3 p4 p5 p6 p7 ((-1), 0, 0, (muX10_span_3 p1 p2 p3 p4 p5 p6 p7 μ)) ((NX10_span_73 p1 p2 p3 p4 p5 p6 p7 μ)) (SX10_span_73 p1 p2 p3 p4 p5 p6 p7 μ) rfl hs2 ?_
      refine r_iload dX10_span_73 11 rfl ?_
      refine r_iload_n dX10_span_75 2 rfl ?_
      refine r_icmp_ge 160 dX10_span_76 (by decide) (fun c2 => ?_) (fun c2 => ?_)
      · replace hP := hP.1 c2
        refine r_iload dX10_span_160 6 rfl ?_
        refine r_if_ne 170 dX10_span_162 (by decide) (fun c3 => ?_) (fun c3 => ?_)
        · refine r_iload dX10_span_170 6 rfl ?_
          refine r_iconst 1 dX10_span_172 rfl ?_
          refine r_icmp_ne 181 dX10_span_173 (by decide) (fun c4 => ?_) (fun c4 => ?_)
          · refine r_iload dX10_span_181 10 rfl ?_
            exact r_ireturn _ dX10_span_183 rfl rfl ⟨congrArg (fun z => some (Value.int z)) (by unfold F_X10_span; rw [if_pos c1, if_pos c3, if_pos c4]), by unfold M_X10_span; rw [if_pos c1]⟩
          · refine r_iload dX10_span_176 9 rfl ?_
            refine r_goto 183 dX10_span_178 (by decide) ?_
            exact r_ireturn _ dX10_span_183 rfl rfl ⟨congrArg (fun z => some (Value.int z)) (by unfold F_X10_span; rw [if_pos c1, if_pos c3, if_neg (not_not_intro c4)]), by unfold M_X10_span; rw [if_pos c1]⟩
        · refine r_iload dX10_span_165 8 rfl ?_
          refine r_goto 183 dX10_span_167 (by decide) ?_
          exact r_ireturn _ dX10_span_183 rfl rfl ⟨congrArg (fun z => some (Value.int z)) (by unfold F_X10_span; rw [if_pos c1, if_neg (not_not_intro c3)]), by unfold M_X10_span; rw [if_pos c1]⟩
      · replace hP := hP.2 c2
        refine r_aload_n dX10_span_79 0 rfl ?_
        refine r_iload_n dX10_span_80 1 rfl ?_
        refine r_iload dX10_span_81 11 rfl ?_
        refine r_iadd dX10_span_83 ?_
        refine r_iload_n dX10_span_84 3 rfl ?_
        refine r_iload dX10_span_85 4 rfl ?_
        refine r_iload dX10_span_87 5 rfl ?_
        have hs6 := hP.1
        replace hP := hP.2
        refine r_cvV (ok_X10_yearBy hG (p1 + (nI (NX10_span_73 p1 p2 p3 p4 p5 p6 p7 μ))) p3 p4 p5 (SX10_span_73 p1 p2 p3 p4 p5 p6 p7 μ).2.2.2 hs6) lX10_410 (hG.lt (by decide)) sh57 ⟨_, _, rfl⟩ dX10_span_89 (by decide) (Nat.le_of_ble_eq_true rfl) rfl (Nat.le_of_ble_eq_true rfl) ?_
        refine r_mu (muX10_span_4 p1 p2 p3 p4 p5 p6 p7 μ) rfl ?_
        refine r_aload_n dX10_span_92 0 rfl ?_
        refine r_aload_n dX10_span_93 0 rfl ?_
        refine r_getR 522 fX10_76 (hG.lt (by decide)) sh57 fs57_32 dX10_span_94 ?_
        have hs7 := hP.1
        replace hP := hP.2
        refine r_cvI (ok_X10_goneIn hG (hG.lt (by decide)) sh522 (muX10_span_4 p1 p2 p3 p4 p5 p6 p7 μ) hs7) lX10_337 (hG.lt (by decide)) sh57 ⟨_, _, rfl⟩ dX10_span_97 (by decide) (Nat.le_of_ble_eq_true rfl) rfl (Nat.le_of_ble_eq_true rfl) ?_
        refine r_istore [(12, _), (0, _), (1, _), (2, _), (3, _), (4, _), (5, _), (6, _), (7, _), (8, _), (9, _), (10, _), (11, _)] dX10_span_100 (Nat.le_of_ble_eq_true rfl) rfl ?_
        refine r_iload dX10_span_102 9 rfl ?_
        refine r_iconst (-1) dX10_span_104 rfl ?_
        refine r_join 120 [(12, .int (F_X10_goneIn 522 (muX10_span_4 p1 p2 p3 p4 p5 p6 p7 μ))), (0, .ref (ga G 57)), (1, .int p1), (2, .int p2), (3, .int p3), (4, .int p4), (5, .int p5), (6, .int p6), (7, .int p7), (8, .int (SX10_span_73 p1 p2 p3 p4 p5 p6 p7 μ).1), (9, .int (SX10_span_73 p1 p2 p3 p4 p5 p6 p7 μ).2.1), (10, .int (SX10_span_73 p1 p2 p3 p4 p5 p6 p7 μ).2.2.1), (11, .int (nI (NX10_span_73 p1 p2 p3 p4 p5 p6 p7 μ)))] [.int (VX10_span_5 p1 p2 p3 p4 p5 p6 p7 μ)] (muX10_span_4 p1 p2 p3 p4 p5 p6 p7 μ) ?_ (fun hJ => ?_)
        · refine r_istore [(8, _), (12, _), (0, _), (1, _), (2, _), (3, _), (4, _), (5, _), (6, _), (7, _), (9, _), (10, _), (11, _)] dX10_span_120 (Nat.le_of_ble_eq_true rfl) rfl ?_
          refine r_iload dX10_span_122 10 rfl ?_
          refine r_iload dX10_span_124 1 rfl ?_
          refine r_csI (ok_X10_more hG (SX10_span_73 p1 p2 p3 p4 p5 p6 p7 μ).2.1 (F_X10_goneIn 522 (muX10_span_4 p1 p2 p3 p4 p5 p6 p7 μ)) (muX10_span_4 p1 p2 p3 p4 p5 p6 p7 μ)) lX10_252 dX10_span_126 (by decide) (Nat.le_of_ble_eq_true rfl) rfl (Nat.le_of_ble_eq_true rfl) ?_
          refine r_istore [(9, _), (8, _), (12, _), (0, _), (1, _), (2, _), (3, _), (4, _), (5, _), (6, _), (7, _), (10, _), (11, _)] dX10_span_129 (Nat.le_of_ble_eq_true rfl) rfl ?_
          refine r_iload dX10_span_131 11 rfl ?_
          refine r_aload_n dX10_span_133 3 rfl ?_
          refine r_getR 522 fX10_76 (hG.lt (by decide)) sh57 fs57_32 dX10_span_134 ?_
          refine r_iconst 0 dX10_span_137 rfl ?_
          refine r_iload dX10_span_138 10 rfl ?_
          refine r_iadd dX10_span_140 ?_
          have hs8 := hP.1
          replace hP := hP.2
          refine r_iald (hG.lt (by decide)) sh522 hs8 dX10_span_141 ?_
          refine r_iconst (-1) dX10_span_142 rfl ?_
          refine r_join 151 [(9, .int (F_X10_more (SX10_span_73 p1 p2 p3 p4 p5 p6 p7 μ).2.1 (F_X10_goneIn 522 (muX10_span_4 p1 p2 p3 p4 p5 p6 p7 μ)) (muX10_span_4 p1 p2 p3 p4 p5 p6 p7 μ))), (8, .int (VX10_span_5 p1 p2 p3 p4 p5 p6 p7 μ)), (12, .int (F_X10_goneIn 522 (muX10_span_4 p1 p2 p3 p4 p5 p6 p7 μ))), (0, .ref (ga G 57)), (1, .int p1), (2, .int p2), (3, .int p3), (4, .int p4), (5, .int p5), (6, .int p6), (7, .int p7), (10, .int (SX10_span_73 p1 p2 p3 p4 p5 p6 p7 μ).2.2.1), (11, .int (nI (NX10_span_73 p1 p2 p3 p4 p5 p6 p7 μ)))] [.int (VX10_span_6 p1 p2 p3 p4 p5 p6 p7 μ), .int (SX10_span_73 p1 p2 p3 p4 p5 p6 p7 μ).2.2.1] (muX10_span_4 p1 p2 p3 p4 p5 p6 p7 μ) ?_ (fun hJ => ?_)
          · refine r_iadd dX10_span_151 ?_
            refine r_istore [(10, _), (9, _), (8, _), (12, _), (0, _), (1, _), (2, _), (3, _), (4, _), (5, _), (6, _), (7, _), (11, _)] dX10_span_152 (Nat.le_of_ble_eq_true rfl) rfl ?_
            refine r_iinc ((nI (NX10_span_73 p1 p2 p3 p4 p5 p6 p7 μ)) + 1) [(11, _), (10, _), (9, _), (8, _), (12, _), (0, _), (1, _), (2, _), (3, _), (4, _), (5, _), (6, _), (7, _)] dX10_span_154 12 rfl rfl (Nat.le_of_ble_eq_true rfl) rfl ?_
            refine r_goto 73 dX10_span_157 (by decide) ?_
            exact hP.elim
          · refine r_icmp_eq 150 dX10_span_143 (by decide) (fun c3 => ?_) (fun c3 => ?_)
            · refine r_iconst 0 dX10_span_150 rfl ?_
              have e : (VX10_span_6 p1 p2 p3 p4 p5 p6 p7 μ) = 0 := by unfold VX10_span_6; rw [if_pos c3]
              rw [e] at hJ
              exact r_sub [0, 1, 2, 3, 4, 5, 6, 7, 8, 9, 10, 11, 12] rfl hJ
            · refine r_iconst 1 dX10_span_146 rfl ?_
              refine r_goto 151 dX10_span_147 (by decide) ?_
              have e : (VX10_span_6 p1 p2 p3 p4 p5 p6 p7 μ) = 1 := by unfold VX10_span_6; rw [if_neg c3]
              rw [e] at hJ
              exact r_sub [0, 1, 2, 3, 4, 5, 6, 7, 8, 9, 10, 11, 12] rfl hJ
        · refine r_icmp_ne 113 dX10_span_105 (by decide) (fun c3 => ?_) (fun c3 => ?_)
          · refine r_iload dX10_span_113 9 rfl ?_
            refine r_iload dX10_span_115 0 rfl ?_
            refine r_csI (ok_X10_less hG (SX10_span_73 p1 p2 p3 p4 p5 p6 p7 μ).1 (F_X10_goneIn 522 (muX10_span_4 p1 p2 p3 p4 p5 p6 p7 μ)) (muX10_span_4 p1 p2 p3 p4 p5 p6 p7 μ)) lX10_249 dX10_span_117 (by decide) (Nat.le_of_ble_eq_true rfl) rfl (Nat.le_of_ble_eq_true rfl) ?_
            have e : (VX10_span_5 p1 p2 p3 p4 p5 p6 p7 μ) = (F_X10_less (SX10_span_73 p1 p2 p3 p4 p5 p6 p7 μ).1 (F_X10_goneIn 522 (muX10_span_4 p1 p2 p3 p4 p5 p6 p7 μ)) (muX10_span_4 p1 p2 p3 p4 p5 p6 p7 μ)) := by unfold VX10_span_5; rw [if_pos c3]
            rw [e] at hJ
            exact r_sub [0, 1, 2, 3, 4, 5, 6, 7, 8, 9, 10, 11, 12] rfl hJ
          · refine r_iload dX10_span_108 0 rfl ?_
            refine r_goto 120 dX10_span_110 (by decide) ?_
            have e : (VX10_span_5 p1 p2 p3 p4 p5 p6 p7 μ) = (F_X10_goneIn 522 (muX10_span_4 p1 p2 p3 p4 p5 p6 p7 μ)) := by unfold VX10_span_5; rw [if_neg (not_not_intro c3)]
            rw [e] at hJ
            exact r_sub [0, 1, 2, 3, 4, 5, 6, 7, 8, 9, 10, 11, 12] rfl hJ
    · replace hP := hP.2 c1
      refine r_iconst 0 dX10_span_59 rfl ?_
      exact r_ireturn _ dX10_span_60 rfl rfl ⟨congrArg (fun z => some (Value.int z)) (by unfold F_X10_span; rw [if_neg c1]), by unfold M_X10_span; rw [if_neg c1]⟩
  · refine r_if_eq 46 dX10_span_13 (by decide) (fun c1 => ?_) (fun c1 => ?_)
    · refine r_iconst 1 dX10_span_46 rfl ?_
      refine r_goto 51 dX10_span_47 (by decide) ?_
      have e : (VX10_span_2 p1 p2 p3 p4 p5 p6 p7 μ) = 1 := by unfold VX10_span_2; rw [if_pos c1]
      rw [e] at hJ
      exact r_sub [0, 1, 2, 3, 4, 5, 6, 7] rfl hJ
    · refine r_iload_n dX10_span_16 3 rfl ?_
      refine r_iload dX10_span_17 4 rfl ?_
      refine r_iload dX10_span_19 5 rfl ?_
      refine r_csI (ok_X10_isYear hG p3 p4 p5 (muX10_span_1 p1 p2 p3 p4 p5 p6 p7 μ)) lX10_407 dX10_span_21 (by decide) (Nat.le_of_ble_eq_true rfl) rfl (Nat.le_of_ble_eq_true rfl) ?_
      refine r_if_eq 46 dX10_span_24 (by decide) (fun c2 => ?_) (fun c2 => ?_)
      · refine r_iconst 1 dX10_span_46 rfl ?_
        refine r_goto 51 dX10_span_47 (by decide) ?_
        have e : (VX10_span_2 p1 p2 p3 p4 p5 p6 p7 μ) = 1 := by unfold VX10_span_2; rw [if_neg c1, if_pos c2]
        rw [e] at hJ
        exact r_sub [0, 1, 2, 3, 4, 5, 6, 7] rfl hJ
      · refine r_iload dX10_span_27 6 rfl ?_
        refine r_iconst 0 dX10_span_29 rfl ?_
        refine r_iconst 2 dX10_span_30 rfl ?_
        refine r_csI (ok_X10_isIn hG p6 0 2 (muX10_span_1 p1 p2 p3 p4 p5 p6 p7 μ)) lX10_137 dX10_span_31 (by decide) (Nat.le_of_ble_eq_true rfl) rfl (Nat.le_of_ble_eq_true rfl) ?_
        refine r_if_eq 46 dX10_span_34 (by decide) (fun c3 => ?_) (fun c3 => ?_)
        · refine r_iconst 1 dX10_span_46 rfl ?_
          refine r_goto 51 dX10_span_47 (by decide) ?_
          have e : (VX10_span_2 p1 p2 p3 p4 p5 p6 p7 μ) = 1 := by unfold VX10_span_2; rw [if_neg c1, if_neg c2, if_pos c3]
          rw [e] at hJ
          exact r_sub [0, 1, 2, 3, 4, 5, 6, 7] rfl hJ
        · refine r_aload_n dX10_span_37 0 rfl ?_
          refine r_iload dX10_span_38 7 rfl ?_
          refine r_cvI (ok_X10_isThing hG p7 (muX10_span_1 p1 p2 p3 p4 p5 p6 p7 μ)) lX10_350 (hG.lt (by decide)) sh57 ⟨_, _, rfl⟩ dX10_span_40 (by decide) (Nat.le_of_ble_eq_true rfl) rfl (Nat.le_of_ble_eq_true rfl) ?_
          refine r_if_ne 50 dX10_span_43 (by decide) (fun c4 => ?_) (fun c4 => ?_)
          · refine r_iconst 0 dX10_span_50 rfl ?_
            have e : (VX10_span_2 p1 p2 p3 p4 p5 p6 p7 μ) = 0 := by unfold VX10_span_2; rw [if_neg c1, if_neg c2, if_neg c3, if_pos c4]
            rw [e] at hJ
            exact r_sub [0, 1, 2, 3, 4, 5, 6, 7] rfl hJ
          · refine r_iconst 1 dX10_span_46 rfl ?_
            refine r_goto 51 dX10_span_47 (by decide) ?_
            have e : (VX10_span_2 p1 p2 p3 p4 p5 p6 p7 μ) = 1 := by unfold VX10_span_2; rw [if_neg c1, if_neg c2, if_neg c3, if_neg (not_not_intro c4)]
            rw [e] at hJ
            exact r_sub [0, 1, 2, 3, 4, 5, 6, 7] rfl hJ
