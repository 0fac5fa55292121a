def muX10_beginsAnew_2_1 (i : Nat) (s : Mem) : Mem := (upm s 61 (ix (nI i)) (s 60 (ix (nI i))))
def g_X10_beginsAnew_2  (i : Nat) (s : Mem) : Mem := (muX10_beginsAnew_2_1 i s)
def Pb_X10_beginsAnew_2  (i : Nat) (s : Mem) : Prop := ((6 ≤ (nI i) → False) ∧ ((nI i) < 6 → (vp_in (nI i) 6) ∧ vp_in (nI i) 6))
set_option maxRecDepth 20000 in
set_option maxHeartbeats 2000000 in
theorem lp_X10_beginsAnew_2 {G : SG} (hG : GK 548 G)   (s0 : Mem) (N : Nat) (sN : Mem) (eN : sN = fo N g_X10_beginsAnew_2 s0) (hN : ∀ i, i < N → Pb_X10_beginsAnew_2  i (fo i g_X10_beginsAnew_2 s0)) {t : Nat} {Q : PQ} {X : PX} (h : R G mX10_beginsAnew 2 [(0, .ref (ga G 57)), (1, .int (nI N))] [] sN t Q X) : R G mX10_beginsAnew 2 [(0, .ref (ga G 57)), (1, .int 0)] [] s0 t Q X := by
  subst eN
  refine down_i N (fun i => R G mX10_beginsAnew 2 [(0, .ref (ga G 57)), (1, .int (nI i))] [] (fo i g_X10_beginsAnew_2 s0) t Q X) h (fun i hi hS => ?_)
  have hP := hN i hi
  rw [fo_succ] at hS
  rw [nI_succ] at hS
  generalize fo i g_X10_beginsAnew_2 s0 = s at hS hP ⊢
  unfold Pb_X10_beginsAnew_2 at hP
  refine r_iload_n dX10_beginsAnew_2 1 rfl ?_
  refine r_bipush 6 dX10_beginsAnew_3 rfl ?_
  refine r_icmp_ge 26 dX10_beginsAnew_5 (by decide) (fun c1 => ?_) (fun c1 => ?_)
  · replace hP := hP.1 c1
    exact hP.elim
  · replace hP := hP.2 c1
    refine r_aload_n dX10_beginsAnew_8 0 rfl ?_
    refine r_getR 61 fX10_23 (hG.lt (by decide)) sh57 fs57_12 dX10_beginsAnew_9 ?_
    refine r_iload_n dX10_beginsAnew_12 1 rfl ?_
    refine r_aload_n dX10_beginsAnew_13 0 rfl ?_
    refine r_getR 60 fX10_20 (hG.lt (by decide)) sh57 fs57_11 dX10_beginsAnew_14 ?_
    refine r_iload_n dX10_beginsAnew_17 1 rfl ?_
    have hs1 := hP.1
    replace hP := hP.2
    refine r_iald (hG.lt (by decide)) sh60 hs1 dX10_beginsAnew_18 ?_
    have hs2 := hP
    refine r_iast (hG.lt (by decide)) sh61 hs2 dX10_beginsAnew_19 ?_
    refine r_mu (muX10_beginsAnew_2_1 i s) rfl ?_
    refine r_iinc ((nI i) + 1) [(1, _), (0, _)] dX10_beginsAnew_20 1 rfl rfl (Nat.le_of_ble_eq_true rfl) rfl ?_
    refine r_goto 2 dX10_beginsAnew_23 (by decide) ?_
    have e : g_X10_beginsAnew_2  i s = (muX10_beginsAnew_2_1 i s) := by unfold g_X10_beginsAnew_2; rfl
    rw [e] at hS
    exact r_sub [1, 0] rfl hS
def NX10_beginsAnew_2 (μ : Mem) : Nat := 6
def SX10_beginsAnew_2 (μ : Mem) : Mem := fo (NX10_beginsAnew_2 μ) g_X10_beginsAnew_2 μ
def muX10_beginsAnew_28_1 (i : Nat) (s : Mem) : Mem := (upm s 63 (ix (nI i)) (s 62 (ix (nI i))))
def g_X10_beginsAnew_28  (i : Nat) (s : Mem) : Mem := (muX10_beginsAnew_28_1 i s)
def Pb_X10_beginsAnew_28  (i : Nat) (s : Mem) : Prop := (((s 61 0) ≤ (nI i) → False) ∧ ((nI i) < (s 61 0) → (vp_in (nI i) 6) ∧ vp_in (nI i) 6))
set_option maxRecDepth 20000 in
set_option maxHeartbeats 2000000 in
theorem lp_X10_beginsAnew_28 {G : SG} (hG : GK 548 G)   (s0 : Mem) (N : Nat) (sN : Mem) (eN : sN = fo N g_X10_beginsAnew_28 s0) (hN : ∀ i, i < N → Pb_X10_beginsAnew_28  i (fo i g_X10_beginsAnew_28 s0)) {t : Nat} {Q : PQ} {X : PX} (h : R G mX10_beginsAnew 28 [(0, .ref (ga G 57)), (1, .int (nI N))] [] sN t Q X) : R G mX10_beginsAnew 28 [(0, .ref (ga G 57)), (1, .int 0)] [] s0 t Q X := by
  subst eN
  refine down_i N (fun i => R G mX10_beginsAnew 28 [(0, .ref (ga G 57)), (1, .int (nI i))] [] (fo i g_X10_beginsAnew_28 s0) t Q X) h (fun i hi hS => ?_)
  have hP := hN i hi
  rw [fo_succ] at hS
  rw [nI_succ] at hS
  generalize fo i g_X10_beginsAnew_28 s0 = s at hS hP ⊢
  unfold Pb_X10_beginsAnew_28 at hP
  refine r_iload_n dX10_beginsAnew_28 1 rfl ?_
  refine r_aload_n dX10_beginsAnew_29 0 rfl ?_
  refine r_getR 61 fX10_23 (hG.lt (by decide)) sh57 fs57_12 dX10_beginsAnew_30 ?_
  refine r_iconst 0 dX10_beginsAnew_33 rfl ?_
  refine r_ialdK 0 rfl (hG.lt (by decide)) sh61 (vp_of (by decide) (by decide)) dX10_beginsAnew_34 ?_
  refine r_icmp_ge 56 dX10_beginsAnew_35 (by decide) (fun c1 => ?_) (fun c1 => ?_)
  · replace hP := hP.1 c1
    exact hP.elim
  · replace hP := hP.2 c1
    refine r_aload_n dX10_beginsAnew_38 0 rfl ?_
    refine r_getR 63 fX10_29 (hG.lt (by decide)) sh57 fs57_14 dX10_beginsAnew_39 ?_
    refine r_iload_n dX10_beginsAnew_42 1 rfl ?_
    refine r_aload_n dX10_beginsAnew_43 0 rfl ?_
    refine r_getR 62 fX10_26 (hG.lt (by decide)) sh57 fs57_13 dX10_beginsAnew_44 ?_
    refine r_iload_n dX10_beginsAnew_47 1 rfl ?_
    have hs1 := hP.1
    replace hP := hP.2
    refine r_iald (hG.lt (by decide)) sh62 hs1 dX10_beginsAnew_48 ?_
    have hs2 := hP
    refine r_iast (hG.lt (by decide)) sh63 hs2 dX10_beginsAnew_49 ?_
    refine r_mu (muX10_beginsAnew_28_1 i s) rfl ?_
    refine r_iinc ((nI i) + 1) [(1, _), (0, _)] dX10_beginsAnew_50 1 rfl rfl (Nat.le_of_ble_eq_true rfl) rfl ?_
    refine r_goto 28 dX10_beginsAnew_53 (by decide) ?_
    have e : g_X10_beginsAnew_28  i s = (muX10_beginsAnew_28_1 i s) := by unfold g_X10_beginsAnew_28; rfl
    rw [e] at hS
    exact r_sub [1, 0] rfl hS
def NX10_beginsAnew_28 (μ : Mem) : Nat := ix ((SX10_beginsAnew_2 μ) 61 0)
def SX10_beginsAnew_28 (μ : Mem) : Mem := fo (NX10_beginsAnew_28 μ) g_X10_beginsAnew_28 (SX10_beginsAnew_2 μ)
def muX10_beginsAnew_58_1 (i : Nat) (s : Mem) : Mem := (upm s 65 (ix (nI i)) (s 64 (ix (nI i))))
def g_X10_beginsAnew_58  (i : Nat) (s : Mem) : Mem := (muX10_beginsAnew_58_1 i s)
def Pb_X10_beginsAnew_58  (i : Nat) (s : Mem) : Prop := (((s 61 2) ≤ (nI i) → False) ∧ ((nI i) < (s 61 2) → (vp_in (nI i) 12) ∧ vp_in (nI i) 12))
set_option maxRecDepth 20000 in
set_option maxHeartbeats 2000000 in
theorem lp_X10_beginsAnew_58 {G : SG} (hG : GK 548 G)   (s0 : Mem) (N : Nat) (sN : Mem) (eN : sN = fo N g_X10_beginsAnew_58 s0) (hN : ∀ i, i < N → Pb_X10_beginsAnew_58  i (fo i g_X10_beginsAnew_58 s0)) {t : Nat} {Q : PQ} {X : PX} (h : R G mX10_beginsAnew 58 [(0, .ref (ga G 57)), (1, .int (nI N))] [] sN t Q X) : R G mX10_beginsAnew 58 [(0, .ref (ga G 57)), (1, .int 0)] [] s0 t Q X := by
  subst eN
  refine down_i N (fun i => R G mX10_beginsAnew 58 [(0, .ref (ga G 57)), (1, .int (nI i))] [] (fo i g_X10_beginsAnew_58 s0) t Q X) h (fun i hi hS => ?_)
  have hP := hN i hi
  rw [fo_succ] at hS
  rw [nI_succ] at hS
  generalize fo i g_X10_beginsAnew_58 s0 = s at hS hP ⊢
  unfold Pb_X10_beginsAnew_58 at hP
  refine r_iload_n dX10_beginsAnew_58 1 rfl ?_
  refine r_aload_n dX10_beginsAnew_59 0 rfl ?_
  refine r_getR 61 fX10_23 (hG.lt (by decide)) sh57 fs57_12 dX10_beginsAnew_60 ?_
  refine r_iconst 2 dX10_beginsAnew_63 rfl ?_
  refine r_ialdK 2 rfl (hG.lt (by decide)) sh61 (vp_of (by decide) (by decide)) dX10_beginsAnew_64 ?_
  refine r_icmp_ge 86 dX10_beginsAnew_65 (by decide) (fun c1 => ?_) (fun c1 => ?_)
  · replace hP := hP.1 c1
    exact hP.elim
  · replace hP := hP.2 c1
    refine r_aload_n dX10_beginsAnew_68 0 rfl ?_
    refine r_getR 65 fX10_35 (hG.lt (by decide)) sh57 fs57_16 dX10_beginsAnew_69 ?_
    refine r_iload_n dX10_beginsAnew_72 1 rfl ?_
    refine r_aload_n dX10_beginsAnew_73 0 rfl ?_
    refine r_getR 64 fX10_32 (hG.lt (by decide)) sh57 fs57_15 dX10_beginsAnew_74 ?_
    refine r_iload_n dX10_beginsAnew_77 1 rfl ?_
    have hs1 := hP.1
    replace hP := hP.2
    refine r_iald (hG.lt (by decide)) sh64 hs1 dX10_beginsAnew_78 ?_
    have hs2 := hP
    refine r_iast (hG.lt (by decide)) sh65 hs2 dX10_beginsAnew_79 ?_
    refine r_mu (muX10_beginsAnew_58_1 i s) rfl ?_
    refine r_iinc ((nI i) + 1) [(1, _), (0, _)] dX10_beginsAnew_80 1 rfl rfl (Nat.le_of_ble_eq_true rfl) rfl ?_
    refine r_goto 58 dX10_beginsAnew_83 (by decide) ?_
    have e : g_X10_beginsAnew_58  i s = (muX10_beginsAnew_58_1 i s) := by unfold g_X10_beginsAnew_58; rfl
    rw [e] at hS
    exact r_sub [1, 0] rfl hS
def NX10_beginsAnew_58 (μ : Mem) : Nat := ix ((SX10_beginsAnew_28 μ) 61 2)
def SX10_beginsAnew_58 (μ : Mem) : Mem := fo (NX10_beginsAnew_58 μ) g_X10_beginsAnew_58 (SX10_beginsAnew_28 μ)
def muX10_beginsAnew_1 (μ : Mem) : Mem := (M_X10_lays_T ((SX10_beginsAnew_58 μ) 61 1) (SX10_beginsAnew_58 μ))
def muX10_beginsAnew_2 (μ : Mem) : Mem := (M_X10_lays_F ((muX10_beginsAnew_1 μ) 61 3) (muX10_beginsAnew_1 μ))
def muX10_beginsAnew_122_1 (i : Nat) (s : Mem) : Mem := (upm s 521 (ix (nI i)) 0)
def g_X10_beginsAnew_122  (i : Nat) (s : Mem) : Mem := (muX10_beginsAnew_122_1 i s)
def Pb_X10_beginsAnew_122  (i : Nat) (s : Mem) : Prop := ((63 ≤ (nI i) → False) ∧ ((nI i) < 63 → vp_in (nI i) 63))
set_option maxRecDepth 20000 in
set_option maxHeartbeats 2000000 in
theorem lp_X10_beginsAnew_122 {G : SG} (hG : GK 548 G)   (s0 : Mem) (N : Nat) (sN : Mem) (eN : sN = fo N g_X10_beginsAnew_122 s0) (hN : ∀ i, i < N → Pb_X10_beginsAnew_122  i (fo i g_X10_beginsAnew_122 s0)) {t : Nat} {Q : PQ} {X : PX} (h : R G mX10_beginsAnew 122 [(0, .ref (ga G 57)), (1, .int (nI N))] [] sN t Q X) : R G mX10_beginsAnew 122 [(0, .ref (ga G 57)), (1, .int 0)] [] s0 t Q X := by
  subst eN
  refine down_i N (fun i => R G mX10_beginsAnew 122 [(0, .ref (ga G 57)), (1, .int (nI i))] [] (fo i g_X10_beginsAnew_122 s0) t Q X) h (fun i hi hS => ?_)
  have hP := hN i hi
  rw [fo_succ] at hS
  rw [nI_succ] at hS
  generalize fo i g_X10_beginsAnew_122 s0 = s at hS hP ⊢
  unfold Pb_X10_beginsAnew_122 at hP
  refine r_iload_n dX10_beginsAnew_122 1 rfl ?_
  refine r_bipush 63 dX10_beginsAnew_123 rfl ?_
  refine r_icmp_ge 141 dX10_beginsAnew_125 (by decide) (fun c1 => ?_) (fun c1 => ?_)
  · replace hP := hP.1 c1
    exact hP.elim
  · replace hP := hP.2 c1
    refine r_aload_n dX10_beginsAnew_128 0 rfl ?_
    refine r_getR 521 fX10_73 (hG.lt (by decide)) sh57 fs57_31 dX10_beginsAnew_129 ?_
    refine r_iload_n dX10_beginsAnew_132 1 rfl ?_
    refine r_iconst 0 dX10_beginsAnew_133 rfl ?_
    have hs1 := hP
    refine r_iast (hG.lt (by decide)) sh521 hs1 dX10_beginsAnew_134 ?_
    refine r_mu (muX10_beginsAnew_122_1 i s) rfl ?_
    refine r_iinc ((nI i) + 1) [(1, _), (0, _)] dX10_beginsAnew_135 1 rfl rfl (Nat.le_of_ble_eq_true rfl) rfl ?_
    refine r_goto 122 dX10_beginsAnew_138 (by decide) ?_
    have e : g_X10_beginsAnew_122  i s = (muX10_beginsAnew_122_1 i s) := by unfold g_X10_beginsAnew_122; rfl
    rw [e] at hS
    exact r_sub [1, 0] rfl hS
def NX10_beginsAnew_122 (μ : Mem) : Nat := 63
def SX10_beginsAnew_122 (μ : Mem) : Mem := fo (NX10_beginsAnew_122 μ) g_X10_beginsAnew_122 (muX10_beginsAnew_2 μ)
def muX10_beginsAnew_143_1 (i : Nat) (s : Mem) : Mem := (upm s 521 (ix (0 + (nI i))) (s (78 + (ix (nI i))) 0))
def muX10_beginsAnew_143_2 (i : Nat) (s : Mem) : Mem := (upm (muX10_beginsAnew_143_1 i s) 521 (ix (40 + (nI i))) ((muX10_beginsAnew_143_1 i s) (78 + (ix (nI i))) 3))
def g_X10_beginsAnew_143  (i : Nat) (s : Mem) : Mem := (muX10_beginsAnew_143_2 i s)
def Pb_X10_beginsAnew_143  (i : Nat) (s : Mem) : Prop := (((s 61 1) ≤ (nI i) → False) ∧ ((nI i) < (s 61 1) → (vp_in (nI i) 10) ∧ (vp_in (0 + (nI i)) 63) ∧ (vp_in (nI i) 10) ∧ vp_in (40 + (nI i)) 63))
set_option maxRecDepth 20000 in
set_option maxHeartbeats 2000000 in
theorem lp_X10_beginsAnew_143 {G : SG} (hG : GK 548 G)   (s0 : Mem) (N : Nat) (sN : Mem) (eN : sN = fo N g_X10_beginsAnew_143 s0) (hN : ∀ i, i < N → Pb_X10_beginsAnew_143  i (fo i g_X10_beginsAnew_143 s0)) {t : Nat} {Q : PQ} {X : PX} (h : R G mX10_beginsAnew 143 [(0, .ref (ga G 57)), (1, .int (nI N))] [] sN t Q X) : R G mX10_beginsAnew 143 [(0, .ref (ga G 57)), (1, .int 0)] [] s0 t Q X := by
  subst eN
  refine down_i N (fun i => R G mX10_beginsAnew 143 [(0, .ref (ga G 57)), (1, .int (nI i))] [] (fo i g_X10_beginsAnew_143 s0) t Q X) h (fun i hi hS => ?_)
  have hP := hN i hi
  rw [fo_succ] at hS
  rw [nI_succ] at hS
  generalize fo i g_X10_beginsAnew_143 s0 = s at hS hP ⊢
  unfold Pb_X10_beginsAnew_143 at hP
  refine r_iload_n dX10_beginsAnew_143 1 rfl ?_
  refine r_aload_n dX10_beginsAnew_144 0 rfl ?_
  refine r_getR 61 fX10_23 (hG.lt (by decide)) sh57 fs57_12 dX10_beginsAnew_145 ?_
  refine r_iconst 1 dX10_beginsAnew_148 rfl ?_
  refine r_ialdK 1 rfl (hG.lt (by decide)) sh61 (vp_of (by decide) (by decide)) dX10_beginsAnew_149 ?_
  refine r_icmp_ge 192 dX10_beginsAnew_150 (by decide) (fun c1 => ?_) (fun c1 => ?_)
  · replace hP := hP.1 c1
    exact hP.elim
  · replace hP := hP.2 c1
    refine r_aload_n dX10_beginsAnew_153 0 rfl ?_
    refine r_getR 521 fX10_73 (hG.lt (by decide)) sh57 fs57_31 dX10_beginsAnew_154 ?_
    refine r_iconst 0 dX10_beginsAnew_157 rfl ?_
    refine r_iload_n dX10_beginsAnew_158 1 rfl ?_
    refine r_iadd dX10_beginsAnew_159 ?_
    refine r_aload_n dX10_beginsAnew_160 0 rfl ?_
    refine r_getR 77 fX10_43 (hG.lt (by decide)) sh57 fs57_18 dX10_beginsAnew_161 ?_
    refine r_iload_n dX10_beginsAnew_164 1 rfl ?_
    have hs1 := hP.1
    replace hP := hP.2
    refine r_aald (hG.lt (by decide)) sh77 hs1 dX10_beginsAnew_165 ?_
    refine r_iconst 0 dX10_beginsAnew_166 rfl ?_
    refine r_ialdK 0 rfl (ltR (vp_ix hs1) (by decide) hG) (shr77 _ (vp_ix hs1)) (vp_of (by decide) (by decide)) dX10_beginsAnew_167 ?_
    have hs2 := hP.1
    replace hP := hP.2
    refine r_iast (hG.lt (by decide)) sh521 hs2 dX10_beginsAnew_168 ?_
    refine r_mu (muX10_beginsAnew_143_1 i s) rfl ?_
    refine r_aload_n dX10_beginsAnew_169 0 rfl ?_
    refine r_getR 521 fX10_73 (hG.lt (by decide)) sh57 fs57_31 dX10_beginsAnew_170 ?_
    refine r_bipush 40 dX10_beginsAnew_173 rfl ?_
    refine r_iload_n dX10_beginsAnew_175 1 rfl ?_
    refine r_iadd dX10_beginsAnew_176 ?_
    refine r_aload_n dX10_beginsAnew_177 0 rfl ?_
    refine r_getR 77 fX10_43 (hG.lt (by decide)) sh57 fs57_18 dX10_beginsAnew_178 ?_
    refine r_iload_n dX10_beginsAnew_181 1 rfl ?_
    have hs3 := hP.1
    replace hP := hP.2
    refine r_aald (hG.lt (by decide)) sh77 hs3 dX10_beginsAnew_182 ?_
    refine r_iconst 3 dX10_beginsAnew_183 rfl ?_
    refine r_ialdK 3 rfl (ltR (vp_ix hs3) (by decide) hG) (shr77 _ (vp_ix hs3)) (vp_of (by decide) (by decide)) dX10_beginsAnew_184 ?_
    have hs4 := hP
    refine r_iast (hG.lt (by decide)) sh521 hs4 dX10_beginsAnew_185 ?_
    refine r_mu (muX10_beginsAnew_143_2 i s) rfl ?_
    refine r_iinc ((nI i) + 1) [(1, _), (0, _)] dX10_beginsAnew_186 1 rfl rfl (Nat.le_of_ble_eq_true rfl) rfl ?_
    refine r_goto 143 dX10_beginsAnew_189 (by decide) ?_
    have e : g_X10_beginsAnew_143  i s = (muX10_beginsAnew_143_2 i s) := by unfold g_X10_beginsAnew_143; rfl
    rw [e] at hS
    exact r_sub [1, 0] rfl hS
def NX10_beginsAnew_143 (μ : Mem) : Nat := ix ((SX10_beginsAnew_122 μ) 61 1)
def SX10_beginsAnew_143 (μ : Mem) : Mem := fo (NX10_beginsAnew_143 μ) g_X10_beginsAnew_143 (SX10_beginsAnew_122 μ)
def muX10_beginsAnew_3 (μ : Mem) : Mem := (upm (SX10_beginsAnew_143 μ) 57 44 ((SX10_beginsAnew_143 μ) 61 4))
def muX10_beginsAnew_4 (μ : Mem) : Mem := (upm (muX10_beginsAnew_3 μ) 57 21 0)
def muX10_beginsAnew_5 (μ : Mem) : Mem := (upm (muX10_beginsAnew_4 μ) 57 38 0)
def muX10_beginsAnew_6 (μ : Mem) : Mem := (upm (muX10_beginsAnew_5 μ) 57 39 0)
def muX10_beginsAnew_7 (μ : Mem) : Mem := (upm (muX10_beginsAnew_6 μ) 57 40 0)
def muX10_beginsAnew_8 (μ : Mem) : Mem := (upm (muX10_beginsAnew_7 μ) 57 41 0)
def muX10_beginsAnew_9 (μ : Mem) : Mem := (upm (SX10_beginsAnew_143 μ) 521 (ix (0 + (nI (NX10_beginsAnew_143 μ)))) ((SX10_beginsAnew_143 μ) (78 + (ix (nI (NX10_beginsAnew_143 μ)))) 0))
def muX10_beginsAnew_10 (μ : Mem) : Mem := (upm (muX10_beginsAnew_9 μ) 521 (ix (40 + (nI (NX10_beginsAnew_143 μ)))) ((muX10_beginsAnew_9 μ) (78 + (ix (nI (NX10_beginsAnew_143 μ)))) 3))
def muX10_beginsAnew_11 (μ : Mem) : Mem := (upm (SX10_beginsAnew_122 μ) 521 (ix (nI (NX10_beginsAnew_122 μ))) 0)
def muX10_beginsAnew_12 (μ : Mem) : Mem := (upm (SX10_beginsAnew_58 μ) 65 (ix (nI (NX10_beginsAnew_58 μ))) ((SX10_beginsAnew_58 μ) 64 (ix (nI (NX10_beginsAnew_58 μ)))))
def muX10_beginsAnew_13 (μ : Mem) : Mem := (upm (SX10_beginsAnew_28 μ) 63 (ix (nI (NX10_beginsAnew_28 μ))) ((SX10_beginsAnew_28 μ) 62 (ix (nI (NX10_beginsAnew_28 μ)))))
def muX10_beginsAnew_14 (μ : Mem) : Mem := (upm (SX10_beginsAnew_2 μ) 61 (ix (nI (NX10_beginsAnew_2 μ))) ((SX10_beginsAnew_2 μ) 60 (ix (nI (NX10_beginsAnew_2 μ)))))
def M_X10_beginsAnew  (μ : Mem) : Mem := (muX10_beginsAnew_8 μ)
def P_X10_beginsAnew  (μ : Mem) : Prop := ((∀ j9, j9 < (NX10_beginsAnew_2 μ) → Pb_X10_beginsAnew_2  j9 (fo j9 g_X10_beginsAnew_2 μ)) ∧ ((6 ≤ (nI (NX10_beginsAnew_2 μ)) → ((∀ j9, j9 < (NX10_beginsAnew_28 μ) → Pb_X10_beginsAnew_28  j9 (fo j9 g_X10_beginsAnew_28 (SX10_beginsAnew_2 μ))) ∧ ((((SX10_beginsAnew_28 μ) 61 0) ≤ (nI (NX10_beginsAnew_28 μ)) → ((∀ j9, j9 < (NX10_beginsAnew_58 μ) → Pb_X10_beginsAnew_58  j9 (fo j9 g_X10_beginsAnew_58 (SX10_beginsAnew_28 μ))) ∧ ((((SX10_beginsAnew_58 μ) 61 2) ≤ (nI (NX10_beginsAnew_58 μ)) → ((P_X10_lays_T ((SX10_beginsAnew_58 μ) 61 1) (SX10_beginsAnew_58 μ)) ∧ ((P_X10_lays_F ((muX10_beginsAnew_1 μ) 61 3) (muX10_beginsAnew_1 μ)) ∧ ((∀ j9, j9 < (NX10_beginsAnew_122 μ) → Pb_X10_beginsAnew_122  j9 (fo j9 g_X10_beginsAnew_122 (muX10_beginsAnew_2 μ))) ∧ ((63 ≤ (nI (NX10_beginsAnew_122 μ)) → ((∀ j9, j9 < (NX10_beginsAnew_143 μ) → Pb_X10_beginsAnew_143  j9 (fo j9 g_X10_beginsAnew_143 (SX10_beginsAnew_122 μ))) ∧ ((((SX10_beginsAnew_143 μ) 61 1) ≤ (nI (NX10_beginsAnew_143 μ)) → True) ∧ ((nI (NX10_beginsAnew_143 μ)) < ((SX10_beginsAnew_143 μ) 61 1) → ((vp_in (nI (NX10_beginsAnew_143 μ)) 10) ∧ ((vp_in (0 + (nI (NX10_beginsAnew_143 μ))) 63) ∧ ((vp_in (nI (NX10_beginsAnew_143 μ)) 10) ∧ ((vp_in (40 + (nI (NX10_beginsAnew_143 μ))) 63) ∧ False)))))))) ∧ ((nI (NX10_beginsAnew_122 μ)) < 63 → ((vp_in (nI (NX10_beginsAnew_122 μ)) 63) ∧ False))))))) ∧ ((nI (NX10_beginsAnew_58 μ)) < ((SX10_beginsAnew_58 μ) 61 2) → ((vp_in (nI (NX10_beginsAnew_58 μ)) 12) ∧ ((vp_in (nI (NX10_beginsAnew_58 μ)) 12) ∧ False)))))) ∧ ((nI (NX10_beginsAnew_28 μ)) < ((SX10_beginsAnew_28 μ) 61 0) → ((vp_in (nI (NX10_beginsAnew_28 μ)) 6) ∧ ((vp_in (nI (NX10_beginsAnew_28 μ)) 6) ∧ False)))))) ∧ ((nI (NX10_beginsAnew_2 μ)) < 6 → ((vp_in (nI (NX10_beginsAnew_2 μ)) 6) ∧ ((vp_in (nI (NX10_beginsAnew_2 μ)) 6) ∧ False)))))
set_option maxRecDepth 20000 in
set_option maxHeartbeats 2000000 in
theorem ok_X10_beginsAnew {G : SG} (hG : GK 548 G)  (μ : Mem) (hP : P_X10_beginsAnew  μ) : OkF G mX10_beginsAnew [.ref (ga G 57)] μ none (M_X10_beginsAnew  μ) := by
  refine okF_of hG rfl rfl (Nat.le_of_ble_eq_true rfl) ?_
  unfold P_X10_beginsAnew at hP
  refine r_iconst 0 dX10_beginsAnew_0 rfl ?_
  refine r_istore_n [(1, _), (0, _)] dX10_beginsAnew_1 (Nat.le_of_ble_eq_true rfl) rfl ?_
  have hs1 := hP.1
  replace hP := hP.2
  refine r_sub [1, 0] rfl ?_
  refine lp_X10_beginsAnew_2 hG μ ((NX10_beginsAnew_2 μ)) (SX10_beginsAnew_2 μ) rfl hs1 ?_
  refine r_iload_n dX10_beginsAnew_2 1 rfl ?_
  refine r_bipush 6 dX10_beginsAnew_3 rfl ?_
  refine r_icmp_ge 26 dX10_beginsAnew_5 (by decide) (fun c1 => ?_) (fun c1 => ?_)
  · replace hP := hP.1 c1
    refine r_iconst 0 dX10_beginsAnew_26 rfl ?_
    refine r_istore_n [(1, _), (0, _)] dX10_beginsAnew_27 (Nat.le_of_ble_eq_true rfl) rfl ?_
    have hs4 := hP.1
    replace hP := hP.2
    refine r_sub [1, 0] rfl ?_
    refine lp_X10_beginsAnew_28 hG (SX10_beginsAnew_2 μ) ((NX10_beginsAnew_28 μ)) (SX10_beginsAnew_28 μ) rfl hs4 ?_
    refine r_iload_n dX10_beginsAnew_28 1 rfl ?_
    refine r_aload_n dX10_beginsAnew_29 0 rfl ?_
    refine r_getR 61 fX10_23 (hG.lt (by decide)) sh57 fs57_12 dX10_beginsAnew_30 ?_
    refine r_iconst 0 dX10_beginsAnew_33 rfl ?_
    refine r_ialdK 0 rfl (hG.lt (by decide)) sh61 (vp_of (by decide) (by decide)) dX10_beginsAnew_34 ?_
    refine r_icmp_ge 56 dX10_beginsAnew_35 (by decide) (fun c2 => ?_) (fun c2 => ?_)
    · replace hP := hP.1 c2
      refine r_iconst 0 dX10_beginsAnew_56 rfl ?_
      refine r_istore_n [(1, _), (0, _)] dX10_beginsAnew_57 (Nat.le_of_ble_eq_true rfl) rfl ?_
      have hs7 := hP.1
      replace hP := hP.2
      refine r_sub [1, 0] rfl ?_
      refine lp_X10_beginsAnew_58 hG (SX10_beginsAnew_28 μ) ((NX10_beginsAnew_58 μ)) (SX10_beginsAnew_58 μ) rfl hs7 ?_
      refine r_iload_n dX10_beginsAnew_58 1 rfl ?_
      refine r_aload_n dX10_beginsAnew_59 0 rfl ?_
      refine r_getR 61 fX10_23 (hG.lt (by decide)) sh57 fs57_12 dX10_beginsAnew_60 ?_
      refine r_iconst 2 dX10_beginsAnew_63 rfl ?_
      refine r_ialdK 2 rfl (hG.lt (by decide)) sh61 (vp_of (by decide) (by decide)) dX10_beginsAnew_64 ?_
      refine r_icmp_ge 86 dX10_beginsAnew_65 (by decide) (fun c3 => ?_) (fun c3 => ?_)
      · replace hP := hP.1 c3
        refine r_aload_n dX10_beginsAnew_86 0 rfl ?_
        refine r_getR 66 fX10_40 (hG.lt (by decide)) sh57 fs57_17 dX10_beginsAnew_87 ?_
        refine r_aload_n dX10_beginsAnew_90 0 rfl ?_
        refine r_getR 77 fX10_43 (hG.lt (by decide)) sh57 fs57_18 dX10_beginsAnew_91 ?_
        refine r_aload_n dX10_beginsAnew_94 0 rfl ?_
        refine r_getR 61 fX10_23 (hG.lt (by decide)) sh57 fs57_12 dX10_beginsAnew_95 ?_
        refine r_iconst 1 dX10_beginsAnew_98 rfl ?_
        refine r_ialdK 1 rfl (hG.lt (by decide)) sh61 (vp_of (by decide) (by decide)) dX10_beginsAnew_99 ?_
        have hs10 := hP.1
        replace hP := hP.2
        refine r_csV (ok_X10_lays_T hG ((SX10_beginsAnew_58 μ) 61 1) (SX10_beginsAnew_58 μ) hs10) lX10_199 dX10_beginsAnew_100 (by decide) (Nat.le_of_ble_eq_true rfl) rfl (Nat.le_of_ble_eq_true rfl) ?_
        refine r_mu (muX10_beginsAnew_1 μ) rfl ?_
        refine r_aload_n dX10_beginsAnew_103 0 rfl ?_
        refine r_getR 88 fX10_46 (hG.lt (by decide)) sh57 fs57_19 dX10_beginsAnew_104 ?_
        refine r_aload_n dX10_beginsAnew_107 0 rfl ?_
        refine r_getR 95 fX10_49 (hG.lt (by decide)) sh57 fs57_20 dX10_beginsAnew_108 ?_
        refine r_aload_n dX10_beginsAnew_111 0 rfl ?_
        refine r_getR 61 fX10_23 (hG.lt (by decide)) sh57 fs57_12 dX10_beginsAnew_112 ?_
        refine r_iconst 3 dX10_beginsAnew_115 rfl ?_
        refine r_ialdK 3 rfl (hG.lt (by decide)) sh61 (vp_of (by decide) (by decide)) dX10_beginsAnew_116 ?_
        have hs11 := hP.1
        replace hP := hP.2
        refine r_csV (ok_X10_lays_F hG ((muX10_beginsAnew_1 μ) 61 3) (muX10_beginsAnew_1 μ) hs11) lX10_199 dX10_beginsAnew_117 (by decide) (Nat.le_of_ble_eq_true rfl) rfl (Nat.le_of_ble_eq_true rfl) ?_
        refine r_mu (muX10_beginsAnew_2 μ) rfl ?_
        refine r_iconst 0 dX10_beginsAnew_120 rfl ?_
        refine r_istore_n [(1, _), (0, _)] dX10_beginsAnew_121 (Nat.le_of_ble_eq_true rfl) rfl ?_
        have hs12 := hP.1
        replace hP := hP.2
        refine r_sub [1, 0] rfl ?_
        refine lp_X10_beginsAnew_122 hG (muX10_beginsAnew_2 μ) ((NX10_beginsAnew_122 μ)) (SX10_beginsAnew_122 μ) rfl hs12 ?_
        refine r_iload_n dX10_beginsAnew_122 1 rfl ?_
        refine r_bipush 63 dX10_beginsAnew_123 rfl ?_
        refine r_icmp_ge 141 dX10_beginsAnew_125 (by decide) (fun c4 => ?_) (fun c4 => ?_)
        · replace hP := hP.1 c4
          refine r_iconst 0 dX10_beginsAnew_141 rfl ?_
          refine r_istore_n [(1, _), (0, _)] dX10_beginsAnew_142 (Nat.le_of_ble_eq_true rfl) rfl ?_
          have hs14 := hP.1
          replace hP := hP.2
          refine r_sub [1, 0] rfl ?_
          refine lp_X10_beginsAnew_143 hG (SX10_beginsAnew_122 μ) ((NX10_beginsAnew_143 μ)) (SX10_beginsAnew_143 μ) rfl hs14 ?_
          refine r_iload_n dX10_beginsAnew_143 1 rfl ?_
          refine r_aload_n dX10_beginsAnew_144 0 rfl ?_
          refine r_getR 61 fX10_23 (hG.lt (by decide)) sh57 fs57_12 dX10_beginsAnew_145 ?_
          refine r_iconst 1 dX10_beginsAnew_148 rfl ?_
          refine r_ialdK 1 rfl (hG.lt (by decide)) sh61 (vp_of (by decide) (by decide)) dX10_beginsAnew_149 ?_
          refine r_icmp_ge 192 dX10_beginsAnew_150 (by decide) (fun c5 => ?_) (fun c5 => ?_)
          · replace hP := hP.1 c5
            refine r_aload_n dX10_beginsAnew_192 0 rfl ?_
            refine r_aload_n dX10_beginsAnew_193 0 rfl ?_
            refine r_getR 61 fX10_23 (hG.lt (by decide)) sh57 fs57_12 dX10_beginsAnew_194 ?_
            refine r_iconst 4 dX10_beginsAnew_197 rfl ?_
            refine r_ialdK 4 rfl (hG.lt (by decide)) sh61 (vp_of (by decide) (by decide)) dX10_beginsAnew_198 ?_
            refine r_put fiX10_203 (hG.lt (by decide)) sh57 fs57_44 dX10_beginsAnew_199 ?_
            refine r_mu (muX10_beginsAnew_3 μ) rfl ?_
            refine r_aload_n dX10_beginsAnew_202 0 rfl ?_
            refine r_iconst 0 dX10_beginsAnew_203 rfl ?_
            refine r_put fiX10_206 (hG.lt (by decide)) sh57 fs57_21 dX10_beginsAnew_204 ?_
            refine r_mu (muX10_beginsAnew_4 μ) rfl ?_
            refine r_aload_n dX10_beginsAnew_207 0 rfl ?_
            refine r_iconst 0 dX10_beginsAnew_208 rfl ?_
            refine r_put fiX10_209 (hG.lt (by decide)) sh57 fs57_38 dX10_beginsAnew_209 ?_
            refine r_mu (muX10_beginsAnew_5 μ) rfl ?_
            refine r_aload_n dX10_beginsAnew_212 0 rfl ?_
            refine r_iconst 0 dX10_beginsAnew_213 rfl ?_
            refine r_put fiX10_212 (hG.lt (by decide)) sh57 fs57_39 dX10_beginsAnew_214 ?_
            refine r_mu (muX10_beginsAnew_6 μ) rfl ?_
            refine r_aload_n dX10_beginsAnew_217 0 rfl ?_
            refine r_iconst 0 dX10_beginsAnew_218 rfl ?_
            refine r_put fiX10_215 (hG.lt (by decide)) sh57 fs57_40 dX10_beginsAnew_219 ?_
            refine r_mu (muX10_beginsAnew_7 μ) rfl ?_
            refine r_aload_n dX10_beginsAnew_222 0 rfl ?_
            refine r_iconst 0 dX10_beginsAnew_223 rfl ?_
            refine r_put fiX10_218 (hG.lt (by decide)) sh57 fs57_41 dX10_beginsAnew_224 ?_
            refine r_mu (muX10_beginsAnew_8 μ) rfl ?_
            exact r_return dX10_beginsAnew_227 rfl ⟨rfl, rfl⟩
          · replace hP := hP.2 c5
            refine r_aload_n dX10_beginsAnew_153 0 rfl ?_
            refine r_getR 521 fX10_73 (hG.lt (by decide)) sh57 fs57_31 dX10_beginsAnew_154 ?_
            refine r_iconst 0 dX10_beginsAnew_157 rfl ?_
            refine r_iload_n dX10_beginsAnew_158 1 rfl ?_
            refine r_iadd dX10_beginsAnew_159 ?_
            refine r_aload_n dX10_beginsAnew_160 0 rfl ?_
            refine r_getR 77 fX10_43 (hG.lt (by decide)) sh57 fs57_18 dX10_beginsAnew_161 ?_
            refine r_iload_n dX10_beginsAnew_164 1 rfl ?_
            have hs19 := hP.1
            replace hP := hP.2
            refine r_aald (hG.lt (by decide)) sh77 hs19 dX10_beginsAnew_165 ?_
            refine r_iconst 0 dX10_beginsAnew_166 rfl ?_
            refine r_ialdK 0 rfl (ltR (vp_ix hs19) (by decide) hG) (shr77 _ (vp_ix hs19)) (vp_of (by decide) (by decide)) dX10_beginsAnew_167 ?_
            have hs20 := hP.1
            replace hP := hP.2
            refine r_iast (hG.lt (by decide)) sh521 hs20 dX10_beginsAnew_168 ?_
            refine r_mu (muX10_beginsAnew_9 μ) rfl ?_
            refine r_aload_n dX10_beginsAnew_169 0 rfl ?_
            refine r_getR 521 fX10_73 (hG.lt (by decide)) sh57 fs57_31 dX10_beginsAnew_170 ?_
            refine r_bipush 40 dX10_beginsAnew_173 rfl ?_
            refine r_iload_n dX10_beginsAnew_175 1 rfl ?_
            refine r_iadd dX10_beginsAnew_176 ?_
            refine r_aload_n dX10_beginsAnew_177 0 rfl ?_
            refine r_getR 77 fX10_43 (hG.lt (by decide)) sh57 fs57_18 dX10_beginsAnew_178 ?_
            refine r_iload_n dX10_beginsAnew_181 1 rfl ?_
            have hs21 := hP.1
            replace hP := hP.2
            refine r_aald (hG.lt (by decide)) sh77 hs21 dX10_beginsAnew_182 ?_
            refine r_iconst 3 dX10_beginsAnew_183 rfl ?_
            refine r_ialdK 3 rfl (ltR (vp_ix hs21) (by decide) hG) (shr77 _ (vp_ix hs21)) (vp_of (by decide) (by decide)) dX10_beginsAnew_184 ?_
            have hs22 := hP.1
            replace hP := hP.2
            refine r_iast (hG.lt (by decide)) sh521 hs22 dX10_beginsAnew_185 ?_
            refine r_mu (muX10_beginsAnew_10 μ) rfl ?_
            refine r_iinc ((nI (NX10_beginsAnew_143 μ)) + 1) [(1, _), (0, _)] dX10_beginsAnew_186 1 rfl rfl (Nat.le_of_ble_eq_true rfl) rfl ?_
            refine r_goto 143 dX10_beginsAnew_189 (by decide) ?_
            exact hP.elim
        · replace hP := hP.2 c4
          refine r_aload_n dX10_beginsAnew_128 0 rfl ?_
          refine r_getR 521 fX10_73 (hG.lt (by decide)) sh57 fs57_31 dX10_beginsAnew_129 ?_
          refine r_iload_n dX10_beginsAnew_132 1 rfl ?_
          refine r_iconst 0 dX10_beginsAnew_133 rfl ?_
          have hs23 := hP.1
          replace hP := hP.2
          refine r_iast (hG.lt (by decide)) sh521 hs23 dX10_beginsAnew_134 ?_
          refine r_mu (muX10_beginsAnew_11 μ) rfl ?_
          refine r_iinc ((nI (NX10_beginsAnew_122 μ)) + 1) [(1, _), (0, _)] dX10_beginsAnew_135 1 rfl rfl (Nat.le_of_ble_eq_true rfl) rfl ?_
          refine r_goto 122 dX10_beginsAnew_138 (by decide) ?_
          exact hP.elim
      · replace hP := hP.2 c3
        refine r_aload_n dX10_beginsAnew_68 0 rfl ?_
        refine r_getR 65 fX10_35 (hG.lt (by decide)) sh57 fs57_16 dX10_beginsAnew_69 ?_
        refine r_iload_n dX10_beginsAnew_72 1 rfl ?_
        refine r_aload_n dX10_beginsAnew_73 0 rfl ?_
        refine r_getR 64 fX10_32 (hG.lt (by decide)) sh57 fs57_15 dX10_beginsAnew_74 ?_
        refine r_iload_n dX10_beginsAnew_77 1 rfl ?_
        have hs24 := hP.1
        replace hP := hP.2
        refine r_iald (hG.lt (by decide)) sh64 hs24 dX10_beginsAnew_78 ?_
        have hs25 := hP.1
        replace hP := hP.2
        refine r_iast (hG.lt (by decide)) sh65 hs25 dX10_beginsAnew_79 ?_
        refine r_mu (muX10_beginsAnew_12 μ) rfl ?_
        refine r_iinc ((nI (NX10_beginsAnew_58 μ)) + 1) [(1, _), (0, _)] dX10_beginsAnew_80 1 rfl rfl (Nat.le_of_ble_eq_true rfl) rfl ?_
        refine r_goto 58 dX10_beginsAnew_83 (by decide) ?_
        exact hP.elim
    · replace hP := hP.2 c2
      refine r_aload_n dX10_beginsAnew_38 0 rfl ?_
      refine r_getR 63 fX10_29 (hG.lt (by decide)) sh57 fs57_14 dX10_beginsAnew_39 ?_
      refine r_iload_n dX10_beginsAnew_42 1 rfl ?_
      refine r_aload_n dX10_beginsAnew_43 0 rfl ?_
      refine r_getR 62 fX10_26 (hG.lt (by decide)) sh57 fs57_13 dX10_beginsAnew_44 ?_
      refine r_iload_n dX10_beginsAnew_47 1 rfl ?_
      have hs26 := hP.1
      replace hP := hP.2
      refine r_iald (hG.lt (by decide)) sh62 hs26 dX10_beginsAnew_48 ?_
      have hs27 := hP.1
      replace hP := hP.2
      refine r_iast (hG.lt (by decide)) sh63 hs27 dX10_beginsAnew_49 ?_
      refine r_mu (muX10_beginsAnew_13 μ) rfl ?_
      refine r_iinc ((nI (NX10_beginsAnew_28 μ)) + 1) [(1, _), (0, _)] dX10_beginsAnew_50 1 rfl rfl (Nat.le_of_ble_eq_true rfl) rfl ?_
      refine r_goto 28 dX10_beginsAnew_53 (by decide) ?_
      exact hP.elim
  · replace hP := hP.2 c1
    refine r_aload_n dX10_beginsAnew_8 0 rfl ?_
    refine r_getR 61 fX10_23 (hG.lt (by decide)) sh57 fs57_12 dX10_beginsAnew_9 ?_
    refine r_iload_n dX10_beginsAnew_12 1 rfl ?_
    refine r_aload_n dX10_beginsAnew_13 0 rfl ?_
    refine r_getR 60 fX10_20 (hG.lt (by decide)) sh57 fs57_11 dX10_beginsAnew_14 ?_
    refine r_iload_n dX10_beginsAnew_17 1 rfl ?_
    have hs28 := hP.1
    replace hP := hP.2
    refine r_iald (hG.lt (by decide)) sh60 hs28 dX10_beginsAnew_18 ?_
    have hs29 := hP.1
    replace hP := hP.2
    refine r_iast (hG.lt (by decide)) sh61 hs29 dX10_beginsAnew_19 ?_
    refine r_mu (muX10_beginsAnew_14 μ) rfl ?_
    refine r_iinc ((nI (NX10_beginsAnew_2 μ)) + 1) [(1, _), (0, _)] dX10_beginsAnew_20 1 rfl rfl (Nat.le_of_ble_eq_true rfl) rfl ?_
    refine r_goto 2 dX10_beginsAnew_23 (by decide) ?_
    exact hP.elim
def muX10_street_1 (p1 : Int32) (μ : Mem) : Mem := (upm μ 57 0 0)
def VX10_street_2 (p1 : Int32) (μ : Mem) : Int32 := (if (F_X10_isIn p1 0 ((muX10_street_1 p1 μ) 57 1) (muX10_street_1 p1 μ)) ≠ 0 then 0 else 1)
theorem bo_VX10_street_2 (p1 : Int32) (μ : Mem) : (VX10_street_2 p1 μ) = 0 ∨ (VX10_street_2 p1 μ) = 1 := by
  unfold VX10_street_2
  split
  · exact Or.inl rfl
  · exact Or.inr rfl
def muX10_street_3 (p1 : Int32) (μ : Mem) : Mem := (M_X10_bad (VX10_street_2 p1 μ) 1 1 (muX10_street_1 p1 μ))
def muX10_street_4 (p1 : Int32) (μ : Mem) : Mem := (M_X10_starts p1 (muX10_street_3 p1 μ))
def muX10_street_5 (p1 : Int32) (μ : Mem) : Mem := (M_X10_tellsNothing  (muX10_street_4 p1 μ))
def muX10_street_42_1 (v1 : Int32) (i : Nat) (s : Mem) : Mem := (M_X10_clause  s)
def muX10_street_42_2 (v1 : Int32) (i : Nat) (s : Mem) : Mem := (M_X10_blanks  (muX10_street_42_1 v1 i s))
def g_X10_street_42 (v1 : Int32) (i : Nat) (s : Mem) : Mem := (muX10_street_42_2 v1 i s)
def Pb_X10_street_42 (v1 : Int32) (i : Nat) (s : Mem) : Prop := (((s 57 5) ≠ 0 → False) ∧ ((s 57 5) = 0 → (((s 57 2) ≤ (s 57 4) → False) ∧ ((s 57 4) < (s 57 2) → (P_X10_clause  s) ∧ P_X10_blanks  (muX10_street_42_1 v1 i s)))))
def Cb_X10_street_42 (v1 : Int32) (i : Nat) (s : Mem) : Bool := (if (s 57 5) ≠ 0 then false else (if (s 57 2) ≤ (s 57 4) then false else true))
set_option maxRecDepth 20000 in
set_option maxHeartbeats 2000000 in
theorem lp_X10_street_42 {G : SG} (hG : GK 548 G)  (v1 : Int32) (s0 : Mem) (N : Nat) (sN : Mem) (eN : sN = fo N (g_X10_street_42 v1) s0) (hN : ∀ i, i < N → Pb_X10_street_42 v1 i (fo i (g_X10_street_42 v1) s0)) {t : Nat} {Q : PQ} {X : PX} (h : R G mX10_street 42 [(0, .ref (ga G 57)), (1, .int v1)] [] sN t Q X) : R G mX10_street 42 [(0, .ref (ga G 57)), (1, .int v1)] [] s0 t Q X := by
  subst eN
  refine down_i N (fun i => R G mX10_street 42 [(0, .ref (ga G 57)), (1, .int v1)] [] (fo i (g_X10_street_42 v1) s0) t Q X) h (fun i hi hS => ?_)
  have hP := hN i hi
  rw [fo_succ] at hS
  generalize fo i (g_X10_street_42 v1) s0 = s at hS hP ⊢
  unfold Pb_X10_street_42 at hP
  refine r_aload_n dX10_street_42 0 rfl ?_
  refine r_getI fX10_119 (hG.lt (by decide)) sh57 fs57_5 dX10_street_43 ?_
  refine r_if_ne 71 dX10_street_46 (by decide) (fun c1 => ?_) (fun c1 => ?_)
  · replace hP := hP.1 c1
    exact hP.elim
  · replace hP := hP.2 c1
    refine r_aload_n dX10_street_49 0 rfl ?_
    refine r_getI fX10_112 (hG.lt (by decide)) sh57 fs57_4 dX10_street_50 ?_
    refine r_aload_n dX10_street_53 0 rfl ?_
    refine r_getI fX10_109 (hG.lt (by decide)) sh57 fs57_2 dX10_street_54 ?_
    refine r_icmp_ge 71 dX10_street_57 (by decide) (fun c2 => ?_) (fun c2 => ?_)
    · replace hP := hP.1 c2
      exact hP.elim
    · replace hP := hP.2 c2
      refine r_aload_n dX10_street_60 0 rfl ?_
      have hs1 := hP.1
      replace hP := hP.2
      refine r_cvV (ok_X10_clause hG  s hs1) lX10_193 (hG.lt (by decide)) sh57 ⟨_, _, rfl⟩ dX10_street_61 (by decide) (Nat.le_of_ble_eq_true rfl) rfl (Nat.le_of_ble_eq_true rfl) ?_
      refine r_mu (muX10_street_42_1 v1 i s) rfl ?_
      refine r_aload_n dX10_street_64 0 rfl ?_
      have hs2 := hP
      refine r_cvV (ok_X10_blanks hG  (muX10_street_42_1 v1 i s) hs2) lX10_125 (hG.lt (by decide)) sh57 ⟨_, _, rfl⟩ dX10_street_65 (by decide) (Nat.le_of_ble_eq_true rfl) rfl (Nat.le_of_ble_eq_true rfl) ?_
      refine r_mu (muX10_street_42_2 v1 i s) rfl ?_
      refine r_goto 42 dX10_street_68 (by decide) ?_
      have e : g_X10_street_42 v1 i s = (muX10_street_42_2 v1 i s) := by unfold g_X10_street_42; rfl
      rw [e] at hS
      exact r_sub [0, 1] rfl hS
def NX10_street_42 (p1 : Int32) (μ : Mem) : Nat := (fst 602 (fun j9 => !Cb_X10_street_42 p1 j9 (fo j9 (g_X10_street_42 p1) (muX10_street_5 p1 μ))))
def SX10_street_42 (p1 : Int32) (μ : Mem) : Mem := fo (NX10_street_42 p1 μ) (g_X10_street_42 p1) (muX10_street_5 p1 μ)
def muX10_street_6 (p1 : Int32) (μ : Mem) : Mem := (upm (SX10_street_42 p1 μ) 57 3 (-1))
def muX10_street_7 (p1 : Int32) (μ : Mem) : Mem := (M_X10_beginsAnew  (muX10_street_6 p1 μ))
def muX10_street_8 (p1 : Int32) (μ : Mem) : Mem := (M_X10_ends  (SX10_street_42 p1 μ))
def muX10_street_9 (p1 : Int32) (μ : Mem) : Mem := (upm (SX10_street_42 p1 μ) 57 3 (-1))
def muX10_street_10 (p1 : Int32) (μ : Mem) : Mem := (M_X10_beginsAnew  (muX10_street_9 p1 μ))
def muX10_street_11 (p1 : Int32) (μ : Mem) : Mem := (M_X10_ends  (SX10_street_42 p1 μ))
def muX10_street_12 (p1 : Int32) (μ : Mem) : Mem := (M_X10_clause  (SX10_street_42 p1 μ))
def muX10_street_13 (p1 : Int32) (μ : Mem) : Mem := (M_X10_blanks  (muX10_street_12 p1 μ))
def F_X10_street (p1 : Int32) (μ : Mem) : Int32 := (if (F_X10_bad (VX10_street_2 p1 μ) 1 1 (muX10_street_1 p1 μ)) = 0 then (if ((SX10_street_42 p1 μ) 57 5) ≠ 0 then (if ((SX10_street_42 p1 μ) 57 5) = 0 then ((muX10_street_7 p1 μ) 61 1) else (F_X10_ends  (SX10_street_42 p1 μ))) else (if ((SX10_street_42 p1 μ) 57 5) = 0 then ((muX10_street_10 p1 μ) 61 1) else (F_X10_ends  (SX10_street_42 p1 μ)))) else 0)
def M_X10_street (p1 : Int32) (μ : Mem) : Mem := (if (F_X10_bad (VX10_street_2 p1 μ) 1 1 (muX10_street_1 p1 μ)) = 0 then (if ((SX10_street_42 p1 μ) 57 5) ≠ 0 then (if ((SX10_street_42 p1 μ) 57 5) = 0 then (muX10_street_7 p1 μ) else (muX10_street_8 p1 μ)) else (if ((SX10_street_42 p1 μ) 57 5) = 0 then (muX10_street_10 p1 μ) else (muX10_street_11 p1 μ))) else (muX10_street_3 p1 μ))
def P_X10_street (p1 : Int32) (μ : Mem) : Prop := ((P_X10_bad (VX10_street_2 p1 μ) 1 1 (muX10_street_1 p1 μ)) ∧ (((F_X10_bad (VX10_street_2 p1 μ) 1 1 (muX10_street_1 p1 μ)) = 0 → ((P_X10_starts p1 (muX10_street_3 p1 μ)) ∧ ((P_X10_tellsNothing  (muX10_street_4 p1 μ)) ∧ ((∀ j9, j9 < (NX10_street_42 p1 μ) → Pb_X10_street_42 p1 j9 (fo j9 (g_X10_street_42 p1) (muX10_street_5 p1 μ))) ∧ ((((SX10_street_42 p1 μ) 57 5) ≠ 0 → ((((SX10_street_42 p1 μ) 57 5) = 0 → (P_X10_beginsAnew  (muX10_street_6 p1 μ))) ∧ (¬ ((SX10_street_42 p1 μ) 57 5) = 0 → True))) ∧ (((SX10_street_42 p1 μ) 57 5) = 0 → ((((SX10_street_42 p1 μ) 57 2) ≤ ((SX10_street_42 p1 μ) 57 4) → ((((SX10_street_42 p1 μ) 57 5) = 0 → (P_X10_beginsAnew  (muX10_street_9 p1 μ))) ∧ (¬ ((SX10_street_42 p1 μ) 57 5) = 0 → True))) ∧ (((SX10_street_42 p1 μ) 57 4) < ((SX10_street_42 p1 μ) 57 2) → ((P_X10_clause  (SX10_street_42 p1 μ)) ∧ ((P_X10_blanks  (muX10_street_12 p1 μ)) ∧ False)))))))))) ∧ (¬ (F_X10_bad (VX10_street_2 p1 μ) 1 1 (muX10_street_1 p1 μ)) = 0 → True)))
set_option maxRecDepth 20000 in
set_option maxHeartbeats 2000000 in
theorem ok_X10_street {G : SG} (hG : GK 548 G) (p1 : Int32) (μ : Mem) (hP : P_X10_street p1 μ) : OkF G mX10_street [.ref (ga G 57), .int p1] μ (some (.int (F_X10_street p1 μ))) (M_X10_street p1 μ) := by
  refine okF_of hG rfl rfl (Nat.le_of_ble_eq_true rfl) ?_
  unfold P_X10_street at hP
  refine r_aload_n dX10_street_0 0 rfl ?_
  refine r_iconst 0 dX10_street_1 rfl ?_
  refine r_put fiX10_103 (hG.lt (by decide)) sh57 fs57_0 dX10_street_2 ?_
  refine r_mu (muX10_street_1 p1 μ) rfl ?_
  refine r_aload_n dX10_street_5 0 rfl ?_
  refine r_iload_n dX10_street_6 1 rfl ?_
  refine r_iconst 0 dX10_street_7 rfl ?_
  refine r_aload_n dX10_street_8 0 rfl ?_
  refine r_getI fX10_106 (hG.lt (by decide)) sh57 fs57_1 dX10_street_9 ?_
  refine r_csI (ok_X10_isIn hG p1 0 ((muX10_street_1 p1 μ) 57 1) (muX10_street_1 p1 μ)) lX10_137 dX10_street_12 (by decide) (Nat.le_of_ble_eq_true rfl) rfl (Nat.le_of_ble_eq_true rfl) ?_
  refine r_join 23 [(0, .ref (ga G 57)), (1, .int p1)] [.int (VX10_street_2 p1 μ), .ref (ga G 57)] (muX10_street_1 p1 μ) ?_ (fun hJ => ?_)
  · refine r_iconst 1 dX10_street_23 rfl ?_
    refine r_iconst 1 dX10_street_24 rfl ?_
    have hs1 := hP.1
    replace hP := hP.2
    refine r_cvI (ok_X10_bad hG (VX10_street_2 p1 μ) 1 1 (muX10_street_1 p1 μ) hs1) lX10_186 (hG.lt (by decide)) sh57 ⟨_, _, rfl⟩ dX10_street_25 (by decide) (Nat.le_of_ble_eq_true rfl) rfl (Nat.le_of_ble_eq_true rfl) ?_
    refine r_mu (muX10_street_3 p1 μ) rfl ?_
    refine r_if_eq 33 dX10_street_28 (by decide) (fun c1 => ?_) (fun c1 => ?_)
    · replace hP := hP.1 c1
      refine r_aload_n dX10_street_33 0 rfl ?_
      refine r_iload_n dX10_street_34 1 rfl ?_
      have hs2 := hP.1
      replace hP := hP.2
      refine r_cvV (ok_X10_starts hG p1 (muX10_street_3 p1 μ) hs2) lX10_190 (hG.lt (by decide)) sh57 ⟨_, _, rfl⟩ dX10_street_35 (by decide) (Nat.le_of_ble_eq_true rfl) rfl (Nat.le_of_ble_eq_true rfl) ?_
      refine r_mu (muX10_street_4 p1 μ) rfl ?_
      refine r_aload_n dX10_street_38 0 rfl ?_
      have hs3 := hP.1
      replace hP := hP.2
      refine r_cvV (ok_X10_tellsNothing hG  (muX10_street_4 p1 μ) hs3) lX10_97 (hG.lt (by decide)) sh57 ⟨_, _, rfl⟩ dX10_street_39 (by decide) (Nat.le_of_ble_eq_true rfl) rfl (Nat.le_of_ble_eq_true rfl) ?_
      refine r_mu (muX10_street_5 p1 μ) rfl ?_
      have hs4 := hP.1
      replace hP := hP.2
      refine r_sub [0, 1] rfl ?_
      refine lp_X10_street_42 hG p1 (muX10_street_5 p1 μ) ((NX10_street_42 p1 μ)) (SX10_street_42 p1 μ) rfl hs4 ?_
      refine r_aload_n dX10_street_42 0 rfl ?_
      refine r_getI fX10_119 (hG.lt (by decide)) sh57 fs57_5 dX10_street_43 ?_
      refine r_if_ne 71 dX10_street_46 (by decide) (fun c2 => ?_) (fun c2 => ?_)
      · replace hP := hP.1 c2
        refine r_aload_n dX10_street_71 0 rfl ?_
        refine r_getI fX10_119 (hG.lt (by decide)) sh57 fs57_5 dX10_street_72 ?_
        refine r_if_eq 83 dX10_street_75 (by decide) (fun c3 => ?_) (fun c3 => ?_)
        · replace hP := hP.1 c3
          refine r_aload_n dX10_street_83 0 rfl ?_
          refine r_iconst (-1) dX10_street_84 rfl ?_
          refine r_put fiX10_9 (hG.lt (by decide)) sh57 fs57_3 dX10_street_85 ?_
          refine r_mu (muX10_street_6 p1 μ) rfl ?_
          refine r_aload_n dX10_street_88 0 rfl ?_
          have hs7 := hP
          refine r_cvV (ok_X10_beginsAnew hG  (muX10_street_6 p1 μ) hs7) lX10_100 (hG.lt (by decide)) sh57 ⟨_, _, rfl⟩ dX10_street_89 (by decide) (Nat.le_of_ble_eq_true rfl) rfl (Nat.le_of_ble_eq_true rfl) ?_
          refine r_mu (muX10_street_7 p1 μ) rfl ?_
          refine r_aload_n dX10_street_92 0 rfl ?_
          refine r_getR 61 fX10_23 (hG.lt (by decide)) sh57 fs57_12 dX10_street_93 ?_
          refine r_iconst 1 dX10_street_96 rfl ?_
          refine r_ialdK 1 rfl (hG.lt (by decide)) sh61 (vp_of (by decide) (by decide)) dX10_street_97 ?_
          exact r_ireturn _ dX10_street_98 rfl rfl ⟨congrArg (fun z => some (Value.int z)) (by unfold F_X10_street; rw [if_pos c1, if_pos c2, if_pos c3]), by unfold M_X10_street; rw [if_pos c1, if_pos c2, if_pos c3]⟩
        · replace hP := hP.2 c3
          refine r_aload_n dX10_street_78 0 rfl ?_
          refine r_cvI (ok_X10_ends hG  (SX10_street_42 p1 μ)) lX10_196 (hG.lt (by decide)) sh57 ⟨_, _, rfl⟩ dX10_street_79 (by decide) (Nat.le_of_ble_eq_true rfl) rfl (Nat.le_of_ble_eq_true rfl) ?_
          refine r_mu (muX10_street_8 p1 μ) rfl ?_
          exact r_ireturn _ dX10_street_82 rfl rfl ⟨congrArg (fun z => some (Value.int z)) (by unfold F_X10_street; rw [if_pos c1, if_pos c2, if_neg c3]), by unfold M_X10_street; rw [if_pos c1, if_pos c2, if_neg c3]⟩
      · replace hP := hP.2 c2
        refine r_aload_n dX10_street_49 0 rfl ?_
        refine r_getI fX10_112 (hG.lt (by decide)) sh57 fs57_4 dX10_street_50 ?_
        refine r_aload_n dX10_street_53 0 rfl ?_
        refine r_getI fX10_109 (hG.lt (by decide)) sh57 fs57_2 dX10_street_54 ?_
        refine r_icmp_ge 71 dX10_street_57 (by decide) (fun c3 => ?_) (fun c3 => ?_)
        · replace hP := hP.1 c3
          refine r_aload_n dX10_street_71 0 rfl ?_
          refine r_getI fX10_119 (hG.lt (by decide)) sh57 fs57_5 dX10_street_72 ?_
          refine r_if_eq 83 dX10_street_75 (by decide) (fun c4 => ?_) (fun c4 => ?_)
          · replace hP := hP.1 c4
            refine r_aload_n dX10_street_83 0 rfl ?_
            refine r_iconst (-1) dX10_street_84 rfl ?_
            refine r_put fiX10_9 (hG.lt (by decide)) sh57 fs57_3 dX10_street_85 ?_
            refine r_mu (muX10_street_9 p1 μ) rfl ?_
            refine r_aload_n dX10_street_88 0 rfl ?_
            have hs10 := hP
            refine r_cvV (ok_X10_beginsAnew hG  (muX10_street_9 p1 μ) hs10) lX10_100 (hG.lt (by decide)) sh57 ⟨_, _, rfl⟩ dX10_street_89 (by decide) (Nat.le_of_ble_eq_true rfl) rfl (Nat.le_of_ble_eq_true rfl) ?_
            refine r_mu (muX10_street_10 p1 μ) rfl ?_
            refine r_aload_n dX10_street_92 0 rfl ?_
            refine r_getR 61 fX10_23 (hG.lt (by decide)) sh57 fs57_12 dX10_street_93 ?_
            refine r_iconst 1 dX10_street_96 rfl ?_
            refine r_ialdK 1 rfl (hG.lt (by decide)) sh61 (vp_of (by decide) (by decide)) dX10_street_97 ?_
            exact r_ireturn _ dX10_street_98 rfl rfl ⟨congrArg (fun z => some (Value.int z)) (by unfold F_X10_street; rw [if_pos c1, if_neg (not_not_intro c2), if_pos c4]), by unfold M_X10_street; rw [if_pos c1, if_neg (not_not_intro c2), if_pos c4]⟩
          · replace hP := hP.2 c4
            refine r_aload_n dX10_street_78 0 rfl ?_
            refine r_cvI (ok_X10_ends hG  (SX10_street_42 p1 μ)) lX10_196 (hG.lt (by decide)) sh57 ⟨_, _, rfl⟩ dX10_street_79 (by decide) (Nat.le_of_ble_eq_true rfl) rfl (Nat.le_of_ble_eq_true rfl) ?_
            refine r_mu (muX10_street_11 p1 μ) rfl ?_
            exact r_ireturn _ dX10_street_82 rfl rfl ⟨congrArg (fun z => some (Value.int z)) (by unfold F_X10_street; rw [if_pos c1, if_neg (not_not_intro c2), if_neg c4]), by unfold M_X10_street; rw [if_pos c1, if_neg (not_not_intro c2), if_neg c4]⟩
        · replace hP := hP.2 c3
          refine r_aload_n dX10_street_60 0 rfl ?_
          have hs11 := hP.1
          replace hP := hP.2
          refine r_cvV (ok_X10_clause hG  (SX10_street_42 p1 μ) hs11) lX10_193 (hG.lt (by decide)) sh57 ⟨_, _, rfl⟩ dX10_street_61 (by decide) (Nat.le_of_ble_eq_true rfl) rfl (Nat.le_of_ble_eq_true rfl) ?_
          refine r_mu (muX10_street_12 p1 μ) rfl ?_
          refine r_aload_n dX10_street_64 0 rfl ?_
          have hs12 := hP.1
          replace hP := hP.2
          refine r_cvV (ok_X10_blanks hG  (muX10_street_12 p1 μ) hs12) lX10_125 (hG.lt (by decide)) sh57 ⟨_, _, rfl⟩ dX10_street_65 (by decide) (Nat.le_of_ble_eq_true rfl) rfl (Nat.le_of_ble_eq_true rfl) ?_
          refine r_mu (muX10_street_13 p1 μ) rfl ?_
          refine r_goto 42 dX10_street_68 (by decide) ?_
          exact hP.elim
    · replace hP := hP.2 c1
      refine r_iconst 0 dX10_street_31 rfl ?_
      exact r_ireturn _ dX10_street_32 rfl rfl ⟨congrArg (fun z => some (Value.int z)) (by unfold F_X10_street; rw [if_neg c1]), by unfold M_X10_street; rw [if_neg c1]⟩
  · refine r_if_ne 22 dX10_street_15 (by decide) (fun c1 => ?_) (fun c1 => ?_)
    · refine r_iconst 0 dX10_street_22 rfl ?_
      have e : (VX10_street_2 p1 μ) = 0 := by unfold VX10_street_2; rw [if_pos c1]
      rw [e] at hJ
      exact r_sub [0, 1] rfl hJ
    · refine r_iconst 1 dX10_street_18 rfl ?_
      refine r_goto 23 dX10_street_19 (by decide) ?_
      have e : (VX10_street_2 p1 μ) = 1 := by unfold VX10_street_2; rw [if_neg (not_not_intro c1)]
      rw [e] at hJ
      exact r_sub [0, 1] rfl hJ
def muX10_copies_2_1 (fr : Nat) (to : Nat) (i : Nat) (s : Mem) : Mem := (upm s to (ix (nI i)) (s fr (ix (nI i))))
def g_X10_copies_2 (fr : Nat) (to : Nat) (i : Nat) (s : Mem) : Mem := (muX10_copies_2_1 fr to i s)
def Pb_X10_copies_2 (fr : Nat) (to : Nat) (i : Nat) (s : Mem) : Prop := ((63 ≤ (nI i) → False) ∧ ((nI i) < 63 → (vp_in (nI i) 63) ∧ vp_in (nI i) 63))
set_option maxRecDepth 20000 in
set_option maxHeartbeats 2000000 in
theorem lp_X10_copies_2 {G : SG} (hG : GK 548 G) {fr : Nat} (hlfr : fr < gh G) (hsfr : shp fr = (1, 63, 0)) {to : Nat} (hlto : to < gh G) (hsto : shp to = (1, 63, 0))  (s0 : Mem) (N : Nat) (sN : Mem) (eN : sN = fo N (g_X10_copies_2 fr to) s0) (hN : ∀ i, i < N → Pb_X10_copies_2 fr to i (fo i (g_X10_copies_2 fr to) s0)) {t : Nat} {Q : PQ} {X : PX} (h : R G mX10_copies 2 [(0, .ref (ga G fr)), (1, .ref (ga G to)), (2, .int (nI N))] [] sN t Q X) : R G mX10_copies 2 [(0, .ref (ga G fr)), (1, .ref (ga G to)), (2, .int 0)] [] s0 t Q X := by
  subst eN
  refine down_i N (fun i => R G mX10_copies 2 [(0, .ref (ga G fr)), (1, .ref (ga G to)), (2, .int (nI i))] [] (fo i (g_X10_copies_2 fr to) s0) t Q X) h (fun i hi hS => ?_)
  have hP := hN i hi
  rw [fo_succ] at hS
  rw [nI_succ] at hS
  generalize fo i (g_X10_copies_2 fr to) s0 = s at hS hP ⊢
  unfold Pb_X10_copies_2 at hP
  refine r_iload_n dX10_copies_2 2 rfl ?_
  refine r_bipush 63 dX10_copies_3 rfl ?_
  refine r_icmp_ge 20 dX10_copies_5 (by decide) (fun c1 => ?_) (fun c1 => ?_)
  · replace hP := hP.1 c1
    exact hP.elim
  · replace hP := hP.2 c1
    refine r_aload_n dX10_copies_8 1 rfl ?_
    refine r_iload_n dX10_copies_9 2 rfl ?_
    refine r_aload_n dX10_copies_10 0 rfl ?_
    refine r_iload_n dX10_copies_11 2 rfl ?_
    have hs1 := hP.1
    replace hP := hP.2
    refine r_iald hlfr hsfr hs1 dX10_copies_12 ?_
    have hs2 := hP
    refine r_iast hlto hsto hs2 dX10_copies_13 ?_
    refine r_mu (muX10_copies_2_1 fr to i s) rfl ?_
    refine r_iinc ((nI i) + 1) [(2, _), (0, _), (1, _)] dX10_copies_14 2 rfl rfl (Nat.le_of_ble_eq_true rfl) rfl ?_
    refine r_goto 2 dX10_copies_17 (by decide) ?_
    have e : g_X10_copies_2 fr to i s = (muX10_copies_2_1 fr to i s) := by unfold g_X10_copies_2; rfl
    rw [e] at hS
    exact r_sub [1, 2, 0] rfl hS
def NX10_copies_2 (fr : Nat) (to : Nat) (μ : Mem) : Nat := 63
def SX10_copies_2 (fr : Nat) (to : Nat) (μ : Mem) : Mem := fo (NX10_copies_2 fr to μ) (g_X10_copies_2 fr to) μ
def muX10_copies_1 (fr : Nat) (to : Nat) (μ : Mem) : Mem := (upm (SX10_copies_2 fr to μ) to (ix (nI (NX10_copies_2 fr to μ))) ((SX10_copies_2 fr to μ) fr (ix (nI (NX10_copies_2 fr to μ)))))
def M_X10_copies (fr : Nat) (to : Nat) (μ : Mem) : Mem := (SX10_copies_2 fr to μ)
def P_X10_copies (fr : Nat) (to : Nat) (μ : Mem) : Prop := ((∀ j9, j9 < (NX10_copies_2 fr to μ) → Pb_X10_copies_2 fr to j9 (fo j9 (g_X10_copies_2 fr to) μ)) ∧ ((63 ≤ (nI (NX10_copies_2 fr to μ)) → True) ∧ ((nI (NX10_copies_2 fr to μ)) < 63 → ((vp_in (nI (NX10_copies_2 fr to μ)) 63) ∧ ((vp_in (nI (NX10_copies_2 fr to μ)) 63) ∧ False)))))
set_option maxRecDepth 20000 in
set_option maxHeartbeats 2000000 in
theorem ok_X10_copies {G : SG} (hG : GK 548 G) {fr : Nat} (hlfr : fr < gh G) (hsfr : shp fr = (1, 63, 0)) {to : Nat} (hlto : to < gh G) (hsto : shp to = (1, 63, 0)) (μ : Mem) (hP : P_X10_copies fr to μ) : OkF G mX10_copies [.ref (ga G fr), .ref (ga G to)] μ none (M_X10_copies fr to μ) := by
  refine okF_of hG rfl rfl (Nat.le_of_ble_eq_true rfl) ?_
  unfold P_X10_copies at hP
  refine r_iconst 0 dX10_copies_0 rfl ?_
  refine r_istore_n [(2, _), (0, _), (1, _)] dX10_copies_1 (Nat.le_of_ble_eq_true rfl) rfl ?_
  have hs1 := hP.1
  replace hP := hP.2
  refine r_sub [1, 2, 0] rfl ?_
  refine lp_X10_copies_2 hG hlfr hsfr hlto hsto μ ((NX10_copies_2 fr to μ)) (SX10_copies_2 fr to μ) rfl hs1 ?_
  refine r_iload_n dX10_copies_2 2 rfl ?_
  refine r_bipush 63 dX10_copies_3 rfl ?_
  refine r_icmp_ge 20 dX10_copies_5 (by decide) (fun c1 => ?_) (fun c1 => ?_)
  · replace hP := hP.1 c1
    exact r_return dX10_copies_20 rfl ⟨rfl, rfl⟩
  · replace hP := hP.2 c1
    refine r_aload_n dX10_copies_8 1 rfl ?_
    refine r_iload_n dX10_copies_9 2 rfl ?_
    refine r_aload_n dX10_copies_10 0 rfl ?_
    refine r_iload_n dX10_copies_11 2 rfl ?_
    have hs2 := hP.1
    replace hP := hP.2
    refine r_iald hlfr hsfr hs2 dX10_copies_12 ?_
    have hs3 := hP.1
    replace hP := hP.2
    refine r_iast hlto hsto hs3 dX10_copies_13 ?_
    refine r_mu (muX10_copies_1 fr to μ) rfl ?_
    refine r_iinc ((nI (NX10_copies_2 fr to μ)) + 1) [(2, _), (0, _), (1, _)] dX10_copies_14 2 rfl rfl (Nat.le_of_ble_eq_true rfl) rfl ?_
    refine r_goto 2 dX10_copies_17 (by decide) ?_
    exact hP.elim
def muX10_notes_1 (p1 : Int32) (p2 : Int32) (μ : Mem) : Mem := (upm μ (264 + (ix (μ 57 22))) 0 p1)
def muX10_notes_2 (p1 : Int32) (p2 : Int32) (μ : Mem) : Mem := (upm (muX10_notes_1 p1 p2 μ) (264 + (ix ((muX10_notes_1 p1 p2 μ) 57 22))) 1 p2)
def muX10_notes_3 (p1 : Int32) (p2 : Int32) (μ : Mem) : Mem := (upm (muX10_notes_2 p1 p2 μ) 57 22 (((muX10_notes_2 p1 p2 μ) 57 22) + 1))
def M_X10_notes (p1 : Int32) (p2 : Int32) (μ : Mem) : Mem := (if (μ 57 5) = 0 then (muX10_notes_3 p1 p2 μ) else μ)
def P_X10_notes (p1 : Int32) (p2 : Int32) (μ : Mem) : Prop := (((μ 57 5) = 0 → ((vp_in (μ 57 22) 160) ∧ (vp_in ((muX10_notes_1 p1 p2 μ) 57 22) 160))) ∧ (¬ (μ 57 5) = 0 → True))
set_option maxRecDepth 20000 in
set_option maxHeartbeats 2000000 in
theorem ok_X10_notes {G : SG} (hG : GK 548 G) (p1 : Int32) (p2 : Int32) (μ : Mem) (hP : P_X10_notes p1 p2 μ) : OkF G mX10_notes [.ref (ga G 57), .int p1, .int p2] μ none (M_X10_notes p1 p2 μ) := by
  refine okF_of hG rfl rfl (Nat.le_of_ble_eq_true rfl) ?_
  unfold P_X10_notes at hP
  refine r_aload_n dX10_notes_0 0 rfl ?_
  refine r_getI fX10_119 (hG.lt (by decide)) sh57 fs57_5 dX10_notes_1 ?_
  refine r_if_eq 8 dX10_notes_4 (by decide) (fun c1 => ?_) (fun c1 => ?_)
  · replace hP := hP.1 c1
    refine r_aload_n dX10_notes_8 0 rfl ?_
    refine r_getR 263 fX10_55 (hG.lt (by decide)) sh57 fs57_24 dX10_notes_9 ?_
    refine r_aload_n dX10_notes_12 0 rfl ?_
    refine r_getI fX10_221 (hG.lt (by decide)) sh57 fs57_22 dX10_notes_13 ?_
    have hs1 := hP.1
    replace hP := hP.2
    refine r_aald (hG.lt (by decide)) sh263 hs1 dX10_notes_16 ?_
    refine r_iconst 0 dX10_notes_17 rfl ?_
    refine r_iload_n dX10_notes_18 1 rfl ?_
    refine r_iastK 0 rfl (ltR (vp_ix hs1) (by decide) hG) (shr263 _ (vp_ix hs1)) (vp_of (by decide) (by decide)) dX10_notes_19 ?_
    refine r_mu (muX10_notes_1 p1 p2 μ) rfl ?_
    refine r_aload_n dX10_notes_20 0 rfl ?_
    refine r_getR 263 fX10_55 (hG.lt (by decide)) sh57 fs57_24 dX10_notes_21 ?_
    refine r_aload_n dX10_notes_24 0 rfl ?_
    refine r_getI fX10_221 (hG.lt (by decide)) sh57 fs57_22 dX10_notes_25 ?_
    have hs2 := hP
    refine r_aald (hG.lt (by decide)) sh263 hs2 dX10_notes_28 ?_
    refine r_iconst 1 dX10_notes_29 rfl ?_
    refine r_iload_n dX10_notes_30 2 rfl ?_
    refine r_iastK 1 rfl (ltR (vp_ix hs2) (by decide) hG) (shr263 _ (vp_ix hs2)) (vp_of (by decide) (by decide)) dX10_notes_31 ?_
    refine r_mu (muX10_notes_2 p1 p2 μ) rfl ?_
    refine r_aload_n dX10_notes_32 0 rfl ?_
    refine r_dup dX10_notes_33 rfl ?_
    refine r_getI fX10_221 (hG.lt (by decide)) sh57 fs57_22 dX10_notes_34 ?_
    refine r_iconst 1 dX10_notes_37 rfl ?_
    refine r_iadd dX10_notes_38 ?_
    refine r_put fiX10_221 (hG.lt (by decide)) sh57 fs57_22 dX10_notes_39 ?_
    refine r_mu (muX10_notes_3 p1 p2 μ) rfl ?_
    exact r_return dX10_notes_42 rfl ⟨rfl, by unfold M_X10_notes; rw [if_pos c1]⟩
  · replace hP := hP.2 c1
    exact r_return dX10_notes_7 rfl ⟨rfl, by unfold M_X10_notes; rw [if_neg c1]⟩
def muX10_opensOne_1 (μ : Mem) : Mem := (upm μ 57 8 ((μ 57 8) + 1))
def muX10_opensOne_2 (μ : Mem) : Mem := (upm μ 57 8 ((μ 57 8) + 1))
def muX10_opensOne_3 (μ : Mem) : Mem := (M_X10_wrong 3 (μ 57 4) μ)
def VX10_opensOne_4 (μ : Mem) : Mem := (if (μ 57 5) ≠ 0 then (if (μ 57 5) ≠ 0 then μ else (muX10_opensOne_1 μ)) else (if (μ 57 8) ≠ 6 then (if (μ 57 5) ≠ 0 then μ else (muX10_opensOne_2 μ)) else (muX10_opensOne_3 μ)))
def F_X10_opensOne  (μ : Mem) : Int32 := (if ((VX10_opensOne_4 μ) 57 5) ≠ 0 then 0 else 1)
def M_X10_opensOne  (μ : Mem) : Mem := (VX10_opensOne_4 μ)
theorem bo_X10_opensOne  (μ : Mem) : F_X10_opensOne  μ = 0 ∨ F_X10_opensOne  μ = 1 := by
  unfold F_X10_opensOne
  split
  · exact Or.inl rfl
  · exact Or.inr rfl
set_option maxRecDepth 20000 in
set_option maxHeartbeats 2000000 in
theorem ok_X10_opensOne {G : SG} (hG : GK 548 G)  (μ : Mem) : OkF G mX10_opensOne [.ref (ga G 57)] μ (some (.int (F_X10_opensOne  μ))) (M_X10_opensOne  μ) := by
  refine okF_of hG rfl rfl (Nat.le_of_ble_eq_true rfl) ?_
  refine r_aload_n dX10_opensOne_0 0 rfl ?_
  refine r_getI fX10_119 (hG.lt (by decide)) sh57 fs57_5 dX10_opensOne_1 ?_
  refine r_join 45 [(0, .ref (ga G 57))] [] (VX10_opensOne_4 μ) ?_ (fun hJ => ?_)
  · refine r_aload_n dX10_opensOne_45 0 rfl ?_
    refine r_getI fX10_119 (hG.lt (by decide)) sh57 fs57_5 dX10_opensOne_46 ?_
    refine r_if_ne 56 dX10_opensOne_49 (by decide) (fun c1 => ?_) (fun c1 => ?_)
    · refine r_iconst 0 dX10_opensOne_56 rfl ?_
      exact r_ireturn _ dX10_opensOne_57 rfl rfl ⟨congrArg (fun z => some (Value.int z)) (by unfold F_X10_opensOne; rw [if_pos c1]), rfl⟩
    · refine r_iconst 1 dX10_opensOne_52 rfl ?_
      refine r_goto 57 dX10_opensOne_53 (by decide) ?_
      exact r_ireturn _ dX10_opensOne_57 rfl rfl ⟨congrArg (fun z => some (Value.int z)) (by unfold F_X10_opensOne; rw [if_neg (not_not_intro c1)]), rfl⟩
  · refine r_if_ne 28 dX10_opensOne_4 (by decide) (fun c1 => ?_) (fun c1 => ?_)
    · refine r_aload_n dX10_opensOne_28 0 rfl ?_
      refine r_getI fX10_119 (hG.lt (by decide)) sh57 fs57_5 dX10_opensOne_29 ?_
      refine r_if_ne 45 dX10_opensOne_32 (by decide) (fun c2 => ?_) (fun c2 => ?_)
      · have e : (VX10_opensOne_4 μ) = μ := by unfold VX10_opensOne_4; rw [if_pos c1, if_pos c2]
        rw [e] at hJ
        exact r_sub [0] rfl hJ
      · refine r_aload_n dX10_opensOne_35 0 rfl ?_
        refine r_dup dX10_opensOne_36 rfl ?_
        refine r_getI fX10_168 (hG.lt (by decide)) sh57 fs57_8 dX10_opensOne_37 ?_
        refine r_iconst 1 dX10_opensOne_40 rfl ?_
        refine r_iadd dX10_opensOne_41 ?_
        refine r_put fiX10_168 (hG.lt (by decide)) sh57 fs57_8 dX10_opensOne_42 ?_
        refine r_mu (muX10_opensOne_1 μ) rfl ?_
        have e : (VX10_opensOne_4 μ) = (muX10_opensOne_1 μ) := by unfold VX10_opensOne_4; rw [if_pos c1, if_neg (not_not_intro c2)]
        rw [e] at hJ
        exact r_sub [0] rfl hJ
    · refine r_aload_n dX10_opensOne_7 0 rfl ?_
      refine r_getI fX10_168 (hG.lt (by decide)) sh57 fs57_8 dX10_opensOne_8 ?_
      refine r_bipush 6 dX10_opensOne_11 rfl ?_
      refine r_icmp_ne 28 dX10_opensOne_13 (by decide) (fun c2 => ?_) (fun c2 => ?_)
      · refine r_aload_n dX10_opensOne_28 0 rfl ?_
        refine r_getI fX10_119 (hG.lt (by decide)) sh57 fs57_5 dX10_opensOne_29 ?_
        refine r_if_ne 45 dX10_opensOne_32 (by decide) (fun c3 => ?_) (fun c3 => ?_)
        · have e : (VX10_opensOne_4 μ) = μ := by unfold VX10_opensOne_4; rw [if_neg (not_not_intro c1), if_pos c2, if_pos c3]
          rw [e] at hJ
          exact r_sub [0] rfl hJ
        · refine r_aload_n dX10_opensOne_35 0 rfl ?_
          refine r_dup dX10_opensOne_36 rfl ?_
          refine r_getI fX10_168 (hG.lt (by decide)) sh57 fs57_8 dX10_opensOne_37 ?_
          refine r_iconst 1 dX10_opensOne_40 rfl ?_
          refine r_iadd dX10_opensOne_41 ?_
          refine r_put fiX10_168 (hG.lt (by decide)) sh57 fs57_8 dX10_opensOne_42 ?_
          refine r_mu (muX10_opensOne_2 μ) rfl ?_
          have e : (VX10_opensOne_4 μ) = (muX10_opensOne_2 μ) := by unfold VX10_opensOne_4; rw [if_neg (not_not_intro c1), if_pos c2, if_neg (not_not_intro c3)]
          rw [e] at hJ
          exact r_sub [0] rfl hJ
      · refine r_aload_n dX10_opensOne_16 0 rfl ?_
        refine r_iconst 3 dX10_opensOne_17 rfl ?_
        refine r_aload_n dX10_opensOne_18 0 rfl ?_
        refine r_getI fX10_112 (hG.lt (by decide)) sh57 fs57_4 dX10_opensOne_19 ?_
        refine r_cvV (ok_X10_wrong hG 3 (μ 57 4) μ) lX10_132 (hG.lt (by decide)) sh57 ⟨_, _, rfl⟩ dX10_opensOne_22 (by decide) (Nat.le_of_ble_eq_true rfl) rfl (Nat.le_of_ble_eq_true rfl) ?_
        refine r_mu (muX10_opensOne_3 μ) rfl ?_
        refine r_goto 45 dX10_opensOne_25 (by decide) ?_
        have e : (VX10_opensOne_4 μ) = (muX10_opensOne_3 μ) := by unfold VX10_opensOne_4; rw [if_neg (not_not_intro c1), if_neg (not_not_intro c2)]
        rw [e] at hJ
        exact r_sub [0] rfl hJ
def muX10_knownHere_1 (μ : Mem) : Mem := (M_X10_takes 4 5 16 20 8 0 0 μ)
def muX10_knownHere_2 (μ : Mem) : Mem := (M_X10_takes 12 15 19 20 0 0 0 (muX10_knownHere_1 μ))
def muX10_knownHere_3 (μ : Mem) : Mem := (M_X10_takes 23 5 20 0 0 0 0 (muX10_knownHere_2 μ))
def muX10_knownHere_4 (μ : Mem) : Mem := (M_X10_takes 20 9 4 5 0 0 0 (muX10_knownHere_3 μ))
def muX10_knownHere_5 (μ : Mem) : Mem := (M_X10_takes 13 15 15 14 0 0 0 (muX10_knownHere_4 μ))
def muX10_knownHere_6 (μ : Mem) : Mem := (M_X10_takes 18 5 14 20 0 0 0 (muX10_knownHere_5 μ))
def muX10_knownHere_7 (μ : Mem) : Mem := (M_X10_takes 8 15 21 19 5 0 0 (muX10_knownHere_6 μ))
def F_X10_knownHere  (μ : Mem) : Int32 := (if (F_X10_takes 4 5 16 20 8 0 0 μ) = 0 then (if (F_X10_takes 12 15 19 20 0 0 0 (muX10_knownHere_1 μ)) = 0 then (if (F_X10_takes 23 5 20 0 0 0 0 (muX10_knownHere_2 μ)) = 0 then (if (F_X10_takes 20 9 4 5 0 0 0 (muX10_knownHere_3 μ)) = 0 then (if (F_X10_takes 13 15 15 14 0 0 0 (muX10_knownHere_4 μ)) = 0 then (if (F_X10_takes 18 5 14 20 0 0 0 (muX10_knownHere_5 μ)) = 0 then (if (F_X10_takes 8 15 21 19 5 0 0 (muX10_knownHere_6 μ)) = 0 then (-1) else 6) else 5) else 4) else 3) else 2) else 1) else 0)
def M_X10_knownHere  (μ : Mem) : Mem := (if (F_X10_takes 4 5 16 20 8 0 0 μ) = 0 then (if (F_X10_takes 12 15 19 20 0 0 0 (muX10_knownHere_1 μ)) = 0 then (if (F_X10_takes 23 5 20 0 0 0 0 (muX10_knownHere_2 μ)) = 0 then (if (F_X10_takes 20 9 4 5 0 0 0 (muX10_knownHere_3 μ)) = 0 then (if (F_X10_takes 13 15 15 14 0 0 0 (muX10_knownHere_4 μ)) = 0 then (if (F_X10_takes 18 5 14 20 0 0 0 (muX10_knownHere_5 μ)) = 0 then (muX10_knownHere_7 μ) else (muX10_knownHere_6 μ)) else (muX10_knownHere_5 μ)) else (muX10_knownHere_4 μ)) else (muX10_knownHere_3 μ)) else (muX10_knownHere_2 μ)) else (muX10_knownHere_1 μ))
def P_X10_knownHere  (μ : Mem) : Prop := ((P_X10_takes 4 5 16 20 8 0 0 μ) ∧ (((F_X10_takes 4 5 16 20 8 0 0 μ) = 0 → ((P_X10_takes 12 15 19 20 0 0 0 (muX10_knownHere_1 μ)) ∧ (((F_X10_takes 12 15 19 20 0 0 0 (muX10_knownHere_1 μ)) = 0 → ((P_X10_takes 23 5 20 0 0 0 0 (muX10_knownHere_2 μ)) ∧ (((F_X10_takes 23 5 20 0 0 0 0 (muX10_knownHere_2 μ)) = 0 → ((P_X10_takes 20 9 4 5 0 0 0 (muX10_knownHere_3 μ)) ∧ (((F_X10_takes 20 9 4 5 0 0 0 (muX10_knownHere_3 μ)) = 0 → ((P_X10_takes 13 15 15 14 0 0 0 (muX10_knownHere_4 μ)) ∧ (((F_X10_takes 13 15 15 14 0 0 0 (muX10_knownHere_4 μ)) = 0 → ((P_X10_takes 18 5 14 20 0 0 0 (muX10_knownHere_5 μ)) ∧ (((F_X10_takes 18 5 14 20 0 0 0 (muX10_knownHere_5 μ)) = 0 → (P_X10_takes 8 15 21 19 5 0 0 (muX10_knownHere_6 μ))) ∧ (¬ (F_X10_takes 18 5 14 20 0 0 0 (muX10_knownHere_5 μ)) = 0 → True)))) ∧ (¬ (F_X10_takes 13 15 15 14 0 0 0 (muX10_knownHere_4 μ)) = 0 → True)))) ∧ (¬ (F_X10_takes 20 9 4 5 0 0 0 (muX10_knownHere_3 μ)) = 0 → True)))) ∧ (¬ (F_X10_takes 23 5 20 0 0 0 0 (muX10_knownHere_2 μ)) = 0 → True)))) ∧ (¬ (F_X10_takes 12 15 19 20 0 0 0 (muX10_knownHere_1 μ)) = 0 → True)))) ∧ (¬ (F_X10_takes 4 5 16 20 8 0 0 μ) = 0 → True)))
set_option maxRecDepth 20000 in
set_option maxHeartbeats 2000000 in
theorem ok_X10_knownHere {G : SG} (hG : GK 548 G)  (μ : Mem) (hP : P_X10_knownHere  μ) : OkF G mX10_knownHere [.ref (ga G 57)] μ (some (.int (F_X10_knownHere  μ))) (M_X10_knownHere  μ) := by
  refine okF_of hG rfl rfl (Nat.le_of_ble_eq_true rfl) ?_
  unfold P_X10_knownHere at hP
  refine r_aload_n dX10_knownHere_0 0 rfl ?_
  refine r_iconst 4 dX10_knownHere_1 rfl ?_
  refine r_iconst 5 dX10_knownHere_2 rfl ?_
  refine r_bipush 16 dX10_knownHere_3 rfl ?_
  refine r_bipush 20 dX10_knownHere_5 rfl ?_
  refine r_bipush 8 dX10_knownHere_7 rfl ?_
  refine r_iconst 0 dX10_knownHere_9 rfl ?_
  refine r_iconst 0 dX10_knownHere_10 rfl ?_
  have hs1 := hP.1
  replace hP := hP.2
  refine r_cvI (ok_X10_takes hG 4 5 16 20 8 0 0 μ hs1) lX10_236 (hG.lt (by decide)) sh57 ⟨_, _, rfl⟩ dX10_knownHere_11 (by decide) (Nat.le_of_ble_eq_true rfl) rfl (Nat.le_of_ble_eq_true rfl) ?_
  refine r_mu (muX10_knownHere_1 μ) rfl ?_
  refine r_if_eq 19 dX10_knownHere_14 (by decide) (fun c1 => ?_) (fun c1 => ?_)
  · replace hP := hP.1 c1
    refine r_aload_n dX10_knownHere_19 0 rfl ?_
    refine r_bipush 12 dX10_knownHere_20 rfl ?_
    refine r_bipush 15 dX10_knownHere_22 rfl ?_
    refine r_bipush 19 dX10_knownHere_24 rfl ?_
    refine r_bipush 20 dX10_knownHere_26 rfl ?_
    refine r_iconst 0 dX10_knownHere_28 rfl ?_
    refine r_iconst 0 dX10_knownHere_29 rfl ?_
    refine r_iconst 0 dX10_knownHere_30 rfl ?_
    have hs2 := hP.1
    replace hP := hP.2
    refine r_cvI (ok_X10_takes hG 12 15 19 20 0 0 0 (muX10_knownHere_1 μ) hs2) lX10_236 (hG.lt (by decide)) sh57 ⟨_, _, rfl⟩ dX10_knownHere_31 (by decide) (Nat.le_of_ble_eq_true rfl) rfl (Nat.le_of_ble_eq_true rfl) ?_
    refine r_mu (muX10_knownHere_2 μ) rfl ?_
    refine r_if_eq 39 dX10_knownHere_34 (by decide) (fun c2 => ?_) (fun c2 => ?_)
    · replace hP := hP.1 c2
      refine r_aload_n dX10_knownHere_39 0 rfl ?_
      refine r_bipush 23 dX10_knownHere_40 rfl ?_
      refine r_iconst 5 dX10_knownHere_42 rfl ?_
      refine r_bipush 20 dX10_knownHere_43 rfl ?_
      refine r_iconst 0 dX10_knownHere_45 rfl ?_
      refine r_iconst 0 dX10_knownHere_46 rfl ?_
      refine r_iconst 0 dX10_knownHere_47 rfl ?_
      refine r_iconst 0 dX10_knownHere_48 rfl ?_
      have hs3 := hP.1
      replace hP := hP.2
      refine r_cvI (ok_X10_takes hG 23 5 20 0 0 0 0 (muX10_knownHere_2 μ) hs3) lX10_236 (hG.lt (by decide)) sh57 ⟨_, _, rfl⟩ dX10_knownHere_49 (by decide) (Nat.le_of_ble_eq_true rfl) rfl (Nat.le_of_ble_eq_true rfl) ?_
      refine r_mu (muX10_knownHere_3 μ) rfl ?_
      refine r_if_eq 57 dX10_knownHere_52 (by decide) (fun c3 => ?_) (fun c3 => ?_)
      · replace hP := hP.1 c3
        refine r_aload_n dX10_knownHere_57 0 rfl ?_
        refine r_bipush 20 dX10_knownHere_58 rfl ?_
        refine r_bipush 9 dX10_knownHere_60 rfl ?_
        refine r_iconst 4 dX10_knownHere_62 rfl ?_
        refine r_iconst 5 dX10_knownHere_63 rfl ?_
        refine r_iconst 0 dX10_knownHere_64 rfl ?_
        refine r_iconst 0 dX10_knownHere_65 rfl ?_
        refine r_iconst 0 dX10_knownHere_66 rfl ?_
        have hs4 := hP.1
        replace hP := hP.2
        refine r_cvI (ok_X10_takes hG 20 9 4 5 0 0 0 (muX10_knownHere_3 μ) hs4) lX10_236 (hG.lt (by decide)) sh57 ⟨_, _, rfl⟩ dX10_knownHere_67 (by decide) (Nat.le_of_ble_eq_true rfl) rfl (Nat.le_of_ble_eq_true rfl) ?_
        refine r_mu (muX10_knownHere_4 μ) rfl ?_
        refine r_if_eq 75 dX10_knownHere_70 (by decide) (fun c4 => ?_) (fun c4 => ?_)
        · replace hP := hP.1 c4
          refine r_aload_n dX10_knownHere_75 0 rfl ?_
          refine r_bipush 13 dX10_knownHere_76 rfl ?_
          refine r_bipush 15 dX10_knownHere_78 rfl ?_
          refine r_bipush 15 dX10_knownHere_80 rfl ?_
          refine r_bipush 14 dX10_knownHere_82 rfl ?_
          refine r_iconst 0 dX10_knownHere_84 rfl ?_
          refine r_iconst 0 dX10_knownHere_85 rfl ?_
          refine r_iconst 0 dX10_knownHere_86 rfl ?_
          have hs5 := hP.1
          replace hP := hP.2
          refine r_cvI (ok_X10_takes hG 13 15 15 14 0 0 0 (muX10_knownHere_4 μ) hs5) lX10_236 (hG.lt (by decide)) sh57 ⟨_, _, rfl⟩ dX10_knownHere_87 (by decide) (Nat.le_of_ble_eq_true rfl) rfl (Nat.le_of_ble_eq_true rfl) ?_
          refine r_mu (muX10_knownHere_5 μ) rfl ?_
          refine r_if_eq 95 dX10_knownHere_90 (by decide) (fun c5 => ?_) (fun c5 => ?_)
          · replace hP := hP.1 c5
            refine r_aload_n dX10_knownHere_95 0 rfl ?_
            refine r_bipush 18 dX10_knownHere_96 rfl ?_
            refine r_iconst 5 dX10_knownHere_98 rfl ?_
            refine r_bipush 14 dX10_knownHere_99 rfl ?_
            refine r_bipush 20 dX10_knownHere_101 rfl ?_
            refine r_iconst 0 dX10_knownHere_103 rfl ?_
            refine r_iconst 0 dX10_knownHere_104 rfl ?_
            refine r_iconst 0 dX10_knownHere_105 rfl ?_
            have hs6 := hP.1
            replace hP := hP.2
            refine r_cvI (ok_X10_takes hG 18 5 14 20 0 0 0 (muX10_knownHere_5 μ) hs6) lX10_236 (hG.lt (by decide)) sh57 ⟨_, _, rfl⟩ dX10_knownHere_106 (by decide) (Nat.le_of_ble_eq_true rfl) rfl (Nat.le_of_ble_eq_true rfl) ?_
            refine r_mu (muX10_knownHere_6 μ) rfl ?_
            refine r_if_eq 114 dX10_knownHere_109 (by decide) (fun c6 => ?_) (fun c6 => ?_)
            · replace hP := hP.1 c6
              refine r_aload_n dX10_knownHere_114 0 rfl ?_
              refine r_bipush 8 dX10_knownHere_115 rfl ?_
              refine r_bipush 15 dX10_knownHere_117 rfl ?_
              refine r_bipush 21 dX10_knownHere_119 rfl ?_
              refine r_bipush 19 dX10_knownHere_121 rfl ?_
              refine r_iconst 5 dX10_knownHere_123 rfl ?_
              refine r_iconst 0 dX10_knownHere_124 rfl ?_
              refine r_iconst 0 dX10_knownHere_125 rfl ?_
              have hs7 := hP
              refine r_cvI (ok_X10_takes hG 8 15 21 19 5 0 0 (muX10_knownHere_6 μ) hs7) lX10_236 (hG.lt (by decide)) sh57 ⟨_, _, rfl⟩ dX10_knownHere_126 (by decide) (Nat.le_of_ble_eq_true rfl) rfl (Nat.le_of_ble_eq_true rfl) ?_
              refine r_mu (muX10_knownHere_7 μ) rfl ?_
              refine r_if_eq 137 dX10_knownHere_129 (by decide) (fun c7 => ?_) (fun c7 => ?_)
              · refine r_iconst (-1) dX10_knownHere_137 rfl ?_
                exact r_ireturn _ dX10_knownHere_138 rfl rfl ⟨congrArg (fun z => some (Value.int z)) (by unfold F_X10_knownHere; rw [if_pos c1, if_pos c2, if_pos c3, if_pos c4, if_pos c5, if_pos c6, if_pos c7]), by unfold M_X10_knownHere; rw [if_pos c1, if_pos c2, if_pos c3, if_pos c4, if_pos c5, if_pos c6]⟩
              · refine r_bipush 6 dX10_knownHere_132 rfl ?_
                refine r_goto 138 dX10_knownHere_134 (by decide) ?_
                exact r_ireturn _ dX10_knownHere_138 rfl rfl ⟨congrArg (fun z => some (Value.int z)) (by unfold F_X10_knownHere; rw [if_pos c1, if_pos c2, if_pos c3, if_pos c4, if_pos c5, if_pos c6, if_neg c7]), by unfold M_X10_knownHere; rw [if_pos c1, if_pos c2, if_pos c3, if_pos c4, if_pos c5, if_pos c6]⟩
            · replace hP := hP.2 c6
              refine r_iconst 5 dX10_knownHere_112 rfl ?_
              exact r_ireturn _ dX10_knownHere_113 rfl rfl ⟨congrArg (fun z => some (Value.int z)) (by unfold F_X10_knownHere; rw [if_pos c1, if_pos c2, if_pos c3, if_pos c4, if_pos c5, if_neg c6]), by unfold M_X10_knownHere; rw [if_pos c1, if_pos c2, if_pos c3, if_pos c4, if_pos c5, if_neg c6]⟩
          · replace hP := hP.2 c5
            refine r_iconst 4 dX10_knownHere_93 rfl ?_
            exact r_ireturn _ dX10_knownHere_94 rfl rfl ⟨congrArg (fun z => some (Value.int z)) (by unfold F_X10_knownHere; rw [if_pos c1, if_pos c2, if_pos c3, if_pos c4, if_neg c5]), by unfold M_X10_knownHere; rw [if_pos c1, if_pos c2, if_pos c3, if_pos c4, if_neg c5]⟩
        · replace hP := hP.2 c4
          refine r_iconst 3 dX10_knownHere_73 rfl ?_
          exact r_ireturn _ dX10_knownHere_74 rfl rfl ⟨congrArg (fun z => some (Value.int z)) (by unfold F_X10_knownHere; rw [if_pos c1, if_pos c2, if_pos c3, if_neg c4]), by unfold M_X10_knownHere; rw [if_pos c1, if_pos c2, if_pos c3, if_neg c4]⟩
      · replace hP := hP.2 c3
        refine r_iconst 2 dX10_knownHere_55 rfl ?_
        exact r_ireturn _ dX10_knownHere_56 rfl rfl ⟨congrArg (fun z => some (Value.int z)) (by unfold F_X10_knownHere; rw [if_pos c1, if_pos c2, if_neg c3]), by unfold M_X10_knownHere; rw [if_pos c1, if_pos c2, if_neg c3]⟩
    · replace hP := hP.2 c2
      refine r_iconst 1 dX10_knownHere_37 rfl ?_
      exact r_ireturn _ dX10_knownHere_38 rfl rfl ⟨congrArg (fun z => some (Value.int z)) (by unfold F_X10_knownHere; rw [if_pos c1, if_neg c2]), by unfold M_X10_knownHere; rw [if_pos c1, if_neg c2]⟩
  · replace hP := hP.2 c1
    refine r_iconst 0 dX10_knownHere_17 rfl ?_
    exact r_ireturn _ dX10_knownHere_18 rfl rfl ⟨congrArg (fun z => some (Value.int z)) (by unfold F_X10_knownHere; rw [if_neg c1]), by unfold M_X10_knownHere; rw [if_neg c1]⟩
def F_X10_by (p0 : Int32) (p1 : Int32) (p2 : Int32) (μ : Mem) : Int32 := (if p0 = 2 then (p1 + p2) else (if p0 = 3 then (p1 - p2) else (if p0 = 4 then (p1 * p2) else (if p0 = 5 then (if p2 ≠ 0 then (if p2 ≠ (-1) then (p1 / p2) else (-p1)) else 0) else (if p0 = 6 then (F_X10_less p1 p2 μ) else (F_X10_more p1 p2 μ))))))
def P_X10_by (p0 : Int32) (p1 : Int32) (p2 : Int32) (μ : Mem) : Prop := ((p0 = 2 → True) ∧ (p0 = 3 → True) ∧ (p0 = 4 → True) ∧ (p0 = 5 → ((p2 ≠ 0 → ((p2 ≠ (-1) → (¬ p2 = 0)) ∧ (p2 = (-1) → True))) ∧ (p2 = 0 → True))) ∧ (p0 = 6 → True) ∧ (¬ p0 = 2 ∧ ¬ p0 = 3 ∧ ¬ p0 = 4 ∧ ¬ p0 = 5 ∧ ¬ p0 = 6 → True))
set_option maxRecDepth 20000 in
set_option maxHeartbeats 2000000 in
theorem ok_X10_by {G : SG} (hG : GK 548 G) (p0 : Int32) (p1 : Int32) (p2 : Int32) (μ : Mem) (hP : P_X10_by p0 p1 p2 μ) : OkF G mX10_by [.int p0, .int p1, .int p2] μ (some (.int (F_X10_by p0 p1 p2 μ))) μ := by
  refine okF_of hG rfl rfl (Nat.le_of_ble_eq_true rfl) ?_
  unfold P_X10_by at hP
  refine r_iload_n dX10_by_0 0 rfl ?_
  by_cases c1 : p0 = 2
  · replace hP := hP.1 c1
    refine r_tableIn (35) 36 dX10_by_1 (by rw [c1]; decide) (by rw [c1]; decide) (by rw [c1]; rfl) (by decide) ?_
    refine r_iload_n dX10_by_36 1 rfl ?_
    refine r_iload_n dX10_by_37 2 rfl ?_
    refine r_iadd dX10_by_38 ?_
    exact r_ireturn _ dX10_by_39 rfl rfl ⟨congrArg (fun z => some (Value.int z)) (by unfold F_X10_by; rw [if_pos c1]), rfl⟩
  by_cases c2 : p0 = 3
  · replace hP := hP.2.1 c2
    refine r_tableIn (39) 40 dX10_by_1 (by rw [c2]; decide) (by rw [c2]; decide) (by rw [c2]; rfl) (by decide) ?_
    refine r_iload_n dX10_by_40 1 rfl ?_
    refine r_iload_n dX10_by_41 2 rfl ?_
    refine r_isub dX10_by_42 ?_
    exact r_ireturn _ dX10_by_43 rfl rfl ⟨congrArg (fun z => some (Value.int z)) (by unfold F_X10_by; rw [if_neg c1, if_pos c2]), rfl⟩
  by_cases c3 : p0 = 4
  · replace hP := hP.2.2.1 c3
    refine r_tableIn (43) 44 dX10_by_1 (by rw [c3]; decide) (by rw [c3]; decide) (by rw [c3]; rfl) (by decide) ?_
    refine r_iload_n dX10_by_44 1 rfl ?_
    refine r_iload_n dX10_by_45 2 rfl ?_
    refine r_imul dX10_by_46 ?_
    exact r_ireturn _ dX10_by_47 rfl rfl ⟨congrArg (fun z => some (Value.int z)) (by unfold F_X10_by; rw [if_neg c1, if_neg c2, if_pos c3]), rfl⟩
  by_cases c4 : p0 = 5
  · replace hP := hP.2.2.2.1 c4
    refine r_tableIn (47) 48 dX10_by_1 (by rw [c4]; decide) (by rw [c4]; decide) (by rw [c4]; rfl) (by decide) ?_
    refine r_iload_n dX10_by_48 2 rfl ?_
    refine r_if_ne 56 dX10_by_49 (by decide) (fun c5 => ?_) (fun c5 => ?_)
    · replace hP := hP.1 c5
      refine r_iload_n dX10_by_56 2 rfl ?_
      refine r_iconst (-1) dX10_by_57 rfl ?_
      refine r_icmp_ne 66 dX10_by_58 (by decide) (fun c6 => ?_) (fun c6 => ?_)
      · replace hP := hP.1 c6
        refine r_iload_n dX10_by_66 1 rfl ?_
        refine r_iload_n dX10_by_67 2 rfl ?_
        have hs1 := hP
        refine r_idiv dX10_by_68 hs1 ?_
        exact r_ireturn _ dX10_by_69 rfl rfl ⟨congrArg (fun z => some (Value.int z)) (by unfold F_X10_by; rw [if_neg c1, if_neg c2, if_neg c3, if_pos c4, if_pos c5, if_pos c6]), rfl⟩
      · replace hP := hP.2 c6
        refine r_iload_n dX10_by_61 1 rfl ?_
        refine r_ineg dX10_by_62 ?_
        refine r_goto 69 dX10_by_63 (by decide) ?_
        exact r_ireturn _ dX10_by_69 rfl rfl ⟨congrArg (fun z => some (Value.int z)) (by unfold F_X10_by; rw [if_neg c1, if_neg c2, if_neg c3, if_pos c4, if_pos c5, if_neg (not_not_intro c6)]), rfl⟩
    · replace hP := hP.2 c5
      refine r_iconst 0 dX10_by_52 rfl ?_
      refine r_goto 69 dX10_by_53 (by decide) ?_
      exact r_ireturn _ dX10_by_69 rfl rfl ⟨congrArg (fun z => some (Value.int z)) (by unfold F_X10_by; rw [if_neg c1, if_neg c2, if_neg c3, if_pos c4, if_neg (not_not_intro c5)]), rfl⟩
  by_cases c5 : p0 = 6
  · replace hP := hP.2.2.2.2.1 c5
    refine r_tableIn (69) 70 dX10_by_1 (by rw [c5]; decide) (by rw [c5]; decide) (by rw [c5]; rfl) (by decide) ?_
    refine r_iload_n dX10_by_70 1 rfl ?_
    refine r_iload_n dX10_by_71 2 rfl ?_
    refine r_csI (ok_X10_less hG p1 p2 μ) lX10_249 dX10_by_72 (by decide) (Nat.le_of_ble_eq_true rfl) rfl (Nat.le_of_ble_eq_true rfl) ?_
    exact r_ireturn _ dX10_by_75 rfl rfl ⟨congrArg (fun z => some (Value.int z)) (by unfold F_X10_by; rw [if_neg c1, if_neg c2, if_neg c3, if_neg c4, if_pos c5]), rfl⟩
  replace hP := hP.2.2.2.2.2 ⟨c1, c2, c3, c4, c5⟩
  have ec1 := i32_ti c1
  have ec2 := i32_ti c2
  have ec3 := i32_ti c3
  have ec4 := i32_ti c4
  have ec5 := i32_ti c5
  refine r_tableOut 76 dX10_by_1 (by simp only [Int32.reduceToInt] at ec1 ec2 ec3 ec4 ec5; omega) (by decide) ?_
  refine r_iload_n dX10_by_76 1 rfl ?_
  refine r_iload_n dX10_by_77 2 rfl ?_
  refine r_csI (ok_X10_more hG p1 p2 μ) lX10_252 dX10_by_78 (by decide) (Nat.le_of_ble_eq_true rfl) rfl (Nat.le_of_ble_eq_true rfl) ?_
  exact r_ireturn _ dX10_by_81 rfl rfl ⟨congrArg (fun z => some (Value.int z)) (by unfold F_X10_by; rw [if_neg c1, if_neg c2, if_neg c3, if_neg c4, if_neg c5]), rfl⟩
def muX10_byLaw_1 (μ : Mem) : Mem := (upm μ 438 0 ((((μ 439 0) / 4) + (3 * (μ 439 1))) - (μ 439 5)))
def muX10_byLaw_34_1 (i : Nat) (s : Int32 × Mem) : Mem := (upm s.2 438 (ix ((s.1 + (-1)) - 1)) (F_X10_by (s.2 (103 + (ix (nI i))) 0) (s.2 438 (ix ((s.1 + (-1)) - 1))) (s.2 438 (ix (s.1 + (-1)))) s.2))
def VX10_byLaw_34_2 (i : Nat) (s : Int32 × Mem) : Int32 := (if (s.2 (103 + (ix (nI i))) 0) ≠ 0 then (s.2 439 (ix (s.2 (103 + (ix (nI i))) 1))) else (s.2 (103 + (ix (nI i))) 1))
def muX10_byLaw_34_3 (i : Nat) (s : Int32 × Mem) : Mem := (upm s.2 438 (ix s.1) (VX10_byLaw_34_2 i s))
def VX10_byLaw_34_4 (i : Nat) (s : Int32 × Mem) : Int32 := (if 2 ≤ (s.2 (103 + (ix (nI i))) 0) then (s.1 + (-1)) else (s.1 + 1))
def VX10_byLaw_34_5 (i : Nat) (s : Int32 × Mem) : Mem := (if 2 ≤ (s.2 (103 + (ix (nI i))) 0) then (muX10_byLaw_34_1 i s) else (muX10_byLaw_34_3 i s))
def g_X10_byLaw_34  (i : Nat) (s : Int32 × Mem) : Int32 × Mem := ((VX10_byLaw_34_4 i s), (VX10_byLaw_34_5 i s))
def Pb_X10_byLaw_34  (i : Nat) (s : Int32 × Mem) : Prop := (((s.2 57 21) ≤ (nI i) → False) ∧ ((nI i) < (s.2 57 21) → (vp_in (nI i) 160) ∧ ((2 ≤ (s.2 (103 + (ix (nI i))) 0) → (vp_in (nI i) 160) ∧ (vp_in ((s.1 + (-1)) - 1) 160) ∧ (vp_in (s.1 + (-1)) 160) ∧ (P_X10_by (s.2 (103 + (ix (nI i))) 0) (s.2 438 (ix ((s.1 + (-1)) - 1))) (s.2 438 (ix (s.1 + (-1)))) s.2) ∧ vp_in ((s.1 + (-1)) - 1) 160) ∧ ((s.2 (103 + (ix (nI i))) 0) < 2 → (vp_in (nI i) 160) ∧ ((((s.2 (103 + (ix (nI i))) 0) ≠ 0 → (vp_in (nI i) 160) ∧ vp_in (s.2 (103 + (ix (nI i))) 1) 7) ∧ ((s.2 (103 + (ix (nI i))) 0) = 0 → vp_in (nI i) 160)) ∧ vp_in s.1 160)))))
set_option maxRecDepth 20000 in
set_option maxHeartbeats 2000000 in
theorem lp_X10_byLaw_34 {G : SG} (hG : GK 548 G)   (s0 : Int32 × Mem) (N : Nat) (sN : Int32 × Mem) (eN : sN = fo N g_X10_byLaw_34 s0) (hN : ∀ i, i < N → Pb_X10_byLaw_34  i (fo i g_X10_byLaw_34 s0)) {t : Nat} {Q : PQ} {X : PX} (h : R G mX10_byLaw 34 [(0, .ref (ga G 57)), (1, .int (sN).1), (2, .int (nI N))] [] (sN).2 t Q X) : R G mX10_byLaw 34 [(0, .ref (ga G 57)), (1, .int (s0).1), (2, .int 0)] [] (s0).2 t Q X := by
  subst eN
  refine down_i N (fun i => R G mX10_byLaw 34 [(0, .ref (ga G 57)), (1, .int ((fo i g_X10_byLaw_34 s0)).1), (2, .int (nI i))] [] ((fo i g_X10_byLaw_34 s0)).2 t Q X) h (fun i hi hS => ?_)
  have hP := hN i hi
  rw [fo_succ] at hS
  rw [nI_succ] at hS
  generalize fo i g_X10_byLaw_34 s0 = s at hS hP ⊢
  unfold Pb_X10_byLaw_34 at hP
  refine r_iload_n dX10_byLaw_34 2 rfl ?_
  refine r_aload_n dX10_byLaw_35 0 rfl ?_
  refine r_getI fX10_206 (hG.lt (by decide)) sh57 fs57_21 dX10_byLaw_36 ?_
  refine r_icmp_ge 143 dX10_byLaw_39 (by decide) (fun c1 => ?_) (fun c1 => ?_)
  · replace hP := hP.1 c1
    exact hP.elim
  · replace hP := hP.2 c1
    refine r_aload_n dX10_byLaw_42 0 rfl ?_
    refine r_getR 102 fX10_52 (hG.lt (by decide)) sh57 fs57_23 dX10_byLaw_43 ?_
    refine r_iload_n dX10_byLaw_46 2 rfl ?_
    have hs1 := hP.1
    replace hP := hP.2
    refine r_aald (hG.lt (by decide)) sh102 hs1 dX10_byLaw_47 ?_
    refine r_iconst 0 dX10_byLaw_48 rfl ?_
    refine r_ialdK 0 rfl (ltR (vp_ix hs1) (by decide) hG) (shr102 _ (vp_ix hs1)) (vp_of (by decide) (by decide)) dX10_byLaw_49 ?_
    refine r_iconst 2 dX10_byLaw_50 rfl ?_
    refine r_join 137 [(1, .int (VX10_byLaw_34_4 i s)), (0, .ref (ga G 57)), (2, .int (nI i))] [] (VX10_byLaw_34_5 i s) ?_ (fun hJ => ?_)
    · refine r_iinc ((nI i) + 1) [(2, _), (1, _), (0, _)] dX10_byLaw_137 2 rfl rfl (Nat.le_of_ble_eq_true rfl) rfl ?_
      refine r_goto 34 dX10_byLaw_140 (by decide) ?_
      have e : g_X10_byLaw_34  i s = ((VX10_byLaw_34_4 i s), (VX10_byLaw_34_5 i s)) := by unfold g_X10_byLaw_34; rfl
      rw [e] at hS
      dsimp only at hS
      exact r_sub [2, 1, 0] rfl hS
    · refine r_icmp_ge 101 dX10_byLaw_51 (by decide) (fun c2 => ?_) (fun c2 => ?_)
      · replace hP := hP.1 c2
        refine r_iinc (s.1 + (-1)) [(1, _), (0, _), (2, _)] dX10_byLaw_101 1 rfl rfl (Nat.le_of_ble_eq_true rfl) rfl ?_
        refine r_aload_n dX10_byLaw_104 1 rfl ?_
        refine r_getR 438 fX10_64 (hG.lt (by decide)) sh57 fs57_27 dX10_byLaw_105 ?_
        refine r_iload_n dX10_byLaw_108 0 rfl ?_
        refine r_iconst 1 dX10_byLaw_109 rfl ?_
        refine r_isub dX10_byLaw_110 ?_
        refine r_aload_n dX10_byLaw_111 1 rfl ?_
        refine r_getR 102 fX10_52 (hG.lt (by decide)) sh57 fs57_23 dX10_byLaw_112 ?_
        refine r_iload_n dX10_byLaw_115 2 rfl ?_
        have hs2 := hP.1
        replace hP := hP.2
        refine r_aald (hG.lt (by decide)) sh102 hs2 dX10_byLaw_116 ?_
        refine r_iconst 0 dX10_byLaw_117 rfl ?_
        refine r_ialdK 0 rfl (ltR (vp_ix hs2) (by decide) hG) (shr102 _ (vp_ix hs2)) (vp_of (by decide) (by decide)) dX10_byLaw_118 ?_
        refine r_aload_n dX10_byLaw_119 1 rfl ?_
        refine r_getR 438 fX10_64 (hG.lt (by decide)) sh57 fs57_27 dX10_byLaw_120 ?_
        refine r_iload_n dX10_byLaw_123 0 rfl ?_
        refine r_iconst 1 dX10_byLaw_124 rfl ?_
        refine r_isub dX10_byLaw_125 ?_
        have hs3 := hP.1
        replace hP := hP.2
        refine r_iald (hG.lt (by decide)) sh438 hs3 dX10_byLaw_126 ?_
        refine r_aload_n dX10_byLaw_127 1 rfl ?_
        refine r_getR 438 fX10_64 (hG.lt (by decide)) sh57 fs57_27 dX10_byLaw_128 ?_
        refine r_iload_n dX10_byLaw_131 0 rfl ?_
        have hs4 := hP.1
        replace hP := hP.2
        refine r_iald (hG.lt (by decide)) sh438 hs4 dX10_byLaw_132 ?_
        have hs5 := hP.1
        replace hP := hP.2
        refine r_csI (ok_X10_by hG (s.2 (103 + (ix (nI i))) 0) (s.2 438 (ix ((s.1 + (-1)) - 1))) (s.2 438 (ix (s.1 + (-1)))) s.2 hs5) lX10_255 dX10_byLaw_133 (by decide) (Nat.le_of_ble_eq_true rfl) rfl (Nat.le_of_ble_eq_true rfl) ?_
        have hs6 := hP
        refine r_iast (hG.lt (by decide)) sh438 hs6 dX10_byLaw_136 ?_
        refine r_mu (muX10_byLaw_34_1 i s) rfl ?_
        have e : (VX10_byLaw_34_4 i s) = (s.1 + (-1)) := by unfold VX10_byLaw_34_4; rw [if_pos c2]
        rw [e] at hJ
        clear e
        have e : (VX10_byLaw_34_5 i s) = (muX10_byLaw_34_1 i s) := by unfold VX10_byLaw_34_5; rw [if_pos c2]
        rw [e] at hJ
        exact r_sub [0, 1, 2] rfl hJ
      · replace hP := hP.2 c2
        refine r_aload_n dX10_byLaw_54 0 rfl ?_
        refine r_getR 438 fX10_64 (hG.lt (by decide)) sh57 fs57_27 dX10_byLaw_55 ?_
        refine r_iload_n dX10_byLaw_58 1 rfl ?_
        refine r_aload_n dX10_byLaw_59 0 rfl ?_
        refine r_getR 102 fX10_52 (hG.lt (by decide)) sh57 fs57_23 dX10_byLaw_60 ?_
        refine r_iload_n dX10_byLaw_63 2 rfl ?_
        have hs7 := hP.1
        replace hP := hP.2
        refine r_aald (hG.lt (by decide)) sh102 hs7 dX10_byLaw_64 ?_
        refine r_iconst 0 dX10_byLaw_65 rfl ?_
        refine r_ialdK 0 rfl (ltR (vp_ix hs7) (by decide) hG) (shr102 _ (vp_ix hs7)) (vp_of (by decide) (by decide)) dX10_byLaw_66 ?_
        refine r_join 94 [(0, .ref (ga G 57)), (1, .int s.1), (2, .int (nI i))] [.int (VX10_byLaw_34_2 i s), .int s.1, .ref (ga G 438)] s.2 ?_ (fun hJ => ?_)
        · replace hP := hP.2
          have hs11 := hP
          refine r_iast (hG.lt (by decide)) sh438 hs11 dX10_byLaw_94 ?_
          refine r_mu (muX10_byLaw_34_3 i s) rfl ?_
          refine r_iinc (s.1 + 1) [(1, _), (0, _), (2, _)] dX10_byLaw_95 1 rfl rfl (Nat.le_of_ble_eq_true rfl) rfl ?_
          refine r_goto 137 dX10_byLaw_98 (by decide) ?_
          have e : (VX10_byLaw_34_4 i s) = (s.1 + 1) := by unfold VX10_byLaw_34_4; rw [if_neg (i32_ng c2)]
          rw [e] at hJ
          clear e
          have e : (VX10_byLaw_34_5 i s) = (muX10_byLaw_34_3 i s) := by unfold VX10_byLaw_34_5; rw [if_neg (i32_ng c2)]
          rw [e] at hJ
          exact r_sub [0, 1, 2] rfl hJ
        · replace hP := hP.1
          refine r_if_ne 81 dX10_byLaw_67 (by decide) (fun c3 => ?_) (fun c3 => ?_)
          · replace hP := hP.1 c3
            refine r_aload_n dX10_byLaw_81 0 rfl ?_
            refine r_getR 439 fX10_67 (hG.lt (by decide)) sh57 fs57_28 dX10_byLaw_82 ?_
            refine r_aload_n dX10_byLaw_85 0 rfl ?_
            refine r_getR 102 fX10_52 (hG.lt (by decide)) sh57 fs57_23 dX10_byLaw_86 ?_
            refine r_iload_n dX10_byLaw_89 2 rfl ?_
            have hs8 := hP.1
            replace hP := hP.2
            refine r_aald (hG.lt (by decide)) sh102 hs8 dX10_byLaw_90 ?_
            refine r_iconst 1 dX10_byLaw_91 rfl ?_
            refine r_ialdK 1 rfl (ltR (vp_ix hs8) (by decide) hG) (shr102 _ (vp_ix hs8)) (vp_of (by decide) (by decide)) dX10_byLaw_92 ?_
            have hs9 := hP
            refine r_iald (hG.lt (by decide)) sh439 hs9 dX10_byLaw_93 ?_
            have e : (VX10_byLaw_34_2 i s) = (s.2 439 (ix (s.2 (103 + (ix (nI i))) 1))) := by unfold VX10_byLaw_34_2; rw [if_pos c3]
            rw [e] at hJ
            exact r_sub [0, 1, 2] rfl hJ
          · replace hP := hP.2 c3
            refine r_aload_n dX10_byLaw_70 0 rfl ?_
            refine r_getR 102 fX10_52 (hG.lt (by decide)) sh57 fs57_23 dX10_byLaw_71 ?_
            refine r_iload_n dX10_byLaw_74 2 rfl ?_
            have hs10 := hP
            refine r_aald (hG.lt (by decide)) sh102 hs10 dX10_byLaw_75 ?_
            refine r_iconst 1 dX10_byLaw_76 rfl ?_
            refine r_ialdK 1 rfl (ltR (vp_ix hs10) (by decide) hG) (shr102 _ (vp_ix hs10)) (vp_of (by decide) (by decide)) dX10_byLaw_77 ?_
            refine r_goto 94 dX10_byLaw_78 (by decide) ?_
            have e : (VX10_byLaw_34_2 i s) = (s.2 (103 + (ix (nI i))) 1) := by unfold VX10_byLaw_34_2; rw [if_neg (not_not_intro c3)]
            rw [e] at hJ
            exact r_sub [0, 1, 2] rfl hJ
def NX10_byLaw_34 (μ : Mem) : Nat := ix ((muX10_byLaw_1 μ) 57 21)
def SX10_byLaw_34 (μ : Mem) : Int32 × Mem := fo (NX10_byLaw_34 μ) g_X10_byLaw_34 (0, (muX10_byLaw_1 μ))
def muX10_byLaw_2 (μ : Mem) : Mem := (upm (SX10_byLaw_34 μ).2 438 (ix (((SX10_byLaw_34 μ).1 + (-1)) - 1)) (F_X10_by ((SX10_byLaw_34 μ).2 (103 + (ix (nI (NX10_byLaw_34 μ)))) 0) ((SX10_byLaw_34 μ).2 438 (ix (((SX10_byLaw_34 μ).1 + (-1)) - 1))) ((SX10_byLaw_34 μ).2 438 (ix ((SX10_byLaw_34 μ).1 + (-1)))) (SX10_byLaw_34 μ).2))
def VX10_byLaw_3 (μ : Mem) : Int32 := (if ((SX10_byLaw_34 μ).2 (103 + (ix (nI (NX10_byLaw_34 μ)))) 0) ≠ 0 then ((SX10_byLaw_34 μ).2 439 (ix ((SX10_byLaw_34 μ).2 (103 + (ix (nI (NX10_byLaw_34 μ)))) 1))) else ((SX10_byLaw_34 μ).2 (103 + (ix (nI (NX10_byLaw_34 μ)))) 1))
def muX10_byLaw_4 (μ : Mem) : Mem := (upm (SX10_byLaw_34 μ).2 438 (ix (SX10_byLaw_34 μ).1) (VX10_byLaw_3 μ))
def VX10_byLaw_5 (μ : Mem) : Int32 := (if 2 ≤ ((SX10_byLaw_34 μ).2 (103 + (ix (nI (NX10_byLaw_34 μ)))) 0) then ((SX10_byLaw_34 μ).1 + (-1)) else ((SX10_byLaw_34 μ).1 + 1))
def VX10_byLaw_6 (μ : Mem) : Mem := (if 2 ≤ ((SX10_byLaw_34 μ).2 (103 + (ix (nI (NX10_byLaw_34 μ)))) 0) then (muX10_byLaw_2 μ) else (muX10_byLaw_4 μ))
def F_X10_byLaw  (μ : Mem) : Int32 := (F_X10_less 99 (F_X10_more 0 ((SX10_byLaw_34 μ).2 438 0) (SX10_byLaw_34 μ).2) (SX10_byLaw_34 μ).2)
def M_X10_byLaw  (μ : Mem) : Mem := (SX10_byLaw_34 μ).2
def P_X10_byLaw  (μ : Mem) : Prop := ((∀ j9, j9 < (NX10_byLaw_34 μ) → Pb_X10_byLaw_34  j9 (fo j9 g_X10_byLaw_34 (0, (muX10_byLaw_1 μ)))) ∧ ((((SX10_byLaw_34 μ).2 57 21) ≤ (nI (NX10_byLaw_34 μ)) → True) ∧ ((nI (NX10_byLaw_34 μ)) < ((SX10_byLaw_34 μ).2 57 21) → ((vp_in (nI (NX10_byLaw_34 μ)) 160) ∧ (((2 ≤ ((SX10_byLaw_34 μ).2 (103 + (ix (nI (NX10_byLaw_34 μ)))) 0) → ((vp_in (nI (NX10_byLaw_34 μ)) 160) ∧ ((vp_in (((SX10_byLaw_34 μ).1 + (-1)) - 1) 160) ∧ ((vp_in ((SX10_byLaw_34 μ).1 + (-1)) 160) ∧ ((P_X10_by ((SX10_byLaw_34 μ).2 (103 + (ix (nI (NX10_byLaw_34 μ)))) 0) ((SX10_byLaw_34 μ).2 438 (ix (((SX10_byLaw_34 μ).1 + (-1)) - 1))) ((SX10_byLaw_34 μ).2 438 (ix ((SX10_byLaw_34 μ).1 + (-1)))) (SX10_byLaw_34 μ).2) ∧ (vp_in (((SX10_byLaw_34 μ).1 + (-1)) - 1) 160)))))) ∧ (((SX10_byLaw_34 μ).2 (103 + (ix (nI (NX10_byLaw_34 μ)))) 0) < 2 → ((vp_in (nI (NX10_byLaw_34 μ)) 160) ∧ (((((SX10_byLaw_34 μ).2 (103 + (ix (nI (NX10_byLaw_34 μ)))) 0) ≠ 0 → ((vp_in (nI (NX10_byLaw_34 μ)) 160) ∧ (vp_in ((SX10_byLaw_34 μ).2 (103 + (ix (nI (NX10_byLaw_34 μ)))) 1) 7))) ∧ (((SX10_byLaw_34 μ).2 (103 + (ix (nI (NX10_byLaw_34 μ)))) 0) = 0 → (vp_in (nI (NX10_byLaw_34 μ)) 160))) ∧ (vp_in (SX10_byLaw_34 μ).1 160))))) ∧ False)))))
set_option maxRecDepth 20000 in
set_option maxHeartbeats 2000000 in
theorem ok_X10_byLaw {G : SG} (hG : GK 548 G)  (μ : Mem) (hP : P_X10_byLaw  μ) : OkF G mX10_byLaw [.ref (ga G 57)] μ (some (.int (F_X10_byLaw  μ))) (M_X10_byLaw  μ) := by
  refine okF_of hG rfl rfl (Nat.le_of_ble_eq_true rfl) ?_
  unfold P_X10_byLaw at hP
  refine r_iconst 0 dX10_byLaw_0 rfl ?_
  refine r_istore_n [(1, _), (0, _)] dX10_byLaw_1 (Nat.le_of_ble_eq_true rfl) rfl ?_
  refine r_aload_n dX10_byLaw_2 1 rfl ?_
  refine r_getR 438 fX10_64 (hG.lt (by decide)) sh57 fs57_27 dX10_byLaw_3 ?_
  refine r_iconst 0 dX10_byLaw_6 rfl ?_
  refine r_aload_n dX10_byLaw_7 1 rfl ?_
  refine r_getR 439 fX10_67 (hG.lt (by decide)) sh57 fs57_28 dX10_byLaw_8 ?_
  refine r_iconst 0 dX10_byLaw_11 rfl ?_
  refine r_ialdK 0 rfl (hG.lt (by decide)) sh439 (vp_of (by decide) (by decide)) dX10_byLaw_12 ?_
  refine r_iconst 4 dX10_byLaw_13 rfl ?_
  refine r_idiv dX10_byLaw_14 (by decide) ?_
  refine r_iconst 3 dX10_byLaw_15 rfl ?_
  refine r_aload_n dX10_byLaw_16 1 rfl ?_
  refine r_getR 439 fX10_67 (hG.lt (by decide)) sh57 fs57_28 dX10_byLaw_17 ?_
  refine r_iconst 1 dX10_byLaw_20 rfl ?_
  refine r_ialdK 1 rfl (hG.lt (by decide)) sh439 (vp_of (by decide) (by decide)) dX10_byLaw_21 ?_
  refine r_imul dX10_byLaw_22 ?_
  refine r_iadd dX10_byLaw_23 ?_
  refine r_aload_n dX10_byLaw_24 1 rfl ?_
  refine r_getR 439 fX10_67 (hG.lt (by decide)) sh57 fs57_28 dX10_byLaw_25 ?_
  refine r_iconst 5 dX10_byLaw_28 rfl ?_
  refine r_ialdK 5 rfl (hG.lt (by decide)) sh439 (vp_of (by decide) (by decide)) dX10_byLaw_29 ?_
  refine r_isub dX10_byLaw_30 ?_
  refine r_iastK 0 rfl (hG.lt (by decide)) sh438 (vp_of (by decide) (by decide)) dX10_byLaw_31 ?_
  refine r_mu (muX10_byLaw_1 μ) rfl ?_
  refine r_iconst 0 dX10_byLaw_32 rfl ?_
  refine r_istore_n [(2, _), (1, _), (0, _)] dX10_byLaw_33 (Nat.le_of_ble_eq_true rfl) rfl ?_
  have hs1 := hP.1
  replace hP := hP.2
  refine r_sub [2, 1, 0] rfl ?_
  refine lp_X10_byLaw_34 hG (0, (muX10_byLaw_1 μ)) ((NX10_byLaw_34 μ)) (SX10_byLaw_34 μ) rfl hs1 ?_
  refine r_iload_n dX10_byLaw_34 2 rfl ?_
  refine r_aload_n dX10_byLaw_35 0 rfl ?_
  refine r_getI fX10_206 (hG.lt (by decide)) sh57 fs57_21 dX10_byLaw_36 ?_
  refine r_icmp_ge 143 dX10_byLaw_39 (by decide) (fun c1 => ?_) (fun c1 => ?_)
  · replace hP := hP.1 c1
    refine r_bipush 99 dX10_byLaw_143 rfl ?_
    refine r_iconst 0 dX10_byLaw_145 rfl ?_
    refine r_aload_n dX10_byLaw_146 0 rfl ?_
    refine r_getR 438 fX10_64 (hG.lt (by decide)) sh57 fs57_27 dX10_byLaw_147 ?_
    refine r_iconst 0 dX10_byLaw_150 rfl ?_
    refine r_ialdK 0 rfl (hG.lt (by decide)) sh438 (vp_of (by decide) (by decide)) dX10_byLaw_151 ?_
    refine r_csI (ok_X10_more hG 0 ((SX10_byLaw_34 μ).2 438 0) (SX10_byLaw_34 μ).2) lX10_252 dX10_byLaw_152 (by decide) (Nat.le_of_ble_eq_true rfl) rfl (Nat.le_of_ble_eq_true rfl) ?_
    refine r_csI (ok_X10_less hG 99 (F_X10_more 0 ((SX10_byLaw_34 μ).2 438 0) (SX10_byLaw_34 μ).2) (SX10_byLaw_34 μ).2) lX10_249 dX10_byLaw_155 (by decide) (Nat.le_of_ble_eq_true rfl) rfl (Nat.le_of_ble_eq_true rfl) ?_
    exact r_ireturn _ dX10_byLaw_158 rfl rfl ⟨congrArg (fun z => some (Value.int z)) (rfl), rfl⟩
  · replace hP := hP.2 c1
    refine r_aload_n dX10_byLaw_42 0 rfl ?_
    refine r_getR 102 fX10_52 (hG.lt (by decide)) sh57 fs57_23 dX10_byLaw_43 ?_
    refine r_iload_n dX10_byLaw_46 2 rfl ?_
    have hs13 := hP.1
    replace hP := hP.2
    refine r_aald (hG.lt (by decide)) sh102 hs13 dX10_byLaw_47 ?_
    refine r_iconst 0 dX10_byLaw_48 rfl ?_
    refine r_ialdK 0 rfl (ltR (vp_ix hs13) (by decide) hG) (shr102 _ (vp_ix hs13)) (vp_of (by decide) (by decide)) dX10_byLaw_49 ?_
    refine r_iconst 2 dX10_byLaw_50 rfl ?_
    refine r_join 137 [(1, .int (VX10_byLaw_5 μ)), (0, .ref (ga G 57)), (2, .int (nI (NX10_byLaw_34 μ)))] [] (VX10_byLaw_6 μ) ?_ (fun hJ => ?_)
    · replace hP := hP.2
      refine r_iinc ((nI (NX10_byLaw_34 μ)) + 1) [(2, _), (1, _), (0, _)] dX10_byLaw_137 2 rfl rfl (Nat.le_of_ble_eq_true rfl) rfl ?_
      refine r_goto 34 dX10_byLaw_140 (by decide) ?_
      exact hP.elim
    · replace hP := hP.1
      refine r_icmp_ge 101 dX10_byLaw_51 (by decide) (fun c2 => ?_) (fun c2 => ?_)
      · replace hP := hP.1 c2
        refine r_iinc ((SX10_byLaw_34 μ).1 + (-1)) [(1, _), (0, _), (2, _)] dX10_byLaw_101 1 rfl rfl (Nat.le_of_ble_eq_true rfl) rfl ?_
        refine r_aload_n dX10_byLaw_104 1 rfl ?_
        refine r_getR 438 fX10_64 (hG.lt (by decide)) sh57 fs57_27 dX10_byLaw_105 ?_
        refine r_iload_n dX10_byLaw_108 0 rfl ?_
        refine r_iconst 1 dX10_byLaw_109 rfl ?_
        refine r_isub dX10_byLaw_110 ?_
        refine r_aload_n dX10_byLaw_111 1 rfl ?_
        refine r_getR 102 fX10_52 (hG.lt (by decide)) sh57 fs57_23 dX10_byLaw_112 ?_
        refine r_iload_n dX10_byLaw_115 2 rfl ?_
        have hs14 := hP.1
        replace hP := hP.2
        refine r_aald (hG.lt (by decide)) sh102 hs14 dX10_byLaw_116 ?_
        refine r_iconst 0 dX10_byLaw_117 rfl ?_
        refine r_ialdK 0 rfl (ltR (vp_ix hs14) (by decide) hG) (shr102 _ (vp_ix hs14)) (vp_of (by decide) (by decide)) dX10_byLaw_118 ?_
        refine r_aload_n dX10_byLaw_119 1 rfl ?_
        refine r_getR 438 fX10_64 (hG.lt (by decide)) sh57 fs57_27 dX10_byLaw_120 ?_
        refine r_iload_n dX10_byLaw_123 0 rfl ?_
        refine r_iconst 1 dX10_byLaw_124 rfl ?_
        refine r_isub dX10_byLaw_125 ?_
        have hs15 := hP.1
        replace hP := hP.2
        refine r_iald (hG.lt (by decide)) sh438 hs15 dX10_byLaw_126 ?_
        refine r_aload_n dX10_byLaw_127 1 rfl ?_
        refine r_getR 438 fX10_64 (hG.lt (by decide)) sh57 fs57_27 dX10_byLaw_128 ?_
        refine r_iload_n dX10_byLaw_131 0 rfl ?_
        have hs16 := hP.1
        replace hP := hP.2
        refine r_iald (hG.lt (by decide)) sh438 hs16 dX10_byLaw_132 ?_
        have hs17 := hP.1
        replace hP := hP.2
        refine r_csI (ok_X10_by hG ((SX10_byLaw_34 μ).2 (103 + (ix (nI (NX10_byLaw_34 μ)))) 0) ((SX10_byLaw_34 μ).2 438 (ix (((SX10_byLaw_34 μ).1 + (-1)) - 1))) ((SX10_byLaw_34 μ).2 438 (ix ((SX10_byLaw_34 μ).1 + (-1)))) (SX10_byLaw_34 μ).2 hs17) lX10_255 dX10_byLaw_133 (by decide) (Nat.le_of_ble_eq_true rfl) rfl (Nat.le_of_ble_eq_true rfl) ?_
        have hs18 := hP
        refine r_iast (hG.lt (by decide)) sh438 hs18 dX10_byLaw_136 ?_
        refine r_mu (muX10_byLaw_2 μ) rfl ?_
        have e : (VX10_byLaw_5 μ) = ((SX10_byLaw_34 μ).1 + (-1)) := by unfold VX10_byLaw_5; rw [if_pos c2]
        rw [e] at hJ
        clear e
        have e : (VX10_byLaw_6 μ) = (muX10_byLaw_2 μ) := by unfold VX10_byLaw_6; rw [if_pos c2]
        rw [e] at hJ
        exact r_sub [0, 1, 2] rfl hJ
      · replace hP := hP.2 c2
        refine r_aload_n dX10_byLaw_54 0 rfl ?_
        refine r_getR 438 fX10_64 (hG.lt (by decide)) sh57 fs57_27 dX10_byLaw_55 ?_
        refine r_iload_n dX10_byLaw_58 1 rfl ?_
        refine r_aload_n dX10_byLaw_59 0 rfl ?_
        refine r_getR 102 fX10_52 (hG.lt (by decide)) sh57 fs57_23 dX10_byLaw_60 ?_
        refine r_iload_n dX10_byLaw_63 2 rfl ?_
        have hs19 := hP.1
        replace hP := hP.2
        refine r_aald (hG.lt (by decide)) sh102 hs19 dX10_byLaw_64 ?_
        refine r_iconst 0 dX10_byLaw_65 rfl ?_
        refine r_ialdK 0 rfl (ltR (vp_ix hs19) (by decide) hG) (shr102 _ (vp_ix hs19)) (vp_of (by decide) (by decide)) dX10_byLaw_66 ?_
        refine r_join 94 [(0, .ref (ga G 57)), (1, .int (SX10_byLaw_34 μ).1), (2, .int (nI (NX10_byLaw_34 μ)))] [.int (VX10_byLaw_3 μ), .int (SX10_byLaw_34 μ).1, .ref (ga G 438)] (SX10_byLaw_34 μ).2 ?_ (fun hJ => ?_)
        · replace hP := hP.2
          have hs23 := hP
          refine r_iast (hG.lt (by decide)) sh438 hs23 dX10_byLaw_94 ?_
          refine r_mu (muX10_byLaw_4 μ) rfl ?_
          refine r_iinc ((SX10_byLaw_34 μ).1 + 1) [(1, _), (0, _), (2, _)] dX10_byLaw_95 1 rfl rfl (Nat.le_of_ble_eq_true rfl) rfl ?_
          refine r_goto 137 dX10_byLaw_98 (by decide) ?_
          have e : (VX10_byLaw_5 μ) = ((SX10_byLaw_34 μ).1 + 1) := by unfold VX10_byLaw_5; rw [if_neg (i32_ng c2)]
          rw [e] at hJ
          clear e
          have e : (VX10_byLaw_6 μ) = (muX10_byLaw_4 μ) := by unfold VX10_byLaw_6; rw [if_neg (i32_ng c2)]
          rw [e] at hJ
          exact r_sub [0, 1, 2] rfl hJ
        · replace hP := hP.1
          refine r_if_ne 81 dX10_byLaw_67 (by decide) (fun c3 => ?_) (fun c3 => ?_)
          · replace hP := hP.1 c3
            refine r_aload_n dX10_byLaw_81 0 rfl ?_
            refine r_getR 439 fX10_67 (hG.lt (by decide)) sh57 fs57_28 dX10_byLaw_82 ?_
            refine r_aload_n dX10_byLaw_85 0 rfl ?_
            refine r_getR 102 fX10_52 (hG.lt (by decide)) sh57 fs57_23 dX10_byLaw_86 ?_
            refine r_iload_n dX10_byLaw_89 2 rfl ?_
            have hs20 := hP.1
            replace hP := hP.2
            refine r_aald (hG.lt (by decide)) sh102 hs20 dX10_byLaw_90 ?_
            refine r_iconst 1 dX10_byLaw_91 rfl ?_
            refine r_ialdK 1 rfl (ltR (vp_ix hs20) (by decide) hG) (shr102 _ (vp_ix hs20)) (vp_of (by decide) (by decide)) dX10_byLaw_92 ?_
            have hs21 := hP
            refine r_iald (hG.lt (by decide)) sh439 hs21 dX10_byLaw_93 ?_
            have e : (VX10_byLaw_3 μ) = ((SX10_byLaw_34 μ).2 439 (ix ((SX10_byLaw_34 μ).2 (103 + (ix (nI (NX10_byLaw_34 μ)))) 1))) := by unfold VX10_byLaw_3; rw [if_pos c3]
            rw [e] at hJ
            exact r_sub [0, 1, 2] rfl hJ
          · replace hP := hP.2 c3
            refine r_aload_n dX10_byLaw_70 0 rfl ?_
            refine r_getR 102 fX10_52 (hG.lt (by decide)) sh57 fs57_23 dX10_byLaw_71 ?_
            refine r_iload_n dX10_byLaw_74 2 rfl ?_
            have hs22 := hP
            refine r_aald (hG.lt (by decide)) sh102 hs22 dX10_byLaw_75 ?_
            refine r_iconst 1 dX10_byLaw_76 rfl ?_
            refine r_ialdK 1 rfl (ltR (vp_ix hs22) (by decide) hG) (shr102 _ (vp_ix hs22)) (vp_of (by decide) (by decide)) dX10_byLaw_77 ?_
            refine r_goto 94 dX10_byLaw_78 (by decide) ?_
            have e : (VX10_byLaw_3 μ) = ((SX10_byLaw_34 μ).2 (103 + (ix (nI (NX10_byLaw_34 μ)))) 1) := by unfold VX10_byLaw_3; rw [if_neg (not_not_intro c3)]
            rw [e] at hJ
            exact r_sub [0, 1, 2] rfl hJ
