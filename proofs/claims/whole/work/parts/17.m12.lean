def muX10_goes_2_1 (rM : Int32 → Int32 → Mem → Mem) (rP : Int32 → Int32 → Mem → Prop) (v1 : Int32) (v2 : Int32) (i : Nat) (s : Int32 × Mem) : Mem := (upm s.2 57 45 ((s.2 57 45) + 1))
def muX10_goes_2_2 (rM : Int32 → Int32 → Mem → Mem) (rP : Int32 → Int32 → Mem → Prop) (v1 : Int32) (v2 : Int32) (i : Nat) (s : Int32 × Mem) : Mem := (M_X10_does 521 (441 + (ix s.1)) (muX10_goes_2_1 rM rP v1 v2 i s))
def VX10_goes_2_3 (rM : Int32 → Int32 → Mem → Mem) (rP : Int32 → Int32 → Mem → Prop) (v1 : Int32) (v2 : Int32) (i : Nat) (s : Int32 × Mem) : Int32 := (if (F_X10_does 521 (441 + (ix s.1)) (muX10_goes_2_1 rM rP v1 v2 i s)) = 0 then 0 else 1)
theorem bo_VX10_goes_2_3 (rM : Int32 → Int32 → Mem → Mem) (rP : Int32 → Int32 → Mem → Prop) (v1 : Int32) (v2 : Int32) (i : Nat) (s : Int32 × Mem) : (VX10_goes_2_3 rM rP v1 v2 i s) = 0 ∨ (VX10_goes_2_3 rM rP v1 v2 i s) = 1 := by
  unfold VX10_goes_2_3
  split
  · exact Or.inl rfl
  · exact Or.inr rfl
def muX10_goes_2_4 (rM : Int32 → Int32 → Mem → Mem) (rP : Int32 → Int32 → Mem → Prop) (v1 : Int32) (v2 : Int32) (i : Nat) (s : Int32 × Mem) : Mem := (upm (muX10_goes_2_2 rM rP v1 v2 i s) 57 46 (((muX10_goes_2_2 rM rP v1 v2 i s) 57 46) + (VX10_goes_2_3 rM rP v1 v2 i s)))
def VX10_goes_2_5 (rM : Int32 → Int32 → Mem → Mem) (rP : Int32 → Int32 → Mem → Prop) (v1 : Int32) (v2 : Int32) (i : Nat) (s : Int32 × Mem) : Int32 := (if (F_X10_does 521 (441 + (ix s.1)) (muX10_goes_2_1 rM rP v1 v2 i s)) = 0 then 1 else 0)
theorem bo_VX10_goes_2_5 (rM : Int32 → Int32 → Mem → Mem) (rP : Int32 → Int32 → Mem → Prop) (v1 : Int32) (v2 : Int32) (i : Nat) (s : Int32 × Mem) : (VX10_goes_2_5 rM rP v1 v2 i s) = 0 ∨ (VX10_goes_2_5 rM rP v1 v2 i s) = 1 := by
  unfold VX10_goes_2_5
  split
  · exact Or.inr rfl
  · exact Or.inl rfl
def muX10_goes_2_6 (rM : Int32 → Int32 → Mem → Mem) (rP : Int32 → Int32 → Mem → Prop) (v1 : Int32) (v2 : Int32) (i : Nat) (s : Int32 × Mem) : Mem := (upm (muX10_goes_2_4 rM rP v1 v2 i s) 57 40 (((muX10_goes_2_4 rM rP v1 v2 i s) 57 40) + (VX10_goes_2_5 rM rP v1 v2 i s)))
def muX10_goes_43_1 (rM : Int32 → Int32 → Mem → Mem) (rP : Int32 → Int32 → Mem → Prop) (v1 : Int32) (v2 : Int32) (v3 : Int32) (i : Nat) (s : Mem) : Mem := (rM (v3 + 1) (s (441 + (ix v3)) 2) s)
def g_X10_goes_43 (rM : Int32 → Int32 → Mem → Mem) (rP : Int32 → Int32 → Mem → Prop) (v1 : Int32) (v2 : Int32) (v3 : Int32) (i : Nat) (s : Mem) : Mem := (muX10_goes_43_1 rM rP v1 v2 v3 i s)
def Pb_X10_goes_43 (rM : Int32 → Int32 → Mem → Mem) (rP : Int32 → Int32 → Mem → Prop) (v1 : Int32) (v2 : Int32) (v3 : Int32) (i : Nat) (s : Mem) : Prop := (vp_in v3 80) ∧ (((s (441 + (ix v3)) 1) ≤ (nI i) → False) ∧ ((nI i) < (s (441 + (ix v3)) 1) → ((200 ≤ (s 57 45) → False) ∧ ((s 57 45) < 200 → (vp_in v3 80) ∧ rP (v3 + 1) (s (441 + (ix v3)) 2) s))))
def Cb_X10_goes_43 (rM : Int32 → Int32 → Mem → Mem) (rP : Int32 → Int32 → Mem → Prop) (v1 : Int32) (v2 : Int32) (v3 : Int32) (i : Nat) (s : Mem) : Bool := (if (s (441 + (ix v3)) 1) ≤ (nI i) then false else (if 200 ≤ (s 57 45) then false else true))
set_option maxRecDepth 20000 in
set_option maxHeartbeats 2000000 in
theorem lp_X10_goes_43 {G : SG} (hG : GK 548 G) {e : Nat} (he : 40 ≤ e) (rM : Int32 → Int32 → Mem → Mem) (rP : Int32 → Int32 → Mem → Prop) (hrec : ∀ (x0 : Int32) (x1 : Int32) (ν : Mem), rP x0 x1 ν → OkF G (mX10_goes e) [.ref (ga G 57), .int x0, .int x1] ν none (rM x0 x1 ν)) (v1 : Int32) (v2 : Int32) (v3 : Int32) (s0 : Mem) (N : Nat) (sN : Mem) (eN : sN = fo N (g_X10_goes_43 rM rP v1 v2 v3) s0) (hN : ∀ i, i < N → Pb_X10_goes_43 rM rP v1 v2 v3 i (fo i (g_X10_goes_43 rM rP v1 v2 v3) s0)) {t : Nat} {Q : PQ} {X : PX} (h : R G (mX10_goes (e + 1)) 43 [(0, .ref (ga G 57)), (1, .int v1), (2, .int v2), (3, .int v3), (4, .int (nI N))] [] sN t Q X) : R G (mX10_goes (e + 1)) 43 [(0, .ref (ga G 57)), (1, .int v1), (2, .int v2), (3, .int v3), (4, .int 0)] [] s0 t Q X := by
  subst eN
  refine down_i N (fun i => R G (mX10_goes (e + 1)) 43 [(0, .ref (ga G 57)), (1, .int v1), (2, .int v2), (3, .int v3), (4, .int (nI i))] [] (fo i (g_X10_goes_43 rM rP v1 v2 v3) s0) t Q X) h (fun i hi hS => ?_)
  have hP := hN i hi
  rw [fo_succ] at hS
  rw [nI_succ] at hS
  generalize fo i (g_X10_goes_43 rM rP v1 v2 v3) s0 = s at hS hP ⊢
  unfold Pb_X10_goes_43 at hP
  refine r_iload dX10_goes_43 4 rfl ?_
  refine r_aload_n dX10_goes_45 0 rfl ?_
  refine r_getR 440 fX10_70 (hG.lt (by decide)) sh57 fs57_29 dX10_goes_46 ?_
  refine r_iload_n dX10_goes_49 3 rfl ?_
  have hs1 := hP.1
  replace hP := hP.2
  refine r_aald (hG.lt (by decide)) sh440 hs1 dX10_goes_50 ?_
  refine r_iconst 1 dX10_goes_51 rfl ?_
  refine r_ialdK 1 rfl (ltR (vp_ix hs1) (by decide) hG) (shr440 _ (vp_ix hs1)) (vp_of (by decide) (by decide)) dX10_goes_52 ?_
  refine r_icmp_ge 87 dX10_goes_53 (by decide) (fun c1 => ?_) (fun c1 => ?_)
  · replace hP := hP.1 c1
    exact hP.elim
  · replace hP := hP.2 c1
    refine r_aload_n dX10_goes_56 0 rfl ?_
    refine r_getI fX10_320 (hG.lt (by decide)) sh57 fs57_45 dX10_goes_57 ?_
    refine r_sipush 200 dX10_goes_60 rfl ?_
    refine r_icmp_ge 87 dX10_goes_63 (by decide) (fun c2 => ?_) (fun c2 => ?_)
    · replace hP := hP.1 c2
      exact hP.elim
    · replace hP := hP.2 c2
      refine r_aload_n dX10_goes_66 0 rfl ?_
      refine r_iload_n dX10_goes_67 3 rfl ?_
      refine r_iconst 1 dX10_goes_68 rfl ?_
      refine r_iadd dX10_goes_69 ?_
      refine r_aload_n dX10_goes_70 0 rfl ?_
      refine r_getR 440 fX10_70 (hG.lt (by decide)) sh57 fs57_29 dX10_goes_71 ?_
      refine r_iload_n dX10_goes_74 3 rfl ?_
      have hs2 := hP.1
      replace hP := hP.2
      refine r_aald (hG.lt (by decide)) sh440 hs2 dX10_goes_75 ?_
      refine r_iconst 2 dX10_goes_76 rfl ?_
      refine r_ialdK 2 rfl (ltR (vp_ix hs2) (by decide) hG) (shr440 _ (vp_ix hs2)) (vp_of (by decide) (by decide)) dX10_goes_77 ?_
      have hs3 := hP
      refine r_cvV (hrec (v3 + 1) (s (441 + (ix v3)) 2) s hs3) (lX10_323 _) (hG.lt (by decide)) sh57 ⟨_, _, rfl⟩ dX10_goes_78 (dpe (a := 0) (b := 1) (by decide)) (Nat.le_of_ble_eq_true rfl) rfl (Nat.le_of_ble_eq_true rfl) ?_
      refine r_mu (muX10_goes_43_1 rM rP v1 v2 v3 i s) rfl ?_
      refine r_iinc ((nI i) + 1) [(4, _), (0, _), (1, _), (2, _), (3, _)] dX10_goes_81 4 rfl rfl (Nat.le_of_ble_eq_true rfl) rfl ?_
      refine r_goto 43 dX10_goes_84 (by decide) ?_
      have e : g_X10_goes_43 rM rP v1 v2 v3 i s = (muX10_goes_43_1 rM rP v1 v2 v3 i s) := by unfold g_X10_goes_43; rfl
      rw [e] at hS
      exact r_sub [1, 2, 3, 4, 0] rfl hS
def NX10_goes_2_43 (rM : Int32 → Int32 → Mem → Mem) (rP : Int32 → Int32 → Mem → Prop) (v1 : Int32) (v2 : Int32) (i : Nat) (s : Int32 × Mem) : Nat := (fst 21 (fun j9 => !Cb_X10_goes_43 rM rP v1 v2 s.1 j9 (fo j9 (g_X10_goes_43 rM rP v1 v2 s.1) (muX10_goes_2_1 rM rP v1 v2 i s))))
def SX10_goes_2_43 (rM : Int32 → Int32 → Mem → Mem) (rP : Int32 → Int32 → Mem → Prop) (v1 : Int32) (v2 : Int32) (i : Nat) (s : Int32 × Mem) : Mem := fo (NX10_goes_2_43 rM rP v1 v2 i s) (g_X10_goes_43 rM rP v1 v2 s.1) (muX10_goes_2_1 rM rP v1 v2 i s)
def muX10_goes_2_7 (rM : Int32 → Int32 → Mem → Mem) (rP : Int32 → Int32 → Mem → Prop) (v1 : Int32) (v2 : Int32) (i : Nat) (s : Int32 × Mem) : Mem := (rM (s.1 + 1) ((SX10_goes_2_43 rM rP v1 v2 i s) (441 + (ix s.1)) 2) (SX10_goes_2_43 rM rP v1 v2 i s))
def g_X10_goes_2 (rM : Int32 → Int32 → Mem → Mem) (rP : Int32 → Int32 → Mem → Prop) (v1 : Int32) (v2 : Int32) (i : Nat) (s : Int32 × Mem) : Int32 × Mem := (if ((muX10_goes_2_1 rM rP v1 v2 i s) (441 + (ix s.1)) 0) ≠ 6 then (((muX10_goes_2_6 rM rP v1 v2 i s) (441 + (ix s.1)) 2), (muX10_goes_2_6 rM rP v1 v2 i s)) else (((SX10_goes_2_43 rM rP v1 v2 i s) (441 + (ix s.1)) 2), (SX10_goes_2_43 rM rP v1 v2 i s)))
def Pb_X10_goes_2 (rM : Int32 → Int32 → Mem → Mem) (rP : Int32 → Int32 → Mem → Prop) (v1 : Int32) (v2 : Int32) (i : Nat) (s : Int32 × Mem) : Prop := ((v2 ≤ s.1 → False) ∧ (s.1 < v2 → ((200 ≤ (s.2 57 45) → False) ∧ ((s.2 57 45) < 200 → (vp_in s.1 80) ∧ ((((muX10_goes_2_1 rM rP v1 v2 i s) (441 + (ix s.1)) 0) ≠ 6 → (vp_in s.1 80) ∧ (P_X10_does 521 (441 + (ix s.1)) (muX10_goes_2_1 rM rP v1 v2 i s)) ∧ vp_in s.1 80) ∧ (((muX10_goes_2_1 rM rP v1 v2 i s) (441 + (ix s.1)) 0) = 6 → (∀ j9, j9 < (NX10_goes_2_43 rM rP v1 v2 i s) → Pb_X10_goes_43 rM rP v1 v2 s.1 j9 (fo j9 (g_X10_goes_43 rM rP v1 v2 s.1) (muX10_goes_2_1 rM rP v1 v2 i s))) ∧ (vp_in s.1 80) ∧ ((((SX10_goes_2_43 rM rP v1 v2 i s) (441 + (ix s.1)) 1) ≤ (nI (NX10_goes_2_43 rM rP v1 v2 i s)) → vp_in s.1 80) ∧ ((nI (NX10_goes_2_43 rM rP v1 v2 i s)) < ((SX10_goes_2_43 rM rP v1 v2 i s) (441 + (ix s.1)) 1) → ((200 ≤ ((SX10_goes_2_43 rM rP v1 v2 i s) 57 45) → vp_in s.1 80) ∧ (((SX10_goes_2_43 rM rP v1 v2 i s) 57 45) < 200 → (vp_in s.1 80) ∧ (rP (s.1 + 1) ((SX10_goes_2_43 rM rP v1 v2 i s) (441 + (ix s.1)) 2) (SX10_goes_2_43 rM rP v1 v2 i s)) ∧ False))))))))))
def Cb_X10_goes_2 (rM : Int32 → Int32 → Mem → Mem) (rP : Int32 → Int32 → Mem → Prop) (v1 : Int32) (v2 : Int32) (i : Nat) (s : Int32 × Mem) : Bool := (if v2 ≤ s.1 then false else (if 200 ≤ (s.2 57 45) then false else (if ((muX10_goes_2_1 rM rP v1 v2 i s) (441 + (ix s.1)) 0) ≠ 6 then true else (if ((SX10_goes_2_43 rM rP v1 v2 i s) (441 + (ix s.1)) 1) ≤ (nI (NX10_goes_2_43 rM rP v1 v2 i s)) then true else (if 200 ≤ ((SX10_goes_2_43 rM rP v1 v2 i s) 57 45) then true else false)))))
set_option maxRecDepth 20000 in
set_option maxHeartbeats 2000000 in
theorem lp_X10_goes_2 {G : SG} (hG : GK 548 G) {e : Nat} (he : 40 ≤ e) (rM : Int32 → Int32 → Mem → Mem) (rP : Int32 → Int32 → Mem → Prop) (hrec : ∀ (x0 : Int32) (x1 : Int32) (ν : Mem), rP x0 x1 ν → OkF G (mX10_goes e) [.ref (ga G 57), .int x0, .int x1] ν none (rM x0 x1 ν)) (v1 : Int32) (v2 : Int32) (s0 : Int32 × Mem) (N : Nat) (sN : Int32 × Mem) (eN : sN = fo N (g_X10_goes_2 rM rP v1 v2) s0) (hN : ∀ i, i < N → Pb_X10_goes_2 rM rP v1 v2 i (fo i (g_X10_goes_2 rM rP v1 v2) s0)) {t : Nat} {Q : PQ} {X : PX} (h : R G (mX10_goes (e + 1)) 2 [(0, .ref (ga G 57)), (1, .int v1), (2, .int v2), (3, .int (sN).1)] [] (sN).2 t Q X) : R G (mX10_goes (e + 1)) 2 [(0, .ref (ga G 57)), (1, .int v1), (2, .int v2), (3, .int (s0).1)] [] (s0).2 t Q X := by
  subst eN
  refine down_i N (fun i => R G (mX10_goes (e + 1)) 2 [(0, .ref (ga G 57)), (1, .int v1), (2, .int v2), (3, .int ((fo i (g_X10_goes_2 rM rP v1 v2) s0)).1)] [] ((fo i (g_X10_goes_2 rM rP v1 v2) s0)).2 t Q X) h (fun i hi hS => ?_)
  have hP := hN i hi
  rw [fo_succ] at hS
  generalize fo i (g_X10_goes_2 rM rP v1 v2) s0 = s at hS hP ⊢
  unfold Pb_X10_goes_2 at hP
  refine r_iload_n dX10_goes_2 3 rfl ?_
  refine r_iload_n dX10_goes_3 2 rfl ?_
  refine r_icmp_ge 156 dX10_goes_4 (by decide) (fun c1 => ?_) (fun c1 => ?_)
  · replace hP := hP.1 c1
    exact hP.elim
  · replace hP := hP.2 c1
    refine r_aload_n dX10_goes_7 0 rfl ?_
    refine r_getI fX10_320 (hG.lt (by decide)) sh57 fs57_45 dX10_goes_8 ?_
    refine r_sipush 200 dX10_goes_11 rfl ?_
    refine r_icmp_ge 156 dX10_goes_14 (by decide) (fun c2 => ?_) (fun c2 => ?_)
    · replace hP := hP.1 c2
      exact hP.elim
    · replace hP := hP.2 c2
      refine r_aload_n dX10_goes_17 0 rfl ?_
      refine r_dup dX10_goes_18 rfl ?_
      refine r_getI fX10_320 (hG.lt (by decide)) sh57 fs57_45 dX10_goes_19 ?_
      refine r_iconst 1 dX10_goes_22 rfl ?_
      refine r_iadd dX10_goes_23 ?_
      refine r_put fiX10_320 (hG.lt (by decide)) sh57 fs57_45 dX10_goes_24 ?_
      refine r_mu (muX10_goes_2_1 rM rP v1 v2 i s) rfl ?_
      refine r_aload_n dX10_goes_27 0 rfl ?_
      refine r_getR 440 fX10_70 (hG.lt (by decide)) sh57 fs57_29 dX10_goes_28 ?_
      refine r_iload_n dX10_goes_31 3 rfl ?_
      have hs1 := hP.1
      replace hP := hP.2
      refine r_aald (hG.lt (by decide)) sh440 hs1 dX10_goes_32 ?_
      refine r_iconst 0 dX10_goes_33 rfl ?_
      refine r_ialdK 0 rfl (ltR (vp_ix hs1) (by decide) hG) (shr440 _ (vp_ix hs1)) (vp_of (by decide) (by decide)) dX10_goes_34 ?_
      refine r_bipush 6 dX10_goes_35 rfl ?_
      refine r_icmp_ne 90 dX10_goes_37 (by decide) (fun c3 => ?_) (fun c3 => ?_)
      · replace hP := hP.1 c3
        refine r_aload_n dX10_goes_90 0 rfl ?_
        refine r_aload_n dX10_goes_91 0 rfl ?_
        refine r_getR 521 fX10_73 (hG.lt (by decide)) sh57 fs57_31 dX10_goes_92 ?_
        refine r_aload_n dX10_goes_95 0 rfl ?_
        refine r_getR 440 fX10_70 (hG.lt (by decide)) sh57 fs57_29 dX10_goes_96 ?_
        refine r_iload_n dX10_goes_99 3 rfl ?_
        have hs12 := hP.1
        replace hP := hP.2
        refine r_aald (hG.lt (by decide)) sh440 hs12 dX10_goes_100 ?_
        have hs13 := hP.1
        replace hP := hP.2
        refine r_cvI (ok_X10_does hG (hG.lt (by decide)) sh521 (ltR (vp_ix hs12) (by decide) hG) (shr440 _ (vp_ix hs12)) (muX10_goes_2_1 rM rP v1 v2 i s) hs13) lX10_326 (hG.lt (by decide)) sh57 ⟨_, _, rfl⟩ dX10_goes_101 (dle (by decide) he) (Nat.le_of_ble_eq_true rfl) rfl (Nat.le_of_ble_eq_true rfl) ?_
        refine r_mu (muX10_goes_2_2 rM rP v1 v2 i s) rfl ?_
        refine r_istore [(4, _), (0, _), (1, _), (2, _), (3, _)] dX10_goes_104 (Nat.le_of_ble_eq_true rfl) rfl ?_
        refine r_aload_n dX10_goes_106 1 rfl ?_
        refine r_dup dX10_goes_107 rfl ?_
        refine r_getI fX10_330 (hG.lt (by decide)) sh57 fs57_46 dX10_goes_108 ?_
        refine r_iload dX10_goes_111 0 rfl ?_
        refine r_join 121 [(4, .int (F_X10_does 521 (441 + (ix s.1)) (muX10_goes_2_1 rM rP v1 v2 i s))), (0, .ref (ga G 57)), (1, .int v1), (2, .int v2), (3, .int s.1)] [.int (VX10_goes_2_3 rM rP v1 v2 i s), .int ((muX10_goes_2_2 rM rP v1 v2 i s) 57 46), .ref (ga G 57)] (muX10_goes_2_2 rM rP v1 v2 i s) ?_ (fun hJ => ?_)
        · refine r_iadd dX10_goes_121 ?_
          refine r_put fiX10_330 (hG.lt (by decide)) sh57 fs57_46 dX10_goes_122 ?_
          refine r_mu (muX10_goes_2_4 rM rP v1 v2 i s) rfl ?_
          refine r_aload_n dX10_goes_125 1 rfl ?_
          refine r_dup dX10_goes_126 rfl ?_
          refine r_getI fX10_215 (hG.lt (by decide)) sh57 fs57_40 dX10_goes_127 ?_
          refine r_iload dX10_goes_130 0 rfl ?_
          refine r_join 140 [(4, .int (F_X10_does 521 (441 + (ix s.1)) (muX10_goes_2_1 rM rP v1 v2 i s))), (0, .ref (ga G 57)), (1, .int v1), (2, .int v2), (3, .int s.1)] [.int (VX10_goes_2_5 rM rP v1 v2 i s), .int ((muX10_goes_2_4 rM rP v1 v2 i s) 57 40), .ref (ga G 57)] (muX10_goes_2_4 rM rP v1 v2 i s) ?_ (fun hJ => ?_)
          · refine r_iadd dX10_goes_140 ?_
            refine r_put fiX10_215 (hG.lt (by decide)) sh57 fs57_40 dX10_goes_141 ?_
            refine r_mu (muX10_goes_2_6 rM rP v1 v2 i s) rfl ?_
            refine r_aload_n dX10_goes_144 1 rfl ?_
            refine r_getR 440 fX10_70 (hG.lt (by decide)) sh57 fs57_29 dX10_goes_145 ?_
            refine r_iload_n dX10_goes_148 4 rfl ?_
            have hs14 := hP
            refine r_aald (hG.lt (by decide)) sh440 hs14 dX10_goes_149 ?_
            refine r_iconst 2 dX10_goes_150 rfl ?_
            refine r_ialdK 2 rfl (ltR (vp_ix hs14) (by decide) hG) (shr440 _ (vp_ix hs14)) (vp_of (by decide) (by decide)) dX10_goes_151 ?_
            refine r_istore_n [(3, _), (4, _), (0, _), (1, _), (2, _)] dX10_goes_152 (Nat.le_of_ble_eq_true rfl) rfl ?_
            refine r_goto 2 dX10_goes_153 (by decide) ?_
            have e : g_X10_goes_2 rM rP v1 v2 i s = (((muX10_goes_2_6 rM rP v1 v2 i s) (441 + (ix s.1)) 2), (muX10_goes_2_6 rM rP v1 v2 i s)) := by unfold g_X10_goes_2; rw [if_pos c3]
            rw [e] at hS
            dsimp only at hS
            exact r_sub [2, 3, 4, 0] rfl hS
          · refine r_if_eq 139 dX10_goes_132 (by decide) (fun c4 => ?_) (fun c4 => ?_)
            · refine r_iconst 1 dX10_goes_139 rfl ?_
              have e : (VX10_goes_2_5 rM rP v1 v2 i s) = 1 := by unfold VX10_goes_2_5; rw [if_pos c4]
              rw [e] at hJ
              exact r_sub [0, 1, 2, 3, 4] rfl hJ
            · refine r_iconst 0 dX10_goes_135 rfl ?_
              refine r_goto 140 dX10_goes_136 (by decide) ?_
              have e : (VX10_goes_2_5 rM rP v1 v2 i s) = 0 := by unfold VX10_goes_2_5; rw [if_neg c4]
              rw [e] at hJ
              exact r_sub [0, 1, 2, 3, 4] rfl hJ
        · refine r_if_eq 120 dX10_goes_113 (by decide) (fun c4 => ?_) (fun c4 => ?_)
          · refine r_iconst 0 dX10_goes_120 rfl ?_
            have e : (VX10_goes_2_3 rM rP v1 v2 i s) = 0 := by unfold VX10_goes_2_3; rw [if_pos c4]
            rw [e] at hJ
            exact r_sub [0, 1, 2, 3, 4] rfl hJ
          · refine r_iconst 1 dX10_goes_116 rfl ?_
            refine r_goto 121 dX10_goes_117 (by decide) ?_
            have e : (VX10_goes_2_3 rM rP v1 v2 i s) = 1 := by unfold VX10_goes_2_3; rw [if_neg c4]
            rw [e] at hJ
            exact r_sub [0, 1, 2, 3, 4] rfl hJ
      · replace hP := hP.2 c3
        refine r_iconst 0 dX10_goes_40 rfl ?_
        refine r_istore [(4, _), (0, _), (1, _), (2, _), (3, _)] dX10_goes_41 (Nat.le_of_ble_eq_true rfl) rfl ?_
        have hs15 := hP.1
        replace hP := hP.2
        refine r_sub [1, 2, 3, 4, 0] rfl ?_
        refine lp_X10_goes_43 hG he rM rP hrec v1 v2 s.1 (muX10_goes_2_1 rM rP v1 v2 i s) ((NX10_goes_2_43 rM rP v1 v2 i s)) (SX10_goes_2_43 rM rP v1 v2 i s) rfl hs15 ?_
        refine r_iload dX10_goes_43 4 rfl ?_
        refine r_aload_n dX10_goes_45 0 rfl ?_
        refine r_getR 440 fX10_70 (hG.lt (by decide)) sh57 fs57_29 dX10_goes_46 ?_
        refine r_iload_n dX10_goes_49 3 rfl ?_
        have hs16 := hP.1
        replace hP := hP.2
        refine r_aald (hG.lt (by decide)) sh440 hs16 dX10_goes_50 ?_
        refine r_iconst 1 dX10_goes_51 rfl ?_
        refine r_ialdK 1 rfl (ltR (vp_ix hs16) (by decide) hG) (shr440 _ (vp_ix hs16)) (vp_of (by decide) (by decide)) dX10_goes_52 ?_
        refine r_icmp_ge 87 dX10_goes_53 (by decide) (fun c4 => ?_) (fun c4 => ?_)
        · replace hP := hP.1 c4
          refine r_goto 144 dX10_goes_87 (by decide) ?_
          refine r_aload_n dX10_goes_144 0 rfl ?_
          refine r_getR 440 fX10_70 (hG.lt (by decide)) sh57 fs57_29 dX10_goes_145 ?_
          refine r_iload_n dX10_goes_148 3 rfl ?_
          have hs19 := hP
          refine r_aald (hG.lt (by decide)) sh440 hs19 dX10_goes_149 ?_
          refine r_iconst 2 dX10_goes_150 rfl ?_
          refine r_ialdK 2 rfl (ltR (vp_ix hs19) (by decide) hG) (shr440 _ (vp_ix hs19)) (vp_of (by decide) (by decide)) dX10_goes_151 ?_
          refine r_istore_n [(3, _), (0, _), (1, _), (2, _), (4, _)] dX10_goes_152 (Nat.le_of_ble_eq_true rfl) rfl ?_
          refine r_goto 2 dX10_goes_153 (by decide) ?_
          have e : g_X10_goes_2 rM rP v1 v2 i s = (((SX10_goes_2_43 rM rP v1 v2 i s) (441 + (ix s.1)) 2), (SX10_goes_2_43 rM rP v1 v2 i s)) := by unfold g_X10_goes_2; rw [if_neg (not_not_intro c3)]
          rw [e] at hS
          dsimp only at hS
          exact r_sub [1, 2, 3, 0] rfl hS
        · replace hP := hP.2 c4
          refine r_aload_n dX10_goes_56 0 rfl ?_
          refine r_getI fX10_320 (hG.lt (by decide)) sh57 fs57_45 dX10_goes_57 ?_
          refine r_sipush 200 dX10_goes_60 rfl ?_
          refine r_icmp_ge 87 dX10_goes_63 (by decide) (fun c5 => ?_) (fun c5 => ?_)
          · replace hP := hP.1 c5
            refine r_goto 144 dX10_goes_87 (by decide) ?_
            refine r_aload_n dX10_goes_144 0 rfl ?_
            refine r_getR 440 fX10_70 (hG.lt (by decide)) sh57 fs57_29 dX10_goes_145 ?_
            refine r_iload_n dX10_goes_148 3 rfl ?_
            have hs22 := hP
            refine r_aald (hG.lt (by decide)) sh440 hs22 dX10_goes_149 ?_
            refine r_iconst 2 dX10_goes_150 rfl ?_
            refine r_ialdK 2 rfl (ltR (vp_ix hs22) (by decide) hG) (shr440 _ (vp_ix hs22)) (vp_of (by decide) (by decide)) dX10_goes_151 ?_
            refine r_istore_n [(3, _), (0, _), (1, _), (2, _), (4, _)] dX10_goes_152 (Nat.le_of_ble_eq_true rfl) rfl ?_
            refine r_goto 2 dX10_goes_153 (by decide) ?_
            have e : g_X10_goes_2 rM rP v1 v2 i s = (((SX10_goes_2_43 rM rP v1 v2 i s) (441 + (ix s.1)) 2), (SX10_goes_2_43 rM rP v1 v2 i s)) := by unfold g_X10_goes_2; rw [if_neg (not_not_intro c3)]
            rw [e] at hS
            dsimp only at hS
            exact r_sub [1, 2, 3, 0] rfl hS
          · replace hP := hP.2 c5
            refine r_aload_n dX10_goes_66 0 rfl ?_
            refine r_iload_n dX10_goes_67 3 rfl ?_
            refine r_iconst 1 dX10_goes_68 rfl ?_
            refine r_iadd dX10_goes_69 ?_
            refine r_aload_n dX10_goes_70 0 rfl ?_
            refine r_getR 440 fX10_70 (hG.lt (by decide)) sh57 fs57_29 dX10_goes_71 ?_
            refine r_iload_n dX10_goes_74 3 rfl ?_
            have hs23 := hP.1
            replace hP := hP.2
            refine r_aald (hG.lt (by decide)) sh440 hs23 dX10_goes_75 ?_
            refine r_iconst 2 dX10_goes_76 rfl ?_
            refine r_ialdK 2 rfl (ltR (vp_ix hs23) (by decide) hG) (shr440 _ (vp_ix hs23)) (vp_of (by decide) (by decide)) dX10_goes_77 ?_
            have hs24 := hP.1
            replace hP := hP.2
            refine r_cvV (hrec (s.1 + 1) ((SX10_goes_2_43 rM rP v1 v2 i s) (441 + (ix s.1)) 2) (SX10_goes_2_43 rM rP v1 v2 i s) hs24) (lX10_323 _) (hG.lt (by decide)) sh57 ⟨_, _, rfl⟩ dX10_goes_78 (dpe (a := 0) (b := 1) (by decide)) (Nat.le_of_ble_eq_true rfl) rfl (Nat.le_of_ble_eq_true rfl) ?_
            refine r_mu (muX10_goes_2_7 rM rP v1 v2 i s) rfl ?_
            refine r_iinc ((nI (NX10_goes_2_43 rM rP v1 v2 i s)) + 1) [(4, _), (0, _), (1, _), (2, _), (3, _)] dX10_goes_81 4 rfl rfl (Nat.le_of_ble_eq_true rfl) rfl ?_
            refine r_goto 43 dX10_goes_84 (by decide) ?_
            exact hP.elim
def NX10_goes_2 (rM : Int32 → Int32 → Mem → Mem) (rP : Int32 → Int32 → Mem → Prop) (p1 : Int32) (p2 : Int32) (μ : Mem) : Nat := (fst 201 (fun j9 => !Cb_X10_goes_2 rM rP p1 p2 j9 (fo j9 (g_X10_goes_2 rM rP p1 p2) (p1, μ))))
def SX10_goes_2 (rM : Int32 → Int32 → Mem → Mem) (rP : Int32 → Int32 → Mem → Prop) (p1 : Int32) (p2 : Int32) (μ : Mem) : Int32 × Mem := fo (NX10_goes_2 rM rP p1 p2 μ) (g_X10_goes_2 rM rP p1 p2) (p1, μ)
def muX10_goes_1 (rM : Int32 → Int32 → Mem → Mem) (rP : Int32 → Int32 → Mem → Prop) (p1 : Int32) (p2 : Int32) (μ : Mem) : Mem := (upm (SX10_goes_2 rM rP p1 p2 μ).2 57 45 (((SX10_goes_2 rM rP p1 p2 μ).2 57 45) + 1))
def muX10_goes_2 (rM : Int32 → Int32 → Mem → Mem) (rP : Int32 → Int32 → Mem → Prop) (p1 : Int32) (p2 : Int32) (μ : Mem) : Mem := (M_X10_does 521 (441 + (ix (SX10_goes_2 rM rP p1 p2 μ).1)) (muX10_goes_1 rM rP p1 p2 μ))
def VX10_goes_3 (rM : Int32 → Int32 → Mem → Mem) (rP : Int32 → Int32 → Mem → Prop) (p1 : Int32) (p2 : Int32) (μ : Mem) : Int32 := (if (F_X10_does 521 (441 + (ix (SX10_goes_2 rM rP p1 p2 μ).1)) (muX10_goes_1 rM rP p1 p2 μ)) = 0 then 0 else 1)
theorem bo_VX10_goes_3 (rM : Int32 → Int32 → Mem → Mem) (rP : Int32 → Int32 → Mem → Prop) (p1 : Int32) (p2 : Int32) (μ : Mem) : (VX10_goes_3 rM rP p1 p2 μ) = 0 ∨ (VX10_goes_3 rM rP p1 p2 μ) = 1 := by
  unfold VX10_goes_3
  split
  · exact Or.inl rfl
  · exact Or.inr rfl
def muX10_goes_4 (rM : Int32 → Int32 → Mem → Mem) (rP : Int32 → Int32 → Mem → Prop) (p1 : Int32) (p2 : Int32) (μ : Mem) : Mem := (upm (muX10_goes_2 rM rP p1 p2 μ) 57 46 (((muX10_goes_2 rM rP p1 p2 μ) 57 46) + (VX10_goes_3 rM rP p1 p2 μ)))
def VX10_goes_5 (rM : Int32 → Int32 → Mem → Mem) (rP : Int32 → Int32 → Mem → Prop) (p1 : Int32) (p2 : Int32) (μ : Mem) : Int32 := (if (F_X10_does 521 (441 + (ix (SX10_goes_2 rM rP p1 p2 μ).1)) (muX10_goes_1 rM rP p1 p2 μ)) = 0 then 1 else 0)
theorem bo_VX10_goes_5 (rM : Int32 → Int32 → Mem → Mem) (rP : Int32 → Int32 → Mem → Prop) (p1 : Int32) (p2 : Int32) (μ : Mem) : (VX10_goes_5 rM rP p1 p2 μ) = 0 ∨ (VX10_goes_5 rM rP p1 p2 μ) = 1 := by
  unfold VX10_goes_5
  split
  · exact Or.inr rfl
  · exact Or.inl rfl
def muX10_goes_6 (rM : Int32 → Int32 → Mem → Mem) (rP : Int32 → Int32 → Mem → Prop) (p1 : Int32) (p2 : Int32) (μ : Mem) : Mem := (upm (muX10_goes_4 rM rP p1 p2 μ) 57 40 (((muX10_goes_4 rM rP p1 p2 μ) 57 40) + (VX10_goes_5 rM rP p1 p2 μ)))
def NX10_goes_43 (rM : Int32 → Int32 → Mem → Mem) (rP : Int32 → Int32 → Mem → Prop) (p1 : Int32) (p2 : Int32) (μ : Mem) : Nat := (fst 21 (fun j9 => !Cb_X10_goes_43 rM rP p1 p2 (SX10_goes_2 rM rP p1 p2 μ).1 j9 (fo j9 (g_X10_goes_43 rM rP p1 p2 (SX10_goes_2 rM rP p1 p2 μ).1) (muX10_goes_1 rM rP p1 p2 μ))))
def SX10_goes_43 (rM : Int32 → Int32 → Mem → Mem) (rP : Int32 → Int32 → Mem → Prop) (p1 : Int32) (p2 : Int32) (μ : Mem) : Mem := fo (NX10_goes_43 rM rP p1 p2 μ) (g_X10_goes_43 rM rP p1 p2 (SX10_goes_2 rM rP p1 p2 μ).1) (muX10_goes_1 rM rP p1 p2 μ)
def muX10_goes_7 (rM : Int32 → Int32 → Mem → Mem) (rP : Int32 → Int32 → Mem → Prop) (p1 : Int32) (p2 : Int32) (μ : Mem) : Mem := (rM ((SX10_goes_2 rM rP p1 p2 μ).1 + 1) ((SX10_goes_43 rM rP p1 p2 μ) (441 + (ix (SX10_goes_2 rM rP p1 p2 μ).1)) 2) (SX10_goes_43 rM rP p1 p2 μ))
def M_X10_goes (rM : Int32 → Int32 → Mem → Mem) (rP : Int32 → Int32 → Mem → Prop) (p1 : Int32) (p2 : Int32) (μ : Mem) : Mem := (SX10_goes_2 rM rP p1 p2 μ).2
def P_X10_goes (rM : Int32 → Int32 → Mem → Mem) (rP : Int32 → Int32 → Mem → Prop) (p1 : Int32) (p2 : Int32) (μ : Mem) : Prop := ((∀ j9, j9 < (NX10_goes_2 rM rP p1 p2 μ) → Pb_X10_goes_2 rM rP p1 p2 j9 (fo j9 (g_X10_goes_2 rM rP p1 p2) (p1, μ))) ∧ ((p2 ≤ (SX10_goes_2 rM rP p1 p2 μ).1 → True) ∧ ((SX10_goes_2 rM rP p1 p2 μ).1 < p2 → ((200 ≤ ((SX10_goes_2 rM rP p1 p2 μ).2 57 45) → True) ∧ (((SX10_goes_2 rM rP p1 p2 μ).2 57 45) < 200 → ((vp_in (SX10_goes_2 rM rP p1 p2 μ).1 80) ∧ ((((muX10_goes_1 rM rP p1 p2 μ) (441 + (ix (SX10_goes_2 rM rP p1 p2 μ).1)) 0) ≠ 6 → ((vp_in (SX10_goes_2 rM rP p1 p2 μ).1 80) ∧ ((P_X10_does 521 (441 + (ix (SX10_goes_2 rM rP p1 p2 μ).1)) (muX10_goes_1 rM rP p1 p2 μ)) ∧ ((vp_in (SX10_goes_2 rM rP p1 p2 μ).1 80) ∧ False)))) ∧ (((muX10_goes_1 rM rP p1 p2 μ) (441 + (ix (SX10_goes_2 rM rP p1 p2 μ).1)) 0) = 6 → ((∀ j9, j9 < (NX10_goes_43 rM rP p1 p2 μ) → Pb_X10_goes_43 rM rP p1 p2 (SX10_goes_2 rM rP p1 p2 μ).1 j9 (fo j9 (g_X10_goes_43 rM rP p1 p2 (SX10_goes_2 rM rP p1 p2 μ).1) (muX10_goes_1 rM rP p1 p2 μ))) ∧ ((vp_in (SX10_goes_2 rM rP p1 p2 μ).1 80) ∧ ((((SX10_goes_43 rM rP p1 p2 μ) (441 + (ix (SX10_goes_2 rM rP p1 p2 μ).1)) 1) ≤ (nI (NX10_goes_43 rM rP p1 p2 μ)) → ((vp_in (SX10_goes_2 rM rP p1 p2 μ).1 80) ∧ False)) ∧ ((nI (NX10_goes_43 rM rP p1 p2 μ)) < ((SX10_goes_43 rM rP p1 p2 μ) (441 + (ix (SX10_goes_2 rM rP p1 p2 μ).1)) 1) → ((200 ≤ ((SX10_goes_43 rM rP p1 p2 μ) 57 45) → ((vp_in (SX10_goes_2 rM rP p1 p2 μ).1 80) ∧ False)) ∧ (((SX10_goes_43 rM rP p1 p2 μ) 57 45) < 200 → ((vp_in (SX10_goes_2 rM rP p1 p2 μ).1 80) ∧ ((rP ((SX10_goes_2 rM rP p1 p2 μ).1 + 1) ((SX10_goes_43 rM rP p1 p2 μ) (441 + (ix (SX10_goes_2 rM rP p1 p2 μ).1)) 2) (SX10_goes_43 rM rP p1 p2 μ)) ∧ False))))))))))))))))
set_option maxRecDepth 20000 in
set_option maxHeartbeats 2000000 in
theorem ok_X10_goes {G : SG} (hG : GK 548 G) {e : Nat} (he : 40 ≤ e) (rM : Int32 → Int32 → Mem → Mem) (rP : Int32 → Int32 → Mem → Prop) (hrec : ∀ (x0 : Int32) (x1 : Int32) (ν : Mem), rP x0 x1 ν → OkF G (mX10_goes e) [.ref (ga G 57), .int x0, .int x1] ν none (rM x0 x1 ν)) (p1 : Int32) (p2 : Int32) (μ : Mem) (hP : P_X10_goes rM rP p1 p2 μ) : OkF G (mX10_goes (e + 1)) [.ref (ga G 57), .int p1, .int p2] μ none (M_X10_goes rM rP p1 p2 μ) := by
  refine okF_of hG rfl rfl (Nat.le_of_ble_eq_true rfl) ?_
  unfold P_X10_goes at hP
  refine r_iload_n dX10_goes_0 1 rfl ?_
  refine r_istore_n [(3, _), (0, _), (1, _), (2, _)] dX10_goes_1 (Nat.le_of_ble_eq_true rfl) rfl ?_
  have hs1 := hP.1
  replace hP := hP.2
  refine r_sub [1, 2, 3, 0] rfl ?_
  refine lp_X10_goes_2 hG he rM rP hrec p1 p2 (p1, μ) ((NX10_goes_2 rM rP p1 p2 μ)) (SX10_goes_2 rM rP p1 p2 μ) rfl hs1 ?_
  refine r_iload_n dX10_goes_2 3 rfl ?_
  refine r_iload_n dX10_goes_3 2 rfl ?_
  refine r_icmp_ge 156 dX10_goes_4 (by decide) (fun c1 => ?_) (fun c1 => ?_)
  · replace hP := hP.1 c1
    exact r_return dX10_goes_156 rfl ⟨rfl, rfl⟩
  · replace hP := hP.2 c1
    refine r_aload_n dX10_goes_7 0 rfl ?_
    refine r_getI fX10_320 (hG.lt (by decide)) sh57 fs57_45 dX10_goes_8 ?_
    refine r_sipush 200 dX10_goes_11 rfl ?_
    refine r_icmp_ge 156 dX10_goes_14 (by decide) (fun c2 => ?_) (fun c2 => ?_)
    · replace hP := hP.1 c2
      exact r_return dX10_goes_156 rfl ⟨rfl, rfl⟩
    · replace hP := hP.2 c2
      refine r_aload_n dX10_goes_17 0 rfl ?_
      refine r_dup dX10_goes_18 rfl ?_
      refine r_getI fX10_320 (hG.lt (by decide)) sh57 fs57_45 dX10_goes_19 ?_
      refine r_iconst 1 dX10_goes_22 rfl ?_
      refine r_iadd dX10_goes_23 ?_
      refine r_put fiX10_320 (hG.lt (by decide)) sh57 fs57_45 dX10_goes_24 ?_
      refine r_mu (muX10_goes_1 rM rP p1 p2 μ) rfl ?_
      refine r_aload_n dX10_goes_27 0 rfl ?_
      refine r_getR 440 fX10_70 (hG.lt (by decide)) sh57 fs57_29 dX10_goes_28 ?_
      refine r_iload_n dX10_goes_31 3 rfl ?_
      have hs2 := hP.1
      replace hP := hP.2
      refine r_aald (hG.lt (by decide)) sh440 hs2 dX10_goes_32 ?_
      refine r_iconst 0 dX10_goes_33 rfl ?_
      refine r_ialdK 0 rfl (ltR (vp_ix hs2) (by decide) hG) (shr440 _ (vp_ix hs2)) (vp_of (by decide) (by decide)) dX10_goes_34 ?_
      refine r_bipush 6 dX10_goes_35 rfl ?_
      refine r_icmp_ne 90 dX10_goes_37 (by decide) (fun c3 => ?_) (fun c3 => ?_)
      · replace hP := hP.1 c3
        refine r_aload_n dX10_goes_90 0 rfl ?_
        refine r_aload_n dX10_goes_91 0 rfl ?_
        refine r_getR 521 fX10_73 (hG.lt (by decide)) sh57 fs57_31 dX10_goes_92 ?_
        refine r_aload_n dX10_goes_95 0 rfl ?_
        refine r_getR 440 fX10_70 (hG.lt (by decide)) sh57 fs57_29 dX10_goes_96 ?_
        refine r_iload_n dX10_goes_99 3 rfl ?_
        have hs13 := hP.1
        replace hP := hP.2
        refine r_aald (hG.lt (by decide)) sh440 hs13 dX10_goes_100 ?_
        have hs14 := hP.1
        replace hP := hP.2
        refine r_cvI (ok_X10_does hG (hG.lt (by decide)) sh521 (ltR (vp_ix hs13) (by decide) hG) (shr440 _ (vp_ix hs13)) (muX10_goes_1 rM rP p1 p2 μ) hs14) lX10_326 (hG.lt (by decide)) sh57 ⟨_, _, rfl⟩ dX10_goes_101 (dle (by decide) he) (Nat.le_of_ble_eq_true rfl) rfl (Nat.le_of_ble_eq_true rfl) ?_
        refine r_mu (muX10_goes_2 rM rP p1 p2 μ) rfl ?_
        refine r_istore [(4, _), (0, _), (1, _), (2, _), (3, _)] dX10_goes_104 (Nat.le_of_ble_eq_true rfl) rfl ?_
        refine r_aload_n dX10_goes_106 1 rfl ?_
        refine r_dup dX10_goes_107 rfl ?_
        refine r_getI fX10_330 (hG.lt (by decide)) sh57 fs57_46 dX10_goes_108 ?_
        refine r_iload dX10_goes_111 0 rfl ?_
        refine r_join 121 [(4, .int (F_X10_does 521 (441 + (ix (SX10_goes_2 rM rP p1 p2 μ).1)) (muX10_goes_1 rM rP p1 p2 μ))), (0, .ref (ga G 57)), (1, .int p1), (2, .int p2), (3, .int (SX10_goes_2 rM rP p1 p2 μ).1)] [.int (VX10_goes_3 rM rP p1 p2 μ), .int ((muX10_goes_2 rM rP p1 p2 μ) 57 46), .ref (ga G 57)] (muX10_goes_2 rM rP p1 p2 μ) ?_ (fun hJ => ?_)
        · refine r_iadd dX10_goes_121 ?_
          refine r_put fiX10_330 (hG.lt (by decide)) sh57 fs57_46 dX10_goes_122 ?_
          refine r_mu (muX10_goes_4 rM rP p1 p2 μ) rfl ?_
          refine r_aload_n dX10_goes_125 1 rfl ?_
          refine r_dup dX10_goes_126 rfl ?_
          refine r_getI fX10_215 (hG.lt (by decide)) sh57 fs57_40 dX10_goes_127 ?_
          refine r_iload dX10_goes_130 0 rfl ?_
          refine r_join 140 [(4, .int (F_X10_does 521 (441 + (ix (SX10_goes_2 rM rP p1 p2 μ).1)) (muX10_goes_1 rM rP p1 p2 μ))), (0, .ref (ga G 57)), (1, .int p1), (2, .int p2), (3, .int (SX10_goes_2 rM rP p1 p2 μ).1)] [.int (VX10_goes_5 rM rP p1 p2 μ), .int ((muX10_goes_4 rM rP p1 p2 μ) 57 40), .ref (ga G 57)] (muX10_goes_4 rM rP p1 p2 μ) ?_ (fun hJ => ?_)
          · refine r_iadd dX10_goes_140 ?_
            refine r_put fiX10_215 (hG.lt (by decide)) sh57 fs57_40 dX10_goes_141 ?_
            refine r_mu (muX10_goes_6 rM rP p1 p2 μ) rfl ?_
            refine r_aload_n dX10_goes_144 1 rfl ?_
            refine r_getR 440 fX10_70 (hG.lt (by decide)) sh57 fs57_29 dX10_goes_145 ?_
            refine r_iload_n dX10_goes_148 4 rfl ?_
            have hs15 := hP.1
            replace hP := hP.2
            refine r_aald (hG.lt (by decide)) sh440 hs15 dX10_goes_149 ?_
            refine r_iconst 2 dX10_goes_150 rfl ?_
            refine r_ialdK 2 rfl (ltR (vp_ix hs15) (by decide) hG) (shr440 _ (vp_ix hs15)) (vp_of (by decide) (by decide)) dX10_goes_151 ?_
            refine r_istore_n [(3, _), (4, _), (0, _), (1, _), (2, _)] dX10_goes_152 (Nat.le_of_ble_eq_true rfl) rfl ?_
            refine r_goto 2 dX10_goes_153 (by decide) ?_
            exact hP.elim
          · refine r_if_eq 139 dX10_goes_132 (by decide) (fun c4 => ?_) (fun c4 => ?_)
            · refine r_iconst 1 dX10_goes_139 rfl ?_
              have e : (VX10_goes_5 rM rP p1 p2 μ) = 1 := by unfold VX10_goes_5; rw [if_pos c4]
              rw [e] at hJ
              exact r_sub [0, 1, 2, 3, 4] rfl hJ
            · refine r_iconst 0 dX10_goes_135 rfl ?_
              refine r_goto 140 dX10_goes_136 (by decide) ?_
              have e : (VX10_goes_5 rM rP p1 p2 μ) = 0 := by unfold VX10_goes_5; rw [if_neg c4]
              rw [e] at hJ
              exact r_sub [0, 1, 2, 3, 4] rfl hJ
        · refine r_if_eq 120 dX10_goes_113 (by decide) (fun c4 => ?_) (fun c4 => ?_)
          · refine r_iconst 0 dX10_goes_120 rfl ?_
            have e : (VX10_goes_3 rM rP p1 p2 μ) = 0 := by unfold VX10_goes_3; rw [if_pos c4]
            rw [e] at hJ
            exact r_sub [0, 1, 2, 3, 4] rfl hJ
          · refine r_iconst 1 dX10_goes_116 rfl ?_
            refine r_goto 121 dX10_goes_117 (by decide) ?_
            have e : (VX10_goes_3 rM rP p1 p2 μ) = 1 := by unfold VX10_goes_3; rw [if_neg c4]
            rw [e] at hJ
            exact r_sub [0, 1, 2, 3, 4] rfl hJ
      · replace hP := hP.2 c3
        refine r_iconst 0 dX10_goes_40 rfl ?_
        refine r_istore [(4, _), (0, _), (1, _), (2, _), (3, _)] dX10_goes_41 (Nat.le_of_ble_eq_true rfl) rfl ?_
        have hs16 := hP.1
        replace hP := hP.2
        refine r_sub [1, 2, 3, 4, 0] rfl ?_
        refine lp_X10_goes_43 hG he rM rP hrec p1 p2 (SX10_goes_2 rM rP p1 p2 μ).1 (muX10_goes_1 rM rP p1 p2 μ) ((NX10_goes_43 rM rP p1 p2 μ)) (SX10_goes_43 rM rP p1 p2 μ) rfl hs16 ?_
        refine r_iload dX10_goes_43 4 rfl ?_
        refine r_aload_n dX10_goes_45 0 rfl ?_
        refine r_getR 440 fX10_70 (hG.lt (by decide)) sh57 fs57_29 dX10_goes_46 ?_
        refine r_iload_n dX10_goes_49 3 rfl ?_
        have hs17 := hP.1
        replace hP := hP.2
        refine r_aald (hG.lt (by decide)) sh440 hs17 dX10_goes_50 ?_
        refine r_iconst 1 dX10_goes_51 rfl ?_
        refine r_ialdK 1 rfl (ltR (vp_ix hs17) (by decide) hG) (shr440 _ (vp_ix hs17)) (vp_of (by decide) (by decide)) dX10_goes_52 ?_
        refine r_icmp_ge 87 dX10_goes_53 (by decide) (fun c4 => ?_) (fun c4 => ?_)
        · replace hP := hP.1 c4
          refine r_goto 144 dX10_goes_87 (by decide) ?_
          refine r_aload_n dX10_goes_144 0 rfl ?_
          refine r_getR 440 fX10_70 (hG.lt (by decide)) sh57 fs57_29 dX10_goes_145 ?_
          refine r_iload_n dX10_goes_148 3 rfl ?_
          have hs20 := hP.1
          replace hP := hP.2
          refine r_aald (hG.lt (by decide)) sh440 hs20 dX10_goes_149 ?_
          refine r_iconst 2 dX10_goes_150 rfl ?_
          refine r_ialdK 2 rfl (ltR (vp_ix hs20) (by decide) hG) (shr440 _ (vp_ix hs20)) (vp_of (by decide) (by decide)) dX10_goes_151 ?_
          refine r_istore_n [(3, _), (0, _), (1, _), (2, _), (4, _)] dX10_goes_152 (Nat.le_of_ble_eq_true rfl) rfl ?_
          refine r_goto 2 dX10_goes_153 (by decide) ?_
          exact hP.elim
        · replace hP := hP.2 c4
          refine r_aload_n dX10_goes_56 0 rfl ?_
          refine r_getI fX10_320 (hG.lt (by decide)) sh57 fs57_45 dX10_goes_57 ?_
          refine r_sipush 200 dX10_goes_60 rfl ?_
          refine r_icmp_ge 87 dX10_goes_63 (by decide) (fun c5 => ?_) (fun c5 => ?_)
          · replace hP := hP.1 c5
            refine r_goto 144 dX10_goes_87 (by decide) ?_
            refine r_aload_n dX10_goes_144 0 rfl ?_
            refine r_getR 440 fX10_70 (hG.lt (by decide)) sh57 fs57_29 dX10_goes_145 ?_
            refine r_iload_n dX10_goes_148 3 rfl ?_
            have hs23 := hP.1
            replace hP := hP.2
            refine r_aald (hG.lt (by decide)) sh440 hs23 dX10_goes_149 ?_
            refine r_iconst 2 dX10_goes_150 rfl ?_
            refine r_ialdK 2 rfl (ltR (vp_ix hs23) (by decide) hG) (shr440 _ (vp_ix hs23)) (vp_of (by decide) (by decide)) dX10_goes_151 ?_
            refine r_istore_n [(3, _), (0, _), (1, _), (2, _), (4, _)] dX10_goes_152 (Nat.le_of_ble_eq_true rfl) rfl ?_
            refine r_goto 2 dX10_goes_153 (by decide) ?_
            exact hP.elim
          · replace hP := hP.2 c5
            refine r_aload_n dX10_goes_66 0 rfl ?_
            refine r_iload_n dX10_goes_67 3 rfl ?_
            refine r_iconst 1 dX10_goes_68 rfl ?_
            refine r_iadd dX10_goes_69 ?_
            refine r_aload_n dX10_goes_70 0 rfl ?_
            refine r_getR 440 fX10_70 (hG.lt (by decide)) sh57 fs57_29 dX10_goes_71 ?_
            refine r_iload_n dX10_goes_74 3 rfl ?_
            have hs24 := hP.1
            replace hP := hP.2
            refine r_aald (hG.lt (by decide)) sh440 hs24 dX10_goes_75 ?_
            refine r_iconst 2 dX10_goes_76 rfl ?_
            refine r_ialdK 2 rfl (ltR (vp_ix hs24) (by decide) hG) (shr440 _ (vp_ix hs24)) (vp_of (by decide) (by decide)) dX10_goes_77 ?_
            have hs25 := hP.1
            replace hP := hP.2
            refine r_cvV (hrec ((SX10_goes_2 rM rP p1 p2 μ).1 + 1) ((SX10_goes_43 rM rP p1 p2 μ) (441 + (ix (SX10_goes_2 rM rP p1 p2 μ).1)) 2) (SX10_goes_43 rM rP p1 p2 μ) hs25) (lX10_323 _) (hG.lt (by decide)) sh57 ⟨_, _, rfl⟩ dX10_goes_78 (dpe (a := 0) (b := 1) (by decide)) (Nat.le_of_ble_eq_true rfl) rfl (Nat.le_of_ble_eq_true rfl) ?_
            refine r_mu (muX10_goes_7 rM rP p1 p2 μ) rfl ?_
            refine r_iinc ((nI (NX10_goes_43 rM rP p1 p2 μ)) + 1) [(4, _), (0, _), (1, _), (2, _), (3, _)] dX10_goes_81 4 rfl rfl (Nat.le_of_ble_eq_true rfl) rfl ?_
            refine r_goto 43 dX10_goes_84 (by decide) ?_
            exact hP.elim
