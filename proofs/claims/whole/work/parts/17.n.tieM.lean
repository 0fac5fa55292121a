/-- the reference's recursions, l deep at most -/
def TsumM : Nat → (Mem → Mem) × (Mem → Prop)
  | 0 => (fun μ => μ, fun _ => False)
  | l + 1 => (M_X10_sum (TsumM l).1 (TsumM l).2, P_X10_sum (TsumM l).1 (TsumM l).2)
def MsumM (μ : Mem) : Mem := (TsumM 8).1 μ
def PsumM (μ : Mem) : Prop := (TsumM 8).2 μ
theorem ok_TsumM {G : SG} (hG : GK 548 G) : ∀ (l : Nat) (μ : Mem), (TsumM l).2 μ → OkF G (mX10_sum (40 + 3 * l)) [.ref (ga G 57)] μ none ((TsumM l).1 μ)
  | 0, _, h => h.elim
  | l + 1, μ, h => ok_X10_sum hG (Nat.le_add_right 40 _) (TsumM l).1 (TsumM l).2 (fun ν hν => ok_TsumM hG l ν hν) μ h
theorem ok_sumM {G : SG} (hG : GK 548 G) (μ : Mem) (h : PsumM μ) : OkF G (mX10_sum 64) [.ref (ga G 57)] μ none (MsumM μ) := ok_TsumM hG 8 μ h
def TstepM : Nat → (Mem → Mem) × (Mem → Prop)
  | 0 => (fun μ => μ, fun _ => False)
  | l + 1 => (M_X10_readsStep (TstepM l).1 (TstepM l).2, P_X10_readsStep (TstepM l).1 (TstepM l).2)
def MstepM (μ : Mem) : Mem := (TstepM 8).1 μ
def PstepM (μ : Mem) : Prop := (TstepM 8).2 μ
theorem ok_TstepM {G : SG} (hG : GK 548 G) : ∀ (l : Nat) (μ : Mem), (TstepM l).2 μ → OkF G (mX10_readsStep (40 + l)) [.ref (ga G 57)] μ none ((TstepM l).1 μ)
  | 0, _, h => h.elim
  | l + 1, μ, h => ok_X10_readsStep hG (Nat.le_add_right 40 _) (TstepM l).1 (TstepM l).2 (fun ν hν => ok_TstepM hG l ν hν) μ h
theorem ok_stepM {G : SG} (hG : GK 548 G) (μ : Mem) (h : PstepM μ) : OkF G (mX10_readsStep 48) [.ref (ga G 57)] μ none (MstepM μ) := ok_TstepM hG 8 μ h
def TgoM : Nat → (Int32 → Int32 → Mem → Mem) × (Int32 → Int32 → Mem → Prop)
  | 0 => (fun _ _ μ => μ, fun _ _ _ => False)
  | l + 1 => (M_X10_goes (TgoM l).1 (TgoM l).2, P_X10_goes (TgoM l).1 (TgoM l).2)
def MgoM (a b : Int32) (μ : Mem) : Mem := (TgoM 8).1 a b μ
def PgoM (a b : Int32) (μ : Mem) : Prop := (TgoM 8).2 a b μ
theorem ok_TgoM {G : SG} (hG : GK 548 G) : ∀ (l : Nat) (a b : Int32) (μ : Mem), (TgoM l).2 a b μ → OkF G (mX10_goes (40 + l)) [.ref (ga G 57), .int a, .int b] μ none ((TgoM l).1 a b μ)
  | 0, _, _, _, h => h.elim
  | l + 1, a, b, μ, h => ok_X10_goes hG (Nat.le_add_right 40 _) (TgoM l).1 (TgoM l).2 (fun x y ν hν => ok_TgoM hG l x y ν hν) a b μ h
theorem ok_goM {G : SG} (hG : GK 548 G) (a b : Int32) (μ : Mem) (h : PgoM a b μ) : OkF G (mX10_goes 48) [.ref (ga G 57), .int a, .int b] μ none (MgoM a b μ) := ok_TgoM hG 8 a b μ h
def muX10_law_1 (p1 : Int32) (μ : Mem) : Mem := (upm μ 57 0 0)
def VX10_law_2 (p1 : Int32) (μ : Mem) : Int32 := (if (F_X10_isIn p1 0 ((muX10_law_1 p1 μ) 57 1) (muX10_law_1 p1 μ)) = 0 then 1 else (if p1 ≤ 150 then 0 else 1))
theorem bo_VX10_law_2 (p1 : Int32) (μ : Mem) : (VX10_law_2 p1 μ) = 0 ∨ (VX10_law_2 p1 μ) = 1 := by
  unfold VX10_law_2
  split
  · exact Or.inr rfl
  · split
    · exact Or.inl rfl
    · exact Or.inr rfl
def muX10_law_3 (p1 : Int32) (μ : Mem) : Mem := (M_X10_bad (VX10_law_2 p1 μ) 1 1 (muX10_law_1 p1 μ))
def muX10_law_4 (p1 : Int32) (μ : Mem) : Mem := (M_X10_starts p1 (muX10_law_3 p1 μ))
def muX10_law_5 (p1 : Int32) (μ : Mem) : Mem := (upm (muX10_law_4 p1 μ) 57 22 0)
def muX10_law_6 (p1 : Int32) (μ : Mem) : Mem := (MsumM  (muX10_law_5 p1 μ))
def muX10_law_7 (p1 : Int32) (μ : Mem) : Mem := (M_X10_blanks  (muX10_law_6 p1 μ))
def muX10_law_8 (p1 : Int32) (μ : Mem) : Mem := (M_X10_wrong 1 ((muX10_law_7 p1 μ) 57 4) (muX10_law_7 p1 μ))
def VX10_law_9 (p1 : Int32) (μ : Mem) : Mem := (if ((muX10_law_7 p1 μ) 57 5) ≠ 0 then (muX10_law_7 p1 μ) else (if ((muX10_law_7 p1 μ) 57 2) ≤ ((muX10_law_7 p1 μ) 57 4) then (muX10_law_7 p1 μ) else (muX10_law_8 p1 μ)))
def muX10_law_10 (p1 : Int32) (μ : Mem) : Mem := (upm (VX10_law_9 p1 μ) 57 3 (-1))
def muX10_law_11 (p1 : Int32) (μ : Mem) : Mem := (upm (muX10_law_10 p1 μ) 57 21 ((muX10_law_10 p1 μ) 57 22))
def muX10_law_12 (p1 : Int32) (μ : Mem) : Mem := (M_X10_lays_L ((muX10_law_11 p1 μ) 57 21) (muX10_law_11 p1 μ))
def muX10_law_13 (p1 : Int32) (μ : Mem) : Mem := (M_X10_ends  (VX10_law_9 p1 μ))
def F_X10_law (p1 : Int32) (μ : Mem) : Int32 := (if (F_X10_bad (VX10_law_2 p1 μ) 1 1 (muX10_law_1 p1 μ)) = 0 then (if ((VX10_law_9 p1 μ) 57 5) = 0 then 1 else (F_X10_ends  (VX10_law_9 p1 μ))) else 0)
def M_X10_law (p1 : Int32) (μ : Mem) : Mem := (if (F_X10_bad (VX10_law_2 p1 μ) 1 1 (muX10_law_1 p1 μ)) = 0 then (if ((VX10_law_9 p1 μ) 57 5) = 0 then (muX10_law_12 p1 μ) else (muX10_law_13 p1 μ)) else (muX10_law_3 p1 μ))
def P_X10_law (p1 : Int32) (μ : Mem) : Prop := ((P_X10_bad (VX10_law_2 p1 μ) 1 1 (muX10_law_1 p1 μ)) ∧ (((F_X10_bad (VX10_law_2 p1 μ) 1 1 (muX10_law_1 p1 μ)) = 0 → ((P_X10_starts p1 (muX10_law_3 p1 μ)) ∧ ((PsumM  (muX10_law_5 p1 μ)) ∧ ((P_X10_blanks  (muX10_law_6 p1 μ)) ∧ ((((VX10_law_9 p1 μ) 57 5) = 0 → (P_X10_lays_L ((muX10_law_11 p1 μ) 57 21) (muX10_law_11 p1 μ))) ∧ (¬ ((VX10_law_9 p1 μ) 57 5) = 0 → True)))))) ∧ (¬ (F_X10_bad (VX10_law_2 p1 μ) 1 1 (muX10_law_1 p1 μ)) = 0 → True)))
set_option maxRecDepth 20000 in
set_option maxHeartbeats 2000000 in
theorem ok_X10_law {G : SG} (hG : GK 548 G) (p1 : Int32) (μ : Mem) (hP : P_X10_law p1 μ) : OkF G mX10_law [.ref (ga G 57), .int p1] μ (some (.int (F_X10_law p1 μ))) (M_X10_law p1 μ) := by
  refine okF_of hG rfl rfl (Nat.le_of_ble_eq_true rfl) ?_
  unfold P_X10_law at hP
  refine r_aload_n dX10_law_0 0 rfl ?_
  refine r_iconst 0 dX10_law_1 rfl ?_
  refine r_put fiX10_103 (hG.lt (by decide)) sh57 fs57_0 dX10_law_2 ?_
  refine r_mu (muX10_law_1 p1 μ) rfl ?_
  refine r_aload_n dX10_law_5 0 rfl ?_
  refine r_iload_n dX10_law_6 1 rfl ?_
  refine r_iconst 0 dX10_law_7 rfl ?_
  refine r_aload_n dX10_law_8 0 rfl ?_
  refine r_getI fX10_106 (hG.lt (by decide)) sh57 fs57_1 dX10_law_9 ?_
  refine r_csI (ok_X10_isIn hG p1 0 ((muX10_law_1 p1 μ) 57 1) (muX10_law_1 p1 μ)) lX10_137 dX10_law_12 (by decide) (Nat.le_of_ble_eq_true rfl) rfl (Nat.le_of_ble_eq_true rfl) ?_
  refine r_join 30 [(0, .ref (ga G 57)), (1, .int p1)] [.int (VX10_law_2 p1 μ), .ref (ga G 57)] (muX10_law_1 p1 μ) ?_ (fun hJ => ?_)
  · refine r_iconst 1 dX10_law_30 rfl ?_
    refine r_iconst 1 dX10_law_31 rfl ?_
    have hs1 := hP.1
    replace hP := hP.2
    refine r_cvI (ok_X10_bad hG (VX10_law_2 p1 μ) 1 1 (muX10_law_1 p1 μ) hs1) lX10_186 (hG.lt (by decide)) sh57 ⟨_, _, rfl⟩ dX10_law_32 (by decide) (Nat.le_of_ble_eq_true rfl) rfl (Nat.le_of_ble_eq_true rfl) ?_
    refine r_mu (muX10_law_3 p1 μ) rfl ?_
    refine r_if_eq 40 dX10_law_35 (by decide) (fun c1 => ?_) (fun c1 => ?_)
    · replace hP := hP.1 c1
      refine r_aload_n dX10_law_40 0 rfl ?_
      refine r_iload_n dX10_law_41 1 rfl ?_
      have hs2 := hP.1
      replace hP := hP.2
      refine r_cvV (ok_X10_starts hG p1 (muX10_law_3 p1 μ) hs2) lX10_190 (hG.lt (by decide)) sh57 ⟨_, _, rfl⟩ dX10_law_42 (by decide) (Nat.le_of_ble_eq_true rfl) rfl (Nat.le_of_ble_eq_true rfl) ?_
      refine r_mu (muX10_law_4 p1 μ) rfl ?_
      refine r_aload_n dX10_law_45 0 rfl ?_
      refine r_iconst 0 dX10_law_46 rfl ?_
      refine r_put fiX10_221 (hG.lt (by decide)) sh57 fs57_22 dX10_law_47 ?_
      refine r_mu (muX10_law_5 p1 μ) rfl ?_
      refine r_aload_n dX10_law_50 0 rfl ?_
      have hs3 := hP.1
      replace hP := hP.2
      refine r_cvV (ok_sumM hG  (muX10_law_5 p1 μ) hs3) (lX10_243 _) (hG.lt (by decide)) sh57 ⟨_, _, rfl⟩ dX10_law_51 (by decide) (Nat.le_of_ble_eq_true rfl) rfl (Nat.le_of_ble_eq_true rfl) ?_
      refine r_mu (muX10_law_6 p1 μ) rfl ?_
      refine r_aload_n dX10_law_54 0 rfl ?_
      have hs4 := hP.1
      replace hP := hP.2
      refine r_cvV (ok_X10_blanks hG  (muX10_law_6 p1 μ) hs4) lX10_125 (hG.lt (by decide)) sh57 ⟨_, _, rfl⟩ dX10_law_55 (by decide) (Nat.le_of_ble_eq_true rfl) rfl (Nat.le_of_ble_eq_true rfl) ?_
      refine r_mu (muX10_law_7 p1 μ) rfl ?_
      refine r_aload_n dX10_law_58 0 rfl ?_
      refine r_getI fX10_119 (hG.lt (by decide)) sh57 fs57_5 dX10_law_59 ?_
      refine r_join 85 [(0, .ref (ga G 57)), (1, .int p1)] [] (VX10_law_9 p1 μ) ?_ (fun hJ => ?_)
      · refine r_aload_n dX10_law_85 0 rfl ?_
        refine r_getI fX10_119 (hG.lt (by decide)) sh57 fs57_5 dX10_law_86 ?_
        refine r_if_eq 97 dX10_law_89 (by decide) (fun c2 => ?_) (fun c2 => ?_)
        · replace hP := hP.1 c2
          refine r_aload_n dX10_law_97 0 rfl ?_
          refine r_iconst (-1) dX10_law_98 rfl ?_
          refine r_put fiX10_9 (hG.lt (by decide)) sh57 fs57_3 dX10_law_99 ?_
          refine r_mu (muX10_law_10 p1 μ) rfl ?_
          refine r_aload_n dX10_law_102 0 rfl ?_
          refine r_aload_n dX10_law_103 0 rfl ?_
          refine r_getI fX10_221 (hG.lt (by decide)) sh57 fs57_22 dX10_law_104 ?_
          refine r_put fiX10_206 (hG.lt (by decide)) sh57 fs57_21 dX10_law_107 ?_
          refine r_mu (muX10_law_11 p1 μ) rfl ?_
          refine r_aload_n dX10_law_110 0 rfl ?_
          refine r_getR 263 fX10_55 (hG.lt (by decide)) sh57 fs57_24 dX10_law_111 ?_
          refine r_aload_n dX10_law_114 0 rfl ?_
          refine r_getR 102 fX10_52 (hG.lt (by decide)) sh57 fs57_23 dX10_law_115 ?_
          refine r_aload_n dX10_law_118 0 rfl ?_
          refine r_getI fX10_206 (hG.lt (by decide)) sh57 fs57_21 dX10_law_119 ?_
          have hs5 := hP
          refine r_csV (ok_X10_lays_L hG ((muX10_law_11 p1 μ) 57 21) (muX10_law_11 p1 μ) hs5) lX10_199 dX10_law_122 (by decide) (Nat.le_of_ble_eq_true rfl) rfl (Nat.le_of_ble_eq_true rfl) ?_
          refine r_mu (muX10_law_12 p1 μ) rfl ?_
          refine r_iconst 1 dX10_law_125 rfl ?_
          exact r_ireturn _ dX10_law_126 rfl rfl ⟨congrArg (fun z => some (Value.int z)) (by unfold F_X10_law; rw [if_pos c1, if_pos c2]), by unfold M_X10_law; rw [if_pos c1, if_pos c2]⟩
        · replace hP := hP.2 c2
          refine r_aload_n dX10_law_92 0 rfl ?_
          refine r_cvI (ok_X10_ends hG  (VX10_law_9 p1 μ)) lX10_196 (hG.lt (by decide)) sh57 ⟨_, _, rfl⟩ dX10_law_93 (by decide) (Nat.le_of_ble_eq_true rfl) rfl (Nat.le_of_ble_eq_true rfl) ?_
          refine r_mu (muX10_law_13 p1 μ) rfl ?_
          exact r_ireturn _ dX10_law_96 rfl rfl ⟨congrArg (fun z => some (Value.int z)) (by unfold F_X10_law; rw [if_pos c1, if_neg c2]), by unfold M_X10_law; rw [if_pos c1, if_neg c2]⟩
      · refine r_if_ne 85 dX10_law_62 (by decide) (fun c2 => ?_) (fun c2 => ?_)
        · have e : (VX10_law_9 p1 μ) = (muX10_law_7 p1 μ) := by unfold VX10_law_9; rw [if_pos c2]
          rw [e] at hJ
          exact r_sub [0, 1] rfl hJ
        · refine r_aload_n dX10_law_65 0 rfl ?_
          refine r_getI fX10_112 (hG.lt (by decide)) sh57 fs57_4 dX10_law_66 ?_
          refine r_aload_n dX10_law_69 0 rfl ?_
          refine r_getI fX10_109 (hG.lt (by decide)) sh57 fs57_2 dX10_law_70 ?_
          refine r_icmp_ge 85 dX10_law_73 (by decide) (fun c3 => ?_) (fun c3 => ?_)
          · have e : (VX10_law_9 p1 μ) = (muX10_law_7 p1 μ) := by unfold VX10_law_9; rw [if_neg (not_not_intro c2), if_pos c3]
            rw [e] at hJ
            exact r_sub [0, 1] rfl hJ
          · refine r_aload_n dX10_law_76 0 rfl ?_
            refine r_iconst 1 dX10_law_77 rfl ?_
            refine r_aload_n dX10_law_78 0 rfl ?_
            refine r_getI fX10_112 (hG.lt (by decide)) sh57 fs57_4 dX10_law_79 ?_
            refine r_cvV (ok_X10_wrong hG 1 ((muX10_law_7 p1 μ) 57 4) (muX10_law_7 p1 μ)) lX10_132 (hG.lt (by decide)) sh57 ⟨_, _, rfl⟩ dX10_law_82 (by decide) (Nat.le_of_ble_eq_true rfl) rfl (Nat.le_of_ble_eq_true rfl) ?_
            refine r_mu (muX10_law_8 p1 μ) rfl ?_
            have e : (VX10_law_9 p1 μ) = (muX10_law_8 p1 μ) := by unfold VX10_law_9; rw [if_neg (not_not_intro c2), if_neg (i32_ng c3)]
            rw [e] at hJ
            exact r_sub [0, 1] rfl hJ
    · replace hP := hP.2 c1
      refine r_iconst 0 dX10_law_38 rfl ?_
      exact r_ireturn _ dX10_law_39 rfl rfl ⟨congrArg (fun z => some (Value.int z)) (by unfold F_X10_law; rw [if_neg c1]), by unfold M_X10_law; rw [if_neg c1]⟩
  · refine r_if_eq 25 dX10_law_15 (by decide) (fun c1 => ?_) (fun c1 => ?_)
    · refine r_iconst 1 dX10_law_25 rfl ?_
      refine r_goto 30 dX10_law_26 (by decide) ?_
      have e : (VX10_law_2 p1 μ) = 1 := by unfold VX10_law_2; rw [if_pos c1]
      rw [e] at hJ
      exact r_sub [0, 1] rfl hJ
    · refine r_iload_n dX10_law_18 1 rfl ?_
      refine r_sipush 150 dX10_law_19 rfl ?_
      refine r_icmp_le 29 dX10_law_22 (by decide) (fun c2 => ?_) (fun c2 => ?_)
      · refine r_iconst 0 dX10_law_29 rfl ?_
        have e : (VX10_law_2 p1 μ) = 0 := by unfold VX10_law_2; rw [if_neg c1, if_pos c2]
        rw [e] at hJ
        exact r_sub [0, 1] rfl hJ
      · refine r_iconst 1 dX10_law_25 rfl ?_
        refine r_goto 30 dX10_law_26 (by decide) ?_
        have e : (VX10_law_2 p1 μ) = 1 := by unfold VX10_law_2; rw [if_neg c1, if_neg (i32_ng c2)]
        rw [e] at hJ
        exact r_sub [0, 1] rfl hJ
def muX10_work_1 (p1 : Int32) (μ : Mem) : Mem := (upm μ 57 0 0)
def VX10_work_2 (p1 : Int32) (μ : Mem) : Int32 := (if (F_X10_isIn p1 0 ((muX10_work_1 p1 μ) 57 1) (muX10_work_1 p1 μ)) = 0 then 1 else (if p1 ≤ 150 then 0 else 1))
theorem bo_VX10_work_2 (p1 : Int32) (μ : Mem) : (VX10_work_2 p1 μ) = 0 ∨ (VX10_work_2 p1 μ) = 1 := by
  unfold VX10_work_2
  split
  · exact Or.inr rfl
  · split
    · exact Or.inl rfl
    · exact Or.inr rfl
def muX10_work_3 (p1 : Int32) (μ : Mem) : Mem := (M_X10_bad (VX10_work_2 p1 μ) 1 1 (muX10_work_1 p1 μ))
def muX10_work_4 (p1 : Int32) (μ : Mem) : Mem := (M_X10_starts p1 (muX10_work_3 p1 μ))
def muX10_work_5 (p1 : Int32) (μ : Mem) : Mem := (upm (muX10_work_4 p1 μ) 57 30 0)
def muX10_work_72_1 (v1 : Int32) (i : Nat) (s : Mem) : Mem := (MstepM  s)
def muX10_work_72_2 (v1 : Int32) (i : Nat) (s : Mem) : Mem := (M_X10_blanks  (muX10_work_72_1 v1 i s))
def g_X10_work_72 (v1 : Int32) (i : Nat) (s : Mem) : Mem := (muX10_work_72_2 v1 i s)
def Pb_X10_work_72 (v1 : Int32) (i : Nat) (s : Mem) : Prop := (((s 57 5) ≠ 0 → False) ∧ ((s 57 5) = 0 → (((s 57 2) ≤ (s 57 4) → False) ∧ ((s 57 4) < (s 57 2) → (PstepM  s) ∧ P_X10_blanks  (muX10_work_72_1 v1 i s)))))
def Cb_X10_work_72 (v1 : Int32) (i : Nat) (s : Mem) : Bool := (if (s 57 5) ≠ 0 then false else (if (s 57 2) ≤ (s 57 4) then false else true))
set_option maxRecDepth 20000 in
set_option maxHeartbeats 2000000 in
theorem lp_X10_work_72 {G : SG} (hG : GK 548 G)  (v1 : Int32) (s0 : Mem) (N : Nat) (sN : Mem) (eN : sN = fo N (g_X10_work_72 v1) s0) (hN : ∀ i, i < N → Pb_X10_work_72 v1 i (fo i (g_X10_work_72 v1) s0)) {t : Nat} {Q : PQ} {X : PX} (h : R G mX10_work 72 [(0, .ref (ga G 57)), (1, .int v1)] [] sN t Q X) : R G mX10_work 72 [(0, .ref (ga G 57)), (1, .int v1)] [] s0 t Q X := by
  subst eN
  refine down_i N (fun i => R G mX10_work 72 [(0, .ref (ga G 57)), (1, .int v1)] [] (fo i (g_X10_work_72 v1) s0) t Q X) h (fun i hi hS => ?_)
  have hP := hN i hi
  rw [fo_succ] at hS
  generalize fo i (g_X10_work_72 v1) s0 = s at hS hP ⊢
  unfold Pb_X10_work_72 at hP
  refine r_aload_n dX10_work_72 0 rfl ?_
  refine r_getI fX10_119 (hG.lt (by decide)) sh57 fs57_5 dX10_work_73 ?_
  refine r_if_ne 101 dX10_work_76 (by decide) (fun c1 => ?_) (fun c1 => ?_)
  · replace hP := hP.1 c1
    exact hP.elim
  · replace hP := hP.2 c1
    refine r_aload_n dX10_work_79 0 rfl ?_
    refine r_getI fX10_112 (hG.lt (by decide)) sh57 fs57_4 dX10_work_80 ?_
    refine r_aload_n dX10_work_83 0 rfl ?_
    refine r_getI fX10_109 (hG.lt (by decide)) sh57 fs57_2 dX10_work_84 ?_
    refine r_icmp_ge 101 dX10_work_87 (by decide) (fun c2 => ?_) (fun c2 => ?_)
    · replace hP := hP.1 c2
      exact hP.elim
    · replace hP := hP.2 c2
      refine r_aload_n dX10_work_90 0 rfl ?_
      have hs1 := hP.1
      replace hP := hP.2
      refine r_cvV (ok_stepM hG  s hs1) (lX10_265 _) (hG.lt (by decide)) sh57 ⟨_, _, rfl⟩ dX10_work_91 (by decide) (Nat.le_of_ble_eq_true rfl) rfl (Nat.le_of_ble_eq_true rfl) ?_
      refine r_mu (muX10_work_72_1 v1 i s) rfl ?_
      refine r_aload_n dX10_work_94 0 rfl ?_
      have hs2 := hP
      refine r_cvV (ok_X10_blanks hG  (muX10_work_72_1 v1 i s) hs2) lX10_125 (hG.lt (by decide)) sh57 ⟨_, _, rfl⟩ dX10_work_95 (by decide) (Nat.le_of_ble_eq_true rfl) rfl (Nat.le_of_ble_eq_true rfl) ?_
      refine r_mu (muX10_work_72_2 v1 i s) rfl ?_
      refine r_goto 72 dX10_work_98 (by decide) ?_
      have e : g_X10_work_72 v1 i s = (muX10_work_72_2 v1 i s) := by unfold g_X10_work_72; rfl
      rw [e] at hS
      exact r_sub [0, 1] rfl hS
def NX10_work_72 (p1 : Int32) (μ : Mem) : Nat := (fst 152 (fun j9 => !Cb_X10_work_72 p1 j9 (fo j9 (g_X10_work_72 p1) (muX10_work_5 p1 μ))))
def SX10_work_72 (p1 : Int32) (μ : Mem) : Mem := fo (NX10_work_72 p1 μ) (g_X10_work_72 p1) (muX10_work_5 p1 μ)
def muX10_work_6 (p1 : Int32) (μ : Mem) : Mem := (upm (SX10_work_72 p1 μ) 57 3 (-1))
def muX10_work_7 (p1 : Int32) (μ : Mem) : Mem := (M_X10_copies 521 (527 + (ix ((muX10_work_6 p1 μ) 57 39))) (muX10_work_6 p1 μ))
def muX10_work_8 (p1 : Int32) (μ : Mem) : Mem := (upm (muX10_work_7 p1 μ) 57 39 (((muX10_work_7 p1 μ) 57 39) + 1))
def muX10_work_9 (p1 : Int32) (μ : Mem) : Mem := (upm (muX10_work_8 p1 μ) 57 45 0)
def muX10_work_10 (p1 : Int32) (μ : Mem) : Mem := (upm (muX10_work_9 p1 μ) 57 46 0)
def muX10_work_11 (p1 : Int32) (μ : Mem) : Mem := (upm (muX10_work_10 p1 μ) 57 40 0)
def muX10_work_12 (p1 : Int32) (μ : Mem) : Mem := (MgoM 0 ((muX10_work_11 p1 μ) 57 30) (muX10_work_11 p1 μ))
def muX10_work_13 (p1 : Int32) (μ : Mem) : Mem := (M_X10_ends  (SX10_work_72 p1 μ))
def muX10_work_14 (p1 : Int32) (μ : Mem) : Mem := (upm (SX10_work_72 p1 μ) 57 3 (-1))
def muX10_work_15 (p1 : Int32) (μ : Mem) : Mem := (M_X10_copies 521 (527 + (ix ((muX10_work_14 p1 μ) 57 39))) (muX10_work_14 p1 μ))
def muX10_work_16 (p1 : Int32) (μ : Mem) : Mem := (upm (muX10_work_15 p1 μ) 57 39 (((muX10_work_15 p1 μ) 57 39) + 1))
def muX10_work_17 (p1 : Int32) (μ : Mem) : Mem := (upm (muX10_work_16 p1 μ) 57 45 0)
def muX10_work_18 (p1 : Int32) (μ : Mem) : Mem := (upm (muX10_work_17 p1 μ) 57 46 0)
def muX10_work_19 (p1 : Int32) (μ : Mem) : Mem := (upm (muX10_work_18 p1 μ) 57 40 0)
def muX10_work_20 (p1 : Int32) (μ : Mem) : Mem := (MgoM 0 ((muX10_work_19 p1 μ) 57 30) (muX10_work_19 p1 μ))
def muX10_work_21 (p1 : Int32) (μ : Mem) : Mem := (M_X10_ends  (SX10_work_72 p1 μ))
def muX10_work_22 (p1 : Int32) (μ : Mem) : Mem := (MstepM  (SX10_work_72 p1 μ))
def muX10_work_23 (p1 : Int32) (μ : Mem) : Mem := (M_X10_blanks  (muX10_work_22 p1 μ))
def muX10_work_24 (p1 : Int32) (μ : Mem) : Mem := (upm (muX10_work_3 p1 μ) 57 1 0)
def muX10_work_25 (p1 : Int32) (μ : Mem) : Mem := (upm (muX10_work_24 p1 μ) 57 3 (-1))
def F_X10_work (p1 : Int32) (μ : Mem) : Int32 := (if (F_X10_bad (VX10_work_2 p1 μ) 1 1 (muX10_work_1 p1 μ)) = 0 then (if ((muX10_work_3 p1 μ) 57 39) ≠ 16 then (if ((SX10_work_72 p1 μ) 57 5) ≠ 0 then (if ((SX10_work_72 p1 μ) 57 5) = 0 then ((muX10_work_12 p1 μ) 57 46) else (F_X10_ends  (SX10_work_72 p1 μ))) else (if ((SX10_work_72 p1 μ) 57 5) = 0 then ((muX10_work_20 p1 μ) 57 46) else (F_X10_ends  (SX10_work_72 p1 μ)))) else (-20)) else 0)
def M_X10_work (p1 : Int32) (μ : Mem) : Mem := (if (F_X10_bad (VX10_work_2 p1 μ) 1 1 (muX10_work_1 p1 μ)) = 0 then (if ((muX10_work_3 p1 μ) 57 39) ≠ 16 then (if ((SX10_work_72 p1 μ) 57 5) ≠ 0 then (if ((SX10_work_72 p1 μ) 57 5) = 0 then (muX10_work_12 p1 μ) else (muX10_work_13 p1 μ)) else (if ((SX10_work_72 p1 μ) 57 5) = 0 then (muX10_work_20 p1 μ) else (muX10_work_21 p1 μ))) else (muX10_work_25 p1 μ)) else (muX10_work_3 p1 μ))
def P_X10_work (p1 : Int32) (μ : Mem) : Prop := ((P_X10_bad (VX10_work_2 p1 μ) 1 1 (muX10_work_1 p1 μ)) ∧ (((F_X10_bad (VX10_work_2 p1 μ) 1 1 (muX10_work_1 p1 μ)) = 0 → ((((muX10_work_3 p1 μ) 57 39) ≠ 16 → ((P_X10_starts p1 (muX10_work_3 p1 μ)) ∧ ((∀ j9, j9 < (NX10_work_72 p1 μ) → Pb_X10_work_72 p1 j9 (fo j9 (g_X10_work_72 p1) (muX10_work_5 p1 μ))) ∧ ((((SX10_work_72 p1 μ) 57 5) ≠ 0 → ((((SX10_work_72 p1 μ) 57 5) = 0 → ((vp_in ((muX10_work_6 p1 μ) 57 39) 16) ∧ ((P_X10_copies 521 (527 + (ix ((muX10_work_6 p1 μ) 57 39))) (muX10_work_6 p1 μ)) ∧ (PgoM 0 ((muX10_work_11 p1 μ) 57 30) (muX10_work_11 p1 μ))))) ∧ (¬ ((SX10_work_72 p1 μ) 57 5) = 0 → True))) ∧ (((SX10_work_72 p1 μ) 57 5) = 0 → ((((SX10_work_72 p1 μ) 57 2) ≤ ((SX10_work_72 p1 μ) 57 4) → ((((SX10_work_72 p1 μ) 57 5) = 0 → ((vp_in ((muX10_work_14 p1 μ) 57 39) 16) ∧ ((P_X10_copies 521 (527 + (ix ((muX10_work_14 p1 μ) 57 39))) (muX10_work_14 p1 μ)) ∧ (PgoM 0 ((muX10_work_19 p1 μ) 57 30) (muX10_work_19 p1 μ))))) ∧ (¬ ((SX10_work_72 p1 μ) 57 5) = 0 → True))) ∧ (((SX10_work_72 p1 μ) 57 4) < ((SX10_work_72 p1 μ) 57 2) → ((PstepM  (SX10_work_72 p1 μ)) ∧ ((P_X10_blanks  (muX10_work_22 p1 μ)) ∧ False))))))))) ∧ (((muX10_work_3 p1 μ) 57 39) = 16 → True))) ∧ (¬ (F_X10_bad (VX10_work_2 p1 μ) 1 1 (muX10_work_1 p1 μ)) = 0 → True)))
set_option maxRecDepth 20000 in
set_option maxHeartbeats 2000000 in
theorem ok_X10_work {G : SG} (hG : GK 548 G) (p1 : Int32) (μ : Mem) (hP : P_X10_work p1 μ) : OkF G mX10_work [.ref (ga G 57), .int p1] μ (some (.int (F_X10_work p1 μ))) (M_X10_work p1 μ) := by
  refine okF_of hG rfl rfl (Nat.le_of_ble_eq_true rfl) ?_
  unfold P_X10_work at hP
  refine r_aload_n dX10_work_0 0 rfl ?_
  refine r_iconst 0 dX10_work_1 rfl ?_
  refine r_put fiX10_103 (hG.lt (by decide)) sh57 fs57_0 dX10_work_2 ?_
  refine r_mu (muX10_work_1 p1 μ) rfl ?_
  refine r_aload_n dX10_work_5 0 rfl ?_
  refine r_iload_n dX10_work_6 1 rfl ?_
  refine r_iconst 0 dX10_work_7 rfl ?_
  refine r_aload_n dX10_work_8 0 rfl ?_
  refine r_getI fX10_106 (hG.lt (by decide)) sh57 fs57_1 dX10_work_9 ?_
  refine r_csI (ok_X10_isIn hG p1 0 ((muX10_work_1 p1 μ) 57 1) (muX10_work_1 p1 μ)) lX10_137 dX10_work_12 (by decide) (Nat.le_of_ble_eq_true rfl) rfl (Nat.le_of_ble_eq_true rfl) ?_
  refine r_join 30 [(0, .ref (ga G 57)), (1, .int p1)] [.int (VX10_work_2 p1 μ), .ref (ga G 57)] (muX10_work_1 p1 μ) ?_ (fun hJ => ?_)
  · refine r_iconst 1 dX10_work_30 rfl ?_
    refine r_iconst 1 dX10_work_31 rfl ?_
    have hs1 := hP.1
    replace hP := hP.2
    refine r_cvI (ok_X10_bad hG (VX10_work_2 p1 μ) 1 1 (muX10_work_1 p1 μ) hs1) lX10_186 (hG.lt (by decide)) sh57 ⟨_, _, rfl⟩ dX10_work_32 (by decide) (Nat.le_of_ble_eq_true rfl) rfl (Nat.le_of_ble_eq_true rfl) ?_
    refine r_mu (muX10_work_3 p1 μ) rfl ?_
    refine r_if_eq 40 dX10_work_35 (by decide) (fun c1 => ?_) (fun c1 => ?_)
    · replace hP := hP.1 c1
      refine r_aload_n dX10_work_40 0 rfl ?_
      refine r_getI fX10_212 (hG.lt (by decide)) sh57 fs57_39 dX10_work_41 ?_
      refine r_bipush 16 dX10_work_44 rfl ?_
      refine r_icmp_ne 62 dX10_work_46 (by decide) (fun c2 => ?_) (fun c2 => ?_)
      · replace hP := hP.1 c2
        refine r_aload_n dX10_work_62 0 rfl ?_
        refine r_iload_n dX10_work_63 1 rfl ?_
        have hs2 := hP.1
        replace hP := hP.2
        refine r_cvV (ok_X10_starts hG p1 (muX10_work_3 p1 μ) hs2) lX10_190 (hG.lt (by decide)) sh57 ⟨_, _, rfl⟩ dX10_work_64 (by decide) (Nat.le_of_ble_eq_true rfl) rfl (Nat.le_of_ble_eq_true rfl) ?_
        refine r_mu (muX10_work_4 p1 μ) rfl ?_
        refine r_aload_n dX10_work_67 0 rfl ?_
        refine r_iconst 0 dX10_work_68 rfl ?_
        refine r_put fiX10_262 (hG.lt (by decide)) sh57 fs57_30 dX10_work_69 ?_
        refine r_mu (muX10_work_5 p1 μ) rfl ?_
        have hs3 := hP.1
        replace hP := hP.2
        refine r_sub [0, 1] rfl ?_
        refine lp_X10_work_72 hG p1 (muX10_work_5 p1 μ) ((NX10_work_72 p1 μ)) (SX10_work_72 p1 μ) rfl hs3 ?_
        refine r_aload_n dX10_work_72 0 rfl ?_
        refine r_getI fX10_119 (hG.lt (by decide)) sh57 fs57_5 dX10_work_73 ?_
        refine r_if_ne 101 dX10_work_76 (by decide) (fun c3 => ?_) (fun c3 => ?_)
        · replace hP := hP.1 c3
          refine r_aload_n dX10_work_101 0 rfl ?_
          refine r_getI fX10_119 (hG.lt (by decide)) sh57 fs57_5 dX10_work_102 ?_
          refine r_if_eq 113 dX10_work_105 (by decide) (fun c4 => ?_) (fun c4 => ?_)
          · replace hP := hP.1 c4
            refine r_aload_n dX10_work_113 0 rfl ?_
            refine r_iconst (-1) dX10_work_114 rfl ?_
            refine r_put fiX10_9 (hG.lt (by decide)) sh57 fs57_3 dX10_work_115 ?_
            refine r_mu (muX10_work_6 p1 μ) rfl ?_
            refine r_aload_n dX10_work_118 0 rfl ?_
            refine r_getR 521 fX10_73 (hG.lt (by decide)) sh57 fs57_31 dX10_work_119 ?_
            refine r_aload_n dX10_work_122 0 rfl ?_
            refine r_getR 526 fX10_88 (hG.lt (by decide)) sh57 fs57_36 dX10_work_123 ?_
            refine r_aload_n dX10_work_126 0 rfl ?_
            refine r_getI fX10_212 (hG.lt (by decide)) sh57 fs57_39 dX10_work_127 ?_
            have hs6 := hP.1
            replace hP := hP.2
            refine r_aald (hG.lt (by decide)) sh526 hs6 dX10_work_130 ?_
            have hs7 := hP.1
            replace hP := hP.2
            refine r_csV (ok_X10_copies hG (hG.lt (by decide)) sh521 (ltR (vp_ix hs6) (by decide) hG) (shr526 _ (vp_ix hs6)) (muX10_work_6 p1 μ) hs7) lX10_333 dX10_work_131 (by decide) (Nat.le_of_ble_eq_true rfl) rfl (Nat.le_of_ble_eq_true rfl) ?_
            refine r_mu (muX10_work_7 p1 μ) rfl ?_
            refine r_aload_n dX10_work_134 0 rfl ?_
            refine r_dup dX10_work_135 rfl ?_
            refine r_getI fX10_212 (hG.lt (by decide)) sh57 fs57_39 dX10_work_136 ?_
            refine r_iconst 1 dX10_work_139 rfl ?_
            refine r_iadd dX10_work_140 ?_
            refine r_put fiX10_212 (hG.lt (by decide)) sh57 fs57_39 dX10_work_141 ?_
            refine r_mu (muX10_work_8 p1 μ) rfl ?_
            refine r_aload_n dX10_work_144 0 rfl ?_
            refine r_iconst 0 dX10_work_145 rfl ?_
            refine r_put fiX10_320 (hG.lt (by decide)) sh57 fs57_45 dX10_work_146 ?_
            refine r_mu (muX10_work_9 p1 μ) rfl ?_
            refine r_aload_n dX10_work_149 0 rfl ?_
            refine r_iconst 0 dX10_work_150 rfl ?_
            refine r_put fiX10_330 (hG.lt (by decide)) sh57 fs57_46 dX10_work_151 ?_
            refine r_mu (muX10_work_10 p1 μ) rfl ?_
            refine r_aload_n dX10_work_154 0 rfl ?_
            refine r_iconst 0 dX10_work_155 rfl ?_
            refine r_put fiX10_215 (hG.lt (by decide)) sh57 fs57_40 dX10_work_156 ?_
            refine r_mu (muX10_work_11 p1 μ) rfl ?_
            refine r_aload_n dX10_work_159 0 rfl ?_
            refine r_iconst 0 dX10_work_160 rfl ?_
            refine r_aload_n dX10_work_161 0 rfl ?_
            refine r_getI fX10_262 (hG.lt (by decide)) sh57 fs57_30 dX10_work_162 ?_
            have hs8 := hP
            refine r_cvV (ok_goM hG 0 ((muX10_work_11 p1 μ) 57 30) (muX10_work_11 p1 μ) hs8) (lX10_323 _) (hG.lt (by decide)) sh57 ⟨_, _, rfl⟩ dX10_work_165 (by decide) (Nat.le_of_ble_eq_true rfl) rfl (Nat.le_of_ble_eq_true rfl) ?_
            refine r_mu (muX10_work_12 p1 μ) rfl ?_
            refine r_aload_n dX10_work_168 0 rfl ?_
            refine r_getI fX10_330 (hG.lt (by decide)) sh57 fs57_46 dX10_work_169 ?_
            exact r_ireturn _ dX10_work_172 rfl rfl ⟨congrArg (fun z => some (Value.int z)) (by unfold F_X10_work; rw [if_pos c1, if_pos c2, if_pos c3, if_pos c4]), by unfold M_X10_work; rw [if_pos c1, if_pos c2, if_pos c3, if_pos c4]⟩
          · replace hP := hP.2 c4
            refine r_aload_n dX10_work_108 0 rfl ?_
            refine r_cvI (ok_X10_ends hG  (SX10_work_72 p1 μ)) lX10_196 (hG.lt (by decide)) sh57 ⟨_, _, rfl⟩ dX10_work_109 (by decide) (Nat.le_of_ble_eq_true rfl) rfl (Nat.le_of_ble_eq_true rfl) ?_
            refine r_mu (muX10_work_13 p1 μ) rfl ?_
            exact r_ireturn _ dX10_work_112 rfl rfl ⟨congrArg (fun z => some (Value.int z)) (by unfold F_X10_work; rw [if_pos c1, if_pos c2, if_pos c3, if_neg c4]), by unfold M_X10_work; rw [if_pos c1, if_pos c2, if_pos c3, if_neg c4]⟩
        · replace hP := hP.2 c3
          refine r_aload_n dX10_work_79 0 rfl ?_
          refine r_getI fX10_112 (hG.lt (by decide)) sh57 fs57_4 dX10_work_80 ?_
          refine r_aload_n dX10_work_83 0 rfl ?_
          refine r_getI fX10_109 (hG.lt (by decide)) sh57 fs57_2 dX10_work_84 ?_
          refine r_icmp_ge 101 dX10_work_87 (by decide) (fun c4 => ?_) (fun c4 => ?_)
          · replace hP := hP.1 c4
            refine r_aload_n dX10_work_101 0 rfl ?_
            refine r_getI fX10_119 (hG.lt (by decide)) sh57 fs57_5 dX10_work_102 ?_
            refine r_if_eq 113 dX10_work_105 (by decide) (fun c5 => ?_) (fun c5 => ?_)
            · replace hP := hP.1 c5
              refine r_aload_n dX10_work_113 0 rfl ?_
              refine r_iconst (-1) dX10_work_114 rfl ?_
              refine r_put fiX10_9 (hG.lt (by decide)) sh57 fs57_3 dX10_work_115 ?_
              refine r_mu (muX10_work_14 p1 μ) rfl ?_
              refine r_aload_n dX10_work_118 0 rfl ?_
              refine r_getR 521 fX10_73 (hG.lt (by decide)) sh57 fs57_31 dX10_work_119 ?_
              refine r_aload_n dX10_work_122 0 rfl ?_
              refine r_getR 526 fX10_88 (hG.lt (by decide)) sh57 fs57_36 dX10_work_123 ?_
              refine r_aload_n dX10_work_126 0 rfl ?_
              refine r_getI fX10_212 (hG.lt (by decide)) sh57 fs57_39 dX10_work_127 ?_
              have hs11 := hP.1
              replace hP := hP.2
              refine r_aald (hG.lt (by decide)) sh526 hs11 dX10_work_130 ?_
              have hs12 := hP.1
              replace hP := hP.2
              refine r_csV (ok_X10_copies hG (hG.lt (by decide)) sh521 (ltR (vp_ix hs11) (by decide) hG) (shr526 _ (vp_ix hs11)) (muX10_work_14 p1 μ) hs12) lX10_333 dX10_work_131 (by decide) (Nat.le_of_ble_eq_true rfl) rfl (Nat.le_of_ble_eq_true rfl) ?_
              refine r_mu (muX10_work_15 p1 μ) rfl ?_
              refine r_aload_n dX10_work_134 0 rfl ?_
              refine r_dup dX10_work_135 rfl ?_
              refine r_getI fX10_212 (hG.lt (by decide)) sh57 fs57_39 dX10_work_136 ?_
              refine r_iconst 1 dX10_work_139 rfl ?_
              refine r_iadd dX10_work_140 ?_
              refine r_put fiX10_212 (hG.lt (by decide)) sh57 fs57_39 dX10_work_141 ?_
              refine r_mu (muX10_work_16 p1 μ) rfl ?_
              refine r_aload_n dX10_work_144 0 rfl ?_
              refine r_iconst 0 dX10_work_145 rfl ?_
              refine r_put fiX10_320 (hG.lt (by decide)) sh57 fs57_45 dX10_work_146 ?_
              refine r_mu (muX10_work_17 p1 μ) rfl ?_
              refine r_aload_n dX10_work_149 0 rfl ?_
              refine r_iconst 0 dX10_work_150 rfl ?_
              refine r_put fiX10_330 (hG.lt (by decide)) sh57 fs57_46 dX10_work_151 ?_
              refine r_mu (muX10_work_18 p1 μ) rfl ?_
              refine r_aload_n dX10_work_154 0 rfl ?_
              refine r_iconst 0 dX10_work_155 rfl ?_
              refine r_put fiX10_215 (hG.lt (by decide)) sh57 fs57_40 dX10_work_156 ?_
              refine r_mu (muX10_work_19 p1 μ) rfl ?_
              refine r_aload_n dX10_work_159 0 rfl ?_
              refine r_iconst 0 dX10_work_160 rfl ?_
              refine r_aload_n dX10_work_161 0 rfl ?_
              refine r_getI fX10_262 (hG.lt (by decide)) sh57 fs57_30 dX10_work_162 ?_
              have hs13 := hP
              refine r_cvV (ok_goM hG 0 ((muX10_work_19 p1 μ) 57 30) (muX10_work_19 p1 μ) hs13) (lX10_323 _) (hG.lt (by decide)) sh57 ⟨_, _, rfl⟩ dX10_work_165 (by decide) (Nat.le_of_ble_eq_true rfl) rfl (Nat.le_of_ble_eq_true rfl) ?_
              refine r_mu (muX10_work_20 p1 μ) rfl ?_
              refine r_aload_n dX10_work_168 0 rfl ?_
              refine r_getI fX10_330 (hG.lt (by decide)) sh57 fs57_46 dX10_work_169 ?_
              exact r_ireturn _ dX10_work_172 rfl rfl ⟨congrArg (fun z => some (Value.int z)) (by unfold F_X10_work; rw [if_pos c1, if_pos c2, if_neg (not_not_intro c3), if_pos c5]), by unfold M_X10_work; rw [if_pos c1, if_pos c2, if_neg (not_not_intro c3), if_pos c5]⟩
            · replace hP := hP.2 c5
              refine r_aload_n dX10_work_108 0 rfl ?_
              refine r_cvI (ok_X10_ends hG  (SX10_work_72 p1 μ)) lX10_196 (hG.lt (by decide)) sh57 ⟨_, _, rfl⟩ dX10_work_109 (by decide) (Nat.le_of_ble_eq_true rfl) rfl (Nat.le_of_ble_eq_true rfl) ?_
              refine r_mu (muX10_work_21 p1 μ) rfl ?_
              exact r_ireturn _ dX10_work_112 rfl rfl ⟨congrArg (fun z => some (Value.int z)) (by unfold F_X10_work; rw [if_pos c1, if_pos c2, if_neg (not_not_intro c3), if_neg c5]), by unfold M_X10_work; rw [if_pos c1, if_pos c2, if_neg (not_not_intro c3), if_neg c5]⟩
          · replace hP := hP.2 c4
            refine r_aload_n dX10_work_90 0 rfl ?_
            have hs14 := hP.1
            replace hP := hP.2
            refine r_cvV (ok_stepM hG  (SX10_work_72 p1 μ) hs14) (lX10_265 _) (hG.lt (by decide)) sh57 ⟨_, _, rfl⟩ dX10_work_91 (by decide) (Nat.le_of_ble_eq_true rfl) rfl (Nat.le_of_ble_eq_true rfl) ?_
            refine r_mu (muX10_work_22 p1 μ) rfl ?_
            refine r_aload_n dX10_work_94 0 rfl ?_
            have hs15 := hP.1
            replace hP := hP.2
            refine r_cvV (ok_X10_blanks hG  (muX10_work_22 p1 μ) hs15) lX10_125 (hG.lt (by decide)) sh57 ⟨_, _, rfl⟩ dX10_work_95 (by decide) (Nat.le_of_ble_eq_true rfl) rfl (Nat.le_of_ble_eq_true rfl) ?_
            refine r_mu (muX10_work_23 p1 μ) rfl ?_
            refine r_goto 72 dX10_work_98 (by decide) ?_
            exact hP.elim
      · replace hP := hP.2 c2
        refine r_aload_n dX10_work_49 0 rfl ?_
        refine r_iconst 0 dX10_work_50 rfl ?_
        refine r_put fiX10_106 (hG.lt (by decide)) sh57 fs57_1 dX10_work_51 ?_
        refine r_mu (muX10_work_24 p1 μ) rfl ?_
        refine r_aload_n dX10_work_54 0 rfl ?_
        refine r_iconst (-1) dX10_work_55 rfl ?_
        refine r_put fiX10_9 (hG.lt (by decide)) sh57 fs57_3 dX10_work_56 ?_
        refine r_mu (muX10_work_25 p1 μ) rfl ?_
        refine r_bipush (-20) dX10_work_59 rfl ?_
        exact r_ireturn _ dX10_work_61 rfl rfl ⟨congrArg (fun z => some (Value.int z)) (by unfold F_X10_work; rw [if_pos c1, if_neg (not_not_intro c2)]), by unfold M_X10_work; rw [if_pos c1, if_neg (not_not_intro c2)]⟩
    · replace hP := hP.2 c1
      refine r_iconst 0 dX10_work_38 rfl ?_
      exact r_ireturn _ dX10_work_39 rfl rfl ⟨congrArg (fun z => some (Value.int z)) (by unfold F_X10_work; rw [if_neg c1]), by unfold M_X10_work; rw [if_neg c1]⟩
  · refine r_if_eq 25 dX10_work_15 (by decide) (fun c1 => ?_) (fun c1 => ?_)
    · refine r_iconst 1 dX10_work_25 rfl ?_
      refine r_goto 30 dX10_work_26 (by decide) ?_
      have e : (VX10_work_2 p1 μ) = 1 := by unfold VX10_work_2; rw [if_pos c1]
      rw [e] at hJ
      exact r_sub [0, 1] rfl hJ
    · refine r_iload_n dX10_work_18 1 rfl ?_
      refine r_sipush 150 dX10_work_19 rfl ?_
      refine r_icmp_le 29 dX10_work_22 (by decide) (fun c2 => ?_) (fun c2 => ?_)
      · refine r_iconst 0 dX10_work_29 rfl ?_
        have e : (VX10_work_2 p1 μ) = 0 := by unfold VX10_work_2; rw [if_neg c1, if_pos c2]
        rw [e] at hJ
        exact r_sub [0, 1] rfl hJ
      · refine r_iconst 1 dX10_work_25 rfl ?_
        refine r_goto 30 dX10_work_26 (by decide) ?_
        have e : (VX10_work_2 p1 μ) = 1 := by unfold VX10_work_2; rw [if_neg c1, if_neg (i32_ng c2)]
        rw [e] at hJ
        exact r_sub [0, 1] rfl hJ
