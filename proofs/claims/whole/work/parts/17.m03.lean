def muX10_stepHere_1 (μ : Mem) : Mem := (M_X10_isWord 12 9 6 20 0 0 0 μ)
def muX10_stepHere_2 (μ : Mem) : Mem := (M_X10_isWord 12 15 23 5 18 0 0 (muX10_stepHere_1 μ))
def muX10_stepHere_3 (μ : Mem) : Mem := (M_X10_isWord 20 9 5 0 0 0 0 (muX10_stepHere_2 μ))
def muX10_stepHere_4 (μ : Mem) : Mem := (M_X10_isWord 21 14 20 9 5 0 0 (muX10_stepHere_3 μ))
def muX10_stepHere_5 (μ : Mem) : Mem := (M_X10_isWord 2 1 7 0 0 0 0 (muX10_stepHere_4 μ))
def muX10_stepHere_6 (μ : Mem) : Mem := (M_X10_isWord 20 9 4 5 0 0 0 (muX10_stepHere_5 μ))
def muX10_stepHere_7 (μ : Mem) : Mem := (M_X10_isWord 1 7 1 9 14 0 0 (muX10_stepHere_6 μ))
def F_X10_stepHere  (μ : Mem) : Int32 := (if (F_X10_isWord 12 9 6 20 0 0 0 μ) = 0 then (if (F_X10_isWord 12 15 23 5 18 0 0 (muX10_stepHere_1 μ)) = 0 then (if (F_X10_isWord 20 9 5 0 0 0 0 (muX10_stepHere_2 μ)) = 0 then (if (F_X10_isWord 21 14 20 9 5 0 0 (muX10_stepHere_3 μ)) = 0 then (if (F_X10_isWord 2 1 7 0 0 0 0 (muX10_stepHere_4 μ)) = 0 then (if (F_X10_isWord 20 9 4 5 0 0 0 (muX10_stepHere_5 μ)) = 0 then (if (F_X10_isWord 1 7 1 9 14 0 0 (muX10_stepHere_6 μ)) = 0 then (-1) else 6) else 5) else 4) else 3) else 2) else 1) else 0)
def M_X10_stepHere  (μ : Mem) : Mem := (if (F_X10_isWord 12 9 6 20 0 0 0 μ) = 0 then (if (F_X10_isWord 12 15 23 5 18 0 0 (muX10_stepHere_1 μ)) = 0 then (if (F_X10_isWord 20 9 5 0 0 0 0 (muX10_stepHere_2 μ)) = 0 then (if (F_X10_isWord 21 14 20 9 5 0 0 (muX10_stepHere_3 μ)) = 0 then (if (F_X10_isWord 2 1 7 0 0 0 0 (muX10_stepHere_4 μ)) = 0 then (if (F_X10_isWord 20 9 4 5 0 0 0 (muX10_stepHere_5 μ)) = 0 then (muX10_stepHere_7 μ) else (muX10_stepHere_6 μ)) else (muX10_stepHere_5 μ)) else (muX10_stepHere_4 μ)) else (muX10_stepHere_3 μ)) else (muX10_stepHere_2 μ)) else (muX10_stepHere_1 μ))
def P_X10_stepHere  (μ : Mem) : Prop := ((P_X10_isWord 12 9 6 20 0 0 0 μ) ∧ (((F_X10_isWord 12 9 6 20 0 0 0 μ) = 0 → ((P_X10_isWord 12 15 23 5 18 0 0 (muX10_stepHere_1 μ)) ∧ (((F_X10_isWord 12 15 23 5 18 0 0 (muX10_stepHere_1 μ)) = 0 → ((P_X10_isWord 20 9 5 0 0 0 0 (muX10_stepHere_2 μ)) ∧ (((F_X10_isWord 20 9 5 0 0 0 0 (muX10_stepHere_2 μ)) = 0 → ((P_X10_isWord 21 14 20 9 5 0 0 (muX10_stepHere_3 μ)) ∧ (((F_X10_isWord 21 14 20 9 5 0 0 (muX10_stepHere_3 μ)) = 0 → ((P_X10_isWord 2 1 7 0 0 0 0 (muX10_stepHere_4 μ)) ∧ (((F_X10_isWord 2 1 7 0 0 0 0 (muX10_stepHere_4 μ)) = 0 → ((P_X10_isWord 20 9 4 5 0 0 0 (muX10_stepHere_5 μ)) ∧ (((F_X10_isWord 20 9 4 5 0 0 0 (muX10_stepHere_5 μ)) = 0 → (P_X10_isWord 1 7 1 9 14 0 0 (muX10_stepHere_6 μ))) ∧ (¬ (F_X10_isWord 20 9 4 5 0 0 0 (muX10_stepHere_5 μ)) = 0 → True)))) ∧ (¬ (F_X10_isWord 2 1 7 0 0 0 0 (muX10_stepHere_4 μ)) = 0 → True)))) ∧ (¬ (F_X10_isWord 21 14 20 9 5 0 0 (muX10_stepHere_3 μ)) = 0 → True)))) ∧ (¬ (F_X10_isWord 20 9 5 0 0 0 0 (muX10_stepHere_2 μ)) = 0 → True)))) ∧ (¬ (F_X10_isWord 12 15 23 5 18 0 0 (muX10_stepHere_1 μ)) = 0 → True)))) ∧ (¬ (F_X10_isWord 12 9 6 20 0 0 0 μ) = 0 → True)))
set_option maxRecDepth 20000 in
set_option maxHeartbeats 2000000 in
theorem ok_X10_stepHere {G : SG} (hG : GK 548 G)  (μ : Mem) (hP : P_X10_stepHere  μ) : OkF G mX10_stepHere [.ref (ga G 57)] μ (some (.int (F_X10_stepHere  μ))) (M_X10_stepHere  μ) := by
  refine okF_of hG rfl rfl (Nat.le_of_ble_eq_true rfl) ?_
  unfold P_X10_stepHere at hP
  refine r_aload_n dX10_stepHere_0 0 rfl ?_
  refine r_bipush 12 dX10_stepHere_1 rfl ?_
  refine r_bipush 9 dX10_stepHere_3 rfl ?_
  refine r_bipush 6 dX10_stepHere_5 rfl ?_
  refine r_bipush 20 dX10_stepHere_7 rfl ?_
  refine r_iconst 0 dX10_stepHere_9 rfl ?_
  refine r_iconst 0 dX10_stepHere_10 rfl ?_
  refine r_iconst 0 dX10_stepHere_11 rfl ?_
  have hs1 := hP.1
  replace hP := hP.2
  refine r_cvI (ok_X10_isWord hG 12 9 6 20 0 0 0 μ hs1) lX10_158 (hG.lt (by decide)) sh57 ⟨_, _, rfl⟩ dX10_stepHere_12 (by decide) (Nat.le_of_ble_eq_true rfl) rfl (Nat.le_of_ble_eq_true rfl) ?_
  refine r_mu (muX10_stepHere_1 μ) rfl ?_
  refine r_if_eq 20 dX10_stepHere_15 (by decide) (fun c1 => ?_) (fun c1 => ?_)
  · replace hP := hP.1 c1
    refine r_aload_n dX10_stepHere_20 0 rfl ?_
    refine r_bipush 12 dX10_stepHere_21 rfl ?_
    refine r_bipush 15 dX10_stepHere_23 rfl ?_
    refine r_bipush 23 dX10_stepHere_25 rfl ?_
    refine r_iconst 5 dX10_stepHere_27 rfl ?_
    refine r_bipush 18 dX10_stepHere_28 rfl ?_
    refine r_iconst 0 dX10_stepHere_30 rfl ?_
    refine r_iconst 0 dX10_stepHere_31 rfl ?_
    have hs2 := hP.1
    replace hP := hP.2
    refine r_cvI (ok_X10_isWord hG 12 15 23 5 18 0 0 (muX10_stepHere_1 μ) hs2) lX10_158 (hG.lt (by decide)) sh57 ⟨_, _, rfl⟩ dX10_stepHere_32 (by decide) (Nat.le_of_ble_eq_true rfl) rfl (Nat.le_of_ble_eq_true rfl) ?_
    refine r_mu (muX10_stepHere_2 μ) rfl ?_
    refine r_if_eq 40 dX10_stepHere_35 (by decide) (fun c2 => ?_) (fun c2 => ?_)
    · replace hP := hP.1 c2
      refine r_aload_n dX10_stepHere_40 0 rfl ?_
      refine r_bipush 20 dX10_stepHere_41 rfl ?_
      refine r_bipush 9 dX10_stepHere_43 rfl ?_
      refine r_iconst 5 dX10_stepHere_45 rfl ?_
      refine r_iconst 0 dX10_stepHere_46 rfl ?_
      refine r_iconst 0 dX10_stepHere_47 rfl ?_
      refine r_iconst 0 dX10_stepHere_48 rfl ?_
      refine r_iconst 0 dX10_stepHere_49 rfl ?_
      have hs3 := hP.1
      replace hP := hP.2
      refine r_cvI (ok_X10_isWord hG 20 9 5 0 0 0 0 (muX10_stepHere_2 μ) hs3) lX10_158 (hG.lt (by decide)) sh57 ⟨_, _, rfl⟩ dX10_stepHere_50 (by decide) (Nat.le_of_ble_eq_true rfl) rfl (Nat.le_of_ble_eq_true rfl) ?_
      refine r_mu (muX10_stepHere_3 μ) rfl ?_
      refine r_if_eq 58 dX10_stepHere_53 (by decide) (fun c3 => ?_) (fun c3 => ?_)
      · replace hP := hP.1 c3
        refine r_aload_n dX10_stepHere_58 0 rfl ?_
        refine r_bipush 21 dX10_stepHere_59 rfl ?_
        refine r_bipush 14 dX10_stepHere_61 rfl ?_
        refine r_bipush 20 dX10_stepHere_63 rfl ?_
        refine r_bipush 9 dX10_stepHere_65 rfl ?_
        refine r_iconst 5 dX10_stepHere_67 rfl ?_
        refine r_iconst 0 dX10_stepHere_68 rfl ?_
        refine r_iconst 0 dX10_stepHere_69 rfl ?_
        have hs4 := hP.1
        replace hP := hP.2
        refine r_cvI (ok_X10_isWord hG 21 14 20 9 5 0 0 (muX10_stepHere_3 μ) hs4) lX10_158 (hG.lt (by decide)) sh57 ⟨_, _, rfl⟩ dX10_stepHere_70 (by decide) (Nat.le_of_ble_eq_true rfl) rfl (Nat.le_of_ble_eq_true rfl) ?_
        refine r_mu (muX10_stepHere_4 μ) rfl ?_
        refine r_if_eq 78 dX10_stepHere_73 (by decide) (fun c4 => ?_) (fun c4 => ?_)
        · replace hP := hP.1 c4
          refine r_aload_n dX10_stepHere_78 0 rfl ?_
          refine r_iconst 2 dX10_stepHere_79 rfl ?_
          refine r_iconst 1 dX10_stepHere_80 rfl ?_
          refine r_bipush 7 dX10_stepHere_81 rfl ?_
          refine r_iconst 0 dX10_stepHere_83 rfl ?_
          refine r_iconst 0 dX10_stepHere_84 rfl ?_
          refine r_iconst 0 dX10_stepHere_85 rfl ?_
          refine r_iconst 0 dX10_stepHere_86 rfl ?_
          have hs5 := hP.1
          replace hP := hP.2
          refine r_cvI (ok_X10_isWord hG 2 1 7 0 0 0 0 (muX10_stepHere_4 μ) hs5) lX10_158 (hG.lt (by decide)) sh57 ⟨_, _, rfl⟩ dX10_stepHere_87 (by decide) (Nat.le_of_ble_eq_true rfl) rfl (Nat.le_of_ble_eq_true rfl) ?_
          refine r_mu (muX10_stepHere_5 μ) rfl ?_
          refine r_if_eq 95 dX10_stepHere_90 (by decide) (fun c5 => ?_) (fun c5 => ?_)
          · replace hP := hP.1 c5
            refine r_aload_n dX10_stepHere_95 0 rfl ?_
            refine r_bipush 20 dX10_stepHere_96 rfl ?_
            refine r_bipush 9 dX10_stepHere_98 rfl ?_
            refine r_iconst 4 dX10_stepHere_100 rfl ?_
            refine r_iconst 5 dX10_stepHere_101 rfl ?_
            refine r_iconst 0 dX10_stepHere_102 rfl ?_
            refine r_iconst 0 dX10_stepHere_103 rfl ?_
            refine r_iconst 0 dX10_stepHere_104 rfl ?_
            have hs6 := hP.1
            replace hP := hP.2
            refine r_cvI (ok_X10_isWord hG 20 9 4 5 0 0 0 (muX10_stepHere_5 μ) hs6) lX10_158 (hG.lt (by decide)) sh57 ⟨_, _, rfl⟩ dX10_stepHere_105 (by decide) (Nat.le_of_ble_eq_true rfl) rfl (Nat.le_of_ble_eq_true rfl) ?_
            refine r_mu (muX10_stepHere_6 μ) rfl ?_
            refine r_if_eq 113 dX10_stepHere_108 (by decide) (fun c6 => ?_) (fun c6 => ?_)
            · replace hP := hP.1 c6
              refine r_aload_n dX10_stepHere_113 0 rfl ?_
              refine r_iconst 1 dX10_stepHere_114 rfl ?_
              refine r_bipush 7 dX10_stepHere_115 rfl ?_
              refine r_iconst 1 dX10_stepHere_117 rfl ?_
              refine r_bipush 9 dX10_stepHere_118 rfl ?_
              refine r_bipush 14 dX10_stepHere_120 rfl ?_
              refine r_iconst 0 dX10_stepHere_122 rfl ?_
              refine r_iconst 0 dX10_stepHere_123 rfl ?_
              have hs7 := hP
              refine r_cvI (ok_X10_isWord hG 1 7 1 9 14 0 0 (muX10_stepHere_6 μ) hs7) lX10_158 (hG.lt (by decide)) sh57 ⟨_, _, rfl⟩ dX10_stepHere_124 (by decide) (Nat.le_of_ble_eq_true rfl) rfl (Nat.le_of_ble_eq_true rfl) ?_
              refine r_mu (muX10_stepHere_7 μ) rfl ?_
              refine r_if_eq 135 dX10_stepHere_127 (by decide) (fun c7 => ?_) (fun c7 => ?_)
              · refine r_iconst (-1) dX10_stepHere_135 rfl ?_
                exact r_ireturn _ dX10_stepHere_136 rfl rfl ⟨congrArg (fun z => some (Value.int z)) (by unfold F_X10_stepHere; rw [if_pos c1, if_pos c2, if_pos c3, if_pos c4, if_pos c5, if_pos c6, if_pos c7]), by unfold M_X10_stepHere; rw [if_pos c1, if_pos c2, if_pos c3, if_pos c4, if_pos c5, if_pos c6]⟩
              · refine r_bipush 6 dX10_stepHere_130 rfl ?_
                refine r_goto 136 dX10_stepHere_132 (by decide) ?_
                exact r_ireturn _ dX10_stepHere_136 rfl rfl ⟨congrArg (fun z => some (Value.int z)) (by unfold F_X10_stepHere; rw [if_pos c1, if_pos c2, if_pos c3, if_pos c4, if_pos c5, if_pos c6, if_neg c7]), by unfold M_X10_stepHere; rw [if_pos c1, if_pos c2, if_pos c3, if_pos c4, if_pos c5, if_pos c6]⟩
            · replace hP := hP.2 c6
              refine r_iconst 5 dX10_stepHere_111 rfl ?_
              exact r_ireturn _ dX10_stepHere_112 rfl rfl ⟨congrArg (fun z => some (Value.int z)) (by unfold F_X10_stepHere; rw [if_pos c1, if_pos c2, if_pos c3, if_pos c4, if_pos c5, if_neg c6]), by unfold M_X10_stepHere; rw [if_pos c1, if_pos c2, if_pos c3, if_pos c4, if_pos c5, if_neg c6]⟩
          · replace hP := hP.2 c5
            refine r_iconst 4 dX10_stepHere_93 rfl ?_
            exact r_ireturn _ dX10_stepHere_94 rfl rfl ⟨congrArg (fun z => some (Value.int z)) (by unfold F_X10_stepHere; rw [if_pos c1, if_pos c2, if_pos c3, if_pos c4, if_neg c5]), by unfold M_X10_stepHere; rw [if_pos c1, if_pos c2, if_pos c3, if_pos c4, if_neg c5]⟩
        · replace hP := hP.2 c4
          refine r_iconst 3 dX10_stepHere_76 rfl ?_
          exact r_ireturn _ dX10_stepHere_77 rfl rfl ⟨congrArg (fun z => some (Value.int z)) (by unfold F_X10_stepHere; rw [if_pos c1, if_pos c2, if_pos c3, if_neg c4]), by unfold M_X10_stepHere; rw [if_pos c1, if_pos c2, if_pos c3, if_neg c4]⟩
      · replace hP := hP.2 c3
        refine r_iconst 2 dX10_stepHere_56 rfl ?_
        exact r_ireturn _ dX10_stepHere_57 rfl rfl ⟨congrArg (fun z => some (Value.int z)) (by unfold F_X10_stepHere; rw [if_pos c1, if_pos c2, if_neg c3]), by unfold M_X10_stepHere; rw [if_pos c1, if_pos c2, if_neg c3]⟩
    · replace hP := hP.2 c2
      refine r_iconst 1 dX10_stepHere_38 rfl ?_
      exact r_ireturn _ dX10_stepHere_39 rfl rfl ⟨congrArg (fun z => some (Value.int z)) (by unfold F_X10_stepHere; rw [if_pos c1, if_neg c2]), by unfold M_X10_stepHere; rw [if_pos c1, if_neg c2]⟩
  · replace hP := hP.2 c1
    refine r_iconst 0 dX10_stepHere_18 rfl ?_
    exact r_ireturn _ dX10_stepHere_19 rfl rfl ⟨congrArg (fun z => some (Value.int z)) (by unfold F_X10_stepHere; rw [if_neg c1]), by unfold M_X10_stepHere; rw [if_neg c1]⟩
def muX10_stains_1 (p1 : Int32) (μ : Mem) : Mem := (upm μ 57 0 0)
def VX10_stains_2 (p1 : Int32) (μ : Mem) : Int32 := (if (F_X10_isIn p1 0 ((muX10_stains_1 p1 μ) 57 1) (muX10_stains_1 p1 μ)) = 0 then 1 else (if p1 ≤ 60 then 0 else 1))
theorem bo_VX10_stains_2 (p1 : Int32) (μ : Mem) : (VX10_stains_2 p1 μ) = 0 ∨ (VX10_stains_2 p1 μ) = 1 := by
  unfold VX10_stains_2
  split
  · exact Or.inr rfl
  · split
    · exact Or.inl rfl
    · exact Or.inr rfl
def muX10_stains_3 (p1 : Int32) (μ : Mem) : Mem := (M_X10_bad (VX10_stains_2 p1 μ) 1 1 (muX10_stains_1 p1 μ))
def muX10_stains_4 (p1 : Int32) (μ : Mem) : Mem := (M_X10_starts p1 (muX10_stains_3 p1 μ))
def muX10_stains_48_1 (v1 : Int32) (i : Nat) (s : Int32 × Int32 × Mem) : Mem := (M_X10_number 0 ((s.2.2 61 0) - 1) s.2.2)
def muX10_stains_48_2 (v1 : Int32) (i : Nat) (s : Int32 × Int32 × Mem) : Mem := (M_X10_wrong 2 (s.2.2 57 4) (muX10_stains_48_1 v1 i s))
def VX10_stains_48_3 (v1 : Int32) (i : Nat) (s : Int32 × Int32 × Mem) : Mem := (if ((muX10_stains_48_1 v1 i s) 57 5) ≠ 0 then (muX10_stains_48_1 v1 i s) else (if (F_X10_has s.2.1 (F_X10_number 0 ((s.2.2 61 0) - 1) s.2.2) (muX10_stains_48_1 v1 i s)) = 0 then (muX10_stains_48_1 v1 i s) else (muX10_stains_48_2 v1 i s)))
def muX10_stains_48_4 (v1 : Int32) (i : Nat) (s : Int32 × Int32 × Mem) : Mem := (M_X10_number 0 60 (VX10_stains_48_3 v1 i s))
def muX10_stains_48_5 (v1 : Int32) (i : Nat) (s : Int32 × Int32 × Mem) : Mem := (M_X10_sign 59 (muX10_stains_48_4 v1 i s))
def muX10_stains_48_6 (v1 : Int32) (i : Nat) (s : Int32 × Int32 × Mem) : Mem := (upm (muX10_stains_48_5 v1 i s) (432 + (ix s.1)) 0 (F_X10_number 0 ((s.2.2 61 0) - 1) s.2.2))
def muX10_stains_48_7 (v1 : Int32) (i : Nat) (s : Int32 × Int32 × Mem) : Mem := (upm (muX10_stains_48_6 v1 i s) (432 + (ix s.1)) 1 (F_X10_number 0 60 (VX10_stains_48_3 v1 i s)))
def VX10_stains_48_8 (v1 : Int32) (i : Nat) (s : Int32 × Int32 × Mem) : Int32 := (if ((muX10_stains_48_5 v1 i s) 57 5) ≠ 0 then s.1 else (s.1 + 1))
def VX10_stains_48_9 (v1 : Int32) (i : Nat) (s : Int32 × Int32 × Mem) : Int32 := (if ((muX10_stains_48_5 v1 i s) 57 5) ≠ 0 then s.2.1 else (s.2.1 ||| ((1 : Int32) <<< ((F_X10_number 0 ((s.2.2 61 0) - 1) s.2.2) &&& 31))))
def VX10_stains_48_10 (v1 : Int32) (i : Nat) (s : Int32 × Int32 × Mem) : Mem := (if ((muX10_stains_48_5 v1 i s) 57 5) ≠ 0 then (muX10_stains_48_5 v1 i s) else (muX10_stains_48_7 v1 i s))
def muX10_stains_48_11 (v1 : Int32) (i : Nat) (s : Int32 × Int32 × Mem) : Mem := (M_X10_blanks  (VX10_stains_48_10 v1 i s))
def g_X10_stains_48 (v1 : Int32) (i : Nat) (s : Int32 × Int32 × Mem) : Int32 × Int32 × Mem := ((VX10_stains_48_8 v1 i s), (VX10_stains_48_9 v1 i s), (muX10_stains_48_11 v1 i s))
def Pb_X10_stains_48 (v1 : Int32) (i : Nat) (s : Int32 × Int32 × Mem) : Prop := (((s.2.2 57 5) ≠ 0 → False) ∧ ((s.2.2 57 5) = 0 → (((s.2.2 57 2) ≤ (s.2.2 57 4) → False) ∧ ((s.2.2 57 4) < (s.2.2 57 2) → (P_X10_number 0 ((s.2.2 61 0) - 1) s.2.2) ∧ (P_X10_number 0 60 (VX10_stains_48_3 v1 i s)) ∧ (P_X10_sign 59 (muX10_stains_48_4 v1 i s)) ∧ (((((muX10_stains_48_5 v1 i s) 57 5) ≠ 0 → True) ∧ (((muX10_stains_48_5 v1 i s) 57 5) = 0 → (vp_in s.1 6) ∧ vp_in s.1 6)) ∧ P_X10_blanks  (VX10_stains_48_10 v1 i s))))))
def Cb_X10_stains_48 (v1 : Int32) (i : Nat) (s : Int32 × Int32 × Mem) : Bool := (if (s.2.2 57 5) ≠ 0 then false else (if (s.2.2 57 2) ≤ (s.2.2 57 4) then false else true))
set_option maxRecDepth 20000 in
set_option maxHeartbeats 2000000 in
theorem lp_X10_stains_48 {G : SG} (hG : GK 548 G)  (v1 : Int32) (s0 : Int32 × Int32 × Mem) (N : Nat) (sN : Int32 × Int32 × Mem) (eN : sN = fo N (g_X10_stains_48 v1) s0) (hN : ∀ i, i < N → Pb_X10_stains_48 v1 i (fo i (g_X10_stains_48 v1) s0)) {t : Nat} {Q : PQ} {X : PX} (h : R G mX10_stains 48 [(0, .ref (ga G 57)), (1, .int v1), (2, .int (sN).1), (3, .int (sN).2.1)] [] (sN).2.2 t Q X) : R G mX10_stains 48 [(0, .ref (ga G 57)), (1, .int v1), (2, .int (s0).1), (3, .int (s0).2.1)] [] (s0).2.2 t Q X := by
  subst eN
  refine down_i N (fun i => R G mX10_stains 48 [(0, .ref (ga G 57)), (1, .int v1), (2, .int ((fo i (g_X10_stains_48 v1) s0)).1), (3, .int ((fo i (g_X10_stains_48 v1) s0)).2.1)] [] ((fo i (g_X10_stains_48 v1) s0)).2.2 t Q X) h (fun i hi hS => ?_)
  have hP := hN i hi
  rw [fo_succ] at hS
  generalize fo i (g_X10_stains_48 v1) s0 = s at hS hP ⊢
  unfold Pb_X10_stains_48 at hP
  refine r_aload_n dX10_stains_48 0 rfl ?_
  refine r_getI fX10_119 (hG.lt (by decide)) sh57 fs57_5 dX10_stains_49 ?_
  refine r_if_ne 169 dX10_stains_52 (by decide) (fun c1 => ?_) (fun c1 => ?_)
  · replace hP := hP.1 c1
    exact hP.elim
  · replace hP := hP.2 c1
    refine r_aload_n dX10_stains_55 0 rfl ?_
    refine r_getI fX10_112 (hG.lt (by decide)) sh57 fs57_4 dX10_stains_56 ?_
    refine r_aload_n dX10_stains_59 0 rfl ?_
    refine r_getI fX10_109 (hG.lt (by decide)) sh57 fs57_2 dX10_stains_60 ?_
    refine r_icmp_ge 169 dX10_stains_63 (by decide) (fun c2 => ?_) (fun c2 => ?_)
    · replace hP := hP.1 c2
      exact hP.elim
    · replace hP := hP.2 c2
      refine r_aload_n dX10_stains_66 0 rfl ?_
      refine r_getI fX10_112 (hG.lt (by decide)) sh57 fs57_4 dX10_stains_67 ?_
      refine r_istore [(4, _), (0, _), (1, _), (2, _), (3, _)] dX10_stains_70 (Nat.le_of_ble_eq_true rfl) rfl ?_
      refine r_aload_n dX10_stains_72 1 rfl ?_
      refine r_iconst 0 dX10_stains_73 rfl ?_
      refine r_aload_n dX10_stains_74 1 rfl ?_
      refine r_getR 61 fX10_23 (hG.lt (by decide)) sh57 fs57_12 dX10_stains_75 ?_
      refine r_iconst 0 dX10_stains_78 rfl ?_
      refine r_ialdK 0 rfl (hG.lt (by decide)) sh61 (vp_of (by decide) (by decide)) dX10_stains_79 ?_
      refine r_iconst 1 dX10_stains_80 rfl ?_
      refine r_isub dX10_stains_81 ?_
      have hs1 := hP.1
      replace hP := hP.2
      refine r_cvI (ok_X10_number hG 0 ((s.2.2 61 0) - 1) s.2.2 hs1) lX10_178 (hG.lt (by decide)) sh57 ⟨_, _, rfl⟩ dX10_stains_82 (by decide) (Nat.le_of_ble_eq_true rfl) rfl (Nat.le_of_ble_eq_true rfl) ?_
      refine r_mu (muX10_stains_48_1 v1 i s) rfl ?_
      refine r_istore [(5, _), (4, _), (0, _), (1, _), (2, _), (3, _)] dX10_stains_85 (Nat.le_of_ble_eq_true rfl) rfl ?_
      refine r_aload_n dX10_stains_87 2 rfl ?_
      refine r_getI fX10_119 (hG.lt (by decide)) sh57 fs57_5 dX10_stains_88 ?_
      refine r_join 110 [(5, .int (F_X10_number 0 ((s.2.2 61 0) - 1) s.2.2)), (4, .int (s.2.2 57 4)), (0, .ref (ga G 57)), (1, .int v1), (2, .int s.1), (3, .int s.2.1)] [] (VX10_stains_48_3 v1 i s) ?_ (fun hJ => ?_)
      · refine r_aload_n dX10_stains_110 2 rfl ?_
        refine r_iconst 0 dX10_stains_111 rfl ?_
        refine r_bipush 60 dX10_stains_112 rfl ?_
        have hs2 := hP.1
        replace hP := hP.2
        refine r_cvI (ok_X10_number hG 0 60 (VX10_stains_48_3 v1 i s) hs2) lX10_178 (hG.lt (by decide)) sh57 ⟨_, _, rfl⟩ dX10_stains_114 (by decide) (Nat.le_of_ble_eq_true rfl) rfl (Nat.le_of_ble_eq_true rfl) ?_
        refine r_mu (muX10_stains_48_4 v1 i s) rfl ?_
        refine r_istore [(6, _), (5, _), (4, _), (0, _), (1, _), (2, _), (3, _)] dX10_stains_117 (Nat.le_of_ble_eq_true rfl) rfl ?_
        refine r_aload_n dX10_stains_119 3 rfl ?_
        refine r_bipush 59 dX10_stains_120 rfl ?_
        have hs3 := hP.1
        replace hP := hP.2
        refine r_cvV (ok_X10_sign hG 59 (muX10_stains_48_4 v1 i s) hs3) lX10_182 (hG.lt (by decide)) sh57 ⟨_, _, rfl⟩ dX10_stains_122 (by decide) (Nat.le_of_ble_eq_true rfl) rfl (Nat.le_of_ble_eq_true rfl) ?_
        refine r_mu (muX10_stains_48_5 v1 i s) rfl ?_
        refine r_aload_n dX10_stains_125 3 rfl ?_
        refine r_getI fX10_119 (hG.lt (by decide)) sh57 fs57_5 dX10_stains_126 ?_
        refine r_join 162 [(6, .int (F_X10_number 0 60 (VX10_stains_48_3 v1 i s))), (5, .int (F_X10_number 0 ((s.2.2 61 0) - 1) s.2.2)), (4, .int (s.2.2 57 4)), (0, .ref (ga G 57)), (1, .int v1), (2, .int (VX10_stains_48_8 v1 i s)), (3, .int (VX10_stains_48_9 v1 i s))] [] (VX10_stains_48_10 v1 i s) ?_ (fun hJ => ?_)
        · replace hP := hP.2
          refine r_aload_n dX10_stains_162 3 rfl ?_
          have hs6 := hP
          refine r_cvV (ok_X10_blanks hG  (VX10_stains_48_10 v1 i s) hs6) lX10_125 (hG.lt (by decide)) sh57 ⟨_, _, rfl⟩ dX10_stains_163 (by decide) (Nat.le_of_ble_eq_true rfl) rfl (Nat.le_of_ble_eq_true rfl) ?_
          refine r_mu (muX10_stains_48_11 v1 i s) rfl ?_
          refine r_goto 48 dX10_stains_166 (by decide) ?_
          have e : g_X10_stains_48 v1 i s = ((VX10_stains_48_8 v1 i s), (VX10_stains_48_9 v1 i s), (muX10_stains_48_11 v1 i s)) := by unfold g_X10_stains_48; rfl
          rw [e] at hS
          dsimp only at hS
          exact r_sub [3, 4, 5, 6] rfl hS
        · replace hP := hP.1
          refine r_if_ne 162 dX10_stains_129 (by decide) (fun c3 => ?_) (fun c3 => ?_)
          · replace hP := hP.1 c3
            have e : (VX10_stains_48_8 v1 i s) = s.1 := by unfold VX10_stains_48_8; rw [if_pos c3]
            rw [e] at hJ
            clear e
            have e : (VX10_stains_48_9 v1 i s) = s.2.1 := by unfold VX10_stains_48_9; rw [if_pos c3]
            rw [e] at hJ
            clear e
            have e : (VX10_stains_48_10 v1 i s) = (muX10_stains_48_5 v1 i s) := by unfold VX10_stains_48_10; rw [if_pos c3]
            rw [e] at hJ
            exact r_sub [0, 1, 2, 3, 4, 5, 6] rfl hJ
          · replace hP := hP.2 c3
            refine r_iload_n dX10_stains_132 6 rfl ?_
            refine r_iconst 1 dX10_stains_133 rfl ?_
            refine r_iload dX10_stains_134 1 rfl ?_
            refine r_ishl dX10_stains_136 rfl ?_
            refine r_ior dX10_stains_137 ?_
            refine r_istore_n [(3, _), (6, _), (5, _), (4, _), (0, _), (1, _), (2, _)] dX10_stains_138 (Nat.le_of_ble_eq_true rfl) rfl ?_
            refine r_aload_n dX10_stains_139 4 rfl ?_
            refine r_getR 431 fX10_61 (hG.lt (by decide)) sh57 fs57_26 dX10_stains_140 ?_
            refine r_iload_n dX10_stains_143 6 rfl ?_
            have hs4 := hP.1
            replace hP := hP.2
            refine r_aald (hG.lt (by decide)) sh431 hs4 dX10_stains_144 ?_
            refine r_iconst 0 dX10_stains_145 rfl ?_
            refine r_iload dX10_stains_146 2 rfl ?_
            refine r_iastK 0 rfl (ltR (vp_ix hs4) (by decide) hG) (shr431 _ (vp_ix hs4)) (vp_of (by decide) (by decide)) dX10_stains_148 ?_
            refine r_mu (muX10_stains_48_6 v1 i s) rfl ?_
            refine r_aload_n dX10_stains_149 4 rfl ?_
            refine r_getR 431 fX10_61 (hG.lt (by decide)) sh57 fs57_26 dX10_stains_150 ?_
            refine r_iload_n dX10_stains_153 6 rfl ?_
            have hs5 := hP
            refine r_aald (hG.lt (by decide)) sh431 hs5 dX10_stains_154 ?_
            refine r_iconst 1 dX10_stains_155 rfl ?_
            refine r_iload dX10_stains_156 1 rfl ?_
            refine r_iastK 1 rfl (ltR (vp_ix hs5) (by decide) hG) (shr431 _ (vp_ix hs5)) (vp_of (by decide) (by decide)) dX10_stains_158 ?_
            refine r_mu (muX10_stains_48_7 v1 i s) rfl ?_
            refine r_iinc (s.1 + 1) [(2, _), (3, _), (6, _), (5, _), (4, _), (0, _), (1, _)] dX10_stains_159 6 rfl rfl (Nat.le_of_ble_eq_true rfl) rfl ?_
            have e : (VX10_stains_48_8 v1 i s) = (s.1 + 1) := by unfold VX10_stains_48_8; rw [if_neg (not_not_intro c3)]
            rw [e] at hJ
            clear e
            have e : (VX10_stains_48_9 v1 i s) = (s.2.1 ||| ((1 : Int32) <<< ((F_X10_number 0 ((s.2.2 61 0) - 1) s.2.2) &&& 31))) := by unfold VX10_stains_48_9; rw [if_neg (not_not_intro c3)]
            rw [e] at hJ
            clear e
            have e : (VX10_stains_48_10 v1 i s) = (muX10_stains_48_7 v1 i s) := by unfold VX10_stains_48_10; rw [if_neg (not_not_intro c3)]
            rw [e] at hJ
            exact r_sub [2, 3, 4, 5, 6, 0, 1] rfl hJ
      · refine r_if_ne 110 dX10_stains_91 (by decide) (fun c3 => ?_) (fun c3 => ?_)
        · have e : (VX10_stains_48_3 v1 i s) = (muX10_stains_48_1 v1 i s) := by unfold VX10_stains_48_3; rw [if_pos c3]
          rw [e] at hJ
          exact r_sub [0, 1, 2, 3, 4, 5] rfl hJ
        · refine r_iload_n dX10_stains_94 5 rfl ?_
          refine r_iload dX10_stains_95 0 rfl ?_
          refine r_csI (ok_X10_has hG s.2.1 (F_X10_number 0 ((s.2.2 61 0) - 1) s.2.2) (muX10_stains_48_1 v1 i s)) lX10_268 dX10_stains_97 (by decide) (Nat.le_of_ble_eq_true rfl) rfl (Nat.le_of_ble_eq_true rfl) ?_
          refine r_if_eq 110 dX10_stains_100 (by decide) (fun c4 => ?_) (fun c4 => ?_)
          · have e : (VX10_stains_48_3 v1 i s) = (muX10_stains_48_1 v1 i s) := by unfold VX10_stains_48_3; rw [if_neg (not_not_intro c3), if_pos c4]
            rw [e] at hJ
            exact r_sub [0, 1, 2, 3, 4, 5] rfl hJ
          · refine r_aload_n dX10_stains_103 2 rfl ?_
            refine r_iconst 2 dX10_stains_104 rfl ?_
            refine r_iload dX10_stains_105 1 rfl ?_
            refine r_cvV (ok_X10_wrong hG 2 (s.2.2 57 4) (muX10_stains_48_1 v1 i s)) lX10_132 (hG.lt (by decide)) sh57 ⟨_, _, rfl⟩ dX10_stains_107 (by decide) (Nat.le_of_ble_eq_true rfl) rfl (Nat.le_of_ble_eq_true rfl) ?_
            refine r_mu (muX10_stains_48_2 v1 i s) rfl ?_
            have e : (VX10_stains_48_3 v1 i s) = (muX10_stains_48_2 v1 i s) := by unfold VX10_stains_48_3; rw [if_neg (not_not_intro c3), if_neg c4]
            rw [e] at hJ
            exact r_sub [0, 1, 2, 3, 4, 5] rfl hJ
def NX10_stains_48 (p1 : Int32) (μ : Mem) : Nat := (fst 62 (fun j9 => !Cb_X10_stains_48 p1 j9 (fo j9 (g_X10_stains_48 p1) (0, 0, (muX10_stains_4 p1 μ)))))
def SX10_stains_48 (p1 : Int32) (μ : Mem) : Int32 × Int32 × Mem := fo (NX10_stains_48 p1 μ) (g_X10_stains_48 p1) (0, 0, (muX10_stains_4 p1 μ))
def muX10_stains_5 (p1 : Int32) (μ : Mem) : Mem := (upm (SX10_stains_48 p1 μ).2.2 57 3 (-1))
def muX10_stains_6 (p1 : Int32) (μ : Mem) : Mem := (upm (muX10_stains_5 p1 μ) 57 38 (SX10_stains_48 p1 μ).1)
def muX10_stains_7 (p1 : Int32) (μ : Mem) : Mem := (M_X10_lays_S (SX10_stains_48 p1 μ).1 (muX10_stains_6 p1 μ))
def muX10_stains_8 (p1 : Int32) (μ : Mem) : Mem := (M_X10_ends  (SX10_stains_48 p1 μ).2.2)
def muX10_stains_9 (p1 : Int32) (μ : Mem) : Mem := (upm (SX10_stains_48 p1 μ).2.2 57 3 (-1))
def muX10_stains_10 (p1 : Int32) (μ : Mem) : Mem := (upm (muX10_stains_9 p1 μ) 57 38 (SX10_stains_48 p1 μ).1)
def muX10_stains_11 (p1 : Int32) (μ : Mem) : Mem := (M_X10_lays_S (SX10_stains_48 p1 μ).1 (muX10_stains_10 p1 μ))
def muX10_stains_12 (p1 : Int32) (μ : Mem) : Mem := (M_X10_ends  (SX10_stains_48 p1 μ).2.2)
def muX10_stains_13 (p1 : Int32) (μ : Mem) : Mem := (M_X10_number 0 (((SX10_stains_48 p1 μ).2.2 61 0) - 1) (SX10_stains_48 p1 μ).2.2)
def muX10_stains_14 (p1 : Int32) (μ : Mem) : Mem := (M_X10_wrong 2 ((SX10_stains_48 p1 μ).2.2 57 4) (muX10_stains_13 p1 μ))
def VX10_stains_15 (p1 : Int32) (μ : Mem) : Mem := (if ((muX10_stains_13 p1 μ) 57 5) ≠ 0 then (muX10_stains_13 p1 μ) else (if (F_X10_has (SX10_stains_48 p1 μ).2.1 (F_X10_number 0 (((SX10_stains_48 p1 μ).2.2 61 0) - 1) (SX10_stains_48 p1 μ).2.2) (muX10_stains_13 p1 μ)) = 0 then (muX10_stains_13 p1 μ) else (muX10_stains_14 p1 μ)))
def muX10_stains_16 (p1 : Int32) (μ : Mem) : Mem := (M_X10_number 0 60 (VX10_stains_15 p1 μ))
def muX10_stains_17 (p1 : Int32) (μ : Mem) : Mem := (M_X10_sign 59 (muX10_stains_16 p1 μ))
def muX10_stains_18 (p1 : Int32) (μ : Mem) : Mem := (upm (muX10_stains_17 p1 μ) (432 + (ix (SX10_stains_48 p1 μ).1)) 0 (F_X10_number 0 (((SX10_stains_48 p1 μ).2.2 61 0) - 1) (SX10_stains_48 p1 μ).2.2))
def muX10_stains_19 (p1 : Int32) (μ : Mem) : Mem := (upm (muX10_stains_18 p1 μ) (432 + (ix (SX10_stains_48 p1 μ).1)) 1 (F_X10_number 0 60 (VX10_stains_15 p1 μ)))
def VX10_stains_20 (p1 : Int32) (μ : Mem) : Int32 := (if ((muX10_stains_17 p1 μ) 57 5) ≠ 0 then (SX10_stains_48 p1 μ).1 else ((SX10_stains_48 p1 μ).1 + 1))
def VX10_stains_21 (p1 : Int32) (μ : Mem) : Int32 := (if ((muX10_stains_17 p1 μ) 57 5) ≠ 0 then (SX10_stains_48 p1 μ).2.1 else ((SX10_stains_48 p1 μ).2.1 ||| ((1 : Int32) <<< ((F_X10_number 0 (((SX10_stains_48 p1 μ).2.2 61 0) - 1) (SX10_stains_48 p1 μ).2.2) &&& 31))))
def VX10_stains_22 (p1 : Int32) (μ : Mem) : Mem := (if ((muX10_stains_17 p1 μ) 57 5) ≠ 0 then (muX10_stains_17 p1 μ) else (muX10_stains_19 p1 μ))
def muX10_stains_23 (p1 : Int32) (μ : Mem) : Mem := (M_X10_blanks  (VX10_stains_22 p1 μ))
def F_X10_stains (p1 : Int32) (μ : Mem) : Int32 := (if (F_X10_bad (VX10_stains_2 p1 μ) 1 1 (muX10_stains_1 p1 μ)) = 0 then (if ((SX10_stains_48 p1 μ).2.2 57 5) = 0 then (SX10_stains_48 p1 μ).1 else (F_X10_ends  (SX10_stains_48 p1 μ).2.2)) else 0)
def M_X10_stains (p1 : Int32) (μ : Mem) : Mem := (if (F_X10_bad (VX10_stains_2 p1 μ) 1 1 (muX10_stains_1 p1 μ)) = 0 then (if ((SX10_stains_48 p1 μ).2.2 57 5) ≠ 0 then (if ((SX10_stains_48 p1 μ).2.2 57 5) = 0 then (muX10_stains_7 p1 μ) else (muX10_stains_8 p1 μ)) else (if ((SX10_stains_48 p1 μ).2.2 57 5) = 0 then (muX10_stains_11 p1 μ) else (muX10_stains_12 p1 μ))) else (muX10_stains_3 p1 μ))
def P_X10_stains (p1 : Int32) (μ : Mem) : Prop := ((P_X10_bad (VX10_stains_2 p1 μ) 1 1 (muX10_stains_1 p1 μ)) ∧ (((F_X10_bad (VX10_stains_2 p1 μ) 1 1 (muX10_stains_1 p1 μ)) = 0 → ((P_X10_starts p1 (muX10_stains_3 p1 μ)) ∧ ((∀ j9, j9 < (NX10_stains_48 p1 μ) → Pb_X10_stains_48 p1 j9 (fo j9 (g_X10_stains_48 p1) (0, 0, (muX10_stains_4 p1 μ)))) ∧ ((((SX10_stains_48 p1 μ).2.2 57 5) ≠ 0 → ((((SX10_stains_48 p1 μ).2.2 57 5) = 0 → (P_X10_lays_S (SX10_stains_48 p1 μ).1 (muX10_stains_6 p1 μ))) ∧ (¬ ((SX10_stains_48 p1 μ).2.2 57 5) = 0 → True))) ∧ (((SX10_stains_48 p1 μ).2.2 57 5) = 0 → ((((SX10_stains_48 p1 μ).2.2 57 2) ≤ ((SX10_stains_48 p1 μ).2.2 57 4) → ((((SX10_stains_48 p1 μ).2.2 57 5) = 0 → (P_X10_lays_S (SX10_stains_48 p1 μ).1 (muX10_stains_10 p1 μ))) ∧ (¬ ((SX10_stains_48 p1 μ).2.2 57 5) = 0 → True))) ∧ (((SX10_stains_48 p1 μ).2.2 57 4) < ((SX10_stains_48 p1 μ).2.2 57 2) → ((P_X10_number 0 (((SX10_stains_48 p1 μ).2.2 61 0) - 1) (SX10_stains_48 p1 μ).2.2) ∧ ((P_X10_number 0 60 (VX10_stains_15 p1 μ)) ∧ ((P_X10_sign 59 (muX10_stains_16 p1 μ)) ∧ (((((muX10_stains_17 p1 μ) 57 5) ≠ 0 → True) ∧ (((muX10_stains_17 p1 μ) 57 5) = 0 → ((vp_in (SX10_stains_48 p1 μ).1 6) ∧ (vp_in (SX10_stains_48 p1 μ).1 6)))) ∧ ((P_X10_blanks  (VX10_stains_22 p1 μ)) ∧ False)))))))))))) ∧ (¬ (F_X10_bad (VX10_stains_2 p1 μ) 1 1 (muX10_stains_1 p1 μ)) = 0 → True)))
set_option maxRecDepth 20000 in
set_option maxHeartbeats 2000000 in
theorem ok_X10_stains {G : SG} (hG : GK 548 G) (p1 : Int32) (μ : Mem) (hP : P_X10_stains p1 μ) : OkF G mX10_stains [.ref (ga G 57), .int p1] μ (some (.int (F_X10_stains p1 μ))) (M_X10_stains p1 μ) := by
  refine okF_of hG rfl rfl (Nat.le_of_ble_eq_true rfl) ?_
  unfold P_X10_stains at hP
  refine r_aload_n dX10_stains_0 0 rfl ?_
  refine r_iconst 0 dX10_stains_1 rfl ?_
  refine r_put fiX10_103 (hG.lt (by decide)) sh57 fs57_0 dX10_stains_2 ?_
  refine r_mu (muX10_stains_1 p1 μ) rfl ?_
  refine r_aload_n dX10_stains_5 0 rfl ?_
  refine r_iload_n dX10_stains_6 1 rfl ?_
  refine r_iconst 0 dX10_stains_7 rfl ?_
  refine r_aload_n dX10_stains_8 0 rfl ?_
  refine r_getI fX10_106 (hG.lt (by decide)) sh57 fs57_1 dX10_stains_9 ?_
  refine r_csI (ok_X10_isIn hG p1 0 ((muX10_stains_1 p1 μ) 57 1) (muX10_stains_1 p1 μ)) lX10_137 dX10_stains_12 (by decide) (Nat.le_of_ble_eq_true rfl) rfl (Nat.le_of_ble_eq_true rfl) ?_
  refine r_join 29 [(0, .ref (ga G 57)), (1, .int p1)] [.int (VX10_stains_2 p1 μ), .ref (ga G 57)] (muX10_stains_1 p1 μ) ?_ (fun hJ => ?_)
  · refine r_iconst 1 dX10_stains_29 rfl ?_
    refine r_iconst 1 dX10_stains_30 rfl ?_
    have hs1 := hP.1
    replace hP := hP.2
    refine r_cvI (ok_X10_bad hG (VX10_stains_2 p1 μ) 1 1 (muX10_stains_1 p1 μ) hs1) lX10_186 (hG.lt (by decide)) sh57 ⟨_, _, rfl⟩ dX10_stains_31 (by decide) (Nat.le_of_ble_eq_true rfl) rfl (Nat.le_of_ble_eq_true rfl) ?_
    refine r_mu (muX10_stains_3 p1 μ) rfl ?_
    refine r_if_eq 39 dX10_stains_34 (by decide) (fun c1 => ?_) (fun c1 => ?_)
    · replace hP := hP.1 c1
      refine r_aload_n dX10_stains_39 0 rfl ?_
      refine r_iload_n dX10_stains_40 1 rfl ?_
      have hs2 := hP.1
      replace hP := hP.2
      refine r_cvV (ok_X10_starts hG p1 (muX10_stains_3 p1 μ) hs2) lX10_190 (hG.lt (by decide)) sh57 ⟨_, _, rfl⟩ dX10_stains_41 (by decide) (Nat.le_of_ble_eq_true rfl) rfl (Nat.le_of_ble_eq_true rfl) ?_
      refine r_mu (muX10_stains_4 p1 μ) rfl ?_
      refine r_iconst 0 dX10_stains_44 rfl ?_
      refine r_istore_n [(2, _), (0, _), (1, _)] dX10_stains_45 (Nat.le_of_ble_eq_true rfl) rfl ?_
      refine r_iconst 0 dX10_stains_46 rfl ?_
      refine r_istore_n [(3, _), (2, _), (0, _), (1, _)] dX10_stains_47 (Nat.le_of_ble_eq_true rfl) rfl ?_
      have hs3 := hP.1
      replace hP := hP.2
      refine r_sub [2, 3, 1, 0] rfl ?_
      refine lp_X10_stains_48 hG p1 (0, 0, (muX10_stains_4 p1 μ)) ((NX10_stains_48 p1 μ)) (SX10_stains_48 p1 μ) rfl hs3 ?_
      refine r_aload_n dX10_stains_48 0 rfl ?_
      refine r_getI fX10_119 (hG.lt (by decide)) sh57 fs57_5 dX10_stains_49 ?_
      refine r_if_ne 169 dX10_stains_52 (by decide) (fun c2 => ?_) (fun c2 => ?_)
      · replace hP := hP.1 c2
        refine r_aload_n dX10_stains_169 0 rfl ?_
        refine r_getI fX10_119 (hG.lt (by decide)) sh57 fs57_5 dX10_stains_170 ?_
        refine r_if_eq 181 dX10_stains_173 (by decide) (fun c3 => ?_) (fun c3 => ?_)
        · replace hP := hP.1 c3
          refine r_aload_n dX10_stains_181 0 rfl ?_
          refine r_iconst (-1) dX10_stains_182 rfl ?_
          refine r_put fiX10_9 (hG.lt (by decide)) sh57 fs57_3 dX10_stains_183 ?_
          refine r_mu (muX10_stains_5 p1 μ) rfl ?_
          refine r_aload_n dX10_stains_186 0 rfl ?_
          refine r_iload_n dX10_stains_187 2 rfl ?_
          refine r_put fiX10_209 (hG.lt (by decide)) sh57 fs57_38 dX10_stains_188 ?_
          refine r_mu (muX10_stains_6 p1 μ) rfl ?_
          refine r_aload_n dX10_stains_191 0 rfl ?_
          refine r_getR 431 fX10_61 (hG.lt (by decide)) sh57 fs57_26 dX10_stains_192 ?_
          refine r_aload_n dX10_stains_195 0 rfl ?_
          refine r_getR 424 fX10_58 (hG.lt (by decide)) sh57 fs57_25 dX10_stains_196 ?_
          refine r_iload_n dX10_stains_199 2 rfl ?_
          have hs10 := hP
          refine r_csV (ok_X10_lays_S hG (SX10_stains_48 p1 μ).1 (muX10_stains_6 p1 μ) hs10) lX10_199 dX10_stains_200 (by decide) (Nat.le_of_ble_eq_true rfl) rfl (Nat.le_of_ble_eq_true rfl) ?_
          refine r_mu (muX10_stains_7 p1 μ) rfl ?_
          refine r_iload_n dX10_stains_203 2 rfl ?_
          exact r_ireturn _ dX10_stains_204 rfl rfl ⟨congrArg (fun z => some (Value.int z)) (by unfold F_X10_stains; rw [if_pos c1, if_pos c3]), by unfold M_X10_stains; rw [if_pos c1, if_pos c2, if_pos c3]⟩
        · replace hP := hP.2 c3
          refine r_aload_n dX10_stains_176 0 rfl ?_
          refine r_cvI (ok_X10_ends hG  (SX10_stains_48 p1 μ).2.2) lX10_196 (hG.lt (by decide)) sh57 ⟨_, _, rfl⟩ dX10_stains_177 (by decide) (Nat.le_of_ble_eq_true rfl) rfl (Nat.le_of_ble_eq_true rfl) ?_
          refine r_mu (muX10_stains_8 p1 μ) rfl ?_
          exact r_ireturn _ dX10_stains_180 rfl rfl ⟨congrArg (fun z => some (Value.int z)) (by unfold F_X10_stains; rw [if_pos c1, if_neg c3]), by unfold M_X10_stains; rw [if_pos c1, if_pos c2, if_neg c3]⟩
      · replace hP := hP.2 c2
        refine r_aload_n dX10_stains_55 0 rfl ?_
        refine r_getI fX10_112 (hG.lt (by decide)) sh57 fs57_4 dX10_stains_56 ?_
        refine r_aload_n dX10_stains_59 0 rfl ?_
        refine r_getI fX10_109 (hG.lt (by decide)) sh57 fs57_2 dX10_stains_60 ?_
        refine r_icmp_ge 169 dX10_stains_63 (by decide) (fun c3 => ?_) (fun c3 => ?_)
        · replace hP := hP.1 c3
          refine r_aload_n dX10_stains_169 0 rfl ?_
          refine r_getI fX10_119 (hG.lt (by decide)) sh57 fs57_5 dX10_stains_170 ?_
          refine r_if_eq 181 dX10_stains_173 (by decide) (fun c4 => ?_) (fun c4 => ?_)
          · replace hP := hP.1 c4
            refine r_aload_n dX10_stains_181 0 rfl ?_
            refine r_iconst (-1) dX10_stains_182 rfl ?_
            refine r_put fiX10_9 (hG.lt (by decide)) sh57 fs57_3 dX10_stains_183 ?_
            refine r_mu (muX10_stains_9 p1 μ) rfl ?_
            refine r_aload_n dX10_stains_186 0 rfl ?_
            refine r_iload_n dX10_stains_187 2 rfl ?_
            refine r_put fiX10_209 (hG.lt (by decide)) sh57 fs57_38 dX10_stains_188 ?_
            refine r_mu (muX10_stains_10 p1 μ) rfl ?_
            refine r_aload_n dX10_stains_191 0 rfl ?_
            refine r_getR 431 fX10_61 (hG.lt (by decide)) sh57 fs57_26 dX10_stains_192 ?_
            refine r_aload_n dX10_stains_195 0 rfl ?_
            refine r_getR 424 fX10_58 (hG.lt (by decide)) sh57 fs57_25 dX10_stains_196 ?_
            refine r_iload_n dX10_stains_199 2 rfl ?_
            have hs17 := hP
            refine r_csV (ok_X10_lays_S hG (SX10_stains_48 p1 μ).1 (muX10_stains_10 p1 μ) hs17) lX10_199 dX10_stains_200 (by decide) (Nat.le_of_ble_eq_true rfl) rfl (Nat.le_of_ble_eq_true rfl) ?_
            refine r_mu (muX10_stains_11 p1 μ) rfl ?_
            refine r_iload_n dX10_stains_203 2 rfl ?_
            exact r_ireturn _ dX10_stains_204 rfl rfl ⟨congrArg (fun z => some (Value.int z)) (by unfold F_X10_stains; rw [if_pos c1, if_pos c4]), by unfold M_X10_stains; rw [if_pos c1, if_neg (not_not_intro c2), if_pos c4]⟩
          · replace hP := hP.2 c4
            refine r_aload_n dX10_stains_176 0 rfl ?_
            refine r_cvI (ok_X10_ends hG  (SX10_stains_48 p1 μ).2.2) lX10_196 (hG.lt (by decide)) sh57 ⟨_, _, rfl⟩ dX10_stains_177 (by decide) (Nat.le_of_ble_eq_true rfl) rfl (Nat.le_of_ble_eq_true rfl) ?_
            refine r_mu (muX10_stains_12 p1 μ) rfl ?_
            exact r_ireturn _ dX10_stains_180 rfl rfl ⟨congrArg (fun z => some (Value.int z)) (by unfold F_X10_stains; rw [if_pos c1, if_neg c4]), by unfold M_X10_stains; rw [if_pos c1, if_neg (not_not_intro c2), if_neg c4]⟩
        · replace hP := hP.2 c3
          refine r_aload_n dX10_stains_66 0 rfl ?_
          refine r_getI fX10_112 (hG.lt (by decide)) sh57 fs57_4 dX10_stains_67 ?_
          refine r_istore [(4, _), (0, _), (1, _), (2, _), (3, _)] dX10_stains_70 (Nat.le_of_ble_eq_true rfl) rfl ?_
          refine r_aload_n dX10_stains_72 1 rfl ?_
          refine r_iconst 0 dX10_stains_73 rfl ?_
          refine r_aload_n dX10_stains_74 1 rfl ?_
          refine r_getR 61 fX10_23 (hG.lt (by decide)) sh57 fs57_12 dX10_stains_75 ?_
          refine r_iconst 0 dX10_stains_78 rfl ?_
          refine r_ialdK 0 rfl (hG.lt (by decide)) sh61 (vp_of (by decide) (by decide)) dX10_stains_79 ?_
          refine r_iconst 1 dX10_stains_80 rfl ?_
          refine r_isub dX10_stains_81 ?_
          have hs18 := hP.1
          replace hP := hP.2
          refine r_cvI (ok_X10_number hG 0 (((SX10_stains_48 p1 μ).2.2 61 0) - 1) (SX10_stains_48 p1 μ).2.2 hs18) lX10_178 (hG.lt (by decide)) sh57 ⟨_, _, rfl⟩ dX10_stains_82 (by decide) (Nat.le_of_ble_eq_true rfl) rfl (Nat.le_of_ble_eq_true rfl) ?_
          refine r_mu (muX10_stains_13 p1 μ) rfl ?_
          refine r_istore [(5, _), (4, _), (0, _), (1, _), (2, _), (3, _)] dX10_stains_85 (Nat.le_of_ble_eq_true rfl) rfl ?_
          refine r_aload_n dX10_stains_87 2 rfl ?_
          refine r_getI fX10_119 (hG.lt (by decide)) sh57 fs57_5 dX10_stains_88 ?_
          refine r_join 110 [(5, .int (F_X10_number 0 (((SX10_stains_48 p1 μ).2.2 61 0) - 1) (SX10_stains_48 p1 μ).2.2)), (4, .int ((SX10_stains_48 p1 μ).2.2 57 4)), (0, .ref (ga G 57)), (1, .int p1), (2, .int (SX10_stains_48 p1 μ).1), (3, .int (SX10_stains_48 p1 μ).2.1)] [] (VX10_stains_15 p1 μ) ?_ (fun hJ => ?_)
          · refine r_aload_n dX10_stains_110 2 rfl ?_
            refine r_iconst 0 dX10_stains_111 rfl ?_
            refine r_bipush 60 dX10_stains_112 rfl ?_
            have hs19 := hP.1
            replace hP := hP.2
            refine r_cvI (ok_X10_number hG 0 60 (VX10_stains_15 p1 μ) hs19) lX10_178 (hG.lt (by decide)) sh57 ⟨_, _, rfl⟩ dX10_stains_114 (by decide) (Nat.le_of_ble_eq_true rfl) rfl (Nat.le_of_ble_eq_true rfl) ?_
            refine r_mu (muX10_stains_16 p1 μ) rfl ?_
            refine r_istore [(6, _), (5, _), (4, _), (0, _), (1, _), (2, _), (3, _)] dX10_stains_117 (Nat.le_of_ble_eq_true rfl) rfl ?_
            refine r_aload_n dX10_stains_119 3 rfl ?_
            refine r_bipush 59 dX10_stains_120 rfl ?_
            have hs20 := hP.1
            replace hP := hP.2
            refine r_cvV (ok_X10_sign hG 59 (muX10_stains_16 p1 μ) hs20) lX10_182 (hG.lt (by decide)) sh57 ⟨_, _, rfl⟩ dX10_stains_122 (by decide) (Nat.le_of_ble_eq_true rfl) rfl (Nat.le_of_ble_eq_true rfl) ?_
            refine r_mu (muX10_stains_17 p1 μ) rfl ?_
            refine r_aload_n dX10_stains_125 3 rfl ?_
            refine r_getI fX10_119 (hG.lt (by decide)) sh57 fs57_5 dX10_stains_126 ?_
            refine r_join 162 [(6, .int (F_X10_number 0 60 (VX10_stains_15 p1 μ))), (5, .int (F_X10_number 0 (((SX10_stains_48 p1 μ).2.2 61 0) - 1) (SX10_stains_48 p1 μ).2.2)), (4, .int ((SX10_stains_48 p1 μ).2.2 57 4)), (0, .ref (ga G 57)), (1, .int p1), (2, .int (VX10_stains_20 p1 μ)), (3, .int (VX10_stains_21 p1 μ))] [] (VX10_stains_22 p1 μ) ?_ (fun hJ => ?_)
            · replace hP := hP.2
              refine r_aload_n dX10_stains_162 3 rfl ?_
              have hs23 := hP.1
              replace hP := hP.2
              refine r_cvV (ok_X10_blanks hG  (VX10_stains_22 p1 μ) hs23) lX10_125 (hG.lt (by decide)) sh57 ⟨_, _, rfl⟩ dX10_stains_163 (by decide) (Nat.le_of_ble_eq_true rfl) rfl (Nat.le_of_ble_eq_true rfl) ?_
              refine r_mu (muX10_stains_23 p1 μ) rfl ?_
              refine r_goto 48 dX10_stains_166 (by decide) ?_
              exact hP.elim
            · replace hP := hP.1
              refine r_if_ne 162 dX10_stains_129 (by decide) (fun c4 => ?_) (fun c4 => ?_)
              · replace hP := hP.1 c4
                have e : (VX10_stains_20 p1 μ) = (SX10_stains_48 p1 μ).1 := by unfold VX10_stains_20; rw [if_pos c4]
                rw [e] at hJ
                clear e
                have e : (VX10_stains_21 p1 μ) = (SX10_stains_48 p1 μ).2.1 := by unfold VX10_stains_21; rw [if_pos c4]
                rw [e] at hJ
                clear e
                have e : (VX10_stains_22 p1 μ) = (muX10_stains_17 p1 μ) := by unfold VX10_stains_22; rw [if_pos c4]
                rw [e] at hJ
                exact r_sub [0, 1, 2, 3, 4, 5, 6] rfl hJ
              · replace hP := hP.2 c4
                refine r_iload_n dX10_stains_132 6 rfl ?_
                refine r_iconst 1 dX10_stains_133 rfl ?_
                refine r_iload dX10_stains_134 1 rfl ?_
                refine r_ishl dX10_stains_136 rfl ?_
                refine r_ior dX10_stains_137 ?_
                refine r_istore_n [(3, _), (6, _), (5, _), (4, _), (0, _), (1, _), (2, _)] dX10_stains_138 (Nat.le_of_ble_eq_true rfl) rfl ?_
                refine r_aload_n dX10_stains_139 4 rfl ?_
                refine r_getR 431 fX10_61 (hG.lt (by decide)) sh57 fs57_26 dX10_stains_140 ?_
                refine r_iload_n dX10_stains_143 6 rfl ?_
                have hs21 := hP.1
                replace hP := hP.2
                refine r_aald (hG.lt (by decide)) sh431 hs21 dX10_stains_144 ?_
                refine r_iconst 0 dX10_stains_145 rfl ?_
                refine r_iload dX10_stains_146 2 rfl ?_
                refine r_iastK 0 rfl (ltR (vp_ix hs21) (by decide) hG) (shr431 _ (vp_ix hs21)) (vp_of (by decide) (by decide)) dX10_stains_148 ?_
                refine r_mu (muX10_stains_18 p1 μ) rfl ?_
                refine r_aload_n dX10_stains_149 4 rfl ?_
                refine r_getR 431 fX10_61 (hG.lt (by decide)) sh57 fs57_26 dX10_stains_150 ?_
                refine r_iload_n dX10_stains_153 6 rfl ?_
                have hs22 := hP
                refine r_aald (hG.lt (by decide)) sh431 hs22 dX10_stains_154 ?_
                refine r_iconst 1 dX10_stains_155 rfl ?_
                refine r_iload dX10_stains_156 1 rfl ?_
                refine r_iastK 1 rfl (ltR (vp_ix hs22) (by decide) hG) (shr431 _ (vp_ix hs22)) (vp_of (by decide) (by decide)) dX10_stains_158 ?_
                refine r_mu (muX10_stains_19 p1 μ) rfl ?_
                refine r_iinc ((SX10_stains_48 p1 μ).1 + 1) [(2, _), (3, _), (6, _), (5, _), (4, _), (0, _), (1, _)] dX10_stains_159 6 rfl rfl (Nat.le_of_ble_eq_true rfl) rfl ?_
                have e : (VX10_stains_20 p1 μ) = ((SX10_stains_48 p1 μ).1 + 1) := by unfold VX10_stains_20; rw [if_neg (not_not_intro c4)]
                rw [e] at hJ
                clear e
                have e : (VX10_stains_21 p1 μ) = ((SX10_stains_48 p1 μ).2.1 ||| ((1 : Int32) <<< ((F_X10_number 0 (((SX10_stains_48 p1 μ).2.2 61 0) - 1) (SX10_stains_48 p1 μ).2.2) &&& 31))) := by unfold VX10_stains_21; rw [if_neg (not_not_intro c4)]
                rw [e] at hJ
                clear e
                have e : (VX10_stains_22 p1 μ) = (muX10_stains_19 p1 μ) := by unfold VX10_stains_22; rw [if_neg (not_not_intro c4)]
                rw [e] at hJ
                exact r_sub [2, 3, 4, 5, 6, 0, 1] rfl hJ
          · refine r_if_ne 110 dX10_stains_91 (by decide) (fun c4 => ?_) (fun c4 => ?_)
            · have e : (VX10_stains_15 p1 μ) = (muX10_stains_13 p1 μ) := by unfold VX10_stains_15; rw [if_pos c4]
              rw [e] at hJ
              exact r_sub [0, 1, 2, 3, 4, 5] rfl hJ
            · refine r_iload_n dX10_stains_94 5 rfl ?_
              refine r_iload dX10_stains_95 0 rfl ?_
              refine r_csI (ok_X10_has hG (SX10_stains_48 p1 μ).2.1 (F_X10_number 0 (((SX10_stains_48 p1 μ).2.2 61 0) - 1) (SX10_stains_48 p1 μ).2.2) (muX10_stains_13 p1 μ)) lX10_268 dX10_stains_97 (by decide) (Nat.le_of_ble_eq_true rfl) rfl (Nat.le_of_ble_eq_true rfl) ?_
              refine r_if_eq 110 dX10_stains_100 (by decide) (fun c5 => ?_) (fun c5 => ?_)
              · have e : (VX10_stains_15 p1 μ) = (muX10_stains_13 p1 μ) := by unfold VX10_stains_15; rw [if_neg (not_not_intro c4), if_pos c5]
                rw [e] at hJ
                exact r_sub [0, 1, 2, 3, 4, 5] rfl hJ
              · refine r_aload_n dX10_stains_103 2 rfl ?_
                refine r_iconst 2 dX10_stains_104 rfl ?_
                refine r_iload dX10_stains_105 1 rfl ?_
                refine r_cvV (ok_X10_wrong hG 2 ((SX10_stains_48 p1 μ).2.2 57 4) (muX10_stains_13 p1 μ)) lX10_132 (hG.lt (by decide)) sh57 ⟨_, _, rfl⟩ dX10_stains_107 (by decide) (Nat.le_of_ble_eq_true rfl) rfl (Nat.le_of_ble_eq_true rfl) ?_
                refine r_mu (muX10_stains_14 p1 μ) rfl ?_
                have e : (VX10_stains_15 p1 μ) = (muX10_stains_14 p1 μ) := by unfold VX10_stains_15; rw [if_neg (not_not_intro c4), if_neg c5]
                rw [e] at hJ
                exact r_sub [0, 1, 2, 3, 4, 5] rfl hJ
    · replace hP := hP.2 c1
      refine r_iconst 0 dX10_stains_37 rfl ?_
      exact r_ireturn _ dX10_stains_38 rfl rfl ⟨congrArg (fun z => some (Value.int z)) (by unfold F_X10_stains; rw [if_neg c1]), by unfold M_X10_stains; rw [if_neg c1]⟩
  · refine r_if_eq 24 dX10_stains_15 (by decide) (fun c1 => ?_) (fun c1 => ?_)
    · refine r_iconst 1 dX10_stains_24 rfl ?_
      refine r_goto 29 dX10_stains_25 (by decide) ?_
      have e : (VX10_stains_2 p1 μ) = 1 := by unfold VX10_stains_2; rw [if_pos c1]
      rw [e] at hJ
      exact r_sub [0, 1] rfl hJ
    · refine r_iload_n dX10_stains_18 1 rfl ?_
      refine r_bipush 60 dX10_stains_19 rfl ?_
      refine r_icmp_le 28 dX10_stains_21 (by decide) (fun c2 => ?_) (fun c2 => ?_)
      · refine r_iconst 0 dX10_stains_28 rfl ?_
        have e : (VX10_stains_2 p1 μ) = 0 := by unfold VX10_stains_2; rw [if_neg c1, if_pos c2]
        rw [e] at hJ
        exact r_sub [0, 1] rfl hJ
      · refine r_iconst 1 dX10_stains_24 rfl ?_
        refine r_goto 29 dX10_stains_25 (by decide) ?_
        have e : (VX10_stains_2 p1 μ) = 1 := by unfold VX10_stains_2; rw [if_neg c1, if_neg (i32_ng c2)]
        rw [e] at hJ
        exact r_sub [0, 1] rfl hJ
def muX10_fault_1 (μ : Mem) : Mem := (upm μ 57 0 0)
def F_X10_fault  (μ : Mem) : Int32 := ((muX10_fault_1 μ) 57 3)
def M_X10_fault  (μ : Mem) : Mem := (muX10_fault_1 μ)
set_option maxRecDepth 20000 in
set_option maxHeartbeats 2000000 in
theorem ok_X10_fault {G : SG} (hG : GK 548 G)  (μ : Mem) : OkF G mX10_fault [.ref (ga G 57)] μ (some (.int (F_X10_fault  μ))) (M_X10_fault  μ) := by
  refine okF_of hG rfl rfl (Nat.le_of_ble_eq_true rfl) ?_
  refine r_aload_n dX10_fault_0 0 rfl ?_
  refine r_iconst 0 dX10_fault_1 rfl ?_
  refine r_put fiX10_103 (hG.lt (by decide)) sh57 fs57_0 dX10_fault_2 ?_
  refine r_mu (muX10_fault_1 μ) rfl ?_
  refine r_aload_n dX10_fault_5 0 rfl ?_
  refine r_getI fX10_9 (hG.lt (by decide)) sh57 fs57_3 dX10_fault_6 ?_
  exact r_ireturn _ dX10_fault_9 rfl rfl ⟨congrArg (fun z => some (Value.int z)) (rfl), rfl⟩
def F_X10_heightIn (p1 : Int32) (μ : Mem) : Int32 := (if (μ 61 2) ≠ 0 then (μ 65 (ix (p1 - p1 / (μ 61 2) * (μ 61 2)))) else 0)
def P_X10_heightIn (p1 : Int32) (μ : Mem) : Prop := (((μ 61 2) ≠ 0 → ((¬ (μ 61 2) = 0) ∧ (vp_in (p1 - p1 / (μ 61 2) * (μ 61 2)) 12))) ∧ ((μ 61 2) = 0 → True))
set_option maxRecDepth 20000 in
set_option maxHeartbeats 2000000 in
theorem ok_X10_heightIn {G : SG} (hG : GK 548 G) (p1 : Int32) (μ : Mem) (hP : P_X10_heightIn p1 μ) : OkF G mX10_heightIn [.ref (ga G 57), .int p1] μ (some (.int (F_X10_heightIn p1 μ))) μ := by
  refine okF_of hG rfl rfl (Nat.le_of_ble_eq_true rfl) ?_
  unfold P_X10_heightIn at hP
  refine r_aload_n dX10_heightIn_0 0 rfl ?_
  refine r_getR 61 fX10_23 (hG.lt (by decide)) sh57 fs57_12 dX10_heightIn_1 ?_
  refine r_iconst 2 dX10_heightIn_4 rfl ?_
  refine r_ialdK 2 rfl (hG.lt (by decide)) sh61 (vp_of (by decide) (by decide)) dX10_heightIn_5 ?_
  refine r_if_ne 13 dX10_heightIn_6 (by decide) (fun c1 => ?_) (fun c1 => ?_)
  · replace hP := hP.1 c1
    refine r_aload_n dX10_heightIn_13 0 rfl ?_
    refine r_getR 65 fX10_35 (hG.lt (by decide)) sh57 fs57_16 dX10_heightIn_14 ?_
    refine r_iload_n dX10_heightIn_17 1 rfl ?_
    refine r_aload_n dX10_heightIn_18 0 rfl ?_
    refine r_getR 61 fX10_23 (hG.lt (by decide)) sh57 fs57_12 dX10_heightIn_19 ?_
    refine r_iconst 2 dX10_heightIn_22 rfl ?_
    refine r_ialdK 2 rfl (hG.lt (by decide)) sh61 (vp_of (by decide) (by decide)) dX10_heightIn_23 ?_
    have hs1 := hP.1
    replace hP := hP.2
    refine r_irem dX10_heightIn_24 hs1 ?_
    have hs2 := hP
    refine r_iald (hG.lt (by decide)) sh65 hs2 dX10_heightIn_25 ?_
    exact r_ireturn _ dX10_heightIn_26 rfl rfl ⟨congrArg (fun z => some (Value.int z)) (by unfold F_X10_heightIn; rw [if_pos c1]), rfl⟩
  · replace hP := hP.2 c1
    refine r_iconst 0 dX10_heightIn_9 rfl ?_
    refine r_goto 26 dX10_heightIn_10 (by decide) ?_
    exact r_ireturn _ dX10_heightIn_26 rfl rfl ⟨congrArg (fun z => some (Value.int z)) (by unfold F_X10_heightIn; rw [if_neg (not_not_intro c1)]), rfl⟩
def F_X10_sillOf (row : Nat) (p2 : Int32) (μ : Mem) : Int32 := ((μ 63 (ix p2)) + (2 * (μ row (ix (50 + p2)))))
def P_X10_sillOf (row : Nat) (p2 : Int32) (μ : Mem) : Prop := ((vp_in p2 6) ∧ (vp_in (50 + p2) 63))
set_option maxRecDepth 20000 in
set_option maxHeartbeats 2000000 in
theorem ok_X10_sillOf {G : SG} (hG : GK 548 G) {row : Nat} (hlrow : row < gh G) (hsrow : shp row = (1, 63, 0)) (p2 : Int32) (μ : Mem) (hP : P_X10_sillOf row p2 μ) : OkF G mX10_sillOf [.ref (ga G 57), .ref (ga G row), .int p2] μ (some (.int (F_X10_sillOf row p2 μ))) μ := by
  refine okF_of hG rfl rfl (Nat.le_of_ble_eq_true rfl) ?_
  unfold P_X10_sillOf at hP
  refine r_aload_n dX10_sillOf_0 0 rfl ?_
  refine r_getR 63 fX10_29 (hG.lt (by decide)) sh57 fs57_14 dX10_sillOf_1 ?_
  refine r_iload_n dX10_sillOf_4 2 rfl ?_
  have hs1 := hP.1
  replace hP := hP.2
  refine r_iald (hG.lt (by decide)) sh63 hs1 dX10_sillOf_5 ?_
  refine r_iconst 2 dX10_sillOf_6 rfl ?_
  refine r_aload_n dX10_sillOf_7 1 rfl ?_
  refine r_bipush 50 dX10_sillOf_8 rfl ?_
  refine r_iload_n dX10_sillOf_10 2 rfl ?_
  refine r_iadd dX10_sillOf_11 ?_
  have hs2 := hP
  refine r_iald hlrow hsrow hs2 dX10_sillOf_12 ?_
  refine r_imul dX10_sillOf_13 ?_
  refine r_iadd dX10_sillOf_14 ?_
  exact r_ireturn _ dX10_sillOf_15 rfl rfl ⟨congrArg (fun z => some (Value.int z)) (rfl), rfl⟩
def F_X10_waterBy (row : Nat) (p2 : Int32) (p3 : Int32) (μ : Mem) : Int32 := (F_X10_more 0 (p3 - (F_X10_sillOf row p2 μ)) μ)
def P_X10_waterBy (row : Nat) (p2 : Int32) (p3 : Int32) (μ : Mem) : Prop := (P_X10_sillOf row p2 μ)
set_option maxRecDepth 20000 in
set_option maxHeartbeats 2000000 in
theorem ok_X10_waterBy {G : SG} (hG : GK 548 G) {row : Nat} (hlrow : row < gh G) (hsrow : shp row = (1, 63, 0)) (p2 : Int32) (p3 : Int32) (μ : Mem) (hP : P_X10_waterBy row p2 p3 μ) : OkF G mX10_waterBy [.ref (ga G 57), .ref (ga G row), .int p2, .int p3] μ (some (.int (F_X10_waterBy row p2 p3 μ))) μ := by
  refine okF_of hG rfl rfl (Nat.le_of_ble_eq_true rfl) ?_
  unfold P_X10_waterBy at hP
  refine r_iconst 0 dX10_waterBy_0 rfl ?_
  refine r_iload_n dX10_waterBy_1 3 rfl ?_
  refine r_aload_n dX10_waterBy_2 0 rfl ?_
  refine r_aload_n dX10_waterBy_3 1 rfl ?_
  refine r_iload_n dX10_waterBy_4 2 rfl ?_
  have hs1 := hP
  refine r_cvI (ok_X10_sillOf hG hlrow hsrow p2 μ hs1) lX10_272 (hG.lt (by decide)) sh57 ⟨_, _, rfl⟩ dX10_waterBy_5 (by decide) (Nat.le_of_ble_eq_true rfl) rfl (Nat.le_of_ble_eq_true rfl) ?_
  refine r_isub dX10_waterBy_8 ?_
  refine r_csI (ok_X10_more hG 0 (p3 - (F_X10_sillOf row p2 μ)) μ) lX10_252 dX10_waterBy_9 (by decide) (Nat.le_of_ble_eq_true rfl) rfl (Nat.le_of_ble_eq_true rfl) ?_
  exact r_ireturn _ dX10_waterBy_12 rfl rfl ⟨congrArg (fun z => some (Value.int z)) (rfl), rfl⟩
def F_X10_waterIn (row : Nat) (p2 : Int32) (μ : Mem) : Int32 := (F_X10_waterBy row p2 ((F_X10_heightIn (μ row 62) μ) + (μ 57 43)) μ)
def P_X10_waterIn (row : Nat) (p2 : Int32) (μ : Mem) : Prop := ((P_X10_heightIn (μ row 62) μ) ∧ (P_X10_waterBy row p2 ((F_X10_heightIn (μ row 62) μ) + (μ 57 43)) μ))
set_option maxRecDepth 20000 in
set_option maxHeartbeats 2000000 in
theorem ok_X10_waterIn {G : SG} (hG : GK 548 G) {row : Nat} (hlrow : row < gh G) (hsrow : shp row = (1, 63, 0)) (p2 : Int32) (μ : Mem) (hP : P_X10_waterIn row p2 μ) : OkF G mX10_waterIn [.ref (ga G 57), .ref (ga G row), .int p2] μ (some (.int (F_X10_waterIn row p2 μ))) μ := by
  refine okF_of hG rfl rfl (Nat.le_of_ble_eq_true rfl) ?_
  unfold P_X10_waterIn at hP
  refine r_aload_n dX10_waterIn_0 0 rfl ?_
  refine r_aload_n dX10_waterIn_1 1 rfl ?_
  refine r_iload_n dX10_waterIn_2 2 rfl ?_
  refine r_aload_n dX10_waterIn_3 0 rfl ?_
  refine r_aload_n dX10_waterIn_4 1 rfl ?_
  refine r_bipush 62 dX10_waterIn_5 rfl ?_
  refine r_ialdK 62 rfl hlrow hsrow (vp_of (by decide) (by decide)) dX10_waterIn_7 ?_
  have hs1 := hP.1
  replace hP := hP.2
  refine r_cvI (ok_X10_heightIn hG (μ row 62) μ hs1) lX10_276 (hG.lt (by decide)) sh57 ⟨_, _, rfl⟩ dX10_waterIn_8 (by decide) (Nat.le_of_ble_eq_true rfl) rfl (Nat.le_of_ble_eq_true rfl) ?_
  refine r_aload_n dX10_waterIn_11 0 rfl ?_
  refine r_getI fX10_279 (hG.lt (by decide)) sh57 fs57_43 dX10_waterIn_12 ?_
  refine r_iadd dX10_waterIn_15 ?_
  have hs2 := hP
  refine r_cvI (ok_X10_waterBy hG hlrow hsrow p2 ((F_X10_heightIn (μ row 62) μ) + (μ 57 43)) μ hs2) lX10_282 (hG.lt (by decide)) sh57 ⟨_, _, rfl⟩ dX10_waterIn_16 (by decide) (Nat.le_of_ble_eq_true rfl) rfl (Nat.le_of_ble_eq_true rfl) ?_
  exact r_ireturn _ dX10_waterIn_19 rfl rfl ⟨congrArg (fun z => some (Value.int z)) (rfl), rfl⟩
def F_X10_isWet (row : Nat) (p2 : Int32) (μ : Mem) : Int32 := (if (μ row (ix (0 + p2))) = (-1) then 0 else (if (μ row (ix (10 + p2))) ≠ 0 then 0 else (if (μ 523 (ix (μ row (ix (0 + p2))))) ≤ 0 then 0 else 1)))
def P_X10_isWet (row : Nat) (p2 : Int32) (μ : Mem) : Prop := ((vp_in (0 + p2) 63) ∧ (((μ row (ix (0 + p2))) = (-1) → True) ∧ (¬ (μ row (ix (0 + p2))) = (-1) → ((vp_in (10 + p2) 63) ∧ (((μ row (ix (10 + p2))) ≠ 0 → True) ∧ ((μ row (ix (10 + p2))) = 0 → ((vp_in (0 + p2) 63) ∧ (vp_in (μ row (ix (0 + p2))) 6))))))))
theorem bo_X10_isWet (row : Nat) (p2 : Int32) (μ : Mem) : F_X10_isWet row p2 μ = 0 ∨ F_X10_isWet row p2 μ = 1 := by
  unfold F_X10_isWet
  split
  · exact Or.inl rfl
  · split
    · exact Or.inl rfl
    · split
      · exact Or.inl rfl
      · exact Or.inr rfl
set_option maxRecDepth 20000 in
set_option maxHeartbeats 2000000 in
theorem ok_X10_isWet {G : SG} (hG : GK 548 G) {row : Nat} (hlrow : row < gh G) (hsrow : shp row = (1, 63, 0)) (p2 : Int32) (μ : Mem) (hP : P_X10_isWet row p2 μ) : OkF G mX10_isWet [.ref (ga G 57), .ref (ga G row), .int p2] μ (some (.int (F_X10_isWet row p2 μ))) μ := by
  refine okF_of hG rfl rfl (Nat.le_of_ble_eq_true rfl) ?_
  unfold P_X10_isWet at hP
  refine r_aload_n dX10_isWet_0 1 rfl ?_
  refine r_iconst 0 dX10_isWet_1 rfl ?_
  refine r_iload_n dX10_isWet_2 2 rfl ?_
  refine r_iadd dX10_isWet_3 ?_
  have hs1 := hP.1
  replace hP := hP.2
  refine r_iald hlrow hsrow hs1 dX10_isWet_4 ?_
  refine r_iconst (-1) dX10_isWet_5 rfl ?_
  refine r_icmp_eq 35 dX10_isWet_6 (by decide) (fun c1 => ?_) (fun c1 => ?_)
  · replace hP := hP.1 c1
    refine r_iconst 0 dX10_isWet_35 rfl ?_
    exact r_ireturn _ dX10_isWet_36 rfl rfl ⟨congrArg (fun z => some (Value.int z)) (by unfold F_X10_isWet; rw [if_pos c1]), rfl⟩
  · replace hP := hP.2 c1
    refine r_aload_n dX10_isWet_9 1 rfl ?_
    refine r_bipush 10 dX10_isWet_10 rfl ?_
    refine r_iload_n dX10_isWet_12 2 rfl ?_
    refine r_iadd dX10_isWet_13 ?_
    have hs2 := hP.1
    replace hP := hP.2
    refine r_iald hlrow hsrow hs2 dX10_isWet_14 ?_
    refine r_if_ne 35 dX10_isWet_15 (by decide) (fun c2 => ?_) (fun c2 => ?_)
    · replace hP := hP.1 c2
      refine r_iconst 0 dX10_isWet_35 rfl ?_
      exact r_ireturn _ dX10_isWet_36 rfl rfl ⟨congrArg (fun z => some (Value.int z)) (by unfold F_X10_isWet; rw [if_neg c1, if_pos c2]), rfl⟩
    · replace hP := hP.2 c2
      refine r_aload_n dX10_isWet_18 0 rfl ?_
      refine r_getR 523 fX10_79 (hG.lt (by decide)) sh57 fs57_33 dX10_isWet_19 ?_
      refine r_aload_n dX10_isWet_22 1 rfl ?_
      refine r_iconst 0 dX10_isWet_23 rfl ?_
      refine r_iload_n dX10_isWet_24 2 rfl ?_
      refine r_iadd dX10_isWet_25 ?_
      have hs3 := hP.1
      replace hP := hP.2
      refine r_iald hlrow hsrow hs3 dX10_isWet_26 ?_
      have hs4 := hP
      refine r_iald (hG.lt (by decide)) sh523 hs4 dX10_isWet_27 ?_
      refine r_if_le 35 dX10_isWet_28 (by decide) (fun c3 => ?_) (fun c3 => ?_)
      · refine r_iconst 0 dX10_isWet_35 rfl ?_
        exact r_ireturn _ dX10_isWet_36 rfl rfl ⟨congrArg (fun z => some (Value.int z)) (by unfold F_X10_isWet; rw [if_neg c1, if_neg (not_not_intro c2), if_pos c3]), rfl⟩
      · refine r_iconst 1 dX10_isWet_31 rfl ?_
        refine r_goto 36 dX10_isWet_32 (by decide) ?_
        exact r_ireturn _ dX10_isWet_36 rfl rfl ⟨congrArg (fun z => some (Value.int z)) (by unfold F_X10_isWet; rw [if_neg c1, if_neg (not_not_intro c2), if_neg (i32_ng c3)]), rfl⟩
def F_X10_isAfloat (row : Nat) (p2 : Int32) (μ : Mem) : Int32 := (if (F_X10_isWet row p2 μ) = 0 then 0 else (if (μ 523 (ix (μ row (ix (0 + p2))))) < (μ (78 + (ix p2)) 2) then 0 else 1))
def P_X10_isAfloat (row : Nat) (p2 : Int32) (μ : Mem) : Prop := ((P_X10_isWet row p2 μ) ∧ (((F_X10_isWet row p2 μ) = 0 → True) ∧ (¬ (F_X10_isWet row p2 μ) = 0 → ((vp_in p2 10) ∧ ((vp_in (0 + p2) 63) ∧ (vp_in (μ row (ix (0 + p2))) 6))))))
theorem bo_X10_isAfloat (row : Nat) (p2 : Int32) (μ : Mem) : F_X10_isAfloat row p2 μ = 0 ∨ F_X10_isAfloat row p2 μ = 1 := by
  unfold F_X10_isAfloat
  split
  · exact Or.inl rfl
  · split
    · exact Or.inl rfl
    · exact Or.inr rfl
set_option maxRecDepth 20000 in
set_option maxHeartbeats 2000000 in
theorem ok_X10_isAfloat {G : SG} (hG : GK 548 G) {row : Nat} (hlrow : row < gh G) (hsrow : shp row = (1, 63, 0)) (p2 : Int32) (μ : Mem) (hP : P_X10_isAfloat row p2 μ) : OkF G mX10_isAfloat [.ref (ga G 57), .ref (ga G row), .int p2] μ (some (.int (F_X10_isAfloat row p2 μ))) μ := by
  refine okF_of hG rfl rfl (Nat.le_of_ble_eq_true rfl) ?_
  unfold P_X10_isAfloat at hP
  refine r_aload_n dX10_isAfloat_0 0 rfl ?_
  refine r_aload_n dX10_isAfloat_1 1 rfl ?_
  refine r_iload_n dX10_isAfloat_2 2 rfl ?_
  have hs1 := hP.1
  replace hP := hP.2
  refine r_cvI (ok_X10_isWet hG hlrow hsrow p2 μ hs1) lX10_289 (hG.lt (by decide)) sh57 ⟨_, _, rfl⟩ dX10_isAfloat_3 (by decide) (Nat.le_of_ble_eq_true rfl) rfl (Nat.le_of_ble_eq_true rfl) ?_
  refine r_if_eq 34 dX10_isAfloat_6 (by decide) (fun c1 => ?_) (fun c1 => ?_)
  · replace hP := hP.1 c1
    refine r_iconst 0 dX10_isAfloat_34 rfl ?_
    exact r_ireturn _ dX10_isAfloat_35 rfl rfl ⟨congrArg (fun z => some (Value.int z)) (by unfold F_X10_isAfloat; rw [if_pos c1]), rfl⟩
  · replace hP := hP.2 c1
    refine r_aload_n dX10_isAfloat_9 0 rfl ?_
    refine r_getR 77 fX10_43 (hG.lt (by decide)) sh57 fs57_18 dX10_isAfloat_10 ?_
    refine r_iload_n dX10_isAfloat_13 2 rfl ?_
    have hs2 := hP.1
    replace hP := hP.2
    refine r_aald (hG.lt (by decide)) sh77 hs2 dX10_isAfloat_14 ?_
    refine r_iconst 2 dX10_isAfloat_15 rfl ?_
    refine r_ialdK 2 rfl (ltR (vp_ix hs2) (by decide) hG) (shr77 _ (vp_ix hs2)) (vp_of (by decide) (by decide)) dX10_isAfloat_16 ?_
    refine r_aload_n dX10_isAfloat_17 0 rfl ?_
    refine r_getR 523 fX10_79 (hG.lt (by decide)) sh57 fs57_33 dX10_isAfloat_18 ?_
    refine r_aload_n dX10_isAfloat_21 1 rfl ?_
    refine r_iconst 0 dX10_isAfloat_22 rfl ?_
    refine r_iload_n dX10_isAfloat_23 2 rfl ?_
    refine r_iadd dX10_isAfloat_24 ?_
    have hs3 := hP.1
    replace hP := hP.2
    refine r_iald hlrow hsrow hs3 dX10_isAfloat_25 ?_
    have hs4 := hP
    refine r_iald (hG.lt (by decide)) sh523 hs4 dX10_isAfloat_26 ?_
    refine r_icmp_gt 34 dX10_isAfloat_27 (by decide) (fun c2 => ?_) (fun c2 => ?_)
    · refine r_iconst 0 dX10_isAfloat_34 rfl ?_
      exact r_ireturn _ dX10_isAfloat_35 rfl rfl ⟨congrArg (fun z => some (Value.int z)) (by unfold F_X10_isAfloat; rw [if_neg c1, if_pos c2]), rfl⟩
    · refine r_iconst 1 dX10_isAfloat_30 rfl ?_
      refine r_goto 35 dX10_isAfloat_31 (by decide) ?_
      exact r_ireturn _ dX10_isAfloat_35 rfl rfl ⟨congrArg (fun z => some (Value.int z)) (by unfold F_X10_isAfloat; rw [if_neg c1, if_neg (i32_nl c2)]), rfl⟩
def muX10_counts_2_1 (row : Nat) (i : Nat) (s : Mem) : Mem := (upm s 523 (ix (nI i)) (F_X10_waterIn row (nI i) s))
def muX10_counts_2_2 (row : Nat) (i : Nat) (s : Mem) : Mem := (upm (muX10_counts_2_1 row i s) 524 (ix (nI i)) 0)
def muX10_counts_2_3 (row : Nat) (i : Nat) (s : Mem) : Mem := (upm (muX10_counts_2_2 row i s) 525 (ix (nI i)) 0)
def g_X10_counts_2 (row : Nat) (i : Nat) (s : Mem) : Mem := (muX10_counts_2_3 row i s)
def Pb_X10_counts_2 (row : Nat) (i : Nat) (s : Mem) : Prop := (((s 61 0) ≤ (nI i) → False) ∧ ((nI i) < (s 61 0) → (P_X10_waterIn row (nI i) s) ∧ (vp_in (nI i) 6) ∧ (vp_in (nI i) 6) ∧ vp_in (nI i) 6))
set_option maxRecDepth 20000 in
set_option maxHeartbeats 2000000 in
theorem lp_X10_counts_2 {G : SG} (hG : GK 548 G) {row : Nat} (hlrow : row < gh G) (hsrow : shp row = (1, 63, 0))  (s0 : Mem) (N : Nat) (sN : Mem) (eN : sN = fo N (g_X10_counts_2 row) s0) (hN : ∀ i, i < N → Pb_X10_counts_2 row i (fo i (g_X10_counts_2 row) s0)) {t : Nat} {Q : PQ} {X : PX} (h : R G mX10_counts 2 [(0, .ref (ga G 57)), (1, .ref (ga G row)), (2, .int (nI N))] [] sN t Q X) : R G mX10_counts 2 [(0, .ref (ga G 57)), (1, .ref (ga G row)), (2, .int 0)] [] s0 t Q X := by
  subst eN
  refine down_i N (fun i => R G mX10_counts 2 [(0, .ref (ga G 57)), (1, .ref (ga G row)), (2, .int (nI i))] [] (fo i (g_X10_counts_2 row) s0) t Q X) h (fun i hi hS => ?_)
  have hP := hN i hi
  rw [fo_succ] at hS
  rw [nI_succ] at hS
  generalize fo i (g_X10_counts_2 row) s0 = s at hS hP ⊢
  unfold Pb_X10_counts_2 at hP
  refine r_iload_n dX10_counts_2 2 rfl ?_
  refine r_aload_n dX10_counts_3 0 rfl ?_
  refine r_getR 61 fX10_23 (hG.lt (by decide)) sh57 fs57_12 dX10_counts_4 ?_
  refine r_iconst 0 dX10_counts_7 rfl ?_
  refine r_ialdK 0 rfl (hG.lt (by decide)) sh61 (vp_of (by decide) (by decide)) dX10_counts_8 ?_
  refine r_icmp_ge 44 dX10_counts_9 (by decide) (fun c1 => ?_) (fun c1 => ?_)
  · replace hP := hP.1 c1
    exact hP.elim
  · replace hP := hP.2 c1
    refine r_aload_n dX10_counts_12 0 rfl ?_
    refine r_getR 523 fX10_79 (hG.lt (by decide)) sh57 fs57_33 dX10_counts_13 ?_
    refine r_iload_n dX10_counts_16 2 rfl ?_
    refine r_aload_n dX10_counts_17 0 rfl ?_
    refine r_aload_n dX10_counts_18 1 rfl ?_
    refine r_iload_n dX10_counts_19 2 rfl ?_
    have hs1 := hP.1
    replace hP := hP.2
    refine r_cvI (ok_X10_waterIn hG hlrow hsrow (nI i) s hs1) lX10_286 (hG.lt (by decide)) sh57 ⟨_, _, rfl⟩ dX10_counts_20 (by decide) (Nat.le_of_ble_eq_true rfl) rfl (Nat.le_of_ble_eq_true rfl) ?_
    have hs2 := hP.1
    replace hP := hP.2
    refine r_iast (hG.lt (by decide)) sh523 hs2 dX10_counts_23 ?_
    refine r_mu (muX10_counts_2_1 row i s) rfl ?_
    refine r_aload_n dX10_counts_24 0 rfl ?_
    refine r_getR 524 fX10_82 (hG.lt (by decide)) sh57 fs57_34 dX10_counts_25 ?_
    refine r_iload_n dX10_counts_28 2 rfl ?_
    refine r_iconst 0 dX10_counts_29 rfl ?_
    have hs3 := hP.1
    replace hP := hP.2
    refine r_iast (hG.lt (by decide)) sh524 hs3 dX10_counts_30 ?_
    refine r_mu (muX10_counts_2_2 row i s) rfl ?_
    refine r_aload_n dX10_counts_31 0 rfl ?_
    refine r_getR 525 fX10_85 (hG.lt (by decide)) sh57 fs57_35 dX10_counts_32 ?_
    refine r_iload_n dX10_counts_35 2 rfl ?_
    refine r_iconst 0 dX10_counts_36 rfl ?_
    have hs4 := hP
    refine r_iast (hG.lt (by decide)) sh525 hs4 dX10_counts_37 ?_
    refine r_mu (muX10_counts_2_3 row i s) rfl ?_
    refine r_iinc ((nI i) + 1) [(2, _), (0, _), (1, _)] dX10_counts_38 2 rfl rfl (Nat.le_of_ble_eq_true rfl) rfl ?_
    refine r_goto 2 dX10_counts_41 (by decide) ?_
    have e : g_X10_counts_2 row i s = (muX10_counts_2_3 row i s) := by unfold g_X10_counts_2; rfl
    rw [e] at hS
    exact r_sub [1, 2, 0] rfl hS
def NX10_counts_2 (row : Nat) (μ : Mem) : Nat := ix (μ 61 0)
def SX10_counts_2 (row : Nat) (μ : Mem) : Mem := fo (NX10_counts_2 row μ) (g_X10_counts_2 row) μ
def muX10_counts_46_1 (row : Nat) (i : Nat) (s : Mem) : Mem := (upm s 525 (ix (s row (ix (0 + (nI i))))) ((s 525 (ix (s row (ix (0 + (nI i)))))) + 1))
def VX10_counts_46_2 (row : Nat) (i : Nat) (s : Mem) : Int32 := (if (F_X10_isAfloat row (nI i) (muX10_counts_46_1 row i s)) = 0 then 0 else (if ((muX10_counts_46_1 row i s) row (ix (20 + (nI i)))) ≠ 0 then 0 else 1))
theorem bo_VX10_counts_46_2 (row : Nat) (i : Nat) (s : Mem) : (VX10_counts_46_2 row i s) = 0 ∨ (VX10_counts_46_2 row i s) = 1 := by
  unfold VX10_counts_46_2
  split
  · exact Or.inl rfl
  · split
    · exact Or.inl rfl
    · exact Or.inr rfl
def muX10_counts_46_3 (row : Nat) (i : Nat) (s : Mem) : Mem := (upm (muX10_counts_46_1 row i s) 524 (ix ((muX10_counts_46_1 row i s) row (ix (0 + (nI i))))) (((muX10_counts_46_1 row i s) 524 (ix ((muX10_counts_46_1 row i s) row (ix (0 + (nI i)))))) + (VX10_counts_46_2 row i s)))
def VX10_counts_46_4 (row : Nat) (i : Nat) (s : Mem) : Mem := (if (F_X10_isWet row (nI i) s) ≠ 0 then (muX10_counts_46_3 row i s) else s)
def g_X10_counts_46 (row : Nat) (i : Nat) (s : Mem) : Mem := (VX10_counts_46_4 row i s)
def Pb_X10_counts_46 (row : Nat) (i : Nat) (s : Mem) : Prop := (((s 61 1) ≤ (nI i) → False) ∧ ((nI i) < (s 61 1) → (P_X10_isWet row (nI i) s) ∧ (((F_X10_isWet row (nI i) s) ≠ 0 → (vp_in (0 + (nI i)) 63) ∧ (vp_in (s row (ix (0 + (nI i)))) 6) ∧ (vp_in (s row (ix (0 + (nI i)))) 6) ∧ (vp_in (0 + (nI i)) 63) ∧ (vp_in ((muX10_counts_46_1 row i s) row (ix (0 + (nI i)))) 6) ∧ (P_X10_isAfloat row (nI i) (muX10_counts_46_1 row i s)) ∧ ((((F_X10_isAfloat row (nI i) (muX10_counts_46_1 row i s)) = 0 → True) ∧ (¬ (F_X10_isAfloat row (nI i) (muX10_counts_46_1 row i s)) = 0 → vp_in (20 + (nI i)) 63)) ∧ vp_in ((muX10_counts_46_1 row i s) row (ix (0 + (nI i)))) 6)) ∧ ((F_X10_isWet row (nI i) s) = 0 → True))))
set_option maxRecDepth 20000 in
set_option maxHeartbeats 2000000 in
theorem lp_X10_counts_46 {G : SG} (hG : GK 548 G) {row : Nat} (hlrow : row < gh G) (hsrow : shp row = (1, 63, 0))  (s0 : Mem) (N : Nat) (sN : Mem) (eN : sN = fo N (g_X10_counts_46 row) s0) (hN : ∀ i, i < N → Pb_X10_counts_46 row i (fo i (g_X10_counts_46 row) s0)) {t : Nat} {Q : PQ} {X : PX} (h : R G mX10_counts 46 [(0, .ref (ga G 57)), (1, .ref (ga G row)), (2, .int (nI N))] [] sN t Q X) : R G mX10_counts 46 [(0, .ref (ga G 57)), (1, .ref (ga G row)), (2, .int 0)] [] s0 t Q X := by
  subst eN
  refine down_i N (fun i => R G mX10_counts 46 [(0, .ref (ga G 57)), (1, .ref (ga G row)), (2, .int (nI i))] [] (fo i (g_X10_counts_46 row) s0) t Q X) h (fun i hi hS => ?_)
  have hP := hN i hi
  rw [fo_succ] at hS
  rw [nI_succ] at hS
  generalize fo i (g_X10_counts_46 row) s0 = s at hS hP ⊢
  unfold Pb_X10_counts_46 at hP
  refine r_iload_n dX10_counts_46 2 rfl ?_
  refine r_aload_n dX10_counts_47 0 rfl ?_
  refine r_getR 61 fX10_23 (hG.lt (by decide)) sh57 fs57_12 dX10_counts_48 ?_
  refine r_iconst 1 dX10_counts_51 rfl ?_
  refine r_ialdK 1 rfl (hG.lt (by decide)) sh61 (vp_of (by decide) (by decide)) dX10_counts_52 ?_
  refine r_icmp_ge 124 dX10_counts_53 (by decide) (fun c1 => ?_) (fun c1 => ?_)
  · replace hP := hP.1 c1
    exact hP.elim
  · replace hP := hP.2 c1
    refine r_aload_n dX10_counts_56 0 rfl ?_
    refine r_aload_n dX10_counts_57 1 rfl ?_
    refine r_iload_n dX10_counts_58 2 rfl ?_
    have hs1 := hP.1
    replace hP := hP.2
    refine r_cvI (ok_X10_isWet hG hlrow hsrow (nI i) s hs1) lX10_289 (hG.lt (by decide)) sh57 ⟨_, _, rfl⟩ dX10_counts_59 (by decide) (Nat.le_of_ble_eq_true rfl) rfl (Nat.le_of_ble_eq_true rfl) ?_
    refine r_join 118 [(0, .ref (ga G 57)), (1, .ref (ga G row)), (2, .int (nI i))] [] (VX10_counts_46_4 row i s) ?_ (fun hJ => ?_)
    · refine r_iinc ((nI i) + 1) [(2, _), (0, _), (1, _)] dX10_counts_118 2 rfl rfl (Nat.le_of_ble_eq_true rfl) rfl ?_
      refine r_goto 46 dX10_counts_121 (by decide) ?_
      have e : g_X10_counts_46 row i s = (VX10_counts_46_4 row i s) := by unfold g_X10_counts_46; rfl
      rw [e] at hS
      exact r_sub [1, 2, 0] rfl hS
    · refine r_if_ne 68 dX10_counts_62 (by decide) (fun c2 => ?_) (fun c2 => ?_)
      · replace hP := hP.1 c2
        refine r_aload_n dX10_counts_68 0 rfl ?_
        refine r_getR 525 fX10_85 (hG.lt (by decide)) sh57 fs57_35 dX10_counts_69 ?_
        refine r_aload_n dX10_counts_72 1 rfl ?_
        refine r_iconst 0 dX10_counts_73 rfl ?_
        refine r_iload_n dX10_counts_74 2 rfl ?_
        refine r_iadd dX10_counts_75 ?_
        have hs2 := hP.1
        replace hP := hP.2
        refine r_iald hlrow hsrow hs2 dX10_counts_76 ?_
        refine r_dup2 dX10_counts_77 rfl rfl ?_
        have hs3 := hP.1
        replace hP := hP.2
        refine r_iald (hG.lt (by decide)) sh525 hs3 dX10_counts_78 ?_
        refine r_iconst 1 dX10_counts_79 rfl ?_
        refine r_iadd dX10_counts_80 ?_
        have hs4 := hP.1
        replace hP := hP.2
        refine r_iast (hG.lt (by decide)) sh525 hs4 dX10_counts_81 ?_
        refine r_mu (muX10_counts_46_1 row i s) rfl ?_
        refine r_aload_n dX10_counts_82 0 rfl ?_
        refine r_getR 524 fX10_82 (hG.lt (by decide)) sh57 fs57_34 dX10_counts_83 ?_
        refine r_aload_n dX10_counts_86 1 rfl ?_
        refine r_iconst 0 dX10_counts_87 rfl ?_
        refine r_iload_n dX10_counts_88 2 rfl ?_
        refine r_iadd dX10_counts_89 ?_
        have hs5 := hP.1
        replace hP := hP.2
        refine r_iald hlrow hsrow hs5 dX10_counts_90 ?_
        refine r_dup2 dX10_counts_91 rfl rfl ?_
        have hs6 := hP.1
        replace hP := hP.2
        refine r_iald (hG.lt (by decide)) sh524 hs6 dX10_counts_92 ?_
        refine r_aload_n dX10_counts_93 0 rfl ?_
        refine r_aload_n dX10_counts_94 1 rfl ?_
        refine r_iload_n dX10_counts_95 2 rfl ?_
        have hs7 := hP.1
        replace hP := hP.2
        refine r_cvI (ok_X10_isAfloat hG hlrow hsrow (nI i) (muX10_counts_46_1 row i s) hs7) lX10_293 (hG.lt (by decide)) sh57 ⟨_, _, rfl⟩ dX10_counts_96 (by decide) (Nat.le_of_ble_eq_true rfl) rfl (Nat.le_of_ble_eq_true rfl) ?_
        refine r_join 116 [(0, .ref (ga G 57)), (1, .ref (ga G row)), (2, .int (nI i))] [.int (VX10_counts_46_2 row i s), .int ((muX10_counts_46_1 row i s) 524 (ix ((muX10_counts_46_1 row i s) row (ix (0 + (nI i)))))), .int ((muX10_counts_46_1 row i s) row (ix (0 + (nI i)))), .ref (ga G 524)] (muX10_counts_46_1 row i s) ?_ (fun hJ => ?_)
        · replace hP := hP.2
          refine r_iadd dX10_counts_116 ?_
          have hs9 := hP
          refine r_iast (hG.lt (by decide)) sh524 hs9 dX10_counts_117 ?_
          refine r_mu (muX10_counts_46_3 row i s) rfl ?_
          have e : (VX10_counts_46_4 row i s) = (muX10_counts_46_3 row i s) := by unfold VX10_counts_46_4; rw [if_pos c2]
          rw [e] at hJ
          exact r_sub [0, 1, 2] rfl hJ
        · replace hP := hP.1
          refine r_if_eq 115 dX10_counts_99 (by decide) (fun c3 => ?_) (fun c3 => ?_)
          · replace hP := hP.1 c3
            refine r_iconst 0 dX10_counts_115 rfl ?_
            have e : (VX10_counts_46_2 row i s) = 0 := by unfold VX10_counts_46_2; rw [if_pos c3]
            rw [e] at hJ
            exact r_sub [0, 1, 2] rfl hJ
          · replace hP := hP.2 c3
            refine r_aload_n dX10_counts_102 1 rfl ?_
            refine r_bipush 20 dX10_counts_103 rfl ?_
            refine r_iload_n dX10_counts_105 2 rfl ?_
            refine r_iadd dX10_counts_106 ?_
            have hs8 := hP
            refine r_iald hlrow hsrow hs8 dX10_counts_107 ?_
            refine r_if_ne 115 dX10_counts_108 (by decide) (fun c4 => ?_) (fun c4 => ?_)
            · refine r_iconst 0 dX10_counts_115 rfl ?_
              have e : (VX10_counts_46_2 row i s) = 0 := by unfold VX10_counts_46_2; rw [if_neg c3, if_pos c4]
              rw [e] at hJ
              exact r_sub [0, 1, 2] rfl hJ
            · refine r_iconst 1 dX10_counts_111 rfl ?_
              refine r_goto 116 dX10_counts_112 (by decide) ?_
              have e : (VX10_counts_46_2 row i s) = 1 := by unfold VX10_counts_46_2; rw [if_neg c3, if_neg (not_not_intro c4)]
              rw [e] at hJ
              exact r_sub [0, 1, 2] rfl hJ
      · replace hP := hP.2 c2
        refine r_goto 118 dX10_counts_65 (by decide) ?_
        have e : (VX10_counts_46_4 row i s) = s := by unfold VX10_counts_46_4; rw [if_neg (not_not_intro c2)]
        rw [e] at hJ
        exact r_sub [0, 1, 2] rfl hJ
def NX10_counts_46 (row : Nat) (μ : Mem) : Nat := ix ((SX10_counts_2 row μ) 61 1)
def SX10_counts_46 (row : Nat) (μ : Mem) : Mem := fo (NX10_counts_46 row μ) (g_X10_counts_46 row) (SX10_counts_2 row μ)
def muX10_counts_1 (row : Nat) (μ : Mem) : Mem := (upm (SX10_counts_46 row μ) 525 (ix ((SX10_counts_46 row μ) row (ix (0 + (nI (NX10_counts_46 row μ)))))) (((SX10_counts_46 row μ) 525 (ix ((SX10_counts_46 row μ) row (ix (0 + (nI (NX10_counts_46 row μ))))))) + 1))
def VX10_counts_2 (row : Nat) (μ : Mem) : Int32 := (if (F_X10_isAfloat row (nI (NX10_counts_46 row μ)) (muX10_counts_1 row μ)) = 0 then 0 else (if ((muX10_counts_1 row μ) row (ix (20 + (nI (NX10_counts_46 row μ))))) ≠ 0 then 0 else 1))
theorem bo_VX10_counts_2 (row : Nat) (μ : Mem) : (VX10_counts_2 row μ) = 0 ∨ (VX10_counts_2 row μ) = 1 := by
  unfold VX10_counts_2
  split
  · exact Or.inl rfl
  · split
    · exact Or.inl rfl
    · exact Or.inr rfl
def muX10_counts_3 (row : Nat) (μ : Mem) : Mem := (upm (muX10_counts_1 row μ) 524 (ix ((muX10_counts_1 row μ) row (ix (0 + (nI (NX10_counts_46 row μ)))))) (((muX10_counts_1 row μ) 524 (ix ((muX10_counts_1 row μ) row (ix (0 + (nI (NX10_counts_46 row μ))))))) + (VX10_counts_2 row μ)))
def VX10_counts_4 (row : Nat) (μ : Mem) : Mem := (if (F_X10_isWet row (nI (NX10_counts_46 row μ)) (SX10_counts_46 row μ)) ≠ 0 then (muX10_counts_3 row μ) else (SX10_counts_46 row μ))
def muX10_counts_5 (row : Nat) (μ : Mem) : Mem := (upm (SX10_counts_2 row μ) 523 (ix (nI (NX10_counts_2 row μ))) (F_X10_waterIn row (nI (NX10_counts_2 row μ)) (SX10_counts_2 row μ)))
def muX10_counts_6 (row : Nat) (μ : Mem) : Mem := (upm (muX10_counts_5 row μ) 524 (ix (nI (NX10_counts_2 row μ))) 0)
def muX10_counts_7 (row : Nat) (μ : Mem) : Mem := (upm (muX10_counts_6 row μ) 525 (ix (nI (NX10_counts_2 row μ))) 0)
def M_X10_counts (row : Nat) (μ : Mem) : Mem := (SX10_counts_46 row μ)
def P_X10_counts (row : Nat) (μ : Mem) : Prop := ((∀ j9, j9 < (NX10_counts_2 row μ) → Pb_X10_counts_2 row j9 (fo j9 (g_X10_counts_2 row) μ)) ∧ ((((SX10_counts_2 row μ) 61 0) ≤ (nI (NX10_counts_2 row μ)) → ((∀ j9, j9 < (NX10_counts_46 row μ) → Pb_X10_counts_46 row j9 (fo j9 (g_X10_counts_46 row) (SX10_counts_2 row μ))) ∧ ((((SX10_counts_46 row μ) 61 1) ≤ (nI (NX10_counts_46 row μ)) → True) ∧ ((nI (NX10_counts_46 row μ)) < ((SX10_counts_46 row μ) 61 1) → ((P_X10_isWet row (nI (NX10_counts_46 row μ)) (SX10_counts_46 row μ)) ∧ ((((F_X10_isWet row (nI (NX10_counts_46 row μ)) (SX10_counts_46 row μ)) ≠ 0 → ((vp_in (0 + (nI (NX10_counts_46 row μ))) 63) ∧ ((vp_in ((SX10_counts_46 row μ) row (ix (0 + (nI (NX10_counts_46 row μ))))) 6) ∧ ((vp_in ((SX10_counts_46 row μ) row (ix (0 + (nI (NX10_counts_46 row μ))))) 6) ∧ ((vp_in (0 + (nI (NX10_counts_46 row μ))) 63) ∧ ((vp_in ((muX10_counts_1 row μ) row (ix (0 + (nI (NX10_counts_46 row μ))))) 6) ∧ ((P_X10_isAfloat row (nI (NX10_counts_46 row μ)) (muX10_counts_1 row μ)) ∧ ((((F_X10_isAfloat row (nI (NX10_counts_46 row μ)) (muX10_counts_1 row μ)) = 0 → True) ∧ (¬ (F_X10_isAfloat row (nI (NX10_counts_46 row μ)) (muX10_counts_1 row μ)) = 0 → (vp_in (20 + (nI (NX10_counts_46 row μ))) 63))) ∧ (vp_in ((muX10_counts_1 row μ) row (ix (0 + (nI (NX10_counts_46 row μ))))) 6))))))))) ∧ ((F_X10_isWet row (nI (NX10_counts_46 row μ)) (SX10_counts_46 row μ)) = 0 → True)) ∧ False)))))) ∧ ((nI (NX10_counts_2 row μ)) < ((SX10_counts_2 row μ) 61 0) → ((P_X10_waterIn row (nI (NX10_counts_2 row μ)) (SX10_counts_2 row μ)) ∧ ((vp_in (nI (NX10_counts_2 row μ)) 6) ∧ ((vp_in (nI (NX10_counts_2 row μ)) 6) ∧ ((vp_in (nI (NX10_counts_2 row μ)) 6) ∧ False)))))))
set_option maxRecDepth 20000 in
set_option maxHeartbeats 2000000 in
theorem ok_X10_counts {G : SG} (hG : GK 548 G) {row : Nat} (hlrow : row < gh G) (hsrow : shp row = (1, 63, 0)) (μ : Mem) (hP : P_X10_counts row μ) : OkF G mX10_counts [.ref (ga G 57), .ref (ga G row)] μ none (M_X10_counts row μ) := by
  refine okF_of hG rfl rfl (Nat.le_of_ble_eq_true rfl) ?_
  unfold P_X10_counts at hP
  refine r_iconst 0 dX10_counts_0 rfl ?_
  refine r_istore_n [(2, _), (0, _), (1, _)] dX10_counts_1 (Nat.le_of_ble_eq_true rfl) rfl ?_
  have hs1 := hP.1
  replace hP := hP.2
  refine r_sub [1, 2, 0] rfl ?_
  refine lp_X10_counts_2 hG hlrow hsrow μ ((NX10_counts_2 row μ)) (SX10_counts_2 row μ) rfl hs1 ?_
  refine r_iload_n dX10_counts_2 2 rfl ?_
  refine r_aload_n dX10_counts_3 0 rfl ?_
  refine r_getR 61 fX10_23 (hG.lt (by decide)) sh57 fs57_12 dX10_counts_4 ?_
  refine r_iconst 0 dX10_counts_7 rfl ?_
  refine r_ialdK 0 rfl (hG.lt (by decide)) sh61 (vp_of (by decide) (by decide)) dX10_counts_8 ?_
  refine r_icmp_ge 44 dX10_counts_9 (by decide) (fun c1 => ?_) (fun c1 => ?_)
  · replace hP := hP.1 c1
    refine r_iconst 0 dX10_counts_44 rfl ?_
    refine r_istore_n [(2, _), (0, _), (1, _)] dX10_counts_45 (Nat.le_of_ble_eq_true rfl) rfl ?_
    have hs6 := hP.1
    replace hP := hP.2
    refine r_sub [1, 2, 0] rfl ?_
    refine lp_X10_counts_46 hG hlrow hsrow (SX10_counts_2 row μ) ((NX10_counts_46 row μ)) (SX10_counts_46 row μ) rfl hs6 ?_
    refine r_iload_n dX10_counts_46 2 rfl ?_
    refine r_aload_n dX10_counts_47 0 rfl ?_
    refine r_getR 61 fX10_23 (hG.lt (by decide)) sh57 fs57_12 dX10_counts_48 ?_
    refine r_iconst 1 dX10_counts_51 rfl ?_
    refine r_ialdK 1 rfl (hG.lt (by decide)) sh61 (vp_of (by decide) (by decide)) dX10_counts_52 ?_
    refine r_icmp_ge 124 dX10_counts_53 (by decide) (fun c2 => ?_) (fun c2 => ?_)
    · replace hP := hP.1 c2
      exact r_return dX10_counts_124 rfl ⟨rfl, rfl⟩
    · replace hP := hP.2 c2
      refine r_aload_n dX10_counts_56 0 rfl ?_
      refine r_aload_n dX10_counts_57 1 rfl ?_
      refine r_iload_n dX10_counts_58 2 rfl ?_
      have hs7 := hP.1
      replace hP := hP.2
      refine r_cvI (ok_X10_isWet hG hlrow hsrow (nI (NX10_counts_46 row μ)) (SX10_counts_46 row μ) hs7) lX10_289 (hG.lt (by decide)) sh57 ⟨_, _, rfl⟩ dX10_counts_59 (by decide) (Nat.le_of_ble_eq_true rfl) rfl (Nat.le_of_ble_eq_true rfl) ?_
      refine r_join 118 [(0, .ref (ga G 57)), (1, .ref (ga G row)), (2, .int (nI (NX10_counts_46 row μ)))] [] (VX10_counts_4 row μ) ?_ (fun hJ => ?_)
      · replace hP := hP.2
        refine r_iinc ((nI (NX10_counts_46 row μ)) + 1) [(2, _), (0, _), (1, _)] dX10_counts_118 2 rfl rfl (Nat.le_of_ble_eq_true rfl) rfl ?_
        refine r_goto 46 dX10_counts_121 (by decide) ?_
        exact hP.elim
      · replace hP := hP.1
        refine r_if_ne 68 dX10_counts_62 (by decide) (fun c3 => ?_) (fun c3 => ?_)
        · replace hP := hP.1 c3
          refine r_aload_n dX10_counts_68 0 rfl ?_
          refine r_getR 525 fX10_85 (hG.lt (by decide)) sh57 fs57_35 dX10_counts_69 ?_
          refine r_aload_n dX10_counts_72 1 rfl ?_
          refine r_iconst 0 dX10_counts_73 rfl ?_
          refine r_iload_n dX10_counts_74 2 rfl ?_
          refine r_iadd dX10_counts_75 ?_
          have hs8 := hP.1
          replace hP := hP.2
          refine r_iald hlrow hsrow hs8 dX10_counts_76 ?_
          refine r_dup2 dX10_counts_77 rfl rfl ?_
          have hs9 := hP.1
          replace hP := hP.2
          refine r_iald (hG.lt (by decide)) sh525 hs9 dX10_counts_78 ?_
          refine r_iconst 1 dX10_counts_79 rfl ?_
          refine r_iadd dX10_counts_80 ?_
          have hs10 := hP.1
          replace hP := hP.2
          refine r_iast (hG.lt (by decide)) sh525 hs10 dX10_counts_81 ?_
          refine r_mu (muX10_counts_1 row μ) rfl ?_
          refine r_aload_n dX10_counts_82 0 rfl ?_
          refine r_getR 524 fX10_82 (hG.lt (by decide)) sh57 fs57_34 dX10_counts_83 ?_
          refine r_aload_n dX10_counts_86 1 rfl ?_
          refine r_iconst 0 dX10_counts_87 rfl ?_
          refine r_iload_n dX10_counts_88 2 rfl ?_
          refine r_iadd dX10_counts_89 ?_
          have hs11 := hP.1
          replace hP := hP.2
          refine r_iald hlrow hsrow hs11 dX10_counts_90 ?_
          refine r_dup2 dX10_counts_91 rfl rfl ?_
          have hs12 := hP.1
          replace hP := hP.2
          refine r_iald (hG.lt (by decide)) sh524 hs12 dX10_counts_92 ?_
          refine r_aload_n dX10_counts_93 0 rfl ?_
          refine r_aload_n dX10_counts_94 1 rfl ?_
          refine r_iload_n dX10_counts_95 2 rfl ?_
          have hs13 := hP.1
          replace hP := hP.2
          refine r_cvI (ok_X10_isAfloat hG hlrow hsrow (nI (NX10_counts_46 row μ)) (muX10_counts_1 row μ) hs13) lX10_293 (hG.lt (by decide)) sh57 ⟨_, _, rfl⟩ dX10_counts_96 (by decide) (Nat.le_of_ble_eq_true rfl) rfl (Nat.le_of_ble_eq_true rfl) ?_
          refine r_join 116 [(0, .ref (ga G 57)), (1, .ref (ga G row)), (2, .int (nI (NX10_counts_46 row μ)))] [.int (VX10_counts_2 row μ), .int ((muX10_counts_1 row μ) 524 (ix ((muX10_counts_1 row μ) row (ix (0 + (nI (NX10_counts_46 row μ))))))), .int ((muX10_counts_1 row μ) row (ix (0 + (nI (NX10_counts_46 row μ))))), .ref (ga G 524)] (muX10_counts_1 row μ) ?_ (fun hJ => ?_)
          · replace hP := hP.2
            refine r_iadd dX10_counts_116 ?_
            have hs15 := hP
            refine r_iast (hG.lt (by decide)) sh524 hs15 dX10_counts_117 ?_
            refine r_mu (muX10_counts_3 row μ) rfl ?_
            have e : (VX10_counts_4 row μ) = (muX10_counts_3 row μ) := by unfold VX10_counts_4; rw [if_pos c3]
            rw [e] at hJ
            exact r_sub [0, 1, 2] rfl hJ
          · replace hP := hP.1
            refine r_if_eq 115 dX10_counts_99 (by decide) (fun c4 => ?_) (fun c4 => ?_)
            · replace hP := hP.1 c4
              refine r_iconst 0 dX10_counts_115 rfl ?_
              have e : (VX10_counts_2 row μ) = 0 := by unfold VX10_counts_2; rw [if_pos c4]
              rw [e] at hJ
              exact r_sub [0, 1, 2] rfl hJ
            · replace hP := hP.2 c4
              refine r_aload_n dX10_counts_102 1 rfl ?_
              refine r_bipush 20 dX10_counts_103 rfl ?_
              refine r_iload_n dX10_counts_105 2 rfl ?_
              refine r_iadd dX10_counts_106 ?_
              have hs14 := hP
              refine r_iald hlrow hsrow hs14 dX10_counts_107 ?_
              refine r_if_ne 115 dX10_counts_108 (by decide) (fun c5 => ?_) (fun c5 => ?_)
              · refine r_iconst 0 dX10_counts_115 rfl ?_
                have e : (VX10_counts_2 row μ) = 0 := by unfold VX10_counts_2; rw [if_neg c4, if_pos c5]
                rw [e] at hJ
                exact r_sub [0, 1, 2] rfl hJ
              · refine r_iconst 1 dX10_counts_111 rfl ?_
                refine r_goto 116 dX10_counts_112 (by decide) ?_
                have e : (VX10_counts_2 row μ) = 1 := by unfold VX10_counts_2; rw [if_neg c4, if_neg (not_not_intro c5)]
                rw [e] at hJ
                exact r_sub [0, 1, 2] rfl hJ
        · replace hP := hP.2 c3
          refine r_goto 118 dX10_counts_65 (by decide) ?_
          have e : (VX10_counts_4 row μ) = (SX10_counts_46 row μ) := by unfold VX10_counts_4; rw [if_neg (not_not_intro c3)]
          rw [e] at hJ
          exact r_sub [0, 1, 2] rfl hJ
  · replace hP := hP.2 c1
    refine r_aload_n dX10_counts_12 0 rfl ?_
    refine r_getR 523 fX10_79 (hG.lt (by decide)) sh57 fs57_33 dX10_counts_13 ?_
    refine r_iload_n dX10_counts_16 2 rfl ?_
    refine r_aload_n dX10_counts_17 0 rfl ?_
    refine r_aload_n dX10_counts_18 1 rfl ?_
    refine r_iload_n dX10_counts_19 2 rfl ?_
    have hs16 := hP.1
    replace hP := hP.2
    refine r_cvI (ok_X10_waterIn hG hlrow hsrow (nI (NX10_counts_2 row μ)) (SX10_counts_2 row μ) hs16) lX10_286 (hG.lt (by decide)) sh57 ⟨_, _, rfl⟩ dX10_counts_20 (by decide) (Nat.le_of_ble_eq_true rfl) rfl (Nat.le_of_ble_eq_true rfl) ?_
    have hs17 := hP.1
    replace hP := hP.2
    refine r_iast (hG.lt (by decide)) sh523 hs17 dX10_counts_23 ?_
    refine r_mu (muX10_counts_5 row μ) rfl ?_
    refine r_aload_n dX10_counts_24 0 rfl ?_
    refine r_getR 524 fX10_82 (hG.lt (by decide)) sh57 fs57_34 dX10_counts_25 ?_
    refine r_iload_n dX10_counts_28 2 rfl ?_
    refine r_iconst 0 dX10_counts_29 rfl ?_
    have hs18 := hP.1
    replace hP := hP.2
    refine r_iast (hG.lt (by decide)) sh524 hs18 dX10_counts_30 ?_
    refine r_mu (muX10_counts_6 row μ) rfl ?_
    refine r_aload_n dX10_counts_31 0 rfl ?_
    refine r_getR 525 fX10_85 (hG.lt (by decide)) sh57 fs57_35 dX10_counts_32 ?_
    refine r_iload_n dX10_counts_35 2 rfl ?_
    refine r_iconst 0 dX10_counts_36 rfl ?_
    have hs19 := hP.1
    replace hP := hP.2
    refine r_iast (hG.lt (by decide)) sh525 hs19 dX10_counts_37 ?_
    refine r_mu (muX10_counts_7 row μ) rfl ?_
    refine r_iinc ((nI (NX10_counts_2 row μ)) + 1) [(2, _), (0, _), (1, _)] dX10_counts_38 2 rfl rfl (Nat.le_of_ble_eq_true rfl) rfl ?_
    refine r_goto 2 dX10_counts_41 (by decide) ?_
    exact hP.elim
def muX10_dueBy_1 (p1 : Int32) (p2 : Int32) (p3 : Int32) (p4 : Int32) (p5 : Int32) (p6 : Int32) (μ : Mem) : Mem := (upm μ 439 0 p1)
def muX10_dueBy_2 (p1 : Int32) (p2 : Int32) (p3 : Int32) (p4 : Int32) (p5 : Int32) (p6 : Int32) (μ : Mem) : Mem := (upm (muX10_dueBy_1 p1 p2 p3 p4 p5 p6 μ) 439 1 p2)
def muX10_dueBy_3 (p1 : Int32) (p2 : Int32) (p3 : Int32) (p4 : Int32) (p5 : Int32) (p6 : Int32) (μ : Mem) : Mem := (upm (muX10_dueBy_2 p1 p2 p3 p4 p5 p6 μ) 439 2 p3)
def muX10_dueBy_4 (p1 : Int32) (p2 : Int32) (p3 : Int32) (p4 : Int32) (p5 : Int32) (p6 : Int32) (μ : Mem) : Mem := (upm (muX10_dueBy_3 p1 p2 p3 p4 p5 p6 μ) 439 3 p4)
def muX10_dueBy_5 (p1 : Int32) (p2 : Int32) (p3 : Int32) (p4 : Int32) (p5 : Int32) (p6 : Int32) (μ : Mem) : Mem := (upm (muX10_dueBy_4 p1 p2 p3 p4 p5 p6 μ) 439 4 (p4 - p4 / 8 * 8))
def muX10_dueBy_6 (p1 : Int32) (p2 : Int32) (p3 : Int32) (p4 : Int32) (p5 : Int32) (p6 : Int32) (μ : Mem) : Mem := (upm (muX10_dueBy_5 p1 p2 p3 p4 p5 p6 μ) 439 5 p5)
def muX10_dueBy_7 (p1 : Int32) (p2 : Int32) (p3 : Int32) (p4 : Int32) (p5 : Int32) (p6 : Int32) (μ : Mem) : Mem := (upm (muX10_dueBy_6 p1 p2 p3 p4 p5 p6 μ) 439 6 p6)
def muX10_dueBy_8 (p1 : Int32) (p2 : Int32) (p3 : Int32) (p4 : Int32) (p5 : Int32) (p6 : Int32) (μ : Mem) : Mem := (M_X10_byLaw  (muX10_dueBy_7 p1 p2 p3 p4 p5 p6 μ))
def F_X10_dueBy (p1 : Int32) (p2 : Int32) (p3 : Int32) (p4 : Int32) (p5 : Int32) (p6 : Int32) (μ : Mem) : Int32 := (F_X10_byLaw  (muX10_dueBy_7 p1 p2 p3 p4 p5 p6 μ))
def M_X10_dueBy (p1 : Int32) (p2 : Int32) (p3 : Int32) (p4 : Int32) (p5 : Int32) (p6 : Int32) (μ : Mem) : Mem := (muX10_dueBy_8 p1 p2 p3 p4 p5 p6 μ)
def P_X10_dueBy (p1 : Int32) (p2 : Int32) (p3 : Int32) (p4 : Int32) (p5 : Int32) (p6 : Int32) (μ : Mem) : Prop := (P_X10_byLaw  (muX10_dueBy_7 p1 p2 p3 p4 p5 p6 μ))
set_option maxRecDepth 20000 in
set_option maxHeartbeats 2000000 in
theorem ok_X10_dueBy {G : SG} (hG : GK 548 G) (p1 : Int32) (p2 : Int32) (p3 : Int32) (p4 : Int32) (p5 : Int32) (p6 : Int32) (μ : Mem) (hP : P_X10_dueBy p1 p2 p3 p4 p5 p6 μ) : OkF G mX10_dueBy [.ref (ga G 57), .int p1, .int p2, .int p3, .int p4, .int p5, .int p6] μ (some (.int (F_X10_dueBy p1 p2 p3 p4 p5 p6 μ))) (M_X10_dueBy p1 p2 p3 p4 p5 p6 μ) := by
  refine okF_of hG rfl rfl (Nat.le_of_ble_eq_true rfl) ?_
  unfold P_X10_dueBy at hP
  refine r_aload_n dX10_dueBy_0 0 rfl ?_
  refine r_getR 439 fX10_67 (hG.lt (by decide)) sh57 fs57_28 dX10_dueBy_1 ?_
  refine r_iconst 0 dX10_dueBy_4 rfl ?_
  refine r_iload_n dX10_dueBy_5 1 rfl ?_
  refine r_iastK 0 rfl (hG.lt (by decide)) sh439 (vp_of (by decide) (by decide)) dX10_dueBy_6 ?_
  refine r_mu (muX10_dueBy_1 p1 p2 p3 p4 p5 p6 μ) rfl ?_
  refine r_aload_n dX10_dueBy_7 0 rfl ?_
  refine r_getR 439 fX10_67 (hG.lt (by decide)) sh57 fs57_28 dX10_dueBy_8 ?_
  refine r_iconst 1 dX10_dueBy_11 rfl ?_
  refine r_iload_n dX10_dueBy_12 2 rfl ?_
  refine r_iastK 1 rfl (hG.lt (by decide)) sh439 (vp_of (by decide) (by decide)) dX10_dueBy_13 ?_
  refine r_mu (muX10_dueBy_2 p1 p2 p3 p4 p5 p6 μ) rfl ?_
  refine r_aload_n dX10_dueBy_14 0 rfl ?_
  refine r_getR 439 fX10_67 (hG.lt (by decide)) sh57 fs57_28 dX10_dueBy_15 ?_
  refine r_iconst 2 dX10_dueBy_18 rfl ?_
  refine r_iload_n dX10_dueBy_19 3 rfl ?_
  refine r_iastK 2 rfl (hG.lt (by decide)) sh439 (vp_of (by decide) (by decide)) dX10_dueBy_20 ?_
  refine r_mu (muX10_dueBy_3 p1 p2 p3 p4 p5 p6 μ) rfl ?_
  refine r_aload_n dX10_dueBy_21 0 rfl ?_
  refine r_getR 439 fX10_67 (hG.lt (by decide)) sh57 fs57_28 dX10_dueBy_22 ?_
  refine r_iconst 3 dX10_dueBy_25 rfl ?_
  refine r_iload dX10_dueBy_26 4 rfl ?_
  refine r_iastK 3 rfl (hG.lt (by decide)) sh439 (vp_of (by decide) (by decide)) dX10_dueBy_28 ?_
  refine r_mu (muX10_dueBy_4 p1 p2 p3 p4 p5 p6 μ) rfl ?_
  refine r_aload_n dX10_dueBy_29 0 rfl ?_
  refine r_getR 439 fX10_67 (hG.lt (by decide)) sh57 fs57_28 dX10_dueBy_30 ?_
  refine r_iconst 4 dX10_dueBy_33 rfl ?_
  refine r_iload dX10_dueBy_34 4 rfl ?_
  refine r_bipush 8 dX10_dueBy_36 rfl ?_
  refine r_irem dX10_dueBy_38 (by decide) ?_
  refine r_iastK 4 rfl (hG.lt (by decide)) sh439 (vp_of (by decide) (by decide)) dX10_dueBy_39 ?_
  refine r_mu (muX10_dueBy_5 p1 p2 p3 p4 p5 p6 μ) rfl ?_
  refine r_aload_n dX10_dueBy_40 0 rfl ?_
  refine r_getR 439 fX10_67 (hG.lt (by decide)) sh57 fs57_28 dX10_dueBy_41 ?_
  refine r_iconst 5 dX10_dueBy_44 rfl ?_
  refine r_iload dX10_dueBy_45 5 rfl ?_
  refine r_iastK 5 rfl (hG.lt (by decide)) sh439 (vp_of (by decide) (by decide)) dX10_dueBy_47 ?_
  refine r_mu (muX10_dueBy_6 p1 p2 p3 p4 p5 p6 μ) rfl ?_
  refine r_aload_n dX10_dueBy_48 0 rfl ?_
  refine r_getR 439 fX10_67 (hG.lt (by decide)) sh57 fs57_28 dX10_dueBy_49 ?_
  refine r_bipush 6 dX10_dueBy_52 rfl ?_
  refine r_iload dX10_dueBy_54 6 rfl ?_
  refine r_iastK 6 rfl (hG.lt (by decide)) sh439 (vp_of (by decide) (by decide)) dX10_dueBy_56 ?_
  refine r_mu (muX10_dueBy_7 p1 p2 p3 p4 p5 p6 μ) rfl ?_
  refine r_aload_n dX10_dueBy_57 0 rfl ?_
  have hs1 := hP
  refine r_cvI (ok_X10_byLaw hG  (muX10_dueBy_7 p1 p2 p3 p4 p5 p6 μ) hs1) lX10_296 (hG.lt (by decide)) sh57 ⟨_, _, rfl⟩ dX10_dueBy_58 (by decide) (Nat.le_of_ble_eq_true rfl) rfl (Nat.le_of_ble_eq_true rfl) ?_
  refine r_mu (muX10_dueBy_8 p1 p2 p3 p4 p5 p6 μ) rfl ?_
  exact r_ireturn _ dX10_dueBy_61 rfl rfl ⟨congrArg (fun z => some (Value.int z)) (rfl), rfl⟩
