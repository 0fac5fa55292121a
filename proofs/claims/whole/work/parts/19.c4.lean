def F_J6_bitCount_0f7a4 (p0 : Int32) (μ : Mem) : Int32 := ((((((((p0 - ((ushr p0 1) &&& (1431655765 : Int32))) &&& (858993459 : Int32)) + ((ushr (p0 - ((ushr p0 1) &&& (1431655765 : Int32))) 2) &&& (858993459 : Int32))) + (ushr (((p0 - ((ushr p0 1) &&& (1431655765 : Int32))) &&& (858993459 : Int32)) + ((ushr (p0 - ((ushr p0 1) &&& (1431655765 : Int32))) 2) &&& (858993459 : Int32))) 4)) &&& (252645135 : Int32)) + (ushr (((((p0 - ((ushr p0 1) &&& (1431655765 : Int32))) &&& (858993459 : Int32)) + ((ushr (p0 - ((ushr p0 1) &&& (1431655765 : Int32))) 2) &&& (858993459 : Int32))) + (ushr (((p0 - ((ushr p0 1) &&& (1431655765 : Int32))) &&& (858993459 : Int32)) + ((ushr (p0 - ((ushr p0 1) &&& (1431655765 : Int32))) 2) &&& (858993459 : Int32))) 4)) &&& (252645135 : Int32)) 8)) + (ushr ((((((p0 - ((ushr p0 1) &&& (1431655765 : Int32))) &&& (858993459 : Int32)) + ((ushr (p0 - ((ushr p0 1) &&& (1431655765 : Int32))) 2) &&& (858993459 : Int32))) + (ushr (((p0 - ((ushr p0 1) &&& (1431655765 : Int32))) &&& (858993459 : Int32)) + ((ushr (p0 - ((ushr p0 1) &&& (1431655765 : Int32))) 2) &&& (858993459 : Int32))) 4)) &&& (252645135 : Int32)) + (ushr (((((p0 - ((ushr p0 1) &&& (1431655765 : Int32))) &&& (858993459 : Int32)) + ((ushr (p0 - ((ushr p0 1) &&& (1431655765 : Int32))) 2) &&& (858993459 : Int32))) + (ushr (((p0 - ((ushr p0 1) &&& (1431655765 : Int32))) &&& (858993459 : Int32)) + ((ushr (p0 - ((ushr p0 1) &&& (1431655765 : Int32))) 2) &&& (858993459 : Int32))) 4)) &&& (252645135 : Int32)) 8)) 16)) &&& 63)
set_option maxRecDepth 20000 in
set_option maxHeartbeats 2000000 in
theorem ok_J6_bitCount_0f7a4 {G : SG} (hG : GK 57 G) (p0 : Int32) (μ : Mem) : OkF G mJ6_bitCount_0f7a4 [.int p0] μ (some (.int (F_J6_bitCount_0f7a4 p0 μ))) μ := by
  refine okF_of hG rfl rfl (Nat.le_of_ble_eq_true rfl) ?_
  refine r_iload_n dJ6_bitCount_0f7a4_0 0 rfl ?_
  refine r_iload_n dJ6_bitCount_0f7a4_1 0 rfl ?_
  refine r_iconst 1 dJ6_bitCount_0f7a4_2 rfl ?_
  refine r_iushr (v := ushr p0 1) dJ6_bitCount_0f7a4_3 rfl ?_
  refine r_ldcwI 1431655765 (bc6 35 (by decide +kernel) (by decide +kernel)) dJ6_bitCount_0f7a4_4 ?_
  refine r_iand dJ6_bitCount_0f7a4_7 ?_
  refine r_isub dJ6_bitCount_0f7a4_8 ?_
  refine r_istore_n [(0, _)] dJ6_bitCount_0f7a4_9 (Nat.le_of_ble_eq_true rfl) rfl ?_
  refine r_iload_n dJ6_bitCount_0f7a4_10 0 rfl ?_
  refine r_ldcwI 858993459 (bc6 36 (by decide +kernel) (by decide +kernel)) dJ6_bitCount_0f7a4_11 ?_
  refine r_iand dJ6_bitCount_0f7a4_14 ?_
  refine r_iload_n dJ6_bitCount_0f7a4_15 0 rfl ?_
  refine r_iconst 2 dJ6_bitCount_0f7a4_16 rfl ?_
  refine r_iushr (v := ushr (p0 - ((ushr p0 1) &&& (1431655765 : Int32))) 2) dJ6_bitCount_0f7a4_17 rfl ?_
  refine r_ldcwI 858993459 (bc6 36 (by decide +kernel) (by decide +kernel)) dJ6_bitCount_0f7a4_18 ?_
  refine r_iand dJ6_bitCount_0f7a4_21 ?_
  refine r_iadd dJ6_bitCount_0f7a4_22 ?_
  refine r_istore_n [(0, _)] dJ6_bitCount_0f7a4_23 (Nat.le_of_ble_eq_true rfl) rfl ?_
  refine r_iload_n dJ6_bitCount_0f7a4_24 0 rfl ?_
  refine r_iload_n dJ6_bitCount_0f7a4_25 0 rfl ?_
  refine r_iconst 4 dJ6_bitCount_0f7a4_26 rfl ?_
  refine r_iushr (v := ushr (((p0 - ((ushr p0 1) &&& (1431655765 : Int32))) &&& (858993459 : Int32)) + ((ushr (p0 - ((ushr p0 1) &&& (1431655765 : Int32))) 2) &&& (858993459 : Int32))) 4) dJ6_bitCount_0f7a4_27 rfl ?_
  refine r_iadd dJ6_bitCount_0f7a4_28 ?_
  refine r_ldcwI 252645135 (bc6 37 (by decide +kernel) (by decide +kernel)) dJ6_bitCount_0f7a4_29 ?_
  refine r_iand dJ6_bitCount_0f7a4_32 ?_
  refine r_istore_n [(0, _)] dJ6_bitCount_0f7a4_33 (Nat.le_of_ble_eq_true rfl) rfl ?_
  refine r_iload_n dJ6_bitCount_0f7a4_34 0 rfl ?_
  refine r_iload_n dJ6_bitCount_0f7a4_35 0 rfl ?_
  refine r_bipush 8 dJ6_bitCount_0f7a4_36 rfl ?_
  refine r_iushr (v := ushr (((((p0 - ((ushr p0 1) &&& (1431655765 : Int32))) &&& (858993459 : Int32)) + ((ushr (p0 - ((ushr p0 1) &&& (1431655765 : Int32))) 2) &&& (858993459 : Int32))) + (ushr (((p0 - ((ushr p0 1) &&& (1431655765 : Int32))) &&& (858993459 : Int32)) + ((ushr (p0 - ((ushr p0 1) &&& (1431655765 : Int32))) 2) &&& (858993459 : Int32))) 4)) &&& (252645135 : Int32)) 8) dJ6_bitCount_0f7a4_38 rfl ?_
  refine r_iadd dJ6_bitCount_0f7a4_39 ?_
  refine r_istore_n [(0, _)] dJ6_bitCount_0f7a4_40 (Nat.le_of_ble_eq_true rfl) rfl ?_
  refine r_iload_n dJ6_bitCount_0f7a4_41 0 rfl ?_
  refine r_iload_n dJ6_bitCount_0f7a4_42 0 rfl ?_
  refine r_bipush 16 dJ6_bitCount_0f7a4_43 rfl ?_
  refine r_iushr (v := ushr ((((((p0 - ((ushr p0 1) &&& (1431655765 : Int32))) &&& (858993459 : Int32)) + ((ushr (p0 - ((ushr p0 1) &&& (1431655765 : Int32))) 2) &&& (858993459 : Int32))) + (ushr (((p0 - ((ushr p0 1) &&& (1431655765 : Int32))) &&& (858993459 : Int32)) + ((ushr (p0 - ((ushr p0 1) &&& (1431655765 : Int32))) 2) &&& (858993459 : Int32))) 4)) &&& (252645135 : Int32)) + (ushr (((((p0 - ((ushr p0 1) &&& (1431655765 : Int32))) &&& (858993459 : Int32)) + ((ushr (p0 - ((ushr p0 1) &&& (1431655765 : Int32))) 2) &&& (858993459 : Int32))) + (ushr (((p0 - ((ushr p0 1) &&& (1431655765 : Int32))) &&& (858993459 : Int32)) + ((ushr (p0 - ((ushr p0 1) &&& (1431655765 : Int32))) 2) &&& (858993459 : Int32))) 4)) &&& (252645135 : Int32)) 8)) 16) dJ6_bitCount_0f7a4_45 rfl ?_
  refine r_iadd dJ6_bitCount_0f7a4_46 ?_
  refine r_istore_n [(0, _)] dJ6_bitCount_0f7a4_47 (Nat.le_of_ble_eq_true rfl) rfl ?_
  refine r_iload_n dJ6_bitCount_0f7a4_48 0 rfl ?_
  refine r_bipush 63 dJ6_bitCount_0f7a4_49 rfl ?_
  refine r_iand dJ6_bitCount_0f7a4_51 ?_
  exact r_ireturn _ dJ6_bitCount_0f7a4_52 rfl rfl ⟨congrArg (fun z => some (Value.int z)) (rfl), rfl⟩
def muX1_readPair_1 (rF : Int32 → Mem → Int32) (rM : Int32 → Mem → Mem) (rP : Int32 → Mem → Prop) (p2 : Int32) (μ : Mem) : Mem := (M_X8_takeSign 91 μ)
def muX1_readPair_2 (rF : Int32 → Mem → Int32) (rM : Int32 → Mem → Mem) (rP : Int32 → Mem → Prop) (p2 : Int32) (μ : Mem) : Mem := (rM (p2 + 1) (muX1_readPair_1 rF rM rP p2 μ))
def muX1_readPair_3 (rF : Int32 → Mem → Int32) (rM : Int32 → Mem → Mem) (rP : Int32 → Mem → Prop) (p2 : Int32) (μ : Mem) : Mem := (M_X8_takeSign 44 (muX1_readPair_2 rF rM rP p2 μ))
def muX1_readPair_4 (rF : Int32 → Mem → Int32) (rM : Int32 → Mem → Mem) (rP : Int32 → Mem → Prop) (p2 : Int32) (μ : Mem) : Mem := (rM (p2 + 1) (muX1_readPair_3 rF rM rP p2 μ))
def muX1_readPair_5 (rF : Int32 → Mem → Int32) (rM : Int32 → Mem → Mem) (rP : Int32 → Mem → Prop) (p2 : Int32) (μ : Mem) : Mem := (M_X8_takeSign 93 (muX1_readPair_4 rF rM rP p2 μ))
def muX1_readPair_6 (rF : Int32 → Mem → Int32) (rM : Int32 → Mem → Mem) (rP : Int32 → Mem → Prop) (p2 : Int32) (μ : Mem) : Mem := (M_X8_failToken 3 μ)
def F_X1_readPair (rF : Int32 → Mem → Int32) (rM : Int32 → Mem → Mem) (rP : Int32 → Mem → Prop) (p2 : Int32) (μ : Mem) : Int32 := (if p2 < 6 then (if (F_X8_takeSign 91 μ) = 0 then 0 else (if (rF (p2 + 1) (muX1_readPair_1 rF rM rP p2 μ)) = 0 then 0 else (if (F_X8_takeSign 44 (muX1_readPair_2 rF rM rP p2 μ)) = 0 then 0 else (if (rF (p2 + 1) (muX1_readPair_3 rF rM rP p2 μ)) = 0 then 0 else (if (F_X8_takeSign 93 (muX1_readPair_4 rF rM rP p2 μ)) = 0 then 0 else 1))))) else (F_X8_failToken 3 μ))
def M_X1_readPair (rF : Int32 → Mem → Int32) (rM : Int32 → Mem → Mem) (rP : Int32 → Mem → Prop) (p2 : Int32) (μ : Mem) : Mem := (if p2 < 6 then (if (F_X8_takeSign 91 μ) = 0 then (muX1_readPair_1 rF rM rP p2 μ) else (if (rF (p2 + 1) (muX1_readPair_1 rF rM rP p2 μ)) = 0 then (muX1_readPair_2 rF rM rP p2 μ) else (if (F_X8_takeSign 44 (muX1_readPair_2 rF rM rP p2 μ)) = 0 then (muX1_readPair_3 rF rM rP p2 μ) else (if (rF (p2 + 1) (muX1_readPair_3 rF rM rP p2 μ)) = 0 then (muX1_readPair_4 rF rM rP p2 μ) else (muX1_readPair_5 rF rM rP p2 μ))))) else (muX1_readPair_6 rF rM rP p2 μ))
def P_X1_readPair (rF : Int32 → Mem → Int32) (rM : Int32 → Mem → Mem) (rP : Int32 → Mem → Prop) (p2 : Int32) (μ : Mem) : Prop := ((p2 < 6 → ((P_X8_takeSign 91 μ) ∧ (((F_X8_takeSign 91 μ) = 0 → True) ∧ (¬ (F_X8_takeSign 91 μ) = 0 → ((rP (p2 + 1) (muX1_readPair_1 rF rM rP p2 μ)) ∧ (((rF (p2 + 1) (muX1_readPair_1 rF rM rP p2 μ)) = 0 → True) ∧ (¬ (rF (p2 + 1) (muX1_readPair_1 rF rM rP p2 μ)) = 0 → ((P_X8_takeSign 44 (muX1_readPair_2 rF rM rP p2 μ)) ∧ (((F_X8_takeSign 44 (muX1_readPair_2 rF rM rP p2 μ)) = 0 → True) ∧ (¬ (F_X8_takeSign 44 (muX1_readPair_2 rF rM rP p2 μ)) = 0 → ((rP (p2 + 1) (muX1_readPair_3 rF rM rP p2 μ)) ∧ (((rF (p2 + 1) (muX1_readPair_3 rF rM rP p2 μ)) = 0 → True) ∧ (¬ (rF (p2 + 1) (muX1_readPair_3 rF rM rP p2 μ)) = 0 → (P_X8_takeSign 93 (muX1_readPair_4 rF rM rP p2 μ))))))))))))))) ∧ (6 ≤ p2 → True))
theorem bo_X1_readPair (rF : Int32 → Mem → Int32) (rM : Int32 → Mem → Mem) (rP : Int32 → Mem → Prop) (p2 : Int32) (hrb : ∀ (x0 : Int32) (ν : Mem), rF x0 ν = 0 ∨ rF x0 ν = 1) (μ : Mem) : F_X1_readPair rF rM rP p2 μ = 0 ∨ F_X1_readPair rF rM rP p2 μ = 1 := by
  unfold F_X1_readPair
  split
  · split
    · exact Or.inl rfl
    · split
      · exact Or.inl rfl
      · split
        · exact Or.inl rfl
        · split
          · exact Or.inl rfl
          · split
            · exact Or.inl rfl
            · exact Or.inr rfl
  · exact (bo_X8_failToken 3 μ)
set_option maxRecDepth 20000 in
set_option maxHeartbeats 2000000 in
theorem ok_X1_readPair {G : SG} (hG : GK 57 G) {e : Nat} (he : 40 ≤ e) (rF : Int32 → Mem → Int32) (rM : Int32 → Mem → Mem) (rP : Int32 → Mem → Prop) (hrec : ∀ (x0 : Int32) (ν : Mem), rP x0 ν → OkF G (mX1_readSum e) [.ref (ga G 26), .ref (ga G 1), .int x0] ν (some (.int (rF x0 ν))) (rM x0 ν)) (hrb : ∀ (x0 : Int32) (ν : Mem), rF x0 ν = 0 ∨ rF x0 ν = 1) (p2 : Int32) (μ : Mem) (hP : P_X1_readPair rF rM rP p2 μ) : OkF G (mX1_readPair (e + 1)) [.ref (ga G 26), .ref (ga G 1), .int p2] μ (some (.int (F_X1_readPair rF rM rP p2 μ))) (M_X1_readPair rF rM rP p2 μ) := by
  refine okF_of hG rfl rfl (Nat.le_of_ble_eq_true rfl) ?_
  unfold P_X1_readPair at hP
  refine r_iload_n dX1_readPair_0 2 rfl ?_
  refine r_bipush 6 dX1_readPair_1 rfl ?_
  refine r_icmp_lt 12 dX1_readPair_3 (by decide) (fun c1 => ?_) (fun c1 => ?_)
  · replace hP := hP.1 c1
    refine r_aload_n dX1_readPair_12 1 rfl ?_
    refine r_bipush 91 dX1_readPair_13 rfl ?_
    have hs1 := hP.1
    replace hP := hP.2
    refine r_cvI (ok_X8_takeSign hG 91 μ hs1) lX1_76 (hG.lt (by decide)) sh1 ⟨_, _, rfl⟩ dX1_readPair_15 (dle (by decide) he) (Nat.le_of_ble_eq_true rfl) rfl (Nat.le_of_ble_eq_true rfl) ?_
    refine r_mu (muX1_readPair_1 rF rM rP p2 μ) rfl ?_
    refine r_if_eq 65 dX1_readPair_18 (by decide) (fun c2 => ?_) (fun c2 => ?_)
    · replace hP := hP.1 c2
      refine r_iconst 0 dX1_readPair_65 rfl ?_
      exact r_ireturn _ dX1_readPair_66 rfl rfl ⟨congrArg (fun z => some (Value.int z)) (by unfold F_X1_readPair; rw [if_pos c1, if_pos c2]), by unfold M_X1_readPair; rw [if_pos c1, if_pos c2]⟩
    · replace hP := hP.2 c2
      refine r_aload_n dX1_readPair_21 0 rfl ?_
      refine r_aload_n dX1_readPair_22 1 rfl ?_
      refine r_iload_n dX1_readPair_23 2 rfl ?_
      refine r_iconst 1 dX1_readPair_24 rfl ?_
      refine r_iadd dX1_readPair_25 ?_
      have hs2 := hP.1
      replace hP := hP.2
      refine r_cvI (hrec (p2 + 1) (muX1_readPair_1 rF rM rP p2 μ) hs2) (lX1_43 _) (hG.lt (by decide)) sh26 ⟨_, _, rfl⟩ dX1_readPair_26 (dpe (a := 0) (b := 1) (by decide)) (Nat.le_of_ble_eq_true rfl) rfl (Nat.le_of_ble_eq_true rfl) ?_
      refine r_mu (muX1_readPair_2 rF rM rP p2 μ) rfl ?_
      refine r_if_eq 65 dX1_readPair_29 (by decide) (fun c3 => ?_) (fun c3 => ?_)
      · replace hP := hP.1 c3
        refine r_iconst 0 dX1_readPair_65 rfl ?_
        exact r_ireturn _ dX1_readPair_66 rfl rfl ⟨congrArg (fun z => some (Value.int z)) (by unfold F_X1_readPair; rw [if_pos c1, if_neg c2, if_pos c3]), by unfold M_X1_readPair; rw [if_pos c1, if_neg c2, if_pos c3]⟩
      · replace hP := hP.2 c3
        refine r_aload_n dX1_readPair_32 1 rfl ?_
        refine r_bipush 44 dX1_readPair_33 rfl ?_
        have hs3 := hP.1
        replace hP := hP.2
        refine r_cvI (ok_X8_takeSign hG 44 (muX1_readPair_2 rF rM rP p2 μ) hs3) lX1_76 (hG.lt (by decide)) sh1 ⟨_, _, rfl⟩ dX1_readPair_35 (dle (by decide) he) (Nat.le_of_ble_eq_true rfl) rfl (Nat.le_of_ble_eq_true rfl) ?_
        refine r_mu (muX1_readPair_3 rF rM rP p2 μ) rfl ?_
        refine r_if_eq 65 dX1_readPair_38 (by decide) (fun c4 => ?_) (fun c4 => ?_)
        · replace hP := hP.1 c4
          refine r_iconst 0 dX1_readPair_65 rfl ?_
          exact r_ireturn _ dX1_readPair_66 rfl rfl ⟨congrArg (fun z => some (Value.int z)) (by unfold F_X1_readPair; rw [if_pos c1, if_neg c2, if_neg c3, if_pos c4]), by unfold M_X1_readPair; rw [if_pos c1, if_neg c2, if_neg c3, if_pos c4]⟩
        · replace hP := hP.2 c4
          refine r_aload_n dX1_readPair_41 0 rfl ?_
          refine r_aload_n dX1_readPair_42 1 rfl ?_
          refine r_iload_n dX1_readPair_43 2 rfl ?_
          refine r_iconst 1 dX1_readPair_44 rfl ?_
          refine r_iadd dX1_readPair_45 ?_
          have hs4 := hP.1
          replace hP := hP.2
          refine r_cvI (hrec (p2 + 1) (muX1_readPair_3 rF rM rP p2 μ) hs4) (lX1_43 _) (hG.lt (by decide)) sh26 ⟨_, _, rfl⟩ dX1_readPair_46 (dpe (a := 0) (b := 1) (by decide)) (Nat.le_of_ble_eq_true rfl) rfl (Nat.le_of_ble_eq_true rfl) ?_
          refine r_mu (muX1_readPair_4 rF rM rP p2 μ) rfl ?_
          refine r_if_eq 65 dX1_readPair_49 (by decide) (fun c5 => ?_) (fun c5 => ?_)
          · replace hP := hP.1 c5
            refine r_iconst 0 dX1_readPair_65 rfl ?_
            exact r_ireturn _ dX1_readPair_66 rfl rfl ⟨congrArg (fun z => some (Value.int z)) (by unfold F_X1_readPair; rw [if_pos c1, if_neg c2, if_neg c3, if_neg c4, if_pos c5]), by unfold M_X1_readPair; rw [if_pos c1, if_neg c2, if_neg c3, if_neg c4, if_pos c5]⟩
          · replace hP := hP.2 c5
            refine r_aload_n dX1_readPair_52 1 rfl ?_
            refine r_bipush 93 dX1_readPair_53 rfl ?_
            have hs5 := hP
            refine r_cvI (ok_X8_takeSign hG 93 (muX1_readPair_4 rF rM rP p2 μ) hs5) lX1_76 (hG.lt (by decide)) sh1 ⟨_, _, rfl⟩ dX1_readPair_55 (dle (by decide) he) (Nat.le_of_ble_eq_true rfl) rfl (Nat.le_of_ble_eq_true rfl) ?_
            refine r_mu (muX1_readPair_5 rF rM rP p2 μ) rfl ?_
            refine r_if_eq 65 dX1_readPair_58 (by decide) (fun c6 => ?_) (fun c6 => ?_)
            · refine r_iconst 0 dX1_readPair_65 rfl ?_
              exact r_ireturn _ dX1_readPair_66 rfl rfl ⟨congrArg (fun z => some (Value.int z)) (by unfold F_X1_readPair; rw [if_pos c1, if_neg c2, if_neg c3, if_neg c4, if_neg c5, if_pos c6]), by unfold M_X1_readPair; rw [if_pos c1, if_neg c2, if_neg c3, if_neg c4, if_neg c5]⟩
            · refine r_iconst 1 dX1_readPair_61 rfl ?_
              refine r_goto 66 dX1_readPair_62 (by decide) ?_
              exact r_ireturn _ dX1_readPair_66 rfl rfl ⟨congrArg (fun z => some (Value.int z)) (by unfold F_X1_readPair; rw [if_pos c1, if_neg c2, if_neg c3, if_neg c4, if_neg c5, if_neg c6]), by unfold M_X1_readPair; rw [if_pos c1, if_neg c2, if_neg c3, if_neg c4, if_neg c5]⟩
  · replace hP := hP.2 c1
    refine r_aload_n dX1_readPair_6 1 rfl ?_
    refine r_iconst 3 dX1_readPair_7 rfl ?_
    refine r_cvI (ok_X8_failToken hG 3 μ) lX1_89 (hG.lt (by decide)) sh1 ⟨_, _, rfl⟩ dX1_readPair_8 (dle (by decide) he) (Nat.le_of_ble_eq_true rfl) rfl (Nat.le_of_ble_eq_true rfl) ?_
    refine r_mu (muX1_readPair_6 rF rM rP p2 μ) rfl ?_
    exact r_ireturn _ dX1_readPair_11 rfl (nb01 ((bo_X8_failToken 3 μ))) ⟨congrArg (fun z => some (Value.int z)) (by unfold F_X1_readPair; rw [if_neg (i32_nl c1)]), by unfold M_X1_readPair; rw [if_neg (i32_nl c1)]⟩
def muX1_readUnit_1 (rF : Int32 → Mem → Int32) (rM : Int32 → Mem → Mem) (rP : Int32 → Mem → Prop) (p2 : Int32) (μ : Mem) : Mem := (M_X8_peek  μ)
def muX1_readUnit_2 (rF : Int32 → Mem → Int32) (rM : Int32 → Mem → Mem) (rP : Int32 → Mem → Prop) (p2 : Int32) (μ : Mem) : Mem := (M_X8_takeWord  (muX1_readUnit_1 rF rM rP p2 μ))
def muX1_readUnit_3 (rF : Int32 → Mem → Int32) (rM : Int32 → Mem → Mem) (rP : Int32 → Mem → Prop) (p2 : Int32) (μ : Mem) : Mem := (M_X1_readPair rF rM rP p2 (muX1_readUnit_2 rF rM rP p2 μ))
def muX1_readUnit_4 (rF : Int32 → Mem → Int32) (rM : Int32 → Mem → Mem) (rP : Int32 → Mem → Prop) (p2 : Int32) (μ : Mem) : Mem := (M_X1_add 26 (F_X1_codeOf  (muX1_readUnit_2 rF rM rP p2 μ)) (muX1_readUnit_3 rF rM rP p2 μ))
def muX1_readUnit_5 (rF : Int32 → Mem → Int32) (rM : Int32 → Mem → Mem) (rP : Int32 → Mem → Prop) (p2 : Int32) (μ : Mem) : Mem := (M_X1_add 26 (F_X1_codeOf  (muX1_readUnit_2 rF rM rP p2 μ)) (muX1_readUnit_2 rF rM rP p2 μ))
def muX1_readUnit_6 (rF : Int32 → Mem → Int32) (rM : Int32 → Mem → Mem) (rP : Int32 → Mem → Prop) (p2 : Int32) (μ : Mem) : Mem := (M_X8_failToken 1 (muX1_readUnit_2 rF rM rP p2 μ))
def muX1_readUnit_7 (rF : Int32 → Mem → Int32) (rM : Int32 → Mem → Mem) (rP : Int32 → Mem → Prop) (p2 : Int32) (μ : Mem) : Mem := (M_X1_readPair rF rM rP p2 (muX1_readUnit_2 rF rM rP p2 μ))
def muX1_readUnit_8 (rF : Int32 → Mem → Int32) (rM : Int32 → Mem → Mem) (rP : Int32 → Mem → Prop) (p2 : Int32) (μ : Mem) : Mem := (M_X1_add 26 (F_X1_codeOf  (muX1_readUnit_2 rF rM rP p2 μ)) (muX1_readUnit_7 rF rM rP p2 μ))
def muX1_readUnit_9 (rF : Int32 → Mem → Int32) (rM : Int32 → Mem → Mem) (rP : Int32 → Mem → Prop) (p2 : Int32) (μ : Mem) : Mem := (M_X8_skipSign  (muX1_readUnit_1 rF rM rP p2 μ))
def muX1_readUnit_10 (rF : Int32 → Mem → Int32) (rM : Int32 → Mem → Mem) (rP : Int32 → Mem → Prop) (p2 : Int32) (μ : Mem) : Mem := (rM (p2 + 1) (muX1_readUnit_9 rF rM rP p2 μ))
def muX1_readUnit_11 (rF : Int32 → Mem → Int32) (rM : Int32 → Mem → Mem) (rP : Int32 → Mem → Prop) (p2 : Int32) (μ : Mem) : Mem := (M_X8_takeSign 41 (muX1_readUnit_10 rF rM rP p2 μ))
def muX1_readUnit_12 (rF : Int32 → Mem → Int32) (rM : Int32 → Mem → Mem) (rP : Int32 → Mem → Prop) (p2 : Int32) (μ : Mem) : Mem := (M_X8_failHere 3 (muX1_readUnit_1 rF rM rP p2 μ))
def muX1_readUnit_13 (rF : Int32 → Mem → Int32) (rM : Int32 → Mem → Mem) (rP : Int32 → Mem → Prop) (p2 : Int32) (μ : Mem) : Mem := (M_X8_takeNumber 0 999 (muX1_readUnit_1 rF rM rP p2 μ))
def muX1_readUnit_14 (rF : Int32 → Mem → Int32) (rM : Int32 → Mem → Mem) (rP : Int32 → Mem → Prop) (p2 : Int32) (μ : Mem) : Mem := (M_X1_addConstant 26 (F_X8_takeNumber 0 999 (muX1_readUnit_1 rF rM rP p2 μ)) (muX1_readUnit_13 rF rM rP p2 μ))
def F_X1_readUnit (rF : Int32 → Mem → Int32) (rM : Int32 → Mem → Mem) (rP : Int32 → Mem → Prop) (p2 : Int32) (μ : Mem) : Int32 := (if (F_X8_isDigit (F_X8_peek  μ) (muX1_readUnit_1 rF rM rP p2 μ)) = 0 then (if (F_X8_peek  μ) ≠ 40 then (if (F_X8_takeWord  (muX1_readUnit_1 rF rM rP p2 μ)) ≠ 0 then (if (F_X1_codeOf  (muX1_readUnit_2 rF rM rP p2 μ)) = 12 then (if (F_X1_readPair rF rM rP p2 (muX1_readUnit_2 rF rM rP p2 μ)) = 0 then 0 else (if (F_X1_add 26 (F_X1_codeOf  (muX1_readUnit_2 rF rM rP p2 μ)) (muX1_readUnit_3 rF rM rP p2 μ)) = 0 then 0 else 1)) else (if (F_X1_codeOf  (muX1_readUnit_2 rF rM rP p2 μ)) ≠ 13 then (if (F_X1_codeOf  (muX1_readUnit_2 rF rM rP p2 μ)) ≠ (-1) then (F_X1_add 26 (F_X1_codeOf  (muX1_readUnit_2 rF rM rP p2 μ)) (muX1_readUnit_2 rF rM rP p2 μ)) else (F_X8_failToken 1 (muX1_readUnit_2 rF rM rP p2 μ))) else (if (F_X1_readPair rF rM rP p2 (muX1_readUnit_2 rF rM rP p2 μ)) = 0 then 0 else (if (F_X1_add 26 (F_X1_codeOf  (muX1_readUnit_2 rF rM rP p2 μ)) (muX1_readUnit_7 rF rM rP p2 μ)) = 0 then 0 else 1)))) else 0) else (if p2 < 6 then (if (rF (p2 + 1) (muX1_readUnit_9 rF rM rP p2 μ)) = 0 then 0 else (if (F_X8_takeSign 41 (muX1_readUnit_10 rF rM rP p2 μ)) = 0 then 0 else 1)) else (F_X8_failHere 3 (muX1_readUnit_1 rF rM rP p2 μ)))) else (if (F_X8_takeNumber 0 999 (muX1_readUnit_1 rF rM rP p2 μ)) = (-1) then 0 else (if (F_X1_addConstant 26 (F_X8_takeNumber 0 999 (muX1_readUnit_1 rF rM rP p2 μ)) (muX1_readUnit_13 rF rM rP p2 μ)) = 0 then 0 else 1)))
def M_X1_readUnit (rF : Int32 → Mem → Int32) (rM : Int32 → Mem → Mem) (rP : Int32 → Mem → Prop) (p2 : Int32) (μ : Mem) : Mem := (if (F_X8_isDigit (F_X8_peek  μ) (muX1_readUnit_1 rF rM rP p2 μ)) = 0 then (if (F_X8_peek  μ) ≠ 40 then (if (F_X8_takeWord  (muX1_readUnit_1 rF rM rP p2 μ)) ≠ 0 then (if (F_X1_codeOf  (muX1_readUnit_2 rF rM rP p2 μ)) = 12 then (if (F_X1_readPair rF rM rP p2 (muX1_readUnit_2 rF rM rP p2 μ)) = 0 then (muX1_readUnit_3 rF rM rP p2 μ) else (muX1_readUnit_4 rF rM rP p2 μ)) else (if (F_X1_codeOf  (muX1_readUnit_2 rF rM rP p2 μ)) ≠ 13 then (if (F_X1_codeOf  (muX1_readUnit_2 rF rM rP p2 μ)) ≠ (-1) then (muX1_readUnit_5 rF rM rP p2 μ) else (muX1_readUnit_6 rF rM rP p2 μ)) else (if (F_X1_readPair rF rM rP p2 (muX1_readUnit_2 rF rM rP p2 μ)) = 0 then (muX1_readUnit_7 rF rM rP p2 μ) else (muX1_readUnit_8 rF rM rP p2 μ)))) else (muX1_readUnit_2 rF rM rP p2 μ)) else (if p2 < 6 then (if (rF (p2 + 1) (muX1_readUnit_9 rF rM rP p2 μ)) = 0 then (muX1_readUnit_10 rF rM rP p2 μ) else (muX1_readUnit_11 rF rM rP p2 μ)) else (muX1_readUnit_12 rF rM rP p2 μ))) else (if (F_X8_takeNumber 0 999 (muX1_readUnit_1 rF rM rP p2 μ)) = (-1) then (muX1_readUnit_13 rF rM rP p2 μ) else (muX1_readUnit_14 rF rM rP p2 μ)))
def P_X1_readUnit (rF : Int32 → Mem → Int32) (rM : Int32 → Mem → Mem) (rP : Int32 → Mem → Prop) (p2 : Int32) (μ : Mem) : Prop := ((P_X8_peek  μ) ∧ (((F_X8_isDigit (F_X8_peek  μ) (muX1_readUnit_1 rF rM rP p2 μ)) = 0 → (((F_X8_peek  μ) ≠ 40 → ((P_X8_takeWord  (muX1_readUnit_1 rF rM rP p2 μ)) ∧ (((F_X8_takeWord  (muX1_readUnit_1 rF rM rP p2 μ)) ≠ 0 → ((P_X1_codeOf  (muX1_readUnit_2 rF rM rP p2 μ)) ∧ (((F_X1_codeOf  (muX1_readUnit_2 rF rM rP p2 μ)) = 12 → (P_X1_readPair rF rM rP p2 (muX1_readUnit_2 rF rM rP p2 μ))) ∧ (¬ (F_X1_codeOf  (muX1_readUnit_2 rF rM rP p2 μ)) = 12 → (((F_X1_codeOf  (muX1_readUnit_2 rF rM rP p2 μ)) ≠ 13 → True) ∧ ((F_X1_codeOf  (muX1_readUnit_2 rF rM rP p2 μ)) = 13 → (P_X1_readPair rF rM rP p2 (muX1_readUnit_2 rF rM rP p2 μ)))))))) ∧ ((F_X8_takeWord  (muX1_readUnit_1 rF rM rP p2 μ)) = 0 → True)))) ∧ ((F_X8_peek  μ) = 40 → ((p2 < 6 → ((rP (p2 + 1) (muX1_readUnit_9 rF rM rP p2 μ)) ∧ (((rF (p2 + 1) (muX1_readUnit_9 rF rM rP p2 μ)) = 0 → True) ∧ (¬ (rF (p2 + 1) (muX1_readUnit_9 rF rM rP p2 μ)) = 0 → (P_X8_takeSign 41 (muX1_readUnit_10 rF rM rP p2 μ)))))) ∧ (6 ≤ p2 → True))))) ∧ (¬ (F_X8_isDigit (F_X8_peek  μ) (muX1_readUnit_1 rF rM rP p2 μ)) = 0 → (P_X8_takeNumber 0 999 (muX1_readUnit_1 rF rM rP p2 μ)))))
theorem bo_X1_readUnit (rF : Int32 → Mem → Int32) (rM : Int32 → Mem → Mem) (rP : Int32 → Mem → Prop) (p2 : Int32) (hrb : ∀ (x0 : Int32) (ν : Mem), rF x0 ν = 0 ∨ rF x0 ν = 1) (μ : Mem) : F_X1_readUnit rF rM rP p2 μ = 0 ∨ F_X1_readUnit rF rM rP p2 μ = 1 := by
  unfold F_X1_readUnit
  split
  · split
    · split
      · split
        · split
          · exact Or.inl rfl
          · split
            · exact Or.inl rfl
            · exact Or.inr rfl
        · split
          · split
            · exact (bo_X1_add 26 (F_X1_codeOf  (muX1_readUnit_2 rF rM rP p2 μ)) (muX1_readUnit_2 rF rM rP p2 μ))
            · exact (bo_X8_failToken 1 (muX1_readUnit_2 rF rM rP p2 μ))
          · split
            · exact Or.inl rfl
            · split
              · exact Or.inl rfl
              · exact Or.inr rfl
      · exact Or.inl rfl
    · split
      · split
        · exact Or.inl rfl
        · split
          · exact Or.inl rfl
          · exact Or.inr rfl
      · exact (bo_X8_failHere 3 (muX1_readUnit_1 rF rM rP p2 μ))
  · split
    · exact Or.inl rfl
    · split
      · exact Or.inl rfl
      · exact Or.inr rfl
set_option maxRecDepth 20000 in
set_option maxHeartbeats 2000000 in
theorem ok_X1_readUnit {G : SG} (hG : GK 57 G) {e : Nat} (he : 40 ≤ e) (rF : Int32 → Mem → Int32) (rM : Int32 → Mem → Mem) (rP : Int32 → Mem → Prop) (hrec : ∀ (x0 : Int32) (ν : Mem), rP x0 ν → OkF G (mX1_readSum e) [.ref (ga G 26), .ref (ga G 1), .int x0] ν (some (.int (rF x0 ν))) (rM x0 ν)) (hrb : ∀ (x0 : Int32) (ν : Mem), rF x0 ν = 0 ∨ rF x0 ν = 1) (p2 : Int32) (μ : Mem) (hP : P_X1_readUnit rF rM rP p2 μ) : OkF G (mX1_readUnit (e + 2)) [.ref (ga G 26), .ref (ga G 1), .int p2] μ (some (.int (F_X1_readUnit rF rM rP p2 μ))) (M_X1_readUnit rF rM rP p2 μ) := by
  refine okF_of hG rfl rfl (Nat.le_of_ble_eq_true rfl) ?_
  unfold P_X1_readUnit at hP
  refine r_aload_n dX1_readUnit_0 1 rfl ?_
  have hs1 := hP.1
  replace hP := hP.2
  refine r_cvI (ok_X8_peek hG  μ hs1) lX1_59 (hG.lt (by decide)) sh1 ⟨_, _, rfl⟩ dX1_readUnit_1 (dle (by decide) he) (Nat.le_of_ble_eq_true rfl) rfl (Nat.le_of_ble_eq_true rfl) ?_
  refine r_mu (muX1_readUnit_1 rF rM rP p2 μ) rfl ?_
  refine r_istore_n [(3, _), (0, _), (1, _), (2, _)] dX1_readUnit_4 (Nat.le_of_ble_eq_true rfl) rfl ?_
  refine r_iload_n dX1_readUnit_5 0 rfl ?_
  refine r_csI (ok_X8_isDigit hG (F_X8_peek  μ) (muX1_readUnit_1 rF rM rP p2 μ)) lX1_69 dX1_readUnit_6 (dle (by decide) he) (Nat.le_of_ble_eq_true rfl) rfl (Nat.le_of_ble_eq_true rfl) ?_
  refine r_if_eq 43 dX1_readUnit_9 (by decide) (fun c1 => ?_) (fun c1 => ?_)
  · replace hP := hP.1 c1
    refine r_iload_n dX1_readUnit_43 0 rfl ?_
    refine r_bipush 40 dX1_readUnit_44 rfl ?_
    refine r_icmp_ne 91 dX1_readUnit_46 (by decide) (fun c2 => ?_) (fun c2 => ?_)
    · replace hP := hP.1 c2
      refine r_aload_n dX1_readUnit_91 2 rfl ?_
      have hs2 := hP.1
      replace hP := hP.2
      refine r_cvI (ok_X8_takeWord hG  (muX1_readUnit_1 rF rM rP p2 μ) hs2) lX1_79 (hG.lt (by decide)) sh1 ⟨_, _, rfl⟩ dX1_readUnit_92 (dle (by decide) he) (Nat.le_of_ble_eq_true rfl) rfl (Nat.le_of_ble_eq_true rfl) ?_
      refine r_mu (muX1_readUnit_2 rF rM rP p2 μ) rfl ?_
      refine r_if_ne 100 dX1_readUnit_95 (by decide) (fun c3 => ?_) (fun c3 => ?_)
      · replace hP := hP.1 c3
        refine r_aload_n dX1_readUnit_100 2 rfl ?_
        have hs3 := hP.1
        replace hP := hP.2
        refine r_csI (ok_X1_codeOf hG  (muX1_readUnit_2 rF rM rP p2 μ) hs3) lX1_82 dX1_readUnit_101 (dle (by decide) he) (Nat.le_of_ble_eq_true rfl) rfl (Nat.le_of_ble_eq_true rfl) ?_
        refine r_istore [(4, _), (3, _), (0, _), (1, _), (2, _)] dX1_readUnit_104 (Nat.le_of_ble_eq_true rfl) rfl ?_
        refine r_iload dX1_readUnit_106 0 rfl ?_
        refine r_bipush 12 dX1_readUnit_108 rfl ?_
        refine r_icmp_eq 120 dX1_readUnit_110 (by decide) (fun c4 => ?_) (fun c4 => ?_)
        · replace hP := hP.1 c4
          refine r_aload_n dX1_readUnit_120 2 rfl ?_
          refine r_aload_n dX1_readUnit_121 3 rfl ?_
          refine r_iload_n dX1_readUnit_122 4 rfl ?_
          have hs4 := hP
          refine r_cvI (ok_X1_readPair hG he rF rM rP hrec hrb p2 (muX1_readUnit_2 rF rM rP p2 μ) hs4) (lX1_86 _) (hG.lt (by decide)) sh26 ⟨_, _, rfl⟩ dX1_readUnit_123 (dpe (a := 1) (b := 2) (by decide)) (Nat.le_of_ble_eq_true rfl) rfl (Nat.le_of_ble_eq_true rfl) ?_
          refine r_mu (muX1_readUnit_3 rF rM rP p2 μ) rfl ?_
          refine r_if_eq 142 dX1_readUnit_126 (by decide) (fun c5 => ?_) (fun c5 => ?_)
          · refine r_iconst 0 dX1_readUnit_142 rfl ?_
            exact r_ireturn _ dX1_readUnit_143 rfl rfl ⟨congrArg (fun z => some (Value.int z)) (by unfold F_X1_readUnit; rw [if_pos c1, if_pos c2, if_pos c3, if_pos c4, if_pos c5]), by unfold M_X1_readUnit; rw [if_pos c1, if_pos c2, if_pos c3, if_pos c4, if_pos c5]⟩
          · refine r_aload_n dX1_readUnit_129 2 rfl ?_
            refine r_iload dX1_readUnit_130 0 rfl ?_
            refine r_cvI (ok_X1_add hG (IsLw.of26) (F_X1_codeOf  (muX1_readUnit_2 rF rM rP p2 μ)) (muX1_readUnit_3 rF rM rP p2 μ)) lX1_32 (hG.lt (by decide)) sh26 ⟨_, _, rfl⟩ dX1_readUnit_132 (dle (by decide) he) (Nat.le_of_ble_eq_true rfl) rfl (Nat.le_of_ble_eq_true rfl) ?_
            refine r_mu (muX1_readUnit_4 rF rM rP p2 μ) rfl ?_
            refine r_if_eq 142 dX1_readUnit_135 (by decide) (fun c6 => ?_) (fun c6 => ?_)
            · refine r_iconst 0 dX1_readUnit_142 rfl ?_
              exact r_ireturn _ dX1_readUnit_143 rfl rfl ⟨congrArg (fun z => some (Value.int z)) (by unfold F_X1_readUnit; rw [if_pos c1, if_pos c2, if_pos c3, if_pos c4, if_neg c5, if_pos c6]), by unfold M_X1_readUnit; rw [if_pos c1, if_pos c2, if_pos c3, if_pos c4, if_neg c5]⟩
            · refine r_iconst 1 dX1_readUnit_138 rfl ?_
              refine r_goto 143 dX1_readUnit_139 (by decide) ?_
              exact r_ireturn _ dX1_readUnit_143 rfl rfl ⟨congrArg (fun z => some (Value.int z)) (by unfold F_X1_readUnit; rw [if_pos c1, if_pos c2, if_pos c3, if_pos c4, if_neg c5, if_neg c6]), by unfold M_X1_readUnit; rw [if_pos c1, if_pos c2, if_pos c3, if_pos c4, if_neg c5]⟩
        · replace hP := hP.2 c4
          refine r_iload dX1_readUnit_113 0 rfl ?_
          refine r_bipush 13 dX1_readUnit_115 rfl ?_
          refine r_icmp_ne 144 dX1_readUnit_117 (by decide) (fun c5 => ?_) (fun c5 => ?_)
          · replace hP := hP.1 c5
            refine r_iload dX1_readUnit_144 0 rfl ?_
            refine r_iconst (-1) dX1_readUnit_146 rfl ?_
            refine r_icmp_ne 158 dX1_readUnit_147 (by decide) (fun c6 => ?_) (fun c6 => ?_)
            · refine r_aload_n dX1_readUnit_158 2 rfl ?_
              refine r_iload dX1_readUnit_159 0 rfl ?_
              refine r_cvI (ok_X1_add hG (IsLw.of26) (F_X1_codeOf  (muX1_readUnit_2 rF rM rP p2 μ)) (muX1_readUnit_2 rF rM rP p2 μ)) lX1_32 (hG.lt (by decide)) sh26 ⟨_, _, rfl⟩ dX1_readUnit_161 (dle (by decide) he) (Nat.le_of_ble_eq_true rfl) rfl (Nat.le_of_ble_eq_true rfl) ?_
              refine r_mu (muX1_readUnit_5 rF rM rP p2 μ) rfl ?_
              exact r_ireturn _ dX1_readUnit_164 rfl (nb01 ((bo_X1_add 26 (F_X1_codeOf  (muX1_readUnit_2 rF rM rP p2 μ)) (muX1_readUnit_2 rF rM rP p2 μ)))) ⟨congrArg (fun z => some (Value.int z)) (by unfold F_X1_readUnit; rw [if_pos c1, if_pos c2, if_pos c3, if_neg c4, if_pos c5, if_pos c6]), by unfold M_X1_readUnit; rw [if_pos c1, if_pos c2, if_pos c3, if_neg c4, if_pos c5, if_pos c6]⟩
            · refine r_aload_n dX1_readUnit_150 3 rfl ?_
              refine r_iconst 1 dX1_readUnit_151 rfl ?_
              refine r_cvI (ok_X8_failToken hG 1 (muX1_readUnit_2 rF rM rP p2 μ)) lX1_89 (hG.lt (by decide)) sh1 ⟨_, _, rfl⟩ dX1_readUnit_152 (dle (by decide) he) (Nat.le_of_ble_eq_true rfl) rfl (Nat.le_of_ble_eq_true rfl) ?_
              refine r_mu (muX1_readUnit_6 rF rM rP p2 μ) rfl ?_
              refine r_goto 164 dX1_readUnit_155 (by decide) ?_
              exact r_ireturn _ dX1_readUnit_164 rfl (nb01 ((bo_X8_failToken 1 (muX1_readUnit_2 rF rM rP p2 μ)))) ⟨congrArg (fun z => some (Value.int z)) (by unfold F_X1_readUnit; rw [if_pos c1, if_pos c2, if_pos c3, if_neg c4, if_pos c5, if_neg (not_not_intro c6)]), by unfold M_X1_readUnit; rw [if_pos c1, if_pos c2, if_pos c3, if_neg c4, if_pos c5, if_neg (not_not_intro c6)]⟩
          · replace hP := hP.2 c5
            refine r_aload_n dX1_readUnit_120 2 rfl ?_
            refine r_aload_n dX1_readUnit_121 3 rfl ?_
            refine r_iload_n dX1_readUnit_122 4 rfl ?_
            have hs5 := hP
            refine r_cvI (ok_X1_readPair hG he rF rM rP hrec hrb p2 (muX1_readUnit_2 rF rM rP p2 μ) hs5) (lX1_86 _) (hG.lt (by decide)) sh26 ⟨_, _, rfl⟩ dX1_readUnit_123 (dpe (a := 1) (b := 2) (by decide)) (Nat.le_of_ble_eq_true rfl) rfl (Nat.le_of_ble_eq_true rfl) ?_
            refine r_mu (muX1_readUnit_7 rF rM rP p2 μ) rfl ?_
            refine r_if_eq 142 dX1_readUnit_126 (by decide) (fun c6 => ?_) (fun c6 => ?_)
            · refine r_iconst 0 dX1_readUnit_142 rfl ?_
              exact r_ireturn _ dX1_readUnit_143 rfl rfl ⟨congrArg (fun z => some (Value.int z)) (by unfold F_X1_readUnit; rw [if_pos c1, if_pos c2, if_pos c3, if_neg c4, if_neg (not_not_intro c5), if_pos c6]), by unfold M_X1_readUnit; rw [if_pos c1, if_pos c2, if_pos c3, if_neg c4, if_neg (not_not_intro c5), if_pos c6]⟩
            · refine r_aload_n dX1_readUnit_129 2 rfl ?_
              refine r_iload dX1_readUnit_130 0 rfl ?_
              refine r_cvI (ok_X1_add hG (IsLw.of26) (F_X1_codeOf  (muX1_readUnit_2 rF rM rP p2 μ)) (muX1_readUnit_7 rF rM rP p2 μ)) lX1_32 (hG.lt (by decide)) sh26 ⟨_, _, rfl⟩ dX1_readUnit_132 (dle (by decide) he) (Nat.le_of_ble_eq_true rfl) rfl (Nat.le_of_ble_eq_true rfl) ?_
              refine r_mu (muX1_readUnit_8 rF rM rP p2 μ) rfl ?_
              refine r_if_eq 142 dX1_readUnit_135 (by decide) (fun c7 => ?_) (fun c7 => ?_)
              · refine r_iconst 0 dX1_readUnit_142 rfl ?_
                exact r_ireturn _ dX1_readUnit_143 rfl rfl ⟨congrArg (fun z => some (Value.int z)) (by unfold F_X1_readUnit; rw [if_pos c1, if_pos c2, if_pos c3, if_neg c4, if_neg (not_not_intro c5), if_neg c6, if_pos c7]), by unfold M_X1_readUnit; rw [if_pos c1, if_pos c2, if_pos c3, if_neg c4, if_neg (not_not_intro c5), if_neg c6]⟩
              · refine r_iconst 1 dX1_readUnit_138 rfl ?_
                refine r_goto 143 dX1_readUnit_139 (by decide) ?_
                exact r_ireturn _ dX1_readUnit_143 rfl rfl ⟨congrArg (fun z => some (Value.int z)) (by unfold F_X1_readUnit; rw [if_pos c1, if_pos c2, if_pos c3, if_neg c4, if_neg (not_not_intro c5), if_neg c6, if_neg c7]), by unfold M_X1_readUnit; rw [if_pos c1, if_pos c2, if_pos c3, if_neg c4, if_neg (not_not_intro c5), if_neg c6]⟩
      · replace hP := hP.2 c3
        refine r_iconst 0 dX1_readUnit_98 rfl ?_
        exact r_ireturn _ dX1_readUnit_99 rfl rfl ⟨congrArg (fun z => some (Value.int z)) (by unfold F_X1_readUnit; rw [if_pos c1, if_pos c2, if_neg (not_not_intro c3)]), by unfold M_X1_readUnit; rw [if_pos c1, if_pos c2, if_neg (not_not_intro c3)]⟩
    · replace hP := hP.2 c2
      refine r_iload_n dX1_readUnit_49 3 rfl ?_
      refine r_bipush 6 dX1_readUnit_50 rfl ?_
      refine r_icmp_lt 61 dX1_readUnit_52 (by decide) (fun c3 => ?_) (fun c3 => ?_)
      · replace hP := hP.1 c3
        refine r_aload_n dX1_readUnit_61 2 rfl ?_
        refine r_cvV (ok_X8_skipSign hG  (muX1_readUnit_1 rF rM rP p2 μ)) lX1_63 (hG.lt (by decide)) sh1 ⟨_, _, rfl⟩ dX1_readUnit_62 (dle (by decide) he) (Nat.le_of_ble_eq_true rfl) rfl (Nat.le_of_ble_eq_true rfl) ?_
        refine r_mu (muX1_readUnit_9 rF rM rP p2 μ) rfl ?_
        refine r_aload_n dX1_readUnit_65 1 rfl ?_
        refine r_aload_n dX1_readUnit_66 2 rfl ?_
        refine r_iload_n dX1_readUnit_67 3 rfl ?_
        refine r_iconst 1 dX1_readUnit_68 rfl ?_
        refine r_iadd dX1_readUnit_69 ?_
        have hs6 := hP.1
        replace hP := hP.2
        refine r_cvI (hrec (p2 + 1) (muX1_readUnit_9 rF rM rP p2 μ) hs6) (lX1_43 _) (hG.lt (by decide)) sh26 ⟨_, _, rfl⟩ dX1_readUnit_70 (dpe (a := 0) (b := 2) (by decide)) (Nat.le_of_ble_eq_true rfl) rfl (Nat.le_of_ble_eq_true rfl) ?_
        refine r_mu (muX1_readUnit_10 rF rM rP p2 μ) rfl ?_
        refine r_if_eq 89 dX1_readUnit_73 (by decide) (fun c4 => ?_) (fun c4 => ?_)
        · replace hP := hP.1 c4
          refine r_iconst 0 dX1_readUnit_89 rfl ?_
          exact r_ireturn _ dX1_readUnit_90 rfl rfl ⟨congrArg (fun z => some (Value.int z)) (by unfold F_X1_readUnit; rw [if_pos c1, if_neg (not_not_intro c2), if_pos c3, if_pos c4]), by unfold M_X1_readUnit; rw [if_pos c1, if_neg (not_not_intro c2), if_pos c3, if_pos c4]⟩
        · replace hP := hP.2 c4
          refine r_aload_n dX1_readUnit_76 2 rfl ?_
          refine r_bipush 41 dX1_readUnit_77 rfl ?_
          have hs7 := hP
          refine r_cvI (ok_X8_takeSign hG 41 (muX1_readUnit_10 rF rM rP p2 μ) hs7) lX1_76 (hG.lt (by decide)) sh1 ⟨_, _, rfl⟩ dX1_readUnit_79 (dle (by decide) he) (Nat.le_of_ble_eq_true rfl) rfl (Nat.le_of_ble_eq_true rfl) ?_
          refine r_mu (muX1_readUnit_11 rF rM rP p2 μ) rfl ?_
          refine r_if_eq 89 dX1_readUnit_82 (by decide) (fun c5 => ?_) (fun c5 => ?_)
          · refine r_iconst 0 dX1_readUnit_89 rfl ?_
            exact r_ireturn _ dX1_readUnit_90 rfl rfl ⟨congrArg (fun z => some (Value.int z)) (by unfold F_X1_readUnit; rw [if_pos c1, if_neg (not_not_intro c2), if_pos c3, if_neg c4, if_pos c5]), by unfold M_X1_readUnit; rw [if_pos c1, if_neg (not_not_intro c2), if_pos c3, if_neg c4]⟩
          · refine r_iconst 1 dX1_readUnit_85 rfl ?_
            refine r_goto 90 dX1_readUnit_86 (by decide) ?_
            exact r_ireturn _ dX1_readUnit_90 rfl rfl ⟨congrArg (fun z => some (Value.int z)) (by unfold F_X1_readUnit; rw [if_pos c1, if_neg (not_not_intro c2), if_pos c3, if_neg c4, if_neg c5]), by unfold M_X1_readUnit; rw [if_pos c1, if_neg (not_not_intro c2), if_pos c3, if_neg c4]⟩
      · replace hP := hP.2 c3
        refine r_aload_n dX1_readUnit_55 2 rfl ?_
        refine r_iconst 3 dX1_readUnit_56 rfl ?_
        refine r_cvI (ok_X8_failHere hG 3 (muX1_readUnit_1 rF rM rP p2 μ)) lX1_53 (hG.lt (by decide)) sh1 ⟨_, _, rfl⟩ dX1_readUnit_57 (dle (by decide) he) (Nat.le_of_ble_eq_true rfl) rfl (Nat.le_of_ble_eq_true rfl) ?_
        refine r_mu (muX1_readUnit_12 rF rM rP p2 μ) rfl ?_
        exact r_ireturn _ dX1_readUnit_60 rfl (nb01 ((bo_X8_failHere 3 (muX1_readUnit_1 rF rM rP p2 μ)))) ⟨congrArg (fun z => some (Value.int z)) (by unfold F_X1_readUnit; rw [if_pos c1, if_neg (not_not_intro c2), if_neg (i32_nl c3)]), by unfold M_X1_readUnit; rw [if_pos c1, if_neg (not_not_intro c2), if_neg (i32_nl c3)]⟩
  · replace hP := hP.2 c1
    refine r_aload_n dX1_readUnit_12 2 rfl ?_
    refine r_iconst 0 dX1_readUnit_13 rfl ?_
    refine r_sipush 999 dX1_readUnit_14 rfl ?_
    have hs8 := hP
    refine r_cvI (ok_X8_takeNumber hG 0 999 (muX1_readUnit_1 rF rM rP p2 μ) hs8) lX1_72 (hG.lt (by decide)) sh1 ⟨_, _, rfl⟩ dX1_readUnit_17 (dle (by decide) he) (Nat.le_of_ble_eq_true rfl) rfl (Nat.le_of_ble_eq_true rfl) ?_
    refine r_mu (muX1_readUnit_13 rF rM rP p2 μ) rfl ?_
    refine r_istore [(4, _), (3, _), (0, _), (1, _), (2, _)] dX1_readUnit_20 (Nat.le_of_ble_eq_true rfl) rfl ?_
    refine r_iload dX1_readUnit_22 0 rfl ?_
    refine r_iconst (-1) dX1_readUnit_24 rfl ?_
    refine r_icmp_eq 41 dX1_readUnit_25 (by decide) (fun c2 => ?_) (fun c2 => ?_)
    · refine r_iconst 0 dX1_readUnit_41 rfl ?_
      exact r_ireturn _ dX1_readUnit_42 rfl rfl ⟨congrArg (fun z => some (Value.int z)) (by unfold F_X1_readUnit; rw [if_neg c1, if_pos c2]), by unfold M_X1_readUnit; rw [if_neg c1, if_pos c2]⟩
    · refine r_aload_n dX1_readUnit_28 2 rfl ?_
      refine r_iload dX1_readUnit_29 0 rfl ?_
      refine r_cvI (ok_X1_addConstant hG (IsLw.of26) (F_X8_takeNumber 0 999 (muX1_readUnit_1 rF rM rP p2 μ)) (muX1_readUnit_13 rF rM rP p2 μ)) lX1_36 (hG.lt (by decide)) sh26 ⟨_, _, rfl⟩ dX1_readUnit_31 (dle (by decide) he) (Nat.le_of_ble_eq_true rfl) rfl (Nat.le_of_ble_eq_true rfl) ?_
      refine r_mu (muX1_readUnit_14 rF rM rP p2 μ) rfl ?_
      refine r_if_eq 41 dX1_readUnit_34 (by decide) (fun c3 => ?_) (fun c3 => ?_)
      · refine r_iconst 0 dX1_readUnit_41 rfl ?_
        exact r_ireturn _ dX1_readUnit_42 rfl rfl ⟨congrArg (fun z => some (Value.int z)) (by unfold F_X1_readUnit; rw [if_neg c1, if_neg c2, if_pos c3]), by unfold M_X1_readUnit; rw [if_neg c1, if_neg c2]⟩
      · refine r_iconst 1 dX1_readUnit_37 rfl ?_
        refine r_goto 42 dX1_readUnit_38 (by decide) ?_
        exact r_ireturn _ dX1_readUnit_42 rfl rfl ⟨congrArg (fun z => some (Value.int z)) (by unfold F_X1_readUnit; rw [if_neg c1, if_neg c2, if_neg c3]), by unfold M_X1_readUnit; rw [if_neg c1, if_neg c2]⟩
def muX1_readProduct_1 (rF : Int32 → Mem → Int32) (rM : Int32 → Mem → Mem) (rP : Int32 → Mem → Prop) (p2 : Int32) (μ : Mem) : Mem := (M_X1_readUnit rF rM rP p2 μ)
def muX1_readProduct_13_1 (rF : Int32 → Mem → Int32) (rM : Int32 → Mem → Mem) (rP : Int32 → Mem → Prop) (v2 : Int32) (i : Nat) (s : Mem) : Mem := (M_X8_peek  s)
def muX1_readProduct_13_2 (rF : Int32 → Mem → Int32) (rM : Int32 → Mem → Mem) (rP : Int32 → Mem → Prop) (v2 : Int32) (i : Nat) (s : Mem) : Mem := (M_X8_skipSign  (muX1_readProduct_13_1 rF rM rP v2 i s))
def muX1_readProduct_13_3 (rF : Int32 → Mem → Int32) (rM : Int32 → Mem → Mem) (rP : Int32 → Mem → Prop) (v2 : Int32) (i : Nat) (s : Mem) : Mem := (M_X1_readUnit rF rM rP v2 (muX1_readProduct_13_2 rF rM rP v2 i s))
def VX1_readProduct_13_4 (rF : Int32 → Mem → Int32) (rM : Int32 → Mem → Mem) (rP : Int32 → Mem → Prop) (v2 : Int32) (i : Nat) (s : Mem) : Int32 := (if (F_X8_peek  s) ≠ 42 then 11 else 10)
def muX1_readProduct_13_5 (rF : Int32 → Mem → Int32) (rM : Int32 → Mem → Mem) (rP : Int32 → Mem → Prop) (v2 : Int32) (i : Nat) (s : Mem) : Mem := (M_X1_add 26 (VX1_readProduct_13_4 rF rM rP v2 i s) (muX1_readProduct_13_3 rF rM rP v2 i s))
def muX1_readProduct_13_6 (rF : Int32 → Mem → Int32) (rM : Int32 → Mem → Mem) (rP : Int32 → Mem → Prop) (v2 : Int32) (i : Nat) (s : Mem) : Mem := (M_X8_skipSign  (muX1_readProduct_13_1 rF rM rP v2 i s))
def muX1_readProduct_13_7 (rF : Int32 → Mem → Int32) (rM : Int32 → Mem → Mem) (rP : Int32 → Mem → Prop) (v2 : Int32) (i : Nat) (s : Mem) : Mem := (M_X1_readUnit rF rM rP v2 (muX1_readProduct_13_6 rF rM rP v2 i s))
def VX1_readProduct_13_8 (rF : Int32 → Mem → Int32) (rM : Int32 → Mem → Mem) (rP : Int32 → Mem → Prop) (v2 : Int32) (i : Nat) (s : Mem) : Int32 := (if (F_X8_peek  s) ≠ 42 then 11 else 10)
def muX1_readProduct_13_9 (rF : Int32 → Mem → Int32) (rM : Int32 → Mem → Mem) (rP : Int32 → Mem → Prop) (v2 : Int32) (i : Nat) (s : Mem) : Mem := (M_X1_add 26 (VX1_readProduct_13_8 rF rM rP v2 i s) (muX1_readProduct_13_7 rF rM rP v2 i s))
def g_X1_readProduct_13 (rF : Int32 → Mem → Int32) (rM : Int32 → Mem → Mem) (rP : Int32 → Mem → Prop) (v2 : Int32) (i : Nat) (s : Mem) : Mem := (if (F_X8_peek  s) = 42 then (muX1_readProduct_13_5 rF rM rP v2 i s) else (muX1_readProduct_13_9 rF rM rP v2 i s))
def Pb_X1_readProduct_13 (rF : Int32 → Mem → Int32) (rM : Int32 → Mem → Mem) (rP : Int32 → Mem → Prop) (v2 : Int32) (i : Nat) (s : Mem) : Prop := ((150 ≤ (nI i) → False) ∧ ((nI i) < 150 → (P_X8_peek  s) ∧ (((F_X8_peek  s) = 42 → (P_X1_readUnit rF rM rP v2 (muX1_readProduct_13_2 rF rM rP v2 i s)) ∧ (((F_X1_readUnit rF rM rP v2 (muX1_readProduct_13_2 rF rM rP v2 i s)) ≠ 0 → True) ∧ ((F_X1_readUnit rF rM rP v2 (muX1_readProduct_13_2 rF rM rP v2 i s)) = 0 → False))) ∧ (¬ (F_X8_peek  s) = 42 → (((F_X8_peek  s) = 47 → (P_X1_readUnit rF rM rP v2 (muX1_readProduct_13_6 rF rM rP v2 i s)) ∧ (((F_X1_readUnit rF rM rP v2 (muX1_readProduct_13_6 rF rM rP v2 i s)) ≠ 0 → True) ∧ ((F_X1_readUnit rF rM rP v2 (muX1_readProduct_13_6 rF rM rP v2 i s)) = 0 → False))) ∧ (¬ (F_X8_peek  s) = 47 → False))))))
def Cb_X1_readProduct_13 (rF : Int32 → Mem → Int32) (rM : Int32 → Mem → Mem) (rP : Int32 → Mem → Prop) (v2 : Int32) (i : Nat) (s : Mem) : Bool := (if 150 ≤ (nI i) then false else (if (F_X8_peek  s) = 42 then (if (F_X1_readUnit rF rM rP v2 (muX1_readProduct_13_2 rF rM rP v2 i s)) ≠ 0 then true else false) else (if (F_X8_peek  s) = 47 then (if (F_X1_readUnit rF rM rP v2 (muX1_readProduct_13_6 rF rM rP v2 i s)) ≠ 0 then true else false) else false)))
set_option maxRecDepth 20000 in
set_option maxHeartbeats 2000000 in
theorem lp_X1_readProduct_13 {G : SG} (hG : GK 57 G) {e : Nat} (he : 40 ≤ e) (rF : Int32 → Mem → Int32) (rM : Int32 → Mem → Mem) (rP : Int32 → Mem → Prop) (hrec : ∀ (x0 : Int32) (ν : Mem), rP x0 ν → OkF G (mX1_readSum e) [.ref (ga G 26), .ref (ga G 1), .int x0] ν (some (.int (rF x0 ν))) (rM x0 ν)) (hrb : ∀ (x0 : Int32) (ν : Mem), rF x0 ν = 0 ∨ rF x0 ν = 1) (v2 : Int32) (s0 : Mem) (N : Nat) (sN : Mem) (eN : sN = fo N (g_X1_readProduct_13 rF rM rP v2) s0) (hN : ∀ i, i < N → Pb_X1_readProduct_13 rF rM rP v2 i (fo i (g_X1_readProduct_13 rF rM rP v2) s0)) {t : Nat} {Q : PQ} {X : PX} (h : R G (mX1_readProduct (e + 3)) 13 [(0, .ref (ga G 26)), (1, .ref (ga G 1)), (2, .int v2), (3, .int (nI N))] [] sN t Q X) : R G (mX1_readProduct (e + 3)) 13 [(0, .ref (ga G 26)), (1, .ref (ga G 1)), (2, .int v2), (3, .int 0)] [] s0 t Q X := by
  subst eN
  refine down_i N (fun i => R G (mX1_readProduct (e + 3)) 13 [(0, .ref (ga G 26)), (1, .ref (ga G 1)), (2, .int v2), (3, .int (nI i))] [] (fo i (g_X1_readProduct_13 rF rM rP v2) s0) t Q X) h (fun i hi hS => ?_)
  have hP := hN i hi
  rw [fo_succ] at hS
  rw [nI_succ] at hS
  generalize fo i (g_X1_readProduct_13 rF rM rP v2) s0 = s at hS hP ⊢
  unfold Pb_X1_readProduct_13 at hP
  refine r_iload_n dX1_readProduct_13 3 rfl ?_
  refine r_sipush 150 dX1_readProduct_14 rfl ?_
  refine r_icmp_ge 82 dX1_readProduct_17 (by decide) (fun c1 => ?_) (fun c1 => ?_)
  · replace hP := hP.1 c1
    exact hP.elim
  · replace hP := hP.2 c1
    refine r_aload_n dX1_readProduct_20 1 rfl ?_
    have hs1 := hP.1
    replace hP := hP.2
    refine r_cvI (ok_X8_peek hG  s hs1) lX1_59 (hG.lt (by decide)) sh1 ⟨_, _, rfl⟩ dX1_readProduct_21 (dle (by decide) he) (Nat.le_of_ble_eq_true rfl) rfl (Nat.le_of_ble_eq_true rfl) ?_
    refine r_mu (muX1_readProduct_13_1 rF rM rP v2 i s) rfl ?_
    refine r_istore [(4, _), (0, _), (1, _), (2, _), (3, _)] dX1_readProduct_24 (Nat.le_of_ble_eq_true rfl) rfl ?_
    refine r_iload dX1_readProduct_26 0 rfl ?_
    refine r_bipush 42 dX1_readProduct_28 rfl ?_
    refine r_icmp_eq 42 dX1_readProduct_30 (by decide) (fun c2 => ?_) (fun c2 => ?_)
    · replace hP := hP.1 c2
      refine r_aload_n dX1_readProduct_42 2 rfl ?_
      refine r_cvV (ok_X8_skipSign hG  (muX1_readProduct_13_1 rF rM rP v2 i s)) lX1_63 (hG.lt (by decide)) sh1 ⟨_, _, rfl⟩ dX1_readProduct_43 (dle (by decide) he) (Nat.le_of_ble_eq_true rfl) rfl (Nat.le_of_ble_eq_true rfl) ?_
      refine r_mu (muX1_readProduct_13_2 rF rM rP v2 i s) rfl ?_
      refine r_aload_n dX1_readProduct_46 1 rfl ?_
      refine r_aload_n dX1_readProduct_47 2 rfl ?_
      refine r_iload_n dX1_readProduct_48 3 rfl ?_
      have hs2 := hP.1
      replace hP := hP.2
      refine r_cvI (ok_X1_readUnit hG he rF rM rP hrec hrb v2 (muX1_readProduct_13_2 rF rM rP v2 i s) hs2) (lX1_66 _) (hG.lt (by decide)) sh26 ⟨_, _, rfl⟩ dX1_readProduct_49 (dpe (a := 2) (b := 3) (by decide)) (Nat.le_of_ble_eq_true rfl) rfl (Nat.le_of_ble_eq_true rfl) ?_
      refine r_mu (muX1_readProduct_13_3 rF rM rP v2 i s) rfl ?_
      refine r_if_ne 57 dX1_readProduct_52 (by decide) (fun c3 => ?_) (fun c3 => ?_)
      · replace hP := hP.1 c3
        refine r_aload_n dX1_readProduct_57 1 rfl ?_
        refine r_iload dX1_readProduct_58 0 rfl ?_
        refine r_bipush 42 dX1_readProduct_60 rfl ?_
        refine r_join 72 [(4, .int (F_X8_peek  s)), (0, .ref (ga G 26)), (1, .ref (ga G 1)), (2, .int v2), (3, .int (nI i))] [.int (VX1_readProduct_13_4 rF rM rP v2 i s), .ref (ga G 26)] (muX1_readProduct_13_3 rF rM rP v2 i s) ?_ (fun hJ => ?_)
        · refine r_cvI (ok_X1_add hG (IsLw.of26) (VX1_readProduct_13_4 rF rM rP v2 i s) (muX1_readProduct_13_3 rF rM rP v2 i s)) lX1_32 (hG.lt (by decide)) sh26 ⟨_, _, rfl⟩ dX1_readProduct_72 (dle (by decide) he) (Nat.le_of_ble_eq_true rfl) rfl (Nat.le_of_ble_eq_true rfl) ?_
          refine r_mu (muX1_readProduct_13_5 rF rM rP v2 i s) rfl ?_
          refine r_pop dX1_readProduct_75 rfl ?_
          refine r_iinc ((nI i) + 1) [(3, _), (4, _), (0, _), (1, _), (2, _)] dX1_readProduct_76 4 rfl rfl (Nat.le_of_ble_eq_true rfl) rfl ?_
          refine r_goto 13 dX1_readProduct_79 (by decide) ?_
          have e : g_X1_readProduct_13 rF rM rP v2 i s = (muX1_readProduct_13_5 rF rM rP v2 i s) := by unfold g_X1_readProduct_13; rw [if_pos c2]
          rw [e] at hS
          exact r_sub [2, 3, 4, 0] rfl hS
        · refine r_icmp_ne 70 dX1_readProduct_62 (by decide) (fun c4 => ?_) (fun c4 => ?_)
          · refine r_bipush 11 dX1_readProduct_70 rfl ?_
            have e : (VX1_readProduct_13_4 rF rM rP v2 i s) = 11 := by unfold VX1_readProduct_13_4; rw [if_pos c4]
            rw [e] at hJ
            exact r_sub [0, 1, 2, 3, 4] rfl hJ
          · refine r_bipush 10 dX1_readProduct_65 rfl ?_
            refine r_goto 72 dX1_readProduct_67 (by decide) ?_
            have e : (VX1_readProduct_13_4 rF rM rP v2 i s) = 10 := by unfold VX1_readProduct_13_4; rw [if_neg (not_not_intro c4)]
            rw [e] at hJ
            exact r_sub [0, 1, 2, 3, 4] rfl hJ
      · replace hP := hP.2 c3
        refine r_iconst 0 dX1_readProduct_55 rfl ?_
        exact hP.elim
    · replace hP := hP.2 c2
      refine r_iload dX1_readProduct_33 0 rfl ?_
      refine r_bipush 47 dX1_readProduct_35 rfl ?_
      refine r_icmp_eq 42 dX1_readProduct_37 (by decide) (fun c3 => ?_) (fun c3 => ?_)
      · replace hP := hP.1 c3
        refine r_aload_n dX1_readProduct_42 2 rfl ?_
        refine r_cvV (ok_X8_skipSign hG  (muX1_readProduct_13_1 rF rM rP v2 i s)) lX1_63 (hG.lt (by decide)) sh1 ⟨_, _, rfl⟩ dX1_readProduct_43 (dle (by decide) he) (Nat.le_of_ble_eq_true rfl) rfl (Nat.le_of_ble_eq_true rfl) ?_
        refine r_mu (muX1_readProduct_13_6 rF rM rP v2 i s) rfl ?_
        refine r_aload_n dX1_readProduct_46 1 rfl ?_
        refine r_aload_n dX1_readProduct_47 2 rfl ?_
        refine r_iload_n dX1_readProduct_48 3 rfl ?_
        have hs3 := hP.1
        replace hP := hP.2
        refine r_cvI (ok_X1_readUnit hG he rF rM rP hrec hrb v2 (muX1_readProduct_13_6 rF rM rP v2 i s) hs3) (lX1_66 _) (hG.lt (by decide)) sh26 ⟨_, _, rfl⟩ dX1_readProduct_49 (dpe (a := 2) (b := 3) (by decide)) (Nat.le_of_ble_eq_true rfl) rfl (Nat.le_of_ble_eq_true rfl) ?_
        refine r_mu (muX1_readProduct_13_7 rF rM rP v2 i s) rfl ?_
        refine r_if_ne 57 dX1_readProduct_52 (by decide) (fun c4 => ?_) (fun c4 => ?_)
        · replace hP := hP.1 c4
          refine r_aload_n dX1_readProduct_57 1 rfl ?_
          refine r_iload dX1_readProduct_58 0 rfl ?_
          refine r_bipush 42 dX1_readProduct_60 rfl ?_
          refine r_join 72 [(4, .int (F_X8_peek  s)), (0, .ref (ga G 26)), (1, .ref (ga G 1)), (2, .int v2), (3, .int (nI i))] [.int (VX1_readProduct_13_8 rF rM rP v2 i s), .ref (ga G 26)] (muX1_readProduct_13_7 rF rM rP v2 i s) ?_ (fun hJ => ?_)
          · refine r_cvI (ok_X1_add hG (IsLw.of26) (VX1_readProduct_13_8 rF rM rP v2 i s) (muX1_readProduct_13_7 rF rM rP v2 i s)) lX1_32 (hG.lt (by decide)) sh26 ⟨_, _, rfl⟩ dX1_readProduct_72 (dle (by decide) he) (Nat.le_of_ble_eq_true rfl) rfl (Nat.le_of_ble_eq_true rfl) ?_
            refine r_mu (muX1_readProduct_13_9 rF rM rP v2 i s) rfl ?_
            refine r_pop dX1_readProduct_75 rfl ?_
            refine r_iinc ((nI i) + 1) [(3, _), (4, _), (0, _), (1, _), (2, _)] dX1_readProduct_76 4 rfl rfl (Nat.le_of_ble_eq_true rfl) rfl ?_
            refine r_goto 13 dX1_readProduct_79 (by decide) ?_
            have e : g_X1_readProduct_13 rF rM rP v2 i s = (muX1_readProduct_13_9 rF rM rP v2 i s) := by unfold g_X1_readProduct_13; rw [if_neg c2]
            rw [e] at hS
            exact r_sub [2, 3, 4, 0] rfl hS
          · refine r_icmp_ne 70 dX1_readProduct_62 (by decide) (fun c5 => ?_) (fun c5 => ?_)
            · refine r_bipush 11 dX1_readProduct_70 rfl ?_
              have e : (VX1_readProduct_13_8 rF rM rP v2 i s) = 11 := by unfold VX1_readProduct_13_8; rw [if_pos c5]
              rw [e] at hJ
              exact r_sub [0, 1, 2, 3, 4] rfl hJ
            · refine r_bipush 10 dX1_readProduct_65 rfl ?_
              refine r_goto 72 dX1_readProduct_67 (by decide) ?_
              have e : (VX1_readProduct_13_8 rF rM rP v2 i s) = 10 := by unfold VX1_readProduct_13_8; rw [if_neg (not_not_intro c5)]
              rw [e] at hJ
              exact r_sub [0, 1, 2, 3, 4] rfl hJ
        · replace hP := hP.2 c4
          refine r_iconst 0 dX1_readProduct_55 rfl ?_
          exact hP.elim
      · replace hP := hP.2 c3
        refine r_iconst 1 dX1_readProduct_40 rfl ?_
        exact hP.elim
def NX1_readProduct_13 (rF : Int32 → Mem → Int32) (rM : Int32 → Mem → Mem) (rP : Int32 → Mem → Prop) (p2 : Int32) (μ : Mem) : Nat := (fst 152 (fun j9 => !Cb_X1_readProduct_13 rF rM rP p2 j9 (fo j9 (g_X1_readProduct_13 rF rM rP p2) (muX1_readProduct_1 rF rM rP p2 μ))))
def SX1_readProduct_13 (rF : Int32 → Mem → Int32) (rM : Int32 → Mem → Mem) (rP : Int32 → Mem → Prop) (p2 : Int32) (μ : Mem) : Mem := fo (NX1_readProduct_13 rF rM rP p2 μ) (g_X1_readProduct_13 rF rM rP p2) (muX1_readProduct_1 rF rM rP p2 μ)
def muX1_readProduct_2 (rF : Int32 → Mem → Int32) (rM : Int32 → Mem → Mem) (rP : Int32 → Mem → Prop) (p2 : Int32) (μ : Mem) : Mem := (M_X8_peek  (SX1_readProduct_13 rF rM rP p2 μ))
def muX1_readProduct_3 (rF : Int32 → Mem → Int32) (rM : Int32 → Mem → Mem) (rP : Int32 → Mem → Prop) (p2 : Int32) (μ : Mem) : Mem := (M_X8_skipSign  (muX1_readProduct_2 rF rM rP p2 μ))
def muX1_readProduct_4 (rF : Int32 → Mem → Int32) (rM : Int32 → Mem → Mem) (rP : Int32 → Mem → Prop) (p2 : Int32) (μ : Mem) : Mem := (M_X1_readUnit rF rM rP p2 (muX1_readProduct_3 rF rM rP p2 μ))
def VX1_readProduct_5 (rF : Int32 → Mem → Int32) (rM : Int32 → Mem → Mem) (rP : Int32 → Mem → Prop) (p2 : Int32) (μ : Mem) : Int32 := (if (F_X8_peek  (SX1_readProduct_13 rF rM rP p2 μ)) ≠ 42 then 11 else 10)
def muX1_readProduct_6 (rF : Int32 → Mem → Int32) (rM : Int32 → Mem → Mem) (rP : Int32 → Mem → Prop) (p2 : Int32) (μ : Mem) : Mem := (M_X1_add 26 (VX1_readProduct_5 rF rM rP p2 μ) (muX1_readProduct_4 rF rM rP p2 μ))
def muX1_readProduct_7 (rF : Int32 → Mem → Int32) (rM : Int32 → Mem → Mem) (rP : Int32 → Mem → Prop) (p2 : Int32) (μ : Mem) : Mem := (M_X8_skipSign  (muX1_readProduct_2 rF rM rP p2 μ))
def muX1_readProduct_8 (rF : Int32 → Mem → Int32) (rM : Int32 → Mem → Mem) (rP : Int32 → Mem → Prop) (p2 : Int32) (μ : Mem) : Mem := (M_X1_readUnit rF rM rP p2 (muX1_readProduct_7 rF rM rP p2 μ))
def VX1_readProduct_9 (rF : Int32 → Mem → Int32) (rM : Int32 → Mem → Mem) (rP : Int32 → Mem → Prop) (p2 : Int32) (μ : Mem) : Int32 := (if (F_X8_peek  (SX1_readProduct_13 rF rM rP p2 μ)) ≠ 42 then 11 else 10)
def muX1_readProduct_10 (rF : Int32 → Mem → Int32) (rM : Int32 → Mem → Mem) (rP : Int32 → Mem → Prop) (p2 : Int32) (μ : Mem) : Mem := (M_X1_add 26 (VX1_readProduct_9 rF rM rP p2 μ) (muX1_readProduct_8 rF rM rP p2 μ))
def F_X1_readProduct (rF : Int32 → Mem → Int32) (rM : Int32 → Mem → Mem) (rP : Int32 → Mem → Prop) (p2 : Int32) (μ : Mem) : Int32 := (if (F_X1_readUnit rF rM rP p2 μ) ≠ 0 then (if 150 ≤ (nI (NX1_readProduct_13 rF rM rP p2 μ)) then 1 else (if (F_X8_peek  (SX1_readProduct_13 rF rM rP p2 μ)) = 42 then 0 else (if (F_X8_peek  (SX1_readProduct_13 rF rM rP p2 μ)) = 47 then 0 else 1))) else 0)
def M_X1_readProduct (rF : Int32 → Mem → Int32) (rM : Int32 → Mem → Mem) (rP : Int32 → Mem → Prop) (p2 : Int32) (μ : Mem) : Mem := (if (F_X1_readUnit rF rM rP p2 μ) ≠ 0 then (if 150 ≤ (nI (NX1_readProduct_13 rF rM rP p2 μ)) then (SX1_readProduct_13 rF rM rP p2 μ) else (if (F_X8_peek  (SX1_readProduct_13 rF rM rP p2 μ)) = 42 then (muX1_readProduct_4 rF rM rP p2 μ) else (if (F_X8_peek  (SX1_readProduct_13 rF rM rP p2 μ)) = 47 then (muX1_readProduct_8 rF rM rP p2 μ) else (muX1_readProduct_2 rF rM rP p2 μ)))) else (muX1_readProduct_1 rF rM rP p2 μ))
def P_X1_readProduct (rF : Int32 → Mem → Int32) (rM : Int32 → Mem → Mem) (rP : Int32 → Mem → Prop) (p2 : Int32) (μ : Mem) : Prop := ((P_X1_readUnit rF rM rP p2 μ) ∧ (((F_X1_readUnit rF rM rP p2 μ) ≠ 0 → ((∀ j9, j9 < (NX1_readProduct_13 rF rM rP p2 μ) → Pb_X1_readProduct_13 rF rM rP p2 j9 (fo j9 (g_X1_readProduct_13 rF rM rP p2) (muX1_readProduct_1 rF rM rP p2 μ))) ∧ ((150 ≤ (nI (NX1_readProduct_13 rF rM rP p2 μ)) → True) ∧ ((nI (NX1_readProduct_13 rF rM rP p2 μ)) < 150 → ((P_X8_peek  (SX1_readProduct_13 rF rM rP p2 μ)) ∧ (((F_X8_peek  (SX1_readProduct_13 rF rM rP p2 μ)) = 42 → ((P_X1_readUnit rF rM rP p2 (muX1_readProduct_3 rF rM rP p2 μ)) ∧ (((F_X1_readUnit rF rM rP p2 (muX1_readProduct_3 rF rM rP p2 μ)) ≠ 0 → False) ∧ ((F_X1_readUnit rF rM rP p2 (muX1_readProduct_3 rF rM rP p2 μ)) = 0 → True)))) ∧ (¬ (F_X8_peek  (SX1_readProduct_13 rF rM rP p2 μ)) = 42 → (((F_X8_peek  (SX1_readProduct_13 rF rM rP p2 μ)) = 47 → ((P_X1_readUnit rF rM rP p2 (muX1_readProduct_7 rF rM rP p2 μ)) ∧ (((F_X1_readUnit rF rM rP p2 (muX1_readProduct_7 rF rM rP p2 μ)) ≠ 0 → False) ∧ ((F_X1_readUnit rF rM rP p2 (muX1_readProduct_7 rF rM rP p2 μ)) = 0 → True)))) ∧ (¬ (F_X8_peek  (SX1_readProduct_13 rF rM rP p2 μ)) = 47 → True))))))))) ∧ ((F_X1_readUnit rF rM rP p2 μ) = 0 → True)))
theorem bo_X1_readProduct (rF : Int32 → Mem → Int32) (rM : Int32 → Mem → Mem) (rP : Int32 → Mem → Prop) (p2 : Int32) (hrb : ∀ (x0 : Int32) (ν : Mem), rF x0 ν = 0 ∨ rF x0 ν = 1) (μ : Mem) : F_X1_readProduct rF rM rP p2 μ = 0 ∨ F_X1_readProduct rF rM rP p2 μ = 1 := by
  unfold F_X1_readProduct
  split
  · split
    · exact Or.inr rfl
    · split
      · exact Or.inl rfl
      · split
        · exact Or.inl rfl
        · exact Or.inr rfl
  · exact Or.inl rfl
set_option maxRecDepth 20000 in
set_option maxHeartbeats 2000000 in
theorem ok_X1_readProduct {G : SG} (hG : GK 57 G) {e : Nat} (he : 40 ≤ e) (rF : Int32 → Mem → Int32) (rM : Int32 → Mem → Mem) (rP : Int32 → Mem → Prop) (hrec : ∀ (x0 : Int32) (ν : Mem), rP x0 ν → OkF G (mX1_readSum e) [.ref (ga G 26), .ref (ga G 1), .int x0] ν (some (.int (rF x0 ν))) (rM x0 ν)) (hrb : ∀ (x0 : Int32) (ν : Mem), rF x0 ν = 0 ∨ rF x0 ν = 1) (p2 : Int32) (μ : Mem) (hP : P_X1_readProduct rF rM rP p2 μ) : OkF G (mX1_readProduct (e + 3)) [.ref (ga G 26), .ref (ga G 1), .int p2] μ (some (.int (F_X1_readProduct rF rM rP p2 μ))) (M_X1_readProduct rF rM rP p2 μ) := by
  refine okF_of hG rfl rfl (Nat.le_of_ble_eq_true rfl) ?_
  unfold P_X1_readProduct at hP
  refine r_aload_n dX1_readProduct_0 0 rfl ?_
  refine r_aload_n dX1_readProduct_1 1 rfl ?_
  refine r_iload_n dX1_readProduct_2 2 rfl ?_
  have hs1 := hP.1
  replace hP := hP.2
  refine r_cvI (ok_X1_readUnit hG he rF rM rP hrec hrb p2 μ hs1) (lX1_66 _) (hG.lt (by decide)) sh26 ⟨_, _, rfl⟩ dX1_readProduct_3 (dpe (a := 2) (b := 3) (by decide)) (Nat.le_of_ble_eq_true rfl) rfl (Nat.le_of_ble_eq_true rfl) ?_
  refine r_mu (muX1_readProduct_1 rF rM rP p2 μ) rfl ?_
  refine r_if_ne 11 dX1_readProduct_6 (by decide) (fun c1 => ?_) (fun c1 => ?_)
  · replace hP := hP.1 c1
    refine r_iconst 0 dX1_readProduct_11 rfl ?_
    refine r_istore_n [(3, _), (0, _), (1, _), (2, _)] dX1_readProduct_12 (Nat.le_of_ble_eq_true rfl) rfl ?_
    have hs2 := hP.1
    replace hP := hP.2
    refine r_sub [1, 2, 3, 0] rfl ?_
    refine lp_X1_readProduct_13 hG he rF rM rP hrec hrb p2 (muX1_readProduct_1 rF rM rP p2 μ) ((NX1_readProduct_13 rF rM rP p2 μ)) (SX1_readProduct_13 rF rM rP p2 μ) rfl hs2 ?_
    refine r_iload_n dX1_readProduct_13 3 rfl ?_
    refine r_sipush 150 dX1_readProduct_14 rfl ?_
    refine r_icmp_ge 82 dX1_readProduct_17 (by decide) (fun c2 => ?_) (fun c2 => ?_)
    · replace hP := hP.1 c2
      refine r_iconst 1 dX1_readProduct_82 rfl ?_
      exact r_ireturn _ dX1_readProduct_83 rfl rfl ⟨congrArg (fun z => some (Value.int z)) (by unfold F_X1_readProduct; rw [if_pos c1, if_pos c2]), by unfold M_X1_readProduct; rw [if_pos c1, if_pos c2]⟩
    · replace hP := hP.2 c2
      refine r_aload_n dX1_readProduct_20 1 rfl ?_
      have hs3 := hP.1
      replace hP := hP.2
      refine r_cvI (ok_X8_peek hG  (SX1_readProduct_13 rF rM rP p2 μ) hs3) lX1_59 (hG.lt (by decide)) sh1 ⟨_, _, rfl⟩ dX1_readProduct_21 (dle (by decide) he) (Nat.le_of_ble_eq_true rfl) rfl (Nat.le_of_ble_eq_true rfl) ?_
      refine r_mu (muX1_readProduct_2 rF rM rP p2 μ) rfl ?_
      refine r_istore [(4, _), (0, _), (1, _), (2, _), (3, _)] dX1_readProduct_24 (Nat.le_of_ble_eq_true rfl) rfl ?_
      refine r_iload dX1_readProduct_26 0 rfl ?_
      refine r_bipush 42 dX1_readProduct_28 rfl ?_
      refine r_icmp_eq 42 dX1_readProduct_30 (by decide) (fun c3 => ?_) (fun c3 => ?_)
      · replace hP := hP.1 c3
        refine r_aload_n dX1_readProduct_42 2 rfl ?_
        refine r_cvV (ok_X8_skipSign hG  (muX1_readProduct_2 rF rM rP p2 μ)) lX1_63 (hG.lt (by decide)) sh1 ⟨_, _, rfl⟩ dX1_readProduct_43 (dle (by decide) he) (Nat.le_of_ble_eq_true rfl) rfl (Nat.le_of_ble_eq_true rfl) ?_
        refine r_mu (muX1_readProduct_3 rF rM rP p2 μ) rfl ?_
        refine r_aload_n dX1_readProduct_46 1 rfl ?_
        refine r_aload_n dX1_readProduct_47 2 rfl ?_
        refine r_iload_n dX1_readProduct_48 3 rfl ?_
        have hs4 := hP.1
        replace hP := hP.2
        refine r_cvI (ok_X1_readUnit hG he rF rM rP hrec hrb p2 (muX1_readProduct_3 rF rM rP p2 μ) hs4) (lX1_66 _) (hG.lt (by decide)) sh26 ⟨_, _, rfl⟩ dX1_readProduct_49 (dpe (a := 2) (b := 3) (by decide)) (Nat.le_of_ble_eq_true rfl) rfl (Nat.le_of_ble_eq_true rfl) ?_
        refine r_mu (muX1_readProduct_4 rF rM rP p2 μ) rfl ?_
        refine r_if_ne 57 dX1_readProduct_52 (by decide) (fun c4 => ?_) (fun c4 => ?_)
        · replace hP := hP.1 c4
          refine r_aload_n dX1_readProduct_57 1 rfl ?_
          refine r_iload dX1_readProduct_58 0 rfl ?_
          refine r_bipush 42 dX1_readProduct_60 rfl ?_
          refine r_join 72 [(4, .int (F_X8_peek  (SX1_readProduct_13 rF rM rP p2 μ))), (0, .ref (ga G 26)), (1, .ref (ga G 1)), (2, .int p2), (3, .int (nI (NX1_readProduct_13 rF rM rP p2 μ)))] [.int (VX1_readProduct_5 rF rM rP p2 μ), .ref (ga G 26)] (muX1_readProduct_4 rF rM rP p2 μ) ?_ (fun hJ => ?_)
          · refine r_cvI (ok_X1_add hG (IsLw.of26) (VX1_readProduct_5 rF rM rP p2 μ) (muX1_readProduct_4 rF rM rP p2 μ)) lX1_32 (hG.lt (by decide)) sh26 ⟨_, _, rfl⟩ dX1_readProduct_72 (dle (by decide) he) (Nat.le_of_ble_eq_true rfl) rfl (Nat.le_of_ble_eq_true rfl) ?_
            refine r_mu (muX1_readProduct_6 rF rM rP p2 μ) rfl ?_
            refine r_pop dX1_readProduct_75 rfl ?_
            refine r_iinc ((nI (NX1_readProduct_13 rF rM rP p2 μ)) + 1) [(3, _), (4, _), (0, _), (1, _), (2, _)] dX1_readProduct_76 4 rfl rfl (Nat.le_of_ble_eq_true rfl) rfl ?_
            refine r_goto 13 dX1_readProduct_79 (by decide) ?_
            exact hP.elim
          · refine r_icmp_ne 70 dX1_readProduct_62 (by decide) (fun c5 => ?_) (fun c5 => ?_)
            · refine r_bipush 11 dX1_readProduct_70 rfl ?_
              have e : (VX1_readProduct_5 rF rM rP p2 μ) = 11 := by unfold VX1_readProduct_5; rw [if_pos c5]
              rw [e] at hJ
              exact r_sub [0, 1, 2, 3, 4] rfl hJ
            · refine r_bipush 10 dX1_readProduct_65 rfl ?_
              refine r_goto 72 dX1_readProduct_67 (by decide) ?_
              have e : (VX1_readProduct_5 rF rM rP p2 μ) = 10 := by unfold VX1_readProduct_5; rw [if_neg (not_not_intro c5)]
              rw [e] at hJ
              exact r_sub [0, 1, 2, 3, 4] rfl hJ
        · replace hP := hP.2 c4
          refine r_iconst 0 dX1_readProduct_55 rfl ?_
          exact r_ireturn _ dX1_readProduct_56 rfl rfl ⟨congrArg (fun z => some (Value.int z)) (by unfold F_X1_readProduct; rw [if_pos c1, if_neg (i32_ng c2), if_pos c3]), by unfold M_X1_readProduct; rw [if_pos c1, if_neg (i32_ng c2), if_pos c3]⟩
      · replace hP := hP.2 c3
        refine r_iload dX1_readProduct_33 0 rfl ?_
        refine r_bipush 47 dX1_readProduct_35 rfl ?_
        refine r_icmp_eq 42 dX1_readProduct_37 (by decide) (fun c4 => ?_) (fun c4 => ?_)
        · replace hP := hP.1 c4
          refine r_aload_n dX1_readProduct_42 2 rfl ?_
          refine r_cvV (ok_X8_skipSign hG  (muX1_readProduct_2 rF rM rP p2 μ)) lX1_63 (hG.lt (by decide)) sh1 ⟨_, _, rfl⟩ dX1_readProduct_43 (dle (by decide) he) (Nat.le_of_ble_eq_true rfl) rfl (Nat.le_of_ble_eq_true rfl) ?_
          refine r_mu (muX1_readProduct_7 rF rM rP p2 μ) rfl ?_
          refine r_aload_n dX1_readProduct_46 1 rfl ?_
          refine r_aload_n dX1_readProduct_47 2 rfl ?_
          refine r_iload_n dX1_readProduct_48 3 rfl ?_
          have hs5 := hP.1
          replace hP := hP.2
          refine r_cvI (ok_X1_readUnit hG he rF rM rP hrec hrb p2 (muX1_readProduct_7 rF rM rP p2 μ) hs5) (lX1_66 _) (hG.lt (by decide)) sh26 ⟨_, _, rfl⟩ dX1_readProduct_49 (dpe (a := 2) (b := 3) (by decide)) (Nat.le_of_ble_eq_true rfl) rfl (Nat.le_of_ble_eq_true rfl) ?_
          refine r_mu (muX1_readProduct_8 rF rM rP p2 μ) rfl ?_
          refine r_if_ne 57 dX1_readProduct_52 (by decide) (fun c5 => ?_) (fun c5 => ?_)
          · replace hP := hP.1 c5
            refine r_aload_n dX1_readProduct_57 1 rfl ?_
            refine r_iload dX1_readProduct_58 0 rfl ?_
            refine r_bipush 42 dX1_readProduct_60 rfl ?_
            refine r_join 72 [(4, .int (F_X8_peek  (SX1_readProduct_13 rF rM rP p2 μ))), (0, .ref (ga G 26)), (1, .ref (ga G 1)), (2, .int p2), (3, .int (nI (NX1_readProduct_13 rF rM rP p2 μ)))] [.int (VX1_readProduct_9 rF rM rP p2 μ), .ref (ga G 26)] (muX1_readProduct_8 rF rM rP p2 μ) ?_ (fun hJ => ?_)
            · refine r_cvI (ok_X1_add hG (IsLw.of26) (VX1_readProduct_9 rF rM rP p2 μ) (muX1_readProduct_8 rF rM rP p2 μ)) lX1_32 (hG.lt (by decide)) sh26 ⟨_, _, rfl⟩ dX1_readProduct_72 (dle (by decide) he) (Nat.le_of_ble_eq_true rfl) rfl (Nat.le_of_ble_eq_true rfl) ?_
              refine r_mu (muX1_readProduct_10 rF rM rP p2 μ) rfl ?_
              refine r_pop dX1_readProduct_75 rfl ?_
              refine r_iinc ((nI (NX1_readProduct_13 rF rM rP p2 μ)) + 1) [(3, _), (4, _), (0, _), (1, _), (2, _)] dX1_readProduct_76 4 rfl rfl (Nat.le_of_ble_eq_true rfl) rfl ?_
              refine r_goto 13 dX1_readProduct_79 (by decide) ?_
              exact hP.elim
            · refine r_icmp_ne 70 dX1_readProduct_62 (by decide) (fun c6 => ?_) (fun c6 => ?_)
              · refine r_bipush 11 dX1_readProduct_70 rfl ?_
                have e : (VX1_readProduct_9 rF rM rP p2 μ) = 11 := by unfold VX1_readProduct_9; rw [if_pos c6]
                rw [e] at hJ
                exact r_sub [0, 1, 2, 3, 4] rfl hJ
              · refine r_bipush 10 dX1_readProduct_65 rfl ?_
                refine r_goto 72 dX1_readProduct_67 (by decide) ?_
                have e : (VX1_readProduct_9 rF rM rP p2 μ) = 10 := by unfold VX1_readProduct_9; rw [if_neg (not_not_intro c6)]
                rw [e] at hJ
                exact r_sub [0, 1, 2, 3, 4] rfl hJ
          · replace hP := hP.2 c5
            refine r_iconst 0 dX1_readProduct_55 rfl ?_
            exact r_ireturn _ dX1_readProduct_56 rfl rfl ⟨congrArg (fun z => some (Value.int z)) (by unfold F_X1_readProduct; rw [if_pos c1, if_neg (i32_ng c2), if_neg c3, if_pos c4]), by unfold M_X1_readProduct; rw [if_pos c1, if_neg (i32_ng c2), if_neg c3, if_pos c4]⟩
        · replace hP := hP.2 c4
          refine r_iconst 1 dX1_readProduct_40 rfl ?_
          exact r_ireturn _ dX1_readProduct_41 rfl rfl ⟨congrArg (fun z => some (Value.int z)) (by unfold F_X1_readProduct; rw [if_pos c1, if_neg (i32_ng c2), if_neg c3, if_neg c4]), by unfold M_X1_readProduct; rw [if_pos c1, if_neg (i32_ng c2), if_neg c3, if_neg c4]⟩
  · replace hP := hP.2 c1
    refine r_iconst 0 dX1_readProduct_9 rfl ?_
    exact r_ireturn _ dX1_readProduct_10 rfl rfl ⟨congrArg (fun z => some (Value.int z)) (by unfold F_X1_readProduct; rw [if_neg (not_not_intro c1)]), by unfold M_X1_readProduct; rw [if_neg (not_not_intro c1)]⟩
def muX1_readSum_1 (rF : Int32 → Mem → Int32) (rM : Int32 → Mem → Mem) (rP : Int32 → Mem → Prop) (p2 : Int32) (μ : Mem) : Mem := (M_X1_readProduct rF rM rP p2 μ)
def muX1_readSum_13_1 (rF : Int32 → Mem → Int32) (rM : Int32 → Mem → Mem) (rP : Int32 → Mem → Prop) (v2 : Int32) (i : Nat) (s : Mem) : Mem := (M_X8_peek  s)
def muX1_readSum_13_2 (rF : Int32 → Mem → Int32) (rM : Int32 → Mem → Mem) (rP : Int32 → Mem → Prop) (v2 : Int32) (i : Nat) (s : Mem) : Mem := (M_X8_skipSign  (muX1_readSum_13_1 rF rM rP v2 i s))
def muX1_readSum_13_3 (rF : Int32 → Mem → Int32) (rM : Int32 → Mem → Mem) (rP : Int32 → Mem → Prop) (v2 : Int32) (i : Nat) (s : Mem) : Mem := (M_X1_readProduct rF rM rP v2 (muX1_readSum_13_2 rF rM rP v2 i s))
def VX1_readSum_13_4 (rF : Int32 → Mem → Int32) (rM : Int32 → Mem → Mem) (rP : Int32 → Mem → Prop) (v2 : Int32) (i : Nat) (s : Mem) : Int32 := (if (F_X8_peek  s) ≠ 43 then 9 else 8)
def muX1_readSum_13_5 (rF : Int32 → Mem → Int32) (rM : Int32 → Mem → Mem) (rP : Int32 → Mem → Prop) (v2 : Int32) (i : Nat) (s : Mem) : Mem := (M_X1_add 26 (VX1_readSum_13_4 rF rM rP v2 i s) (muX1_readSum_13_3 rF rM rP v2 i s))
def muX1_readSum_13_6 (rF : Int32 → Mem → Int32) (rM : Int32 → Mem → Mem) (rP : Int32 → Mem → Prop) (v2 : Int32) (i : Nat) (s : Mem) : Mem := (M_X8_skipSign  (muX1_readSum_13_1 rF rM rP v2 i s))
def muX1_readSum_13_7 (rF : Int32 → Mem → Int32) (rM : Int32 → Mem → Mem) (rP : Int32 → Mem → Prop) (v2 : Int32) (i : Nat) (s : Mem) : Mem := (M_X1_readProduct rF rM rP v2 (muX1_readSum_13_6 rF rM rP v2 i s))
def VX1_readSum_13_8 (rF : Int32 → Mem → Int32) (rM : Int32 → Mem → Mem) (rP : Int32 → Mem → Prop) (v2 : Int32) (i : Nat) (s : Mem) : Int32 := (if (F_X8_peek  s) ≠ 43 then 9 else 8)
def muX1_readSum_13_9 (rF : Int32 → Mem → Int32) (rM : Int32 → Mem → Mem) (rP : Int32 → Mem → Prop) (v2 : Int32) (i : Nat) (s : Mem) : Mem := (M_X1_add 26 (VX1_readSum_13_8 rF rM rP v2 i s) (muX1_readSum_13_7 rF rM rP v2 i s))
def g_X1_readSum_13 (rF : Int32 → Mem → Int32) (rM : Int32 → Mem → Mem) (rP : Int32 → Mem → Prop) (v2 : Int32) (i : Nat) (s : Mem) : Mem := (if (F_X8_peek  s) = 43 then (muX1_readSum_13_5 rF rM rP v2 i s) else (muX1_readSum_13_9 rF rM rP v2 i s))
def Pb_X1_readSum_13 (rF : Int32 → Mem → Int32) (rM : Int32 → Mem → Mem) (rP : Int32 → Mem → Prop) (v2 : Int32) (i : Nat) (s : Mem) : Prop := ((150 ≤ (nI i) → False) ∧ ((nI i) < 150 → (P_X8_peek  s) ∧ (((F_X8_peek  s) = 43 → (P_X1_readProduct rF rM rP v2 (muX1_readSum_13_2 rF rM rP v2 i s)) ∧ (((F_X1_readProduct rF rM rP v2 (muX1_readSum_13_2 rF rM rP v2 i s)) ≠ 0 → True) ∧ ((F_X1_readProduct rF rM rP v2 (muX1_readSum_13_2 rF rM rP v2 i s)) = 0 → False))) ∧ (¬ (F_X8_peek  s) = 43 → (((F_X8_peek  s) = 45 → (P_X1_readProduct rF rM rP v2 (muX1_readSum_13_6 rF rM rP v2 i s)) ∧ (((F_X1_readProduct rF rM rP v2 (muX1_readSum_13_6 rF rM rP v2 i s)) ≠ 0 → True) ∧ ((F_X1_readProduct rF rM rP v2 (muX1_readSum_13_6 rF rM rP v2 i s)) = 0 → False))) ∧ (¬ (F_X8_peek  s) = 45 → False))))))
def Cb_X1_readSum_13 (rF : Int32 → Mem → Int32) (rM : Int32 → Mem → Mem) (rP : Int32 → Mem → Prop) (v2 : Int32) (i : Nat) (s : Mem) : Bool := (if 150 ≤ (nI i) then false else (if (F_X8_peek  s) = 43 then (if (F_X1_readProduct rF rM rP v2 (muX1_readSum_13_2 rF rM rP v2 i s)) ≠ 0 then true else false) else (if (F_X8_peek  s) = 45 then (if (F_X1_readProduct rF rM rP v2 (muX1_readSum_13_6 rF rM rP v2 i s)) ≠ 0 then true else false) else false)))
set_option maxRecDepth 20000 in
set_option maxHeartbeats 2000000 in
theorem lp_X1_readSum_13 {G : SG} (hG : GK 57 G) {e : Nat} (he : 40 ≤ e) (rF : Int32 → Mem → Int32) (rM : Int32 → Mem → Mem) (rP : Int32 → Mem → Prop) (hrec : ∀ (x0 : Int32) (ν : Mem), rP x0 ν → OkF G (mX1_readSum e) [.ref (ga G 26), .ref (ga G 1), .int x0] ν (some (.int (rF x0 ν))) (rM x0 ν)) (hrb : ∀ (x0 : Int32) (ν : Mem), rF x0 ν = 0 ∨ rF x0 ν = 1) (v2 : Int32) (s0 : Mem) (N : Nat) (sN : Mem) (eN : sN = fo N (g_X1_readSum_13 rF rM rP v2) s0) (hN : ∀ i, i < N → Pb_X1_readSum_13 rF rM rP v2 i (fo i (g_X1_readSum_13 rF rM rP v2) s0)) {t : Nat} {Q : PQ} {X : PX} (h : R G (mX1_readSum (e + 4)) 13 [(0, .ref (ga G 26)), (1, .ref (ga G 1)), (2, .int v2), (3, .int (nI N))] [] sN t Q X) : R G (mX1_readSum (e + 4)) 13 [(0, .ref (ga G 26)), (1, .ref (ga G 1)), (2, .int v2), (3, .int 0)] [] s0 t Q X := by
  subst eN
  refine down_i N (fun i => R G (mX1_readSum (e + 4)) 13 [(0, .ref (ga G 26)), (1, .ref (ga G 1)), (2, .int v2), (3, .int (nI i))] [] (fo i (g_X1_readSum_13 rF rM rP v2) s0) t Q X) h (fun i hi hS => ?_)
  have hP := hN i hi
  rw [fo_succ] at hS
  rw [nI_succ] at hS
  generalize fo i (g_X1_readSum_13 rF rM rP v2) s0 = s at hS hP ⊢
  unfold Pb_X1_readSum_13 at hP
  refine r_iload_n dX1_readSum_13 3 rfl ?_
  refine r_sipush 150 dX1_readSum_14 rfl ?_
  refine r_icmp_ge 82 dX1_readSum_17 (by decide) (fun c1 => ?_) (fun c1 => ?_)
  · replace hP := hP.1 c1
    exact hP.elim
  · replace hP := hP.2 c1
    refine r_aload_n dX1_readSum_20 1 rfl ?_
    have hs1 := hP.1
    replace hP := hP.2
    refine r_cvI (ok_X8_peek hG  s hs1) lX1_59 (hG.lt (by decide)) sh1 ⟨_, _, rfl⟩ dX1_readSum_21 (dle (by decide) he) (Nat.le_of_ble_eq_true rfl) rfl (Nat.le_of_ble_eq_true rfl) ?_
    refine r_mu (muX1_readSum_13_1 rF rM rP v2 i s) rfl ?_
    refine r_istore [(4, _), (0, _), (1, _), (2, _), (3, _)] dX1_readSum_24 (Nat.le_of_ble_eq_true rfl) rfl ?_
    refine r_iload dX1_readSum_26 0 rfl ?_
    refine r_bipush 43 dX1_readSum_28 rfl ?_
    refine r_icmp_eq 42 dX1_readSum_30 (by decide) (fun c2 => ?_) (fun c2 => ?_)
    · replace hP := hP.1 c2
      refine r_aload_n dX1_readSum_42 2 rfl ?_
      refine r_cvV (ok_X8_skipSign hG  (muX1_readSum_13_1 rF rM rP v2 i s)) lX1_63 (hG.lt (by decide)) sh1 ⟨_, _, rfl⟩ dX1_readSum_43 (dle (by decide) he) (Nat.le_of_ble_eq_true rfl) rfl (Nat.le_of_ble_eq_true rfl) ?_
      refine r_mu (muX1_readSum_13_2 rF rM rP v2 i s) rfl ?_
      refine r_aload_n dX1_readSum_46 1 rfl ?_
      refine r_aload_n dX1_readSum_47 2 rfl ?_
      refine r_iload_n dX1_readSum_48 3 rfl ?_
      have hs2 := hP.1
      replace hP := hP.2
      refine r_cvI (ok_X1_readProduct hG he rF rM rP hrec hrb v2 (muX1_readSum_13_2 rF rM rP v2 i s) hs2) (lX1_56 _) (hG.lt (by decide)) sh26 ⟨_, _, rfl⟩ dX1_readSum_49 (dpe (a := 3) (b := 4) (by decide)) (Nat.le_of_ble_eq_true rfl) rfl (Nat.le_of_ble_eq_true rfl) ?_
      refine r_mu (muX1_readSum_13_3 rF rM rP v2 i s) rfl ?_
      refine r_if_ne 57 dX1_readSum_52 (by decide) (fun c3 => ?_) (fun c3 => ?_)
      · replace hP := hP.1 c3
        refine r_aload_n dX1_readSum_57 1 rfl ?_
        refine r_iload dX1_readSum_58 0 rfl ?_
        refine r_bipush 43 dX1_readSum_60 rfl ?_
        refine r_join 72 [(4, .int (F_X8_peek  s)), (0, .ref (ga G 26)), (1, .ref (ga G 1)), (2, .int v2), (3, .int (nI i))] [.int (VX1_readSum_13_4 rF rM rP v2 i s), .ref (ga G 26)] (muX1_readSum_13_3 rF rM rP v2 i s) ?_ (fun hJ => ?_)
        · refine r_cvI (ok_X1_add hG (IsLw.of26) (VX1_readSum_13_4 rF rM rP v2 i s) (muX1_readSum_13_3 rF rM rP v2 i s)) lX1_32 (hG.lt (by decide)) sh26 ⟨_, _, rfl⟩ dX1_readSum_72 (dle (by decide) he) (Nat.le_of_ble_eq_true rfl) rfl (Nat.le_of_ble_eq_true rfl) ?_
          refine r_mu (muX1_readSum_13_5 rF rM rP v2 i s) rfl ?_
          refine r_pop dX1_readSum_75 rfl ?_
          refine r_iinc ((nI i) + 1) [(3, _), (4, _), (0, _), (1, _), (2, _)] dX1_readSum_76 4 rfl rfl (Nat.le_of_ble_eq_true rfl) rfl ?_
          refine r_goto 13 dX1_readSum_79 (by decide) ?_
          have e : g_X1_readSum_13 rF rM rP v2 i s = (muX1_readSum_13_5 rF rM rP v2 i s) := by unfold g_X1_readSum_13; rw [if_pos c2]
          rw [e] at hS
          exact r_sub [2, 3, 4, 0] rfl hS
        · refine r_icmp_ne 70 dX1_readSum_62 (by decide) (fun c4 => ?_) (fun c4 => ?_)
          · refine r_bipush 9 dX1_readSum_70 rfl ?_
            have e : (VX1_readSum_13_4 rF rM rP v2 i s) = 9 := by unfold VX1_readSum_13_4; rw [if_pos c4]
            rw [e] at hJ
            exact r_sub [0, 1, 2, 3, 4] rfl hJ
          · refine r_bipush 8 dX1_readSum_65 rfl ?_
            refine r_goto 72 dX1_readSum_67 (by decide) ?_
            have e : (VX1_readSum_13_4 rF rM rP v2 i s) = 8 := by unfold VX1_readSum_13_4; rw [if_neg (not_not_intro c4)]
            rw [e] at hJ
            exact r_sub [0, 1, 2, 3, 4] rfl hJ
      · replace hP := hP.2 c3
        refine r_iconst 0 dX1_readSum_55 rfl ?_
        exact hP.elim
    · replace hP := hP.2 c2
      refine r_iload dX1_readSum_33 0 rfl ?_
      refine r_bipush 45 dX1_readSum_35 rfl ?_
      refine r_icmp_eq 42 dX1_readSum_37 (by decide) (fun c3 => ?_) (fun c3 => ?_)
      · replace hP := hP.1 c3
        refine r_aload_n dX1_readSum_42 2 rfl ?_
        refine r_cvV (ok_X8_skipSign hG  (muX1_readSum_13_1 rF rM rP v2 i s)) lX1_63 (hG.lt (by decide)) sh1 ⟨_, _, rfl⟩ dX1_readSum_43 (dle (by decide) he) (Nat.le_of_ble_eq_true rfl) rfl (Nat.le_of_ble_eq_true rfl) ?_
        refine r_mu (muX1_readSum_13_6 rF rM rP v2 i s) rfl ?_
        refine r_aload_n dX1_readSum_46 1 rfl ?_
        refine r_aload_n dX1_readSum_47 2 rfl ?_
        refine r_iload_n dX1_readSum_48 3 rfl ?_
        have hs3 := hP.1
        replace hP := hP.2
        refine r_cvI (ok_X1_readProduct hG he rF rM rP hrec hrb v2 (muX1_readSum_13_6 rF rM rP v2 i s) hs3) (lX1_56 _) (hG.lt (by decide)) sh26 ⟨_, _, rfl⟩ dX1_readSum_49 (dpe (a := 3) (b := 4) (by decide)) (Nat.le_of_ble_eq_true rfl) rfl (Nat.le_of_ble_eq_true rfl) ?_
        refine r_mu (muX1_readSum_13_7 rF rM rP v2 i s) rfl ?_
        refine r_if_ne 57 dX1_readSum_52 (by decide) (fun c4 => ?_) (fun c4 => ?_)
        · replace hP := hP.1 c4
          refine r_aload_n dX1_readSum_57 1 rfl ?_
          refine r_iload dX1_readSum_58 0 rfl ?_
          refine r_bipush 43 dX1_readSum_60 rfl ?_
          refine r_join 72 [(4, .int (F_X8_peek  s)), (0, .ref (ga G 26)), (1, .ref (ga G 1)), (2, .int v2), (3, .int (nI i))] [.int (VX1_readSum_13_8 rF rM rP v2 i s), .ref (ga G 26)] (muX1_readSum_13_7 rF rM rP v2 i s) ?_ (fun hJ => ?_)
          · refine r_cvI (ok_X1_add hG (IsLw.of26) (VX1_readSum_13_8 rF rM rP v2 i s) (muX1_readSum_13_7 rF rM rP v2 i s)) lX1_32 (hG.lt (by decide)) sh26 ⟨_, _, rfl⟩ dX1_readSum_72 (dle (by decide) he) (Nat.le_of_ble_eq_true rfl) rfl (Nat.le_of_ble_eq_true rfl) ?_
            refine r_mu (muX1_readSum_13_9 rF rM rP v2 i s) rfl ?_
            refine r_pop dX1_readSum_75 rfl ?_
            refine r_iinc ((nI i) + 1) [(3, _), (4, _), (0, _), (1, _), (2, _)] dX1_readSum_76 4 rfl rfl (Nat.le_of_ble_eq_true rfl) rfl ?_
            refine r_goto 13 dX1_readSum_79 (by decide) ?_
            have e : g_X1_readSum_13 rF rM rP v2 i s = (muX1_readSum_13_9 rF rM rP v2 i s) := by unfold g_X1_readSum_13; rw [if_neg c2]
            rw [e] at hS
            exact r_sub [2, 3, 4, 0] rfl hS
          · refine r_icmp_ne 70 dX1_readSum_62 (by decide) (fun c5 => ?_) (fun c5 => ?_)
            · refine r_bipush 9 dX1_readSum_70 rfl ?_
              have e : (VX1_readSum_13_8 rF rM rP v2 i s) = 9 := by unfold VX1_readSum_13_8; rw [if_pos c5]
              rw [e] at hJ
              exact r_sub [0, 1, 2, 3, 4] rfl hJ
            · refine r_bipush 8 dX1_readSum_65 rfl ?_
              refine r_goto 72 dX1_readSum_67 (by decide) ?_
              have e : (VX1_readSum_13_8 rF rM rP v2 i s) = 8 := by unfold VX1_readSum_13_8; rw [if_neg (not_not_intro c5)]
              rw [e] at hJ
              exact r_sub [0, 1, 2, 3, 4] rfl hJ
        · replace hP := hP.2 c4
          refine r_iconst 0 dX1_readSum_55 rfl ?_
          exact hP.elim
      · replace hP := hP.2 c3
        refine r_iconst 1 dX1_readSum_40 rfl ?_
        exact hP.elim
def NX1_readSum_13 (rF : Int32 → Mem → Int32) (rM : Int32 → Mem → Mem) (rP : Int32 → Mem → Prop) (p2 : Int32) (μ : Mem) : Nat := (fst 152 (fun j9 => !Cb_X1_readSum_13 rF rM rP p2 j9 (fo j9 (g_X1_readSum_13 rF rM rP p2) (muX1_readSum_1 rF rM rP p2 μ))))
def SX1_readSum_13 (rF : Int32 → Mem → Int32) (rM : Int32 → Mem → Mem) (rP : Int32 → Mem → Prop) (p2 : Int32) (μ : Mem) : Mem := fo (NX1_readSum_13 rF rM rP p2 μ) (g_X1_readSum_13 rF rM rP p2) (muX1_readSum_1 rF rM rP p2 μ)
def muX1_readSum_2 (rF : Int32 → Mem → Int32) (rM : Int32 → Mem → Mem) (rP : Int32 → Mem → Prop) (p2 : Int32) (μ : Mem) : Mem := (M_X8_peek  (SX1_readSum_13 rF rM rP p2 μ))
def muX1_readSum_3 (rF : Int32 → Mem → Int32) (rM : Int32 → Mem → Mem) (rP : Int32 → Mem → Prop) (p2 : Int32) (μ : Mem) : Mem := (M_X8_skipSign  (muX1_readSum_2 rF rM rP p2 μ))
def muX1_readSum_4 (rF : Int32 → Mem → Int32) (rM : Int32 → Mem → Mem) (rP : Int32 → Mem → Prop) (p2 : Int32) (μ : Mem) : Mem := (M_X1_readProduct rF rM rP p2 (muX1_readSum_3 rF rM rP p2 μ))
def VX1_readSum_5 (rF : Int32 → Mem → Int32) (rM : Int32 → Mem → Mem) (rP : Int32 → Mem → Prop) (p2 : Int32) (μ : Mem) : Int32 := (if (F_X8_peek  (SX1_readSum_13 rF rM rP p2 μ)) ≠ 43 then 9 else 8)
def muX1_readSum_6 (rF : Int32 → Mem → Int32) (rM : Int32 → Mem → Mem) (rP : Int32 → Mem → Prop) (p2 : Int32) (μ : Mem) : Mem := (M_X1_add 26 (VX1_readSum_5 rF rM rP p2 μ) (muX1_readSum_4 rF rM rP p2 μ))
def muX1_readSum_7 (rF : Int32 → Mem → Int32) (rM : Int32 → Mem → Mem) (rP : Int32 → Mem → Prop) (p2 : Int32) (μ : Mem) : Mem := (M_X8_skipSign  (muX1_readSum_2 rF rM rP p2 μ))
def muX1_readSum_8 (rF : Int32 → Mem → Int32) (rM : Int32 → Mem → Mem) (rP : Int32 → Mem → Prop) (p2 : Int32) (μ : Mem) : Mem := (M_X1_readProduct rF rM rP p2 (muX1_readSum_7 rF rM rP p2 μ))
def VX1_readSum_9 (rF : Int32 → Mem → Int32) (rM : Int32 → Mem → Mem) (rP : Int32 → Mem → Prop) (p2 : Int32) (μ : Mem) : Int32 := (if (F_X8_peek  (SX1_readSum_13 rF rM rP p2 μ)) ≠ 43 then 9 else 8)
def muX1_readSum_10 (rF : Int32 → Mem → Int32) (rM : Int32 → Mem → Mem) (rP : Int32 → Mem → Prop) (p2 : Int32) (μ : Mem) : Mem := (M_X1_add 26 (VX1_readSum_9 rF rM rP p2 μ) (muX1_readSum_8 rF rM rP p2 μ))
def F_X1_readSum (rF : Int32 → Mem → Int32) (rM : Int32 → Mem → Mem) (rP : Int32 → Mem → Prop) (p2 : Int32) (μ : Mem) : Int32 := (if (F_X1_readProduct rF rM rP p2 μ) ≠ 0 then (if 150 ≤ (nI (NX1_readSum_13 rF rM rP p2 μ)) then 1 else (if (F_X8_peek  (SX1_readSum_13 rF rM rP p2 μ)) = 43 then 0 else (if (F_X8_peek  (SX1_readSum_13 rF rM rP p2 μ)) = 45 then 0 else 1))) else 0)
def M_X1_readSum (rF : Int32 → Mem → Int32) (rM : Int32 → Mem → Mem) (rP : Int32 → Mem → Prop) (p2 : Int32) (μ : Mem) : Mem := (if (F_X1_readProduct rF rM rP p2 μ) ≠ 0 then (if 150 ≤ (nI (NX1_readSum_13 rF rM rP p2 μ)) then (SX1_readSum_13 rF rM rP p2 μ) else (if (F_X8_peek  (SX1_readSum_13 rF rM rP p2 μ)) = 43 then (muX1_readSum_4 rF rM rP p2 μ) else (if (F_X8_peek  (SX1_readSum_13 rF rM rP p2 μ)) = 45 then (muX1_readSum_8 rF rM rP p2 μ) else (muX1_readSum_2 rF rM rP p2 μ)))) else (muX1_readSum_1 rF rM rP p2 μ))
def P_X1_readSum (rF : Int32 → Mem → Int32) (rM : Int32 → Mem → Mem) (rP : Int32 → Mem → Prop) (p2 : Int32) (μ : Mem) : Prop := ((P_X1_readProduct rF rM rP p2 μ) ∧ (((F_X1_readProduct rF rM rP p2 μ) ≠ 0 → ((∀ j9, j9 < (NX1_readSum_13 rF rM rP p2 μ) → Pb_X1_readSum_13 rF rM rP p2 j9 (fo j9 (g_X1_readSum_13 rF rM rP p2) (muX1_readSum_1 rF rM rP p2 μ))) ∧ ((150 ≤ (nI (NX1_readSum_13 rF rM rP p2 μ)) → True) ∧ ((nI (NX1_readSum_13 rF rM rP p2 μ)) < 150 → ((P_X8_peek  (SX1_readSum_13 rF rM rP p2 μ)) ∧ (((F_X8_peek  (SX1_readSum_13 rF rM rP p2 μ)) = 43 → ((P_X1_readProduct rF rM rP p2 (muX1_readSum_3 rF rM rP p2 μ)) ∧ (((F_X1_readProduct rF rM rP p2 (muX1_readSum_3 rF rM rP p2 μ)) ≠ 0 → False) ∧ ((F_X1_readProduct rF rM rP p2 (muX1_readSum_3 rF rM rP p2 μ)) = 0 → True)))) ∧ (¬ (F_X8_peek  (SX1_readSum_13 rF rM rP p2 μ)) = 43 → (((F_X8_peek  (SX1_readSum_13 rF rM rP p2 μ)) = 45 → ((P_X1_readProduct rF rM rP p2 (muX1_readSum_7 rF rM rP p2 μ)) ∧ (((F_X1_readProduct rF rM rP p2 (muX1_readSum_7 rF rM rP p2 μ)) ≠ 0 → False) ∧ ((F_X1_readProduct rF rM rP p2 (muX1_readSum_7 rF rM rP p2 μ)) = 0 → True)))) ∧ (¬ (F_X8_peek  (SX1_readSum_13 rF rM rP p2 μ)) = 45 → True))))))))) ∧ ((F_X1_readProduct rF rM rP p2 μ) = 0 → True)))
theorem bo_X1_readSum (rF : Int32 → Mem → Int32) (rM : Int32 → Mem → Mem) (rP : Int32 → Mem → Prop) (p2 : Int32) (hrb : ∀ (x0 : Int32) (ν : Mem), rF x0 ν = 0 ∨ rF x0 ν = 1) (μ : Mem) : F_X1_readSum rF rM rP p2 μ = 0 ∨ F_X1_readSum rF rM rP p2 μ = 1 := by
  unfold F_X1_readSum
  split
  · split
    · exact Or.inr rfl
    · split
      · exact Or.inl rfl
      · split
        · exact Or.inl rfl
        · exact Or.inr rfl
  · exact Or.inl rfl
set_option maxRecDepth 20000 in
set_option maxHeartbeats 2000000 in
theorem ok_X1_readSum {G : SG} (hG : GK 57 G) {e : Nat} (he : 40 ≤ e) (rF : Int32 → Mem → Int32) (rM : Int32 → Mem → Mem) (rP : Int32 → Mem → Prop) (hrec : ∀ (x0 : Int32) (ν : Mem), rP x0 ν → OkF G (mX1_readSum e) [.ref (ga G 26), .ref (ga G 1), .int x0] ν (some (.int (rF x0 ν))) (rM x0 ν)) (hrb : ∀ (x0 : Int32) (ν : Mem), rF x0 ν = 0 ∨ rF x0 ν = 1) (p2 : Int32) (μ : Mem) (hP : P_X1_readSum rF rM rP p2 μ) : OkF G (mX1_readSum (e + 4)) [.ref (ga G 26), .ref (ga G 1), .int p2] μ (some (.int (F_X1_readSum rF rM rP p2 μ))) (M_X1_readSum rF rM rP p2 μ) := by
  refine okF_of hG rfl rfl (Nat.le_of_ble_eq_true rfl) ?_
  unfold P_X1_readSum at hP
  refine r_aload_n dX1_readSum_0 0 rfl ?_
  refine r_aload_n dX1_readSum_1 1 rfl ?_
  refine r_iload_n dX1_readSum_2 2 rfl ?_
  have hs1 := hP.1
  replace hP := hP.2
  refine r_cvI (ok_X1_readProduct hG he rF rM rP hrec hrb p2 μ hs1) (lX1_56 _) (hG.lt (by decide)) sh26 ⟨_, _, rfl⟩ dX1_readSum_3 (dpe (a := 3) (b := 4) (by decide)) (Nat.le_of_ble_eq_true rfl) rfl (Nat.le_of_ble_eq_true rfl) ?_
  refine r_mu (muX1_readSum_1 rF rM rP p2 μ) rfl ?_
  refine r_if_ne 11 dX1_readSum_6 (by decide) (fun c1 => ?_) (fun c1 => ?_)
  · replace hP := hP.1 c1
    refine r_iconst 0 dX1_readSum_11 rfl ?_
    refine r_istore_n [(3, _), (0, _), (1, _), (2, _)] dX1_readSum_12 (Nat.le_of_ble_eq_true rfl) rfl ?_
    have hs2 := hP.1
    replace hP := hP.2
    refine r_sub [1, 2, 3, 0] rfl ?_
    refine lp_X1_readSum_13 hG he rF rM rP hrec hrb p2 (muX1_readSum_1 rF rM rP p2 μ) ((NX1_readSum_13 rF rM rP p2 μ)) (SX1_readSum_13 rF rM rP p2 μ) rfl hs2 ?_
    refine r_iload_n dX1_readSum_13 3 rfl ?_
    refine r_sipush 150 dX1_readSum_14 rfl ?_
    refine r_icmp_ge 82 dX1_readSum_17 (by decide) (fun c2 => ?_) (fun c2 => ?_)
    · replace hP := hP.1 c2
      refine r_iconst 1 dX1_readSum_82 rfl ?_
      exact r_ireturn _ dX1_readSum_83 rfl rfl ⟨congrArg (fun z => some (Value.int z)) (by unfold F_X1_readSum; rw [if_pos c1, if_pos c2]), by unfold M_X1_readSum; rw [if_pos c1, if_pos c2]⟩
    · replace hP := hP.2 c2
      refine r_aload_n dX1_readSum_20 1 rfl ?_
      have hs3 := hP.1
      replace hP := hP.2
      refine r_cvI (ok_X8_peek hG  (SX1_readSum_13 rF rM rP p2 μ) hs3) lX1_59 (hG.lt (by decide)) sh1 ⟨_, _, rfl⟩ dX1_readSum_21 (dle (by decide) he) (Nat.le_of_ble_eq_true rfl) rfl (Nat.le_of_ble_eq_true rfl) ?_
      refine r_mu (muX1_readSum_2 rF rM rP p2 μ) rfl ?_
      refine r_istore [(4, _), (0, _), (1, _), (2, _), (3, _)] dX1_readSum_24 (Nat.le_of_ble_eq_true rfl) rfl ?_
      refine r_iload dX1_readSum_26 0 rfl ?_
      refine r_bipush 43 dX1_readSum_28 rfl ?_
      refine r_icmp_eq 42 dX1_readSum_30 (by decide) (fun c3 => ?_) (fun c3 => ?_)
      · replace hP := hP.1 c3
        refine r_aload_n dX1_readSum_42 2 rfl ?_
        refine r_cvV (ok_X8_skipSign hG  (muX1_readSum_2 rF rM rP p2 μ)) lX1_63 (hG.lt (by decide)) sh1 ⟨_, _, rfl⟩ dX1_readSum_43 (dle (by decide) he) (Nat.le_of_ble_eq_true rfl) rfl (Nat.le_of_ble_eq_true rfl) ?_
        refine r_mu (muX1_readSum_3 rF rM rP p2 μ) rfl ?_
        refine r_aload_n dX1_readSum_46 1 rfl ?_
        refine r_aload_n dX1_readSum_47 2 rfl ?_
        refine r_iload_n dX1_readSum_48 3 rfl ?_
        have hs4 := hP.1
        replace hP := hP.2
        refine r_cvI (ok_X1_readProduct hG he rF rM rP hrec hrb p2 (muX1_readSum_3 rF rM rP p2 μ) hs4) (lX1_56 _) (hG.lt (by decide)) sh26 ⟨_, _, rfl⟩ dX1_readSum_49 (dpe (a := 3) (b := 4) (by decide)) (Nat.le_of_ble_eq_true rfl) rfl (Nat.le_of_ble_eq_true rfl) ?_
        refine r_mu (muX1_readSum_4 rF rM rP p2 μ) rfl ?_
        refine r_if_ne 57 dX1_readSum_52 (by decide) (fun c4 => ?_) (fun c4 => ?_)
        · replace hP := hP.1 c4
          refine r_aload_n dX1_readSum_57 1 rfl ?_
          refine r_iload dX1_readSum_58 0 rfl ?_
          refine r_bipush 43 dX1_readSum_60 rfl ?_
          refine r_join 72 [(4, .int (F_X8_peek  (SX1_readSum_13 rF rM rP p2 μ))), (0, .ref (ga G 26)), (1, .ref (ga G 1)), (2, .int p2), (3, .int (nI (NX1_readSum_13 rF rM rP p2 μ)))] [.int (VX1_readSum_5 rF rM rP p2 μ), .ref (ga G 26)] (muX1_readSum_4 rF rM rP p2 μ) ?_ (fun hJ => ?_)
          · refine r_cvI (ok_X1_add hG (IsLw.of26) (VX1_readSum_5 rF rM rP p2 μ) (muX1_readSum_4 rF rM rP p2 μ)) lX1_32 (hG.lt (by decide)) sh26 ⟨_, _, rfl⟩ dX1_readSum_72 (dle (by decide) he) (Nat.le_of_ble_eq_true rfl) rfl (Nat.le_of_ble_eq_true rfl) ?_
            refine r_mu (muX1_readSum_6 rF rM rP p2 μ) rfl ?_
            refine r_pop dX1_readSum_75 rfl ?_
            refine r_iinc ((nI (NX1_readSum_13 rF rM rP p2 μ)) + 1) [(3, _), (4, _), (0, _), (1, _), (2, _)] dX1_readSum_76 4 rfl rfl (Nat.le_of_ble_eq_true rfl) rfl ?_
            refine r_goto 13 dX1_readSum_79 (by decide) ?_
            exact hP.elim
          · refine r_icmp_ne 70 dX1_readSum_62 (by decide) (fun c5 => ?_) (fun c5 => ?_)
            · refine r_bipush 9 dX1_readSum_70 rfl ?_
              have e : (VX1_readSum_5 rF rM rP p2 μ) = 9 := by unfold VX1_readSum_5; rw [if_pos c5]
              rw [e] at hJ
              exact r_sub [0, 1, 2, 3, 4] rfl hJ
            · refine r_bipush 8 dX1_readSum_65 rfl ?_
              refine r_goto 72 dX1_readSum_67 (by decide) ?_
              have e : (VX1_readSum_5 rF rM rP p2 μ) = 8 := by unfold VX1_readSum_5; rw [if_neg (not_not_intro c5)]
              rw [e] at hJ
              exact r_sub [0, 1, 2, 3, 4] rfl hJ
        · replace hP := hP.2 c4
          refine r_iconst 0 dX1_readSum_55 rfl ?_
          exact r_ireturn _ dX1_readSum_56 rfl rfl ⟨congrArg (fun z => some (Value.int z)) (by unfold F_X1_readSum; rw [if_pos c1, if_neg (i32_ng c2), if_pos c3]), by unfold M_X1_readSum; rw [if_pos c1, if_neg (i32_ng c2), if_pos c3]⟩
      · replace hP := hP.2 c3
        refine r_iload dX1_readSum_33 0 rfl ?_
        refine r_bipush 45 dX1_readSum_35 rfl ?_
        refine r_icmp_eq 42 dX1_readSum_37 (by decide) (fun c4 => ?_) (fun c4 => ?_)
        · replace hP := hP.1 c4
          refine r_aload_n dX1_readSum_42 2 rfl ?_
          refine r_cvV (ok_X8_skipSign hG  (muX1_readSum_2 rF rM rP p2 μ)) lX1_63 (hG.lt (by decide)) sh1 ⟨_, _, rfl⟩ dX1_readSum_43 (dle (by decide) he) (Nat.le_of_ble_eq_true rfl) rfl (Nat.le_of_ble_eq_true rfl) ?_
          refine r_mu (muX1_readSum_7 rF rM rP p2 μ) rfl ?_
          refine r_aload_n dX1_readSum_46 1 rfl ?_
          refine r_aload_n dX1_readSum_47 2 rfl ?_
          refine r_iload_n dX1_readSum_48 3 rfl ?_
          have hs5 := hP.1
          replace hP := hP.2
          refine r_cvI (ok_X1_readProduct hG he rF rM rP hrec hrb p2 (muX1_readSum_7 rF rM rP p2 μ) hs5) (lX1_56 _) (hG.lt (by decide)) sh26 ⟨_, _, rfl⟩ dX1_readSum_49 (dpe (a := 3) (b := 4) (by decide)) (Nat.le_of_ble_eq_true rfl) rfl (Nat.le_of_ble_eq_true rfl) ?_
          refine r_mu (muX1_readSum_8 rF rM rP p2 μ) rfl ?_
          refine r_if_ne 57 dX1_readSum_52 (by decide) (fun c5 => ?_) (fun c5 => ?_)
          · replace hP := hP.1 c5
            refine r_aload_n dX1_readSum_57 1 rfl ?_
            refine r_iload dX1_readSum_58 0 rfl ?_
            refine r_bipush 43 dX1_readSum_60 rfl ?_
            refine r_join 72 [(4, .int (F_X8_peek  (SX1_readSum_13 rF rM rP p2 μ))), (0, .ref (ga G 26)), (1, .ref (ga G 1)), (2, .int p2), (3, .int (nI (NX1_readSum_13 rF rM rP p2 μ)))] [.int (VX1_readSum_9 rF rM rP p2 μ), .ref (ga G 26)] (muX1_readSum_8 rF rM rP p2 μ) ?_ (fun hJ => ?_)
            · refine r_cvI (ok_X1_add hG (IsLw.of26) (VX1_readSum_9 rF rM rP p2 μ) (muX1_readSum_8 rF rM rP p2 μ)) lX1_32 (hG.lt (by decide)) sh26 ⟨_, _, rfl⟩ dX1_readSum_72 (dle (by decide) he) (Nat.le_of_ble_eq_true rfl) rfl (Nat.le_of_ble_eq_true rfl) ?_
              refine r_mu (muX1_readSum_10 rF rM rP p2 μ) rfl ?_
              refine r_pop dX1_readSum_75 rfl ?_
              refine r_iinc ((nI (NX1_readSum_13 rF rM rP p2 μ)) + 1) [(3, _), (4, _), (0, _), (1, _), (2, _)] dX1_readSum_76 4 rfl rfl (Nat.le_of_ble_eq_true rfl) rfl ?_
              refine r_goto 13 dX1_readSum_79 (by decide) ?_
              exact hP.elim
            · refine r_icmp_ne 70 dX1_readSum_62 (by decide) (fun c6 => ?_) (fun c6 => ?_)
              · refine r_bipush 9 dX1_readSum_70 rfl ?_
                have e : (VX1_readSum_9 rF rM rP p2 μ) = 9 := by unfold VX1_readSum_9; rw [if_pos c6]
                rw [e] at hJ
                exact r_sub [0, 1, 2, 3, 4] rfl hJ
              · refine r_bipush 8 dX1_readSum_65 rfl ?_
                refine r_goto 72 dX1_readSum_67 (by decide) ?_
                have e : (VX1_readSum_9 rF rM rP p2 μ) = 8 := by unfold VX1_readSum_9; rw [if_neg (not_not_intro c6)]
                rw [e] at hJ
                exact r_sub [0, 1, 2, 3, 4] rfl hJ
          · replace hP := hP.2 c5
            refine r_iconst 0 dX1_readSum_55 rfl ?_
            exact r_ireturn _ dX1_readSum_56 rfl rfl ⟨congrArg (fun z => some (Value.int z)) (by unfold F_X1_readSum; rw [if_pos c1, if_neg (i32_ng c2), if_neg c3, if_pos c4]), by unfold M_X1_readSum; rw [if_pos c1, if_neg (i32_ng c2), if_neg c3, if_pos c4]⟩
        · replace hP := hP.2 c4
          refine r_iconst 1 dX1_readSum_40 rfl ?_
          exact r_ireturn _ dX1_readSum_41 rfl rfl ⟨congrArg (fun z => some (Value.int z)) (by unfold F_X1_readSum; rw [if_pos c1, if_neg (i32_ng c2), if_neg c3, if_neg c4]), by unfold M_X1_readSum; rw [if_pos c1, if_neg (i32_ng c2), if_neg c3, if_neg c4]⟩
  · replace hP := hP.2 c1
    refine r_iconst 0 dX1_readSum_9 rfl ?_
    exact r_ireturn _ dX1_readSum_10 rfl rfl ⟨congrArg (fun z => some (Value.int z)) (by unfold F_X1_readSum; rw [if_neg (not_not_intro c1)]), by unfold M_X1_readSum; rw [if_neg (not_not_intro c1)]⟩
