theorem r_acopy {G : SG} {mt : MT} {pc : Nat} {lv : List (Nat × Value)} {st : List Value} {μ : Mem} {t : Nat} {Q : PQ} {X : PX} {h0 h1 n0 n1 : Nat} {sp dp n : Int32} (hmt : (mN mt).cls = RX9) (l0 : h0 < gh G) (s0 : shp h0 = (1, n0, 0)) (l1 : h1 < gh G) (s1 : shp h1 = (1, n1, 0)) (h1' : ¬ sp < 0) (h2' : ¬ dp < 0) (h3' : ¬ n < 0) (h4' : ix sp + ix n ≤ n0) (h5' : ix dp + ix n ≤ n1) (hcat : (st.map fun v => v.category).sum ≤ 8)
    (hd : decode (mB mt) pc = .ok (.invokestatic 368, 3)) (kk : R G mt (pc + 3) lv st (upr μ h1 (va_cpy (μ h0) (μ h1) (ix sp) (ix dp) (ix n))) t Q X) : R G mt pc lv (.int n :: .int dp :: .ref (ga G h1) :: .int sp :: .ref (ga G h0) :: st) μ t Q X := by
  intro p e Rm s m args below meth cd Ct St QQ H locs cells slots ls C E EX hW hS hc hs hl
  have c1 := C.2.2.2.2.2.2.2.1
  have c2 := C.2.2.2.2.2.2.2.2.1
  obtain ⟨t0, ht0⟩ := ty_at (G := G) l0 (q := (gA G h0, .int)) (by unfold tyE; rw [s0]; rfl)
  obtain ⟨t1, ht1⟩ := ty_at (G := G) l1 (q := (gA G h1, .int)) (by unfold tyE; rw [s1]; rfl)
  have he0 := wl_at (G := G) (μ := μ) l0
  rw [ent_int s0] at he0
  have he1 := wl_at (G := G) (μ := μ) l1
  rw [ent_int s1] at he1
  have hown := C.own
  rw [hmt] at hown
  have hnf : nativeFrameWords "java/lang/System" "arraycopy" 5 ≤ 60 := by decide +kernel
  have hw : (wl G μ).set h1 (ga G h1, .inl (gA G h1, n1, .inl (va_cpy (μ h0) (μ h1) (ix sp) (ix dp) (ix n)))) = wl G (upr μ h1 (va_cpy (μ h0) (μ h1) (ix sp) (ix dp) (ix n))) := by
    have e1 : ent G (upr μ h1 (va_cpy (μ h0) (μ h1) (ix sp) (ix dp) (ix n))) h1 = .inl (gA G h1, n1, .inl (va_cpy (μ h0) (μ h1) (ix sp) (ix dp) (ix n))) := by rw [ent_int s1, upr_same]
    rw [← e1]
    exact wl_set l1 fun h' hn => upr_other hn
  refine va_copyi C.1 C.2.1 (C.2.2.1.trans hl.1.symm) hown (C.big _ (bc2 148 (by decide +kernel) (by decide +kernel))) (C.big _ (bc2 150 (by decide +kernel) (by decide +kernel))) (C.big _ (bc2 149 (by decide +kernel) (by decide +kernel))) (C.big _ (bc1 20 (by decide +kernel) (by decide +kernel))) C.k hW.1 hW.2 hS h0 h1 t0 t1 he0 he1 ht0 ht1 rfl h1' h2' h3' h4' h5' (fun _ _ => rfl) (by omega) (by omega) hd fun H1 locs1 q1 q2 q3 => ?_
  rw [hw] at q1 q2
  exact kk p e Rm s m args below meth cd Ct St QQ H1 locs1 cells slots ls C E EX ⟨q1, q2⟩ q3 hc hs hl
/-- the first place below n where c holds, or n -/
def fst (n : Nat) (c : Nat → Bool) : Nat := match n with
  | 0 => 0
  | n + 1 => if c 0 then 0 else fst n (fun i => c (i + 1)) + 1
def muX9_copyRow_1 (fr : Nat) (nfr : Nat) (p1 : Int32) (to : Nat) (nto : Nat) (p3 : Int32) (p4 : Int32) (μ : Mem) : Mem := (upr μ to (va_cpy (μ fr) (μ to) (ix p1) (ix p3) (ix p4)))
def M_X9_copyRow (fr nfr : Nat) (p1 : Int32) (to nto : Nat) (p3 : Int32) (p4 : Int32) (μ : Mem) : Mem := (if p4 < 0 then μ else (if p1 < 0 then μ else (if p3 < 0 then μ else (if ((nI nfr) - p4) < p1 then μ else (if ((nI nto) - p4) < p3 then μ else (muX9_copyRow_1 fr nfr p1 to nto p3 p4 μ))))))
def P_X9_copyRow (fr nfr : Nat) (p1 : Int32) (to nto : Nat) (p3 : Int32) (p4 : Int32) (μ : Mem) : Prop := ((p4 < 0 → True) ∧ (0 ≤ p4 → ((p1 < 0 → True) ∧ (0 ≤ p1 → ((p3 < 0 → True) ∧ (0 ≤ p3 → ((((nI nfr) - p4) < p1 → True) ∧ (p1 ≤ ((nI nfr) - p4) → ((((nI nto) - p4) < p3 → True) ∧ (p3 ≤ ((nI nto) - p4) → ((¬ p1 < 0) ∧ ((¬ p3 < 0) ∧ ((¬ p4 < 0) ∧ (((ix p1) + (ix p4) ≤ nfr) ∧ ((ix p3) + (ix p4) ≤ nto)))))))))))))))
set_option maxRecDepth 20000 in
set_option maxHeartbeats 2000000 in
theorem ok_X9_copyRow {G : SG} (hG : GK 57 G) {fr nfr : Nat} (hlfr : fr < gh G) (hsfr : shp fr = (1, nfr, 0)) (p1 : Int32) {to nto : Nat} (hlto : to < gh G) (hsto : shp to = (1, nto, 0)) (p3 : Int32) (p4 : Int32) (μ : Mem) (hP : P_X9_copyRow fr nfr p1 to nto p3 p4 μ) : OkF G mX9_copyRow [.ref (ga G fr), .int p1, .ref (ga G to), .int p3, .int p4] μ none (M_X9_copyRow fr nfr p1 to nto p3 p4 μ) := by
  refine okF_of hG rfl rfl (Nat.le_of_ble_eq_true rfl) ?_
  unfold P_X9_copyRow at hP
  refine r_iload dX9_copyRow_0 4 rfl ?_
  refine r_if_lt 40 dX9_copyRow_2 (by decide) (fun c1 => ?_) (fun c1 => ?_)
  · replace hP := hP.1 c1
    exact r_return dX9_copyRow_40 rfl ⟨rfl, by unfold M_X9_copyRow; rw [if_pos c1]⟩
  · replace hP := hP.2 c1
    refine r_iload_n dX9_copyRow_5 1 rfl ?_
    refine r_if_lt 40 dX9_copyRow_6 (by decide) (fun c2 => ?_) (fun c2 => ?_)
    · replace hP := hP.1 c2
      exact r_return dX9_copyRow_40 rfl ⟨rfl, by unfold M_X9_copyRow; rw [if_neg (i32_nl c1), if_pos c2]⟩
    · replace hP := hP.2 c2
      refine r_iload_n dX9_copyRow_9 3 rfl ?_
      refine r_if_lt 40 dX9_copyRow_10 (by decide) (fun c3 => ?_) (fun c3 => ?_)
      · replace hP := hP.1 c3
        exact r_return dX9_copyRow_40 rfl ⟨rfl, by unfold M_X9_copyRow; rw [if_neg (i32_nl c1), if_neg (i32_nl c2), if_pos c3]⟩
      · replace hP := hP.2 c3
        refine r_iload_n dX9_copyRow_13 1 rfl ?_
        refine r_aload_n dX9_copyRow_14 0 rfl ?_
        refine r_alen (nI nfr) hlfr hsfr rfl dX9_copyRow_15 ?_
        refine r_iload dX9_copyRow_16 4 rfl ?_
        refine r_isub dX9_copyRow_18 ?_
        refine r_icmp_gt 40 dX9_copyRow_19 (by decide) (fun c4 => ?_) (fun c4 => ?_)
        · replace hP := hP.1 c4
          exact r_return dX9_copyRow_40 rfl ⟨rfl, by unfold M_X9_copyRow; rw [if_neg (i32_nl c1), if_neg (i32_nl c2), if_neg (i32_nl c3), if_pos c4]⟩
        · replace hP := hP.2 c4
          refine r_iload_n dX9_copyRow_22 3 rfl ?_
          refine r_aload_n dX9_copyRow_23 2 rfl ?_
          refine r_alen (nI nto) hlto hsto rfl dX9_copyRow_24 ?_
          refine r_iload dX9_copyRow_25 4 rfl ?_
          refine r_isub dX9_copyRow_27 ?_
          refine r_icmp_gt 40 dX9_copyRow_28 (by decide) (fun c5 => ?_) (fun c5 => ?_)
          · replace hP := hP.1 c5
            exact r_return dX9_copyRow_40 rfl ⟨rfl, by unfold M_X9_copyRow; rw [if_neg (i32_nl c1), if_neg (i32_nl c2), if_neg (i32_nl c3), if_neg (i32_nl c4), if_pos c5]⟩
          · replace hP := hP.2 c5
            refine r_aload_n dX9_copyRow_31 0 rfl ?_
            refine r_iload_n dX9_copyRow_32 1 rfl ?_
            refine r_aload_n dX9_copyRow_33 2 rfl ?_
            refine r_iload_n dX9_copyRow_34 3 rfl ?_
            refine r_iload dX9_copyRow_35 4 rfl ?_
            have hs1 := hP.1
            replace hP := hP.2
            have hs2 := hP.1
            replace hP := hP.2
            have hs3 := hP.1
            replace hP := hP.2
            have hs4 := hP.1
            replace hP := hP.2
            have hs5 := hP
            refine r_acopy (by decide) hlfr hsfr hlto hsto hs1 hs2 hs3 hs4 hs5 (Nat.le_of_ble_eq_true rfl) dX9_copyRow_37 ?_
            refine r_mu (muX9_copyRow_1 fr nfr p1 to nto p3 p4 μ) rfl ?_
            exact r_return dX9_copyRow_40 rfl ⟨rfl, by unfold M_X9_copyRow; rw [if_neg (i32_nl c1), if_neg (i32_nl c2), if_neg (i32_nl c3), if_neg (i32_nl c4), if_neg (i32_nl c5)]⟩
def muX9_copyWhole_1 (fr : Nat) (nfr : Nat) (to : Nat) (nto : Nat) (μ : Mem) : Mem := (M_X9_copyRow fr nfr 0 to nto 0 (nI nfr) μ)
def M_X9_copyWhole (fr nfr : Nat) (to nto : Nat) (μ : Mem) : Mem := (muX9_copyWhole_1 fr nfr to nto μ)
def P_X9_copyWhole (fr nfr : Nat) (to nto : Nat) (μ : Mem) : Prop := (P_X9_copyRow fr nfr 0 to nto 0 (nI nfr) μ)
set_option maxRecDepth 20000 in
set_option maxHeartbeats 2000000 in
theorem ok_X9_copyWhole {G : SG} (hG : GK 57 G) {fr nfr : Nat} (hlfr : fr < gh G) (hsfr : shp fr = (1, nfr, 0)) {to nto : Nat} (hlto : to < gh G) (hsto : shp to = (1, nto, 0)) (μ : Mem) (hP : P_X9_copyWhole fr nfr to nto μ) : OkF G mX9_copyWhole [.ref (ga G fr), .ref (ga G to)] μ none (M_X9_copyWhole fr nfr to nto μ) := by
  refine okF_of hG rfl rfl (Nat.le_of_ble_eq_true rfl) ?_
  unfold P_X9_copyWhole at hP
  refine r_aload_n dX9_copyWhole_0 0 rfl ?_
  refine r_iconst 0 dX9_copyWhole_1 rfl ?_
  refine r_aload_n dX9_copyWhole_2 1 rfl ?_
  refine r_iconst 0 dX9_copyWhole_3 rfl ?_
  refine r_aload_n dX9_copyWhole_4 0 rfl ?_
  refine r_alen (nI nfr) hlfr hsfr rfl dX9_copyWhole_5 ?_
  have hs1 := hP
  refine r_csV (ok_X9_copyRow hG hlfr hsfr 0 hlto hsto 0 (nI nfr) μ hs1) lX9_374 dX9_copyWhole_6 (by decide) (Nat.le_of_ble_eq_true rfl) rfl (Nat.le_of_ble_eq_true rfl) ?_
  refine r_mu (muX9_copyWhole_1 fr nfr to nto μ) rfl ?_
  exact r_return dX9_copyWhole_9 rfl ⟨rfl, rfl⟩
def muX0_begin_1 (μ : Mem) : Mem := (M_X9_copyWhole 44 69 53 69 μ)
def M_X0_begin  (μ : Mem) : Mem := (muX0_begin_1 μ)
def P_X0_begin  (μ : Mem) : Prop := (P_X9_copyWhole 44 69 53 69 μ)
set_option maxRecDepth 20000 in
set_option maxHeartbeats 2000000 in
theorem ok_X0_begin {G : SG} (hG : GK 57 G)  (μ : Mem) (hP : P_X0_begin  μ) : OkF G mX0_begin [.ref (ga G 51)] μ none (M_X0_begin  μ) := by
  refine okF_of hG rfl rfl (Nat.le_of_ble_eq_true rfl) ?_
  unfold P_X0_begin at hP
  refine r_aload_n dX0_begin_0 0 rfl ?_
  refine r_getR 43 fX0_26 (hG.lt (by decide)) sh51 fs51_2 dX0_begin_1 ?_
  refine r_getR 44 fX0_29 (hG.lt (by decide)) sh43 fs43_0 dX0_begin_4 ?_
  refine r_aload_n dX0_begin_7 0 rfl ?_
  refine r_getR 52 fX0_12 (hG.lt (by decide)) sh51 fs51_3 dX0_begin_8 ?_
  refine r_getR 53 fX0_29 (hG.lt (by decide)) sh52 fs52_0 dX0_begin_11 ?_
  have hs1 := hP
  refine r_csV (ok_X9_copyWhole hG (hG.lt (by decide)) sh44 (hG.lt (by decide)) sh53 μ hs1) lX0_33 dX0_begin_14 (by decide) (Nat.le_of_ble_eq_true rfl) rfl (Nat.le_of_ble_eq_true rfl) ?_
  refine r_mu (muX0_begin_1 μ) rfl ?_
  exact r_return dX0_begin_17 rfl ⟨rfl, rfl⟩
def F_X7_heightOf (p1 : Int32) (μ : Mem) : Int32 := (if (μ 3 10) ≤ 0 then 0 else (if p1 < 0 then 0 else (F_X9_at 9 12 (p1 - p1 / (μ 3 10) * (μ 3 10)) μ)))
def P_X7_heightOf (p1 : Int32) (μ : Mem) : Prop := (((μ 3 10) ≤ 0 → True) ∧ (0 < (μ 3 10) → ((p1 < 0 → True) ∧ (0 ≤ p1 → (¬ (μ 3 10) = 0)))))
set_option maxRecDepth 20000 in
set_option maxHeartbeats 2000000 in
theorem ok_X7_heightOf {G : SG} (hG : GK 57 G) (p1 : Int32) (μ : Mem) (hP : P_X7_heightOf p1 μ) : OkF G mX7_heightOf [.ref (ga G 3), .int p1] μ (some (.int (F_X7_heightOf p1 μ))) μ := by
  refine okF_of hG rfl rfl (Nat.le_of_ble_eq_true rfl) ?_
  unfold P_X7_heightOf at hP
  refine r_aload_n dX7_heightOf_0 0 rfl ?_
  refine r_getI fX7_53 (hG.lt (by decide)) sh3 fs3_10 dX7_heightOf_1 ?_
  refine r_if_le 27 dX7_heightOf_4 (by decide) (fun c1 => ?_) (fun c1 => ?_)
  · replace hP := hP.1 c1
    refine r_iconst 0 dX7_heightOf_27 rfl ?_
    exact r_ireturn _ dX7_heightOf_28 rfl rfl ⟨congrArg (fun z => some (Value.int z)) (by unfold F_X7_heightOf; rw [if_pos c1]), rfl⟩
  · replace hP := hP.2 c1
    refine r_iload_n dX7_heightOf_7 1 rfl ?_
    refine r_if_lt 27 dX7_heightOf_8 (by decide) (fun c2 => ?_) (fun c2 => ?_)
    · replace hP := hP.1 c2
      refine r_iconst 0 dX7_heightOf_27 rfl ?_
      exact r_ireturn _ dX7_heightOf_28 rfl rfl ⟨congrArg (fun z => some (Value.int z)) (by unfold F_X7_heightOf; rw [if_neg (i32_ng c1), if_pos c2]), rfl⟩
    · replace hP := hP.2 c2
      refine r_aload_n dX7_heightOf_11 0 rfl ?_
      refine r_getR 9 fX7_27 (hG.lt (by decide)) sh3 fs3_5 dX7_heightOf_12 ?_
      refine r_iload_n dX7_heightOf_15 1 rfl ?_
      refine r_aload_n dX7_heightOf_16 0 rfl ?_
      refine r_getI fX7_53 (hG.lt (by decide)) sh3 fs3_10 dX7_heightOf_17 ?_
      have hs1 := hP
      refine r_irem dX7_heightOf_20 hs1 ?_
      refine r_csI (ok_X9_at hG (hG.lt (by decide)) sh9 (p1 - p1 / (μ 3 10) * (μ 3 10)) μ) lX7_59 dX7_heightOf_21 (by decide) (Nat.le_of_ble_eq_true rfl) rfl (Nat.le_of_ble_eq_true rfl) ?_
      refine r_goto 28 dX7_heightOf_24 (by decide) ?_
      exact r_ireturn _ dX7_heightOf_28 rfl rfl ⟨congrArg (fun z => some (Value.int z)) (by unfold F_X7_heightOf; rw [if_neg (i32_ng c1), if_neg (i32_nl c2)]), rfl⟩
def F_X0_heightAhead (p1 : Int32) (μ : Mem) : Int32 := (F_X7_heightOf ((F_X5_tideToCome 43 μ) + p1) μ)
def P_X0_heightAhead (p1 : Int32) (μ : Mem) : Prop := (P_X7_heightOf ((F_X5_tideToCome 43 μ) + p1) μ)
set_option maxRecDepth 20000 in
set_option maxHeartbeats 2000000 in
theorem ok_X0_heightAhead {G : SG} (hG : GK 57 G) (p1 : Int32) (μ : Mem) (hP : P_X0_heightAhead p1 μ) : OkF G mX0_heightAhead [.ref (ga G 51), .int p1] μ (some (.int (F_X0_heightAhead p1 μ))) μ := by
  refine okF_of hG rfl rfl (Nat.le_of_ble_eq_true rfl) ?_
  unfold P_X0_heightAhead at hP
  refine r_aload_n dX0_heightAhead_0 0 rfl ?_
  refine r_getR 3 fX0_18 (hG.lt (by decide)) sh51 fs51_0 dX0_heightAhead_1 ?_
  refine r_aload_n dX0_heightAhead_4 0 rfl ?_
  refine r_getR 43 fX0_26 (hG.lt (by decide)) sh51 fs51_2 dX0_heightAhead_5 ?_
  refine r_cvI (ok_X5_tideToCome hG (IsSt.of43) μ) lX0_37 (hG.lt (by decide)) sh43 ⟨_, _, rfl⟩ dX0_heightAhead_8 (by decide) (Nat.le_of_ble_eq_true rfl) rfl (Nat.le_of_ble_eq_true rfl) ?_
  refine r_iload_n dX0_heightAhead_11 1 rfl ?_
  refine r_iadd dX0_heightAhead_12 ?_
  have hs1 := hP
  refine r_cvI (ok_X7_heightOf hG ((F_X5_tideToCome 43 μ) + p1) μ hs1) lX0_41 (hG.lt (by decide)) sh3 ⟨_, _, rfl⟩ dX0_heightAhead_13 (by decide) (Nat.le_of_ble_eq_true rfl) rfl (Nat.le_of_ble_eq_true rfl) ?_
  exact r_ireturn _ dX0_heightAhead_16 rfl rfl ⟨congrArg (fun z => some (Value.int z)) (rfl), rfl⟩
def F_X5_waterIn (th : Nat) (p1 : Int32) (p2 : Int32) (μ : Mem) : Int32 := (imax 0 (p2 - (F_X5_of th 50 p1 μ)))
set_option maxRecDepth 20000 in
set_option maxHeartbeats 2000000 in
theorem ok_X5_waterIn {G : SG} (hG : GK 57 G) {th : Nat} (hth : IsSt th) (p1 : Int32) (p2 : Int32) (μ : Mem) : OkF G mX5_waterIn [.ref (ga G th), .int p1, .int p2] μ (some (.int (F_X5_waterIn th p1 p2 μ))) μ := by
  refine okF_of hG rfl rfl (Nat.le_of_ble_eq_true rfl) ?_
  refine r_iconst 0 dX5_waterIn_0 rfl ?_
  refine r_iload_n dX5_waterIn_1 2 rfl ?_
  refine r_aload_n dX5_waterIn_2 0 rfl ?_
  refine r_bipush 50 dX5_waterIn_3 rfl ?_
  refine r_iload_n dX5_waterIn_5 1 rfl ?_
  refine r_cvI (ok_X5_of hG hth 50 p1 μ) lX5_54 (hth.lt hG) hth.sh ⟨_, _, rfl⟩ dX5_waterIn_6 (by decide) (Nat.le_of_ble_eq_true rfl) rfl (Nat.le_of_ble_eq_true rfl) ?_
  refine r_isub dX5_waterIn_9 ?_
  refine r_mmax lX5_58 (Nat.le_of_ble_eq_true rfl) dX5_waterIn_10 ?_
  exact r_ireturn _ dX5_waterIn_13 rfl rfl ⟨congrArg (fun z => some (Value.int z)) (rfl), rfl⟩
def F_X0_waterAhead (p1 : Int32) (p2 : Int32) (μ : Mem) : Int32 := (F_X5_waterIn 43 p1 (F_X0_heightAhead p2 μ) μ)
def P_X0_waterAhead (p1 : Int32) (p2 : Int32) (μ : Mem) : Prop := (P_X0_heightAhead p2 μ)
set_option maxRecDepth 20000 in
set_option maxHeartbeats 2000000 in
theorem ok_X0_waterAhead {G : SG} (hG : GK 57 G) (p1 : Int32) (p2 : Int32) (μ : Mem) (hP : P_X0_waterAhead p1 p2 μ) : OkF G mX0_waterAhead [.ref (ga G 51), .int p1, .int p2] μ (some (.int (F_X0_waterAhead p1 p2 μ))) μ := by
  refine okF_of hG rfl rfl (Nat.le_of_ble_eq_true rfl) ?_
  unfold P_X0_waterAhead at hP
  refine r_aload_n dX0_waterAhead_0 0 rfl ?_
  refine r_getR 43 fX0_26 (hG.lt (by decide)) sh51 fs51_2 dX0_waterAhead_1 ?_
  refine r_iload_n dX0_waterAhead_4 1 rfl ?_
  refine r_aload_n dX0_waterAhead_5 0 rfl ?_
  refine r_iload_n dX0_waterAhead_6 2 rfl ?_
  have hs1 := hP
  refine r_cvI (ok_X0_heightAhead hG p2 μ hs1) lX0_47 (hG.lt (by decide)) sh51 ⟨_, _, rfl⟩ dX0_waterAhead_7 (by decide) (Nat.le_of_ble_eq_true rfl) rfl (Nat.le_of_ble_eq_true rfl) ?_
  refine r_cvI (ok_X5_waterIn hG (IsSt.of43) p1 (F_X0_heightAhead p2 μ) μ) lX0_50 (hG.lt (by decide)) sh43 ⟨_, _, rfl⟩ dX0_waterAhead_10 (by decide) (Nat.le_of_ble_eq_true rfl) rfl (Nat.le_of_ble_eq_true rfl) ?_
  exact r_ireturn _ dX0_waterAhead_13 rfl rfl ⟨congrArg (fun z => some (Value.int z)) (rfl), rfl⟩
def g_X0_comesIntoAny_2 (v1 : Int32) (v2 : Int32) (μ : Mem) (i : Nat) (s : Unit) : Unit := ()
def Pb_X0_comesIntoAny_2 (v1 : Int32) (v2 : Int32) (μ : Mem) (i : Nat) (s : Unit) : Prop := (((μ 3 8) ≤ (nI i) → False) ∧ ((nI i) < (μ 3 8) → ((((v1 >>> ((nI i) &&& 31)) &&& 1) ≠ 1 → True) ∧ (((v1 >>> ((nI i) &&& 31)) &&& 1) = 1 → (P_X0_waterAhead (nI i) v2 μ) ∧ (((F_X0_waterAhead (nI i) v2 μ) ≤ 0 → True) ∧ (0 < (F_X0_waterAhead (nI i) v2 μ) → False))))))
def Cb_X0_comesIntoAny_2 (v1 : Int32) (v2 : Int32) (μ : Mem) (i : Nat) (s : Unit) : Bool := (if (μ 3 8) ≤ (nI i) then false else (if ((v1 >>> ((nI i) &&& 31)) &&& 1) ≠ 1 then true else (if (F_X0_waterAhead (nI i) v2 μ) ≤ 0 then true else false)))
set_option maxRecDepth 20000 in
set_option maxHeartbeats 2000000 in
theorem lp_X0_comesIntoAny_2 {G : SG} (hG : GK 57 G)  (v1 : Int32) (v2 : Int32) (μ : Mem) (s0 : Unit) (N : Nat) (sN : Unit) (eN : sN = fo N (g_X0_comesIntoAny_2 v1 v2 μ) s0) (hN : ∀ i, i < N → Pb_X0_comesIntoAny_2 v1 v2 μ i (fo i (g_X0_comesIntoAny_2 v1 v2 μ) s0)) {t : Nat} {Q : PQ} {X : PX} (h : R G mX0_comesIntoAny 2 [(0, .ref (ga G 51)), (1, .int v1), (2, .int v2), (3, .int (nI N))] [] μ t Q X) : R G mX0_comesIntoAny 2 [(0, .ref (ga G 51)), (1, .int v1), (2, .int v2), (3, .int 0)] [] μ t Q X := by
  subst eN
  refine down_i N (fun i => R G mX0_comesIntoAny 2 [(0, .ref (ga G 51)), (1, .int v1), (2, .int v2), (3, .int (nI i))] [] μ t Q X) h (fun i hi hS => ?_)
  have hP := hN i hi
  rw [nI_succ] at hS
  generalize fo i (g_X0_comesIntoAny_2 v1 v2 μ) s0 = s at hS hP ⊢
  unfold Pb_X0_comesIntoAny_2 at hP
  refine r_iload_n dX0_comesIntoAny_2 3 rfl ?_
  refine r_aload_n dX0_comesIntoAny_3 0 rfl ?_
  refine r_getR 3 fX0_18 (hG.lt (by decide)) sh51 fs51_0 dX0_comesIntoAny_4 ?_
  refine r_getI fX0_54 (hG.lt (by decide)) sh3 fs3_8 dX0_comesIntoAny_7 ?_
  refine r_icmp_ge 39 dX0_comesIntoAny_10 (by decide) (fun c1 => ?_) (fun c1 => ?_)
  · replace hP := hP.1 c1
    exact hP.elim
  · replace hP := hP.2 c1
    refine r_iload_n dX0_comesIntoAny_13 1 rfl ?_
    refine r_iload_n dX0_comesIntoAny_14 3 rfl ?_
    refine r_ishr dX0_comesIntoAny_15 rfl ?_
    refine r_iconst 1 dX0_comesIntoAny_16 rfl ?_
    refine r_iand dX0_comesIntoAny_17 ?_
    refine r_iconst 1 dX0_comesIntoAny_18 rfl ?_
    refine r_icmp_ne 33 dX0_comesIntoAny_19 (by decide) (fun c2 => ?_) (fun c2 => ?_)
    · replace hP := hP.1 c2
      refine r_iinc ((nI i) + 1) [(3, _), (0, _), (1, _), (2, _)] dX0_comesIntoAny_33 3 rfl rfl (Nat.le_of_ble_eq_true rfl) rfl ?_
      refine r_goto 2 dX0_comesIntoAny_36 (by decide) ?_
      exact r_sub [1, 2, 3, 0] rfl hS
    · replace hP := hP.2 c2
      refine r_aload_n dX0_comesIntoAny_22 0 rfl ?_
      refine r_iload_n dX0_comesIntoAny_23 3 rfl ?_
      refine r_iload_n dX0_comesIntoAny_24 2 rfl ?_
      have hs1 := hP.1
      replace hP := hP.2
      refine r_cvI (ok_X0_waterAhead hG (nI i) v2 μ hs1) lX0_58 (hG.lt (by decide)) sh51 ⟨_, _, rfl⟩ dX0_comesIntoAny_25 (by decide) (Nat.le_of_ble_eq_true rfl) rfl (Nat.le_of_ble_eq_true rfl) ?_
      refine r_if_le 33 dX0_comesIntoAny_28 (by decide) (fun c3 => ?_) (fun c3 => ?_)
      · replace hP := hP.1 c3
        refine r_iinc ((nI i) + 1) [(3, _), (0, _), (1, _), (2, _)] dX0_comesIntoAny_33 3 rfl rfl (Nat.le_of_ble_eq_true rfl) rfl ?_
        refine r_goto 2 dX0_comesIntoAny_36 (by decide) ?_
        exact r_sub [1, 2, 3, 0] rfl hS
      · replace hP := hP.2 c3
        refine r_iconst 1 dX0_comesIntoAny_31 rfl ?_
        exact hP.elim
def NX0_comesIntoAny_2 (p1 : Int32) (p2 : Int32) (μ : Mem) : Nat := (fst 7 (fun j9 => !Cb_X0_comesIntoAny_2 p1 p2 μ j9 (fo j9 (g_X0_comesIntoAny_2 p1 p2 μ) ())))
def SX0_comesIntoAny_2 (p1 : Int32) (p2 : Int32) (μ : Mem) : Unit := fo (NX0_comesIntoAny_2 p1 p2 μ) (g_X0_comesIntoAny_2 p1 p2 μ) ()
def F_X0_comesIntoAny (p1 : Int32) (p2 : Int32) (μ : Mem) : Int32 := (if (μ 3 8) ≤ (nI (NX0_comesIntoAny_2 p1 p2 μ)) then 0 else 1)
def P_X0_comesIntoAny (p1 : Int32) (p2 : Int32) (μ : Mem) : Prop := ((∀ j9, j9 < (NX0_comesIntoAny_2 p1 p2 μ) → Pb_X0_comesIntoAny_2 p1 p2 μ j9 (fo j9 (g_X0_comesIntoAny_2 p1 p2 μ) ())) ∧ (((μ 3 8) ≤ (nI (NX0_comesIntoAny_2 p1 p2 μ)) → True) ∧ ((nI (NX0_comesIntoAny_2 p1 p2 μ)) < (μ 3 8) → ((((p1 >>> ((nI (NX0_comesIntoAny_2 p1 p2 μ)) &&& 31)) &&& 1) ≠ 1 → False) ∧ (((p1 >>> ((nI (NX0_comesIntoAny_2 p1 p2 μ)) &&& 31)) &&& 1) = 1 → ((P_X0_waterAhead (nI (NX0_comesIntoAny_2 p1 p2 μ)) p2 μ) ∧ (((F_X0_waterAhead (nI (NX0_comesIntoAny_2 p1 p2 μ)) p2 μ) ≤ 0 → False) ∧ (0 < (F_X0_waterAhead (nI (NX0_comesIntoAny_2 p1 p2 μ)) p2 μ) → True))))))))
theorem bo_X0_comesIntoAny (p1 : Int32) (p2 : Int32) (μ : Mem) : F_X0_comesIntoAny p1 p2 μ = 0 ∨ F_X0_comesIntoAny p1 p2 μ = 1 := by
  unfold F_X0_comesIntoAny
  split
  · exact Or.inl rfl
  · exact Or.inr rfl
set_option maxRecDepth 20000 in
set_option maxHeartbeats 2000000 in
theorem ok_X0_comesIntoAny {G : SG} (hG : GK 57 G) (p1 : Int32) (p2 : Int32) (μ : Mem) (hP : P_X0_comesIntoAny p1 p2 μ) : OkF G mX0_comesIntoAny [.ref (ga G 51), .int p1, .int p2] μ (some (.int (F_X0_comesIntoAny p1 p2 μ))) μ := by
  refine okF_of hG rfl rfl (Nat.le_of_ble_eq_true rfl) ?_
  unfold P_X0_comesIntoAny at hP
  refine r_iconst 0 dX0_comesIntoAny_0 rfl ?_
  refine r_istore_n [(3, _), (0, _), (1, _), (2, _)] dX0_comesIntoAny_1 (Nat.le_of_ble_eq_true rfl) rfl ?_
  have hs1 := hP.1
  replace hP := hP.2
  refine r_sub [1, 2, 3, 0] rfl ?_
  refine lp_X0_comesIntoAny_2 hG p1 p2 μ () ((NX0_comesIntoAny_2 p1 p2 μ)) (SX0_comesIntoAny_2 p1 p2 μ) rfl hs1 ?_
  refine r_iload_n dX0_comesIntoAny_2 3 rfl ?_
  refine r_aload_n dX0_comesIntoAny_3 0 rfl ?_
  refine r_getR 3 fX0_18 (hG.lt (by decide)) sh51 fs51_0 dX0_comesIntoAny_4 ?_
  refine r_getI fX0_54 (hG.lt (by decide)) sh3 fs3_8 dX0_comesIntoAny_7 ?_
  refine r_icmp_ge 39 dX0_comesIntoAny_10 (by decide) (fun c1 => ?_) (fun c1 => ?_)
  · replace hP := hP.1 c1
    refine r_iconst 0 dX0_comesIntoAny_39 rfl ?_
    exact r_ireturn _ dX0_comesIntoAny_40 rfl rfl ⟨congrArg (fun z => some (Value.int z)) (by unfold F_X0_comesIntoAny; rw [if_pos c1]), rfl⟩
  · replace hP := hP.2 c1
    refine r_iload_n dX0_comesIntoAny_13 1 rfl ?_
    refine r_iload_n dX0_comesIntoAny_14 3 rfl ?_
    refine r_ishr dX0_comesIntoAny_15 rfl ?_
    refine r_iconst 1 dX0_comesIntoAny_16 rfl ?_
    refine r_iand dX0_comesIntoAny_17 ?_
    refine r_iconst 1 dX0_comesIntoAny_18 rfl ?_
    refine r_icmp_ne 33 dX0_comesIntoAny_19 (by decide) (fun c2 => ?_) (fun c2 => ?_)
    · replace hP := hP.1 c2
      refine r_iinc ((nI (NX0_comesIntoAny_2 p1 p2 μ)) + 1) [(3, _), (0, _), (1, _), (2, _)] dX0_comesIntoAny_33 3 rfl rfl (Nat.le_of_ble_eq_true rfl) rfl ?_
      refine r_goto 2 dX0_comesIntoAny_36 (by decide) ?_
      exact hP.elim
    · replace hP := hP.2 c2
      refine r_aload_n dX0_comesIntoAny_22 0 rfl ?_
      refine r_iload_n dX0_comesIntoAny_23 3 rfl ?_
      refine r_iload_n dX0_comesIntoAny_24 2 rfl ?_
      have hs2 := hP.1
      replace hP := hP.2
      refine r_cvI (ok_X0_waterAhead hG (nI (NX0_comesIntoAny_2 p1 p2 μ)) p2 μ hs2) lX0_58 (hG.lt (by decide)) sh51 ⟨_, _, rfl⟩ dX0_comesIntoAny_25 (by decide) (Nat.le_of_ble_eq_true rfl) rfl (Nat.le_of_ble_eq_true rfl) ?_
      refine r_if_le 33 dX0_comesIntoAny_28 (by decide) (fun c3 => ?_) (fun c3 => ?_)
      · replace hP := hP.1 c3
        refine r_iinc ((nI (NX0_comesIntoAny_2 p1 p2 μ)) + 1) [(3, _), (0, _), (1, _), (2, _)] dX0_comesIntoAny_33 3 rfl rfl (Nat.le_of_ble_eq_true rfl) rfl ?_
        refine r_goto 2 dX0_comesIntoAny_36 (by decide) ?_
        exact hP.elim
      · replace hP := hP.2 c3
        refine r_iconst 1 dX0_comesIntoAny_31 rfl ?_
        exact r_ireturn _ dX0_comesIntoAny_32 rfl rfl ⟨congrArg (fun z => some (Value.int z)) (by unfold F_X0_comesIntoAny; rw [if_neg (i32_ng c1)]), rfl⟩
def muX5_soak_1 (th : Nat) (p2 : Int32) (p3 : Int32) (μ : Mem) : Mem := (M_X9_put (th + 4) 6 p3 ((F_X9_at (th + 4) 6 p3 μ) + 1) μ)
def muX5_soak_2 (th : Nat) (p2 : Int32) (p3 : Int32) (μ : Mem) : Mem := (M_X5_set th 40 p2 (imax 0 ((F_X5_of th 40 p2 (muX5_soak_1 th p2 p3 μ)) - 1)) (muX5_soak_1 th p2 p3 μ))
def VX5_soak_3 (th : Nat) (p2 : Int32) (p3 : Int32) (μ : Mem) : Int32 := (if ((muX5_soak_2 th p2 p3 μ) 3 13) ≤ ((F_X5_of th 30 p2 (muX5_soak_2 th p2 p3 μ)) + 1) then 0 else 1)
theorem bo_VX5_soak_3 (th : Nat) (p2 : Int32) (p3 : Int32) (μ : Mem) : (VX5_soak_3 th p2 p3 μ) = 0 ∨ (VX5_soak_3 th p2 p3 μ) = 1 := by
  unfold VX5_soak_3
  split
  · exact Or.inl rfl
  · exact Or.inr rfl
def VX5_soak_4 (th : Nat) (p2 : Int32) (p3 : Int32) (μ : Mem) : Int32 := (if (VX5_soak_3 th p2 p3 μ) = 0 then 0 else 1)
theorem bo_VX5_soak_4 (th : Nat) (p2 : Int32) (p3 : Int32) (μ : Mem) : (VX5_soak_4 th p2 p3 μ) = 0 ∨ (VX5_soak_4 th p2 p3 μ) = 1 := by
  unfold VX5_soak_4
  split
  · exact Or.inl rfl
  · exact Or.inr rfl
def muX5_soak_5 (th : Nat) (p2 : Int32) (p3 : Int32) (μ : Mem) : Mem := (M_X5_set th 20 p2 (VX5_soak_4 th p2 p3 μ) (muX5_soak_2 th p2 p3 μ))
def VX5_soak_6 (th : Nat) (p2 : Int32) (p3 : Int32) (μ : Mem) : Int32 := (if (VX5_soak_3 th p2 p3 μ) = 0 then 0 else ((F_X5_of th 30 p2 (muX5_soak_2 th p2 p3 μ)) + 1))
def muX5_soak_7 (th : Nat) (p2 : Int32) (p3 : Int32) (μ : Mem) : Mem := (M_X5_set th 30 p2 (VX5_soak_6 th p2 p3 μ) (muX5_soak_5 th p2 p3 μ))
def muX5_soak_8 (th : Nat) (p2 : Int32) (p3 : Int32) (μ : Mem) : Mem := (M_X9_put (th + 3) 6 p3 ((F_X9_at (th + 3) 6 p3 (muX5_soak_2 th p2 p3 μ)) + 1) (muX5_soak_2 th p2 p3 μ))
def VX5_soak_9 (th : Nat) (p2 : Int32) (p3 : Int32) (μ : Mem) : Int32 := (if ((muX5_soak_8 th p2 p3 μ) 3 8) ≤ (p3 + 1) then (-1) else (p3 + 1))
def muX5_soak_10 (th : Nat) (p2 : Int32) (p3 : Int32) (μ : Mem) : Mem := (M_X5_set th 0 p2 (VX5_soak_9 th p2 p3 μ) (muX5_soak_8 th p2 p3 μ))
def M_X5_soak (th : Nat) (p2 : Int32) (p3 : Int32) (μ : Mem) : Mem := (if (F_X9_at 7 10 p2 (muX5_soak_2 th p2 p3 μ)) ≤ (F_X9_at (th + 2) 6 p3 (muX5_soak_2 th p2 p3 μ)) then (if (F_X5_of th 20 p2 (muX5_soak_2 th p2 p3 μ)) ≠ 0 then (muX5_soak_7 th p2 p3 μ) else (muX5_soak_10 th p2 p3 μ)) else (muX5_soak_2 th p2 p3 μ))
set_option maxRecDepth 20000 in
set_option maxHeartbeats 2000000 in
theorem ok_X5_soak {G : SG} (hG : GK 57 G) {th : Nat} (hth : IsSt th) (p2 : Int32) (p3 : Int32) (μ : Mem) : OkF G mX5_soak [.ref (ga G th), .ref (ga G 3), .int p2, .int p3] μ none (M_X5_soak th p2 p3 μ) := by
  refine okF_of hG rfl rfl (Nat.le_of_ble_eq_true rfl) ?_
  refine r_aload_n dX5_soak_0 0 rfl ?_
  refine r_getR (th + 4) fX5_21 (hth.lt hG) hth.sh (hth.f3) dX5_soak_1 ?_
  refine r_iload_n dX5_soak_4 3 rfl ?_
  refine r_aload_n dX5_soak_5 0 rfl ?_
  refine r_getR (th + 4) fX5_21 (hth.lt hG) hth.sh (hth.f3) dX5_soak_6 ?_
  refine r_iload_n dX5_soak_9 3 rfl ?_
  refine r_csI (ok_X9_at hG (hth.lt3 hG) hth.s3 p3 μ) lX5_37 dX5_soak_10 (by decide) (Nat.le_of_ble_eq_true rfl) rfl (Nat.le_of_ble_eq_true rfl) ?_
  refine r_iconst 1 dX5_soak_13 rfl ?_
  refine r_iadd dX5_soak_14 ?_
  refine r_csV (ok_X9_put hG (hth.lt3 hG) hth.s3 p3 ((F_X9_at (th + 4) 6 p3 μ) + 1) μ) lX5_24 dX5_soak_15 (by decide) (Nat.le_of_ble_eq_true rfl) rfl (Nat.le_of_ble_eq_true rfl) ?_
  refine r_mu (muX5_soak_1 th p2 p3 μ) rfl ?_
  refine r_aload_n dX5_soak_18 0 rfl ?_
  refine r_bipush 40 dX5_soak_19 rfl ?_
  refine r_iload_n dX5_soak_21 2 rfl ?_
  refine r_iconst 0 dX5_soak_22 rfl ?_
  refine r_aload_n dX5_soak_23 0 rfl ?_
  refine r_bipush 40 dX5_soak_24 rfl ?_
  refine r_iload_n dX5_soak_26 2 rfl ?_
  refine r_cvI (ok_X5_of hG hth 40 p2 (muX5_soak_1 th p2 p3 μ)) lX5_54 (hth.lt hG) hth.sh ⟨_, _, rfl⟩ dX5_soak_27 (by decide) (Nat.le_of_ble_eq_true rfl) rfl (Nat.le_of_ble_eq_true rfl) ?_
  refine r_iconst 1 dX5_soak_30 rfl ?_
  refine r_isub dX5_soak_31 ?_
  refine r_mmax lX5_58 (Nat.le_of_ble_eq_true rfl) dX5_soak_32 ?_
  refine r_cvV (ok_X5_set hG hth 40 p2 (imax 0 ((F_X5_of th 40 p2 (muX5_soak_1 th p2 p3 μ)) - 1)) (muX5_soak_1 th p2 p3 μ)) lX5_41 (hth.lt hG) hth.sh ⟨_, _, rfl⟩ dX5_soak_35 (by decide) (Nat.le_of_ble_eq_true rfl) rfl (Nat.le_of_ble_eq_true rfl) ?_
  refine r_mu (muX5_soak_2 th p2 p3 μ) rfl ?_
  refine r_aload_n dX5_soak_38 1 rfl ?_
  refine r_getR 7 fX5_103 (hG.lt (by decide)) sh3 fs3_3 dX5_soak_39 ?_
  refine r_iload_n dX5_soak_42 2 rfl ?_
  refine r_csI (ok_X9_at hG (hG.lt (by decide)) sh7 p2 (muX5_soak_2 th p2 p3 μ)) lX5_37 dX5_soak_43 (by decide) (Nat.le_of_ble_eq_true rfl) rfl (Nat.le_of_ble_eq_true rfl) ?_
  refine r_aload_n dX5_soak_46 0 rfl ?_
  refine r_getR (th + 2) fX5_15 (hth.lt hG) hth.sh (hth.f1) dX5_soak_47 ?_
  refine r_iload_n dX5_soak_50 3 rfl ?_
  refine r_csI (ok_X9_at hG (hth.lt1 hG) hth.s1 p3 (muX5_soak_2 th p2 p3 μ)) lX5_37 dX5_soak_51 (by decide) (Nat.le_of_ble_eq_true rfl) rfl (Nat.le_of_ble_eq_true rfl) ?_
  refine r_icmp_le 58 dX5_soak_54 (by decide) (fun c1 => ?_) (fun c1 => ?_)
  · refine r_aload_n dX5_soak_58 0 rfl ?_
    refine r_bipush 20 dX5_soak_59 rfl ?_
    refine r_iload_n dX5_soak_61 2 rfl ?_
    refine r_cvI (ok_X5_of hG hth 20 p2 (muX5_soak_2 th p2 p3 μ)) lX5_54 (hth.lt hG) hth.sh ⟨_, _, rfl⟩ dX5_soak_62 (by decide) (Nat.le_of_ble_eq_true rfl) rfl (Nat.le_of_ble_eq_true rfl) ?_
    refine r_if_ne 110 dX5_soak_65 (by decide) (fun c2 => ?_) (fun c2 => ?_)
    · refine r_aload_n dX5_soak_110 0 rfl ?_
      refine r_bipush 30 dX5_soak_111 rfl ?_
      refine r_iload_n dX5_soak_113 2 rfl ?_
      refine r_cvI (ok_X5_of hG hth 30 p2 (muX5_soak_2 th p2 p3 μ)) lX5_54 (hth.lt hG) hth.sh ⟨_, _, rfl⟩ dX5_soak_114 (by decide) (Nat.le_of_ble_eq_true rfl) rfl (Nat.le_of_ble_eq_true rfl) ?_
      refine r_iconst 1 dX5_soak_117 rfl ?_
      refine r_iadd dX5_soak_118 ?_
      refine r_istore [(4, _), (0, _), (1, _), (2, _), (3, _)] dX5_soak_119 (Nat.le_of_ble_eq_true rfl) rfl ?_
      refine r_iload dX5_soak_121 0 rfl ?_
      refine r_aload_n dX5_soak_123 2 rfl ?_
      refine r_getI fX5_106 (hG.lt (by decide)) sh3 fs3_13 dX5_soak_124 ?_
      refine r_join 135 [(4, .int ((F_X5_of th 30 p2 (muX5_soak_2 th p2 p3 μ)) + 1)), (0, .ref (ga G th)), (1, .ref (ga G 3)), (2, .int p2), (3, .int p3)] [.int (VX5_soak_3 th p2 p3 μ)] (muX5_soak_2 th p2 p3 μ) ?_ (fun hJ => ?_)
      · refine r_istore [(5, _), (4, _), (0, _), (1, _), (2, _), (3, _)] dX5_soak_135 (Nat.le_of_ble_eq_true rfl) rfl ?_
        refine r_aload_n dX5_soak_137 2 rfl ?_
        refine r_bipush 20 dX5_soak_138 rfl ?_
        refine r_iload_n dX5_soak_140 4 rfl ?_
        refine r_iload dX5_soak_141 0 rfl ?_
        refine r_join 151 [(5, .int (VX5_soak_3 th p2 p3 μ)), (4, .int ((F_X5_of th 30 p2 (muX5_soak_2 th p2 p3 μ)) + 1)), (0, .ref (ga G th)), (1, .ref (ga G 3)), (2, .int p2), (3, .int p3)] [.int (VX5_soak_4 th p2 p3 μ), .int p2, .int 20, .ref (ga G th)] (muX5_soak_2 th p2 p3 μ) ?_ (fun hJ => ?_)
        · refine r_cvV (ok_X5_set hG hth 20 p2 (VX5_soak_4 th p2 p3 μ) (muX5_soak_2 th p2 p3 μ)) lX5_41 (hth.lt hG) hth.sh ⟨_, _, rfl⟩ dX5_soak_151 (by decide) (Nat.le_of_ble_eq_true rfl) rfl (Nat.le_of_ble_eq_true rfl) ?_
          refine r_mu (muX5_soak_5 th p2 p3 μ) rfl ?_
          refine r_aload_n dX5_soak_154 2 rfl ?_
          refine r_bipush 30 dX5_soak_155 rfl ?_
          refine r_iload_n dX5_soak_157 4 rfl ?_
          refine r_iload dX5_soak_158 0 rfl ?_
          refine r_join 169 [(5, .int (VX5_soak_3 th p2 p3 μ)), (4, .int ((F_X5_of th 30 p2 (muX5_soak_2 th p2 p3 μ)) + 1)), (0, .ref (ga G th)), (1, .ref (ga G 3)), (2, .int p2), (3, .int p3)] [.int (VX5_soak_6 th p2 p3 μ), .int p2, .int 30, .ref (ga G th)] (muX5_soak_5 th p2 p3 μ) ?_ (fun hJ => ?_)
          · refine r_cvV (ok_X5_set hG hth 30 p2 (VX5_soak_6 th p2 p3 μ) (muX5_soak_5 th p2 p3 μ)) lX5_41 (hth.lt hG) hth.sh ⟨_, _, rfl⟩ dX5_soak_169 (by decide) (Nat.le_of_ble_eq_true rfl) rfl (Nat.le_of_ble_eq_true rfl) ?_
            refine r_mu (muX5_soak_7 th p2 p3 μ) rfl ?_
            exact r_return dX5_soak_172 rfl ⟨rfl, by unfold M_X5_soak; rw [if_pos c1, if_pos c2]⟩
          · refine r_if_eq 168 dX5_soak_160 (by decide) (fun c3 => ?_) (fun c3 => ?_)
            · refine r_iconst 0 dX5_soak_168 rfl ?_
              have e : (VX5_soak_6 th p2 p3 μ) = 0 := by unfold VX5_soak_6; rw [if_pos c3]
              rw [e] at hJ
              exact r_sub [0, 1, 2, 3, 4, 5] rfl hJ
            · refine r_iload dX5_soak_163 1 rfl ?_
              refine r_goto 169 dX5_soak_165 (by decide) ?_
              have e : (VX5_soak_6 th p2 p3 μ) = ((F_X5_of th 30 p2 (muX5_soak_2 th p2 p3 μ)) + 1) := by unfold VX5_soak_6; rw [if_neg c3]
              rw [e] at hJ
              exact r_sub [0, 1, 2, 3, 4, 5] rfl hJ
        · refine r_if_eq 150 dX5_soak_143 (by decide) (fun c3 => ?_) (fun c3 => ?_)
          · refine r_iconst 0 dX5_soak_150 rfl ?_
            have e : (VX5_soak_4 th p2 p3 μ) = 0 := by unfold VX5_soak_4; rw [if_pos c3]
            rw [e] at hJ
            exact r_sub [0, 1, 2, 3, 4, 5] rfl hJ
          · refine r_iconst 1 dX5_soak_146 rfl ?_
            refine r_goto 151 dX5_soak_147 (by decide) ?_
            have e : (VX5_soak_4 th p2 p3 μ) = 1 := by unfold VX5_soak_4; rw [if_neg c3]
            rw [e] at hJ
            exact r_sub [0, 1, 2, 3, 4, 5] rfl hJ
      · refine r_icmp_ge 134 dX5_soak_127 (by decide) (fun c3 => ?_) (fun c3 => ?_)
        · refine r_iconst 0 dX5_soak_134 rfl ?_
          have e : (VX5_soak_3 th p2 p3 μ) = 0 := by unfold VX5_soak_3; rw [if_pos c3]
          rw [e] at hJ
          exact r_sub [0, 1, 2, 3, 4] rfl hJ
        · refine r_iconst 1 dX5_soak_130 rfl ?_
          refine r_goto 135 dX5_soak_131 (by decide) ?_
          have e : (VX5_soak_3 th p2 p3 μ) = 1 := by unfold VX5_soak_3; rw [if_neg (i32_ng c3)]
          rw [e] at hJ
          exact r_sub [0, 1, 2, 3, 4] rfl hJ
    · refine r_aload_n dX5_soak_68 0 rfl ?_
      refine r_getR (th + 3) fX5_18 (hth.lt hG) hth.sh (hth.f2) dX5_soak_69 ?_
      refine r_iload_n dX5_soak_72 3 rfl ?_
      refine r_aload_n dX5_soak_73 0 rfl ?_
      refine r_getR (th + 3) fX5_18 (hth.lt hG) hth.sh (hth.f2) dX5_soak_74 ?_
      refine r_iload_n dX5_soak_77 3 rfl ?_
      refine r_csI (ok_X9_at hG (hth.lt2 hG) hth.s2 p3 (muX5_soak_2 th p2 p3 μ)) lX5_37 dX5_soak_78 (by decide) (Nat.le_of_ble_eq_true rfl) rfl (Nat.le_of_ble_eq_true rfl) ?_
      refine r_iconst 1 dX5_soak_81 rfl ?_
      refine r_iadd dX5_soak_82 ?_
      refine r_csV (ok_X9_put hG (hth.lt2 hG) hth.s2 p3 ((F_X9_at (th + 3) 6 p3 (muX5_soak_2 th p2 p3 μ)) + 1) (muX5_soak_2 th p2 p3 μ)) lX5_24 dX5_soak_83 (by decide) (Nat.le_of_ble_eq_true rfl) rfl (Nat.le_of_ble_eq_true rfl) ?_
      refine r_mu (muX5_soak_8 th p2 p3 μ) rfl ?_
      refine r_aload_n dX5_soak_86 0 rfl ?_
      refine r_iconst 0 dX5_soak_87 rfl ?_
      refine r_iload_n dX5_soak_88 2 rfl ?_
      refine r_iload_n dX5_soak_89 3 rfl ?_
      refine r_iconst 1 dX5_soak_90 rfl ?_
      refine r_iadd dX5_soak_91 ?_
      refine r_aload_n dX5_soak_92 1 rfl ?_
      refine r_getI fX5_28 (hG.lt (by decide)) sh3 fs3_8 dX5_soak_93 ?_
      refine r_join 106 [(0, .ref (ga G th)), (1, .ref (ga G 3)), (2, .int p2), (3, .int p3)] [.int (VX5_soak_9 th p2 p3 μ), .int p2, .int 0, .ref (ga G th)] (muX5_soak_8 th p2 p3 μ) ?_ (fun hJ => ?_)
      · refine r_cvV (ok_X5_set hG hth 0 p2 (VX5_soak_9 th p2 p3 μ) (muX5_soak_8 th p2 p3 μ)) lX5_41 (hth.lt hG) hth.sh ⟨_, _, rfl⟩ dX5_soak_106 (by decide) (Nat.le_of_ble_eq_true rfl) rfl (Nat.le_of_ble_eq_true rfl) ?_
        refine r_mu (muX5_soak_10 th p2 p3 μ) rfl ?_
        exact r_return dX5_soak_109 rfl ⟨rfl, by unfold M_X5_soak; rw [if_pos c1, if_neg (not_not_intro c2)]⟩
      · refine r_icmp_ge 105 dX5_soak_96 (by decide) (fun c3 => ?_) (fun c3 => ?_)
        · refine r_iconst (-1) dX5_soak_105 rfl ?_
          have e : (VX5_soak_9 th p2 p3 μ) = (-1) := by unfold VX5_soak_9; rw [if_pos c3]
          rw [e] at hJ
          exact r_sub [0, 1, 2, 3] rfl hJ
        · refine r_iload_n dX5_soak_99 3 rfl ?_
          refine r_iconst 1 dX5_soak_100 rfl ?_
          refine r_iadd dX5_soak_101 ?_
          refine r_goto 106 dX5_soak_102 (by decide) ?_
          have e : (VX5_soak_9 th p2 p3 μ) = (p3 + 1) := by unfold VX5_soak_9; rw [if_neg (i32_ng c3)]
          rw [e] at hJ
          exact r_sub [0, 1, 2, 3] rfl hJ
  · exact r_return dX5_soak_57 rfl ⟨rfl, by unfold M_X5_soak; rw [if_neg (i32_ng c1)]⟩
def muX5_pass_2_1 (th : Nat) (v2 : Int32) (i : Nat) (s : Mem) : Mem := (M_X9_put (th + 2) 6 (nI i) (F_X5_waterIn th (nI i) v2 s) s)
def muX5_pass_2_2 (th : Nat) (v2 : Int32) (i : Nat) (s : Mem) : Mem := (M_X9_put (th + 3) 6 (nI i) 0 (muX5_pass_2_1 th v2 i s))
def muX5_pass_2_3 (th : Nat) (v2 : Int32) (i : Nat) (s : Mem) : Mem := (M_X9_put (th + 4) 6 (nI i) 0 (muX5_pass_2_2 th v2 i s))
def g_X5_pass_2 (th : Nat) (v2 : Int32) (i : Nat) (s : Mem) : Mem := (muX5_pass_2_3 th v2 i s)
def Pb_X5_pass_2 (th : Nat) (v2 : Int32) (i : Nat) (s : Mem) : Prop := (((s 3 8) ≤ (nI i) → False) ∧ ((nI i) < (s 3 8) → True))
set_option maxRecDepth 20000 in
set_option maxHeartbeats 2000000 in
theorem lp_X5_pass_2 {G : SG} (hG : GK 57 G) {th : Nat} (hth : IsSt th) (v2 : Int32) (s0 : Mem) (N : Nat) (sN : Mem) (eN : sN = fo N (g_X5_pass_2 th v2) s0) (hN : ∀ i, i < N → Pb_X5_pass_2 th v2 i (fo i (g_X5_pass_2 th v2) s0)) {t : Nat} {Q : PQ} {X : PX} (h : R G mX5_pass 2 [(0, .ref (ga G th)), (1, .ref (ga G 3)), (2, .int v2), (3, .int (nI N))] [] sN t Q X) : R G mX5_pass 2 [(0, .ref (ga G th)), (1, .ref (ga G 3)), (2, .int v2), (3, .int 0)] [] s0 t Q X := by
  subst eN
  refine down_i N (fun i => R G mX5_pass 2 [(0, .ref (ga G th)), (1, .ref (ga G 3)), (2, .int v2), (3, .int (nI i))] [] (fo i (g_X5_pass_2 th v2) s0) t Q X) h (fun i hi hS => ?_)
  have hP := hN i hi
  rw [fo_succ] at hS
  rw [nI_succ] at hS
  generalize fo i (g_X5_pass_2 th v2) s0 = s at hS hP ⊢
  unfold Pb_X5_pass_2 at hP
  refine r_iload_n dX5_pass_2 3 rfl ?_
  refine r_aload_n dX5_pass_3 1 rfl ?_
  refine r_getI fX5_28 (hG.lt (by decide)) sh3 fs3_8 dX5_pass_4 ?_
  refine r_icmp_ge 48 dX5_pass_7 (by decide) (fun c1 => ?_) (fun c1 => ?_)
  · replace hP := hP.1 c1
    exact hP.elim
  · replace hP := hP.2 c1
    refine r_aload_n dX5_pass_10 0 rfl ?_
    refine r_getR (th + 2) fX5_15 (hth.lt hG) hth.sh (hth.f1) dX5_pass_11 ?_
    refine r_iload_n dX5_pass_14 3 rfl ?_
    refine r_aload_n dX5_pass_15 0 rfl ?_
    refine r_iload_n dX5_pass_16 3 rfl ?_
    refine r_iload_n dX5_pass_17 2 rfl ?_
    refine r_cvI (ok_X5_waterIn hG hth (nI i) v2 s) lX5_96 (hth.lt hG) hth.sh ⟨_, _, rfl⟩ dX5_pass_18 (by decide) (Nat.le_of_ble_eq_true rfl) rfl (Nat.le_of_ble_eq_true rfl) ?_
    refine r_csV (ok_X9_put hG (hth.lt1 hG) hth.s1 (nI i) (F_X5_waterIn th (nI i) v2 s) s) lX5_24 dX5_pass_21 (by decide) (Nat.le_of_ble_eq_true rfl) rfl (Nat.le_of_ble_eq_true rfl) ?_
    refine r_mu (muX5_pass_2_1 th v2 i s) rfl ?_
    refine r_aload_n dX5_pass_24 0 rfl ?_
    refine r_getR (th + 3) fX5_18 (hth.lt hG) hth.sh (hth.f2) dX5_pass_25 ?_
    refine r_iload_n dX5_pass_28 3 rfl ?_
    refine r_iconst 0 dX5_pass_29 rfl ?_
    refine r_csV (ok_X9_put hG (hth.lt2 hG) hth.s2 (nI i) 0 (muX5_pass_2_1 th v2 i s)) lX5_24 dX5_pass_30 (by decide) (Nat.le_of_ble_eq_true rfl) rfl (Nat.le_of_ble_eq_true rfl) ?_
    refine r_mu (muX5_pass_2_2 th v2 i s) rfl ?_
    refine r_aload_n dX5_pass_33 0 rfl ?_
    refine r_getR (th + 4) fX5_21 (hth.lt hG) hth.sh (hth.f3) dX5_pass_34 ?_
    refine r_iload_n dX5_pass_37 3 rfl ?_
    refine r_iconst 0 dX5_pass_38 rfl ?_
    refine r_csV (ok_X9_put hG (hth.lt3 hG) hth.s3 (nI i) 0 (muX5_pass_2_2 th v2 i s)) lX5_24 dX5_pass_39 (by decide) (Nat.le_of_ble_eq_true rfl) rfl (Nat.le_of_ble_eq_true rfl) ?_
    refine r_mu (muX5_pass_2_3 th v2 i s) rfl ?_
    refine r_iinc ((nI i) + 1) [(3, _), (0, _), (1, _), (2, _)] dX5_pass_42 3 rfl rfl (Nat.le_of_ble_eq_true rfl) rfl ?_
    refine r_goto 2 dX5_pass_45 (by decide) ?_
    have e : g_X5_pass_2 th v2 i s = (muX5_pass_2_3 th v2 i s) := by unfold g_X5_pass_2; rfl
    rw [e] at hS
    exact r_sub [1, 2, 3, 0] rfl hS
def NX5_pass_2 (th : Nat) (p2 : Int32) (μ : Mem) : Nat := ix (μ 3 8)
def SX5_pass_2 (th : Nat) (p2 : Int32) (μ : Mem) : Mem := fo (NX5_pass_2 th p2 μ) (g_X5_pass_2 th p2) μ
def muX5_pass_50_1 (th : Nat) (v2 : Int32) (i : Nat) (s : Mem) : Mem := (M_X5_soak th (nI i) (F_X5_of th 0 (nI i) s) s)
def VX5_pass_50_2 (th : Nat) (v2 : Int32) (i : Nat) (s : Mem) : Mem := (if (F_X5_isDown th (nI i) s) = 0 then s else (if (F_X9_at (th + 2) 6 (F_X5_of th 0 (nI i) s) s) ≤ 0 then s else (muX5_pass_50_1 th v2 i s)))
def g_X5_pass_50 (th : Nat) (v2 : Int32) (i : Nat) (s : Mem) : Mem := (VX5_pass_50_2 th v2 i s)
def Pb_X5_pass_50 (th : Nat) (v2 : Int32) (i : Nat) (s : Mem) : Prop := (((s 3 9) ≤ (nI i) → False) ∧ ((nI i) < (s 3 9) → True))
set_option maxRecDepth 20000 in
set_option maxHeartbeats 2000000 in
theorem lp_X5_pass_50 {G : SG} (hG : GK 57 G) {th : Nat} (hth : IsSt th) (v2 : Int32) (s0 : Mem) (N : Nat) (sN : Mem) (eN : sN = fo N (g_X5_pass_50 th v2) s0) (hN : ∀ i, i < N → Pb_X5_pass_50 th v2 i (fo i (g_X5_pass_50 th v2) s0)) {t : Nat} {Q : PQ} {X : PX} (h : R G mX5_pass 50 [(0, .ref (ga G th)), (1, .ref (ga G 3)), (2, .int v2), (3, .int (nI N))] [] sN t Q X) : R G mX5_pass 50 [(0, .ref (ga G th)), (1, .ref (ga G 3)), (2, .int v2), (3, .int 0)] [] s0 t Q X := by
  subst eN
  refine down_i N (fun i => R G mX5_pass 50 [(0, .ref (ga G th)), (1, .ref (ga G 3)), (2, .int v2), (3, .int (nI i))] [] (fo i (g_X5_pass_50 th v2) s0) t Q X) h (fun i hi hS => ?_)
  have hP := hN i hi
  rw [fo_succ] at hS
  rw [nI_succ] at hS
  generalize fo i (g_X5_pass_50 th v2) s0 = s at hS hP ⊢
  unfold Pb_X5_pass_50 at hP
  refine r_iload_n dX5_pass_50 3 rfl ?_
  refine r_aload_n dX5_pass_51 1 rfl ?_
  refine r_getI fX5_45 (hG.lt (by decide)) sh3 fs3_9 dX5_pass_52 ?_
  refine r_icmp_ge 100 dX5_pass_55 (by decide) (fun c1 => ?_) (fun c1 => ?_)
  · replace hP := hP.1 c1
    exact hP.elim
  · replace hP := hP.2 c1
    refine r_aload_n dX5_pass_58 0 rfl ?_
    refine r_iconst 0 dX5_pass_59 rfl ?_
    refine r_iload_n dX5_pass_60 3 rfl ?_
    refine r_cvI (ok_X5_of hG hth 0 (nI i) s) lX5_54 (hth.lt hG) hth.sh ⟨_, _, rfl⟩ dX5_pass_61 (by decide) (Nat.le_of_ble_eq_true rfl) rfl (Nat.le_of_ble_eq_true rfl) ?_
    refine r_istore [(4, _), (0, _), (1, _), (2, _), (3, _)] dX5_pass_64 (Nat.le_of_ble_eq_true rfl) rfl ?_
    refine r_aload_n dX5_pass_66 1 rfl ?_
    refine r_iload_n dX5_pass_67 4 rfl ?_
    refine r_cvI (ok_X5_isDown hG hth (nI i) s) lX5_74 (hth.lt hG) hth.sh ⟨_, _, rfl⟩ dX5_pass_68 (by decide) (Nat.le_of_ble_eq_true rfl) rfl (Nat.le_of_ble_eq_true rfl) ?_
    refine r_join 94 [(4, .int (F_X5_of th 0 (nI i) s)), (0, .ref (ga G th)), (1, .ref (ga G 3)), (2, .int v2), (3, .int (nI i))] [] (VX5_pass_50_2 th v2 i s) ?_ (fun hJ => ?_)
    · refine r_iinc ((nI i) + 1) [(3, _), (4, _), (0, _), (1, _), (2, _)] dX5_pass_94 4 rfl rfl (Nat.le_of_ble_eq_true rfl) rfl ?_
      refine r_goto 50 dX5_pass_97 (by decide) ?_
      have e : g_X5_pass_50 th v2 i s = (VX5_pass_50_2 th v2 i s) := by unfold g_X5_pass_50; rfl
      rw [e] at hS
      exact r_sub [2, 3, 4, 0] rfl hS
    · refine r_if_eq 94 dX5_pass_71 (by decide) (fun c2 => ?_) (fun c2 => ?_)
      · have e : (VX5_pass_50_2 th v2 i s) = s := by unfold VX5_pass_50_2; rw [if_pos c2]
        rw [e] at hJ
        exact r_sub [0, 1, 2, 3, 4] rfl hJ
      · refine r_aload_n dX5_pass_74 1 rfl ?_
        refine r_getR (th + 2) fX5_15 (hth.lt hG) hth.sh (hth.f1) dX5_pass_75 ?_
        refine r_iload dX5_pass_78 0 rfl ?_
        refine r_csI (ok_X9_at hG (hth.lt1 hG) hth.s1 (F_X5_of th 0 (nI i) s) s) lX5_37 dX5_pass_80 (by decide) (Nat.le_of_ble_eq_true rfl) rfl (Nat.le_of_ble_eq_true rfl) ?_
        refine r_if_le 94 dX5_pass_83 (by decide) (fun c3 => ?_) (fun c3 => ?_)
        · have e : (VX5_pass_50_2 th v2 i s) = s := by unfold VX5_pass_50_2; rw [if_neg c2, if_pos c3]
          rw [e] at hJ
          exact r_sub [0, 1, 2, 3, 4] rfl hJ
        · refine r_aload_n dX5_pass_86 1 rfl ?_
          refine r_aload_n dX5_pass_87 2 rfl ?_
          refine r_iload_n dX5_pass_88 4 rfl ?_
          refine r_iload dX5_pass_89 0 rfl ?_
          refine r_cvV (ok_X5_soak hG hth (nI i) (F_X5_of th 0 (nI i) s) s) lX5_99 (hth.lt hG) hth.sh ⟨_, _, rfl⟩ dX5_pass_91 (by decide) (Nat.le_of_ble_eq_true rfl) rfl (Nat.le_of_ble_eq_true rfl) ?_
          refine r_mu (muX5_pass_50_1 th v2 i s) rfl ?_
          have e : (VX5_pass_50_2 th v2 i s) = (muX5_pass_50_1 th v2 i s) := by unfold VX5_pass_50_2; rw [if_neg c2, if_neg (i32_ng c3)]
          rw [e] at hJ
          exact r_sub [0, 1, 2, 3, 4] rfl hJ
def NX5_pass_50 (th : Nat) (p2 : Int32) (μ : Mem) : Nat := ix ((SX5_pass_2 th p2 μ) 3 9)
def SX5_pass_50 (th : Nat) (p2 : Int32) (μ : Mem) : Mem := fo (NX5_pass_50 th p2 μ) (g_X5_pass_50 th p2) (SX5_pass_2 th p2 μ)
def muX5_pass_1 (th : Nat) (p2 : Int32) (μ : Mem) : Mem := (M_X5_set th 68 0 ((F_X5_tideToCome th (SX5_pass_50 th p2 μ)) + 1) (SX5_pass_50 th p2 μ))
def muX5_pass_2 (th : Nat) (p2 : Int32) (μ : Mem) : Mem := (M_X5_soak th (nI (NX5_pass_50 th p2 μ)) (F_X5_of th 0 (nI (NX5_pass_50 th p2 μ)) (SX5_pass_50 th p2 μ)) (SX5_pass_50 th p2 μ))
def VX5_pass_3 (th : Nat) (p2 : Int32) (μ : Mem) : Mem := (if (F_X5_isDown th (nI (NX5_pass_50 th p2 μ)) (SX5_pass_50 th p2 μ)) = 0 then (SX5_pass_50 th p2 μ) else (if (F_X9_at (th + 2) 6 (F_X5_of th 0 (nI (NX5_pass_50 th p2 μ)) (SX5_pass_50 th p2 μ)) (SX5_pass_50 th p2 μ)) ≤ 0 then (SX5_pass_50 th p2 μ) else (muX5_pass_2 th p2 μ)))
def muX5_pass_4 (th : Nat) (p2 : Int32) (μ : Mem) : Mem := (M_X9_put (th + 2) 6 (nI (NX5_pass_2 th p2 μ)) (F_X5_waterIn th (nI (NX5_pass_2 th p2 μ)) p2 (SX5_pass_2 th p2 μ)) (SX5_pass_2 th p2 μ))
def muX5_pass_5 (th : Nat) (p2 : Int32) (μ : Mem) : Mem := (M_X9_put (th + 3) 6 (nI (NX5_pass_2 th p2 μ)) 0 (muX5_pass_4 th p2 μ))
def muX5_pass_6 (th : Nat) (p2 : Int32) (μ : Mem) : Mem := (M_X9_put (th + 4) 6 (nI (NX5_pass_2 th p2 μ)) 0 (muX5_pass_5 th p2 μ))
def M_X5_pass (th : Nat) (p2 : Int32) (μ : Mem) : Mem := (muX5_pass_1 th p2 μ)
def P_X5_pass (th : Nat) (p2 : Int32) (μ : Mem) : Prop := ((∀ j9, j9 < (NX5_pass_2 th p2 μ) → Pb_X5_pass_2 th p2 j9 (fo j9 (g_X5_pass_2 th p2) μ)) ∧ ((((SX5_pass_2 th p2 μ) 3 8) ≤ (nI (NX5_pass_2 th p2 μ)) → ((∀ j9, j9 < (NX5_pass_50 th p2 μ) → Pb_X5_pass_50 th p2 j9 (fo j9 (g_X5_pass_50 th p2) (SX5_pass_2 th p2 μ))) ∧ ((((SX5_pass_50 th p2 μ) 3 9) ≤ (nI (NX5_pass_50 th p2 μ)) → True) ∧ ((nI (NX5_pass_50 th p2 μ)) < ((SX5_pass_50 th p2 μ) 3 9) → False)))) ∧ ((nI (NX5_pass_2 th p2 μ)) < ((SX5_pass_2 th p2 μ) 3 8) → False)))
set_option maxRecDepth 20000 in
set_option maxHeartbeats 2000000 in
theorem ok_X5_pass {G : SG} (hG : GK 57 G) {th : Nat} (hth : IsSt th) (p2 : Int32) (μ : Mem) (hP : P_X5_pass th p2 μ) : OkF G mX5_pass [.ref (ga G th), .ref (ga G 3), .int p2] μ none (M_X5_pass th p2 μ) := by
  refine okF_of hG rfl rfl (Nat.le_of_ble_eq_true rfl) ?_
  unfold P_X5_pass at hP
  refine r_iconst 0 dX5_pass_0 rfl ?_
  refine r_istore_n [(3, _), (0, _), (1, _), (2, _)] dX5_pass_1 (Nat.le_of_ble_eq_true rfl) rfl ?_
  have hs1 := hP.1
  replace hP := hP.2
  refine r_sub [1, 2, 3, 0] rfl ?_
  refine lp_X5_pass_2 hG hth p2 μ ((NX5_pass_2 th p2 μ)) (SX5_pass_2 th p2 μ) rfl hs1 ?_
  refine r_iload_n dX5_pass_2 3 rfl ?_
  refine r_aload_n dX5_pass_3 1 rfl ?_
  refine r_getI fX5_28 (hG.lt (by decide)) sh3 fs3_8 dX5_pass_4 ?_
  refine r_icmp_ge 48 dX5_pass_7 (by decide) (fun c1 => ?_) (fun c1 => ?_)
  · replace hP := hP.1 c1
    refine r_iconst 0 dX5_pass_48 rfl ?_
    refine r_istore_n [(3, _), (0, _), (1, _), (2, _)] dX5_pass_49 (Nat.le_of_ble_eq_true rfl) rfl ?_
    have hs2 := hP.1
    replace hP := hP.2
    refine r_sub [1, 2, 3, 0] rfl ?_
    refine lp_X5_pass_50 hG hth p2 (SX5_pass_2 th p2 μ) ((NX5_pass_50 th p2 μ)) (SX5_pass_50 th p2 μ) rfl hs2 ?_
    refine r_iload_n dX5_pass_50 3 rfl ?_
    refine r_aload_n dX5_pass_51 1 rfl ?_
    refine r_getI fX5_45 (hG.lt (by decide)) sh3 fs3_9 dX5_pass_52 ?_
    refine r_icmp_ge 100 dX5_pass_55 (by decide) (fun c2 => ?_) (fun c2 => ?_)
    · replace hP := hP.1 c2
      refine r_aload_n dX5_pass_100 0 rfl ?_
      refine r_bipush 68 dX5_pass_101 rfl ?_
      refine r_iconst 0 dX5_pass_103 rfl ?_
      refine r_aload_n dX5_pass_104 0 rfl ?_
      refine r_cvI (ok_X5_tideToCome hG hth (SX5_pass_50 th p2 μ)) lX5_77 (hth.lt hG) hth.sh ⟨_, _, rfl⟩ dX5_pass_105 (by decide) (Nat.le_of_ble_eq_true rfl) rfl (Nat.le_of_ble_eq_true rfl) ?_
      refine r_iconst 1 dX5_pass_108 rfl ?_
      refine r_iadd dX5_pass_109 ?_
      refine r_cvV (ok_X5_set hG hth 68 0 ((F_X5_tideToCome th (SX5_pass_50 th p2 μ)) + 1) (SX5_pass_50 th p2 μ)) lX5_41 (hth.lt hG) hth.sh ⟨_, _, rfl⟩ dX5_pass_110 (by decide) (Nat.le_of_ble_eq_true rfl) rfl (Nat.le_of_ble_eq_true rfl) ?_
      refine r_mu (muX5_pass_1 th p2 μ) rfl ?_
      exact r_return dX5_pass_113 rfl ⟨rfl, rfl⟩
    · replace hP := hP.2 c2
      refine r_aload_n dX5_pass_58 0 rfl ?_
      refine r_iconst 0 dX5_pass_59 rfl ?_
      refine r_iload_n dX5_pass_60 3 rfl ?_
      refine r_cvI (ok_X5_of hG hth 0 (nI (NX5_pass_50 th p2 μ)) (SX5_pass_50 th p2 μ)) lX5_54 (hth.lt hG) hth.sh ⟨_, _, rfl⟩ dX5_pass_61 (by decide) (Nat.le_of_ble_eq_true rfl) rfl (Nat.le_of_ble_eq_true rfl) ?_
      refine r_istore [(4, _), (0, _), (1, _), (2, _), (3, _)] dX5_pass_64 (Nat.le_of_ble_eq_true rfl) rfl ?_
      refine r_aload_n dX5_pass_66 1 rfl ?_
      refine r_iload_n dX5_pass_67 4 rfl ?_
      refine r_cvI (ok_X5_isDown hG hth (nI (NX5_pass_50 th p2 μ)) (SX5_pass_50 th p2 μ)) lX5_74 (hth.lt hG) hth.sh ⟨_, _, rfl⟩ dX5_pass_68 (by decide) (Nat.le_of_ble_eq_true rfl) rfl (Nat.le_of_ble_eq_true rfl) ?_
      refine r_join 94 [(4, .int (F_X5_of th 0 (nI (NX5_pass_50 th p2 μ)) (SX5_pass_50 th p2 μ))), (0, .ref (ga G th)), (1, .ref (ga G 3)), (2, .int p2), (3, .int (nI (NX5_pass_50 th p2 μ)))] [] (VX5_pass_3 th p2 μ) ?_ (fun hJ => ?_)
      · refine r_iinc ((nI (NX5_pass_50 th p2 μ)) + 1) [(3, _), (4, _), (0, _), (1, _), (2, _)] dX5_pass_94 4 rfl rfl (Nat.le_of_ble_eq_true rfl) rfl ?_
        refine r_goto 50 dX5_pass_97 (by decide) ?_
        exact hP.elim
      · refine r_if_eq 94 dX5_pass_71 (by decide) (fun c3 => ?_) (fun c3 => ?_)
        · have e : (VX5_pass_3 th p2 μ) = (SX5_pass_50 th p2 μ) := by unfold VX5_pass_3; rw [if_pos c3]
          rw [e] at hJ
          exact r_sub [0, 1, 2, 3, 4] rfl hJ
        · refine r_aload_n dX5_pass_74 1 rfl ?_
          refine r_getR (th + 2) fX5_15 (hth.lt hG) hth.sh (hth.f1) dX5_pass_75 ?_
          refine r_iload dX5_pass_78 0 rfl ?_
          refine r_csI (ok_X9_at hG (hth.lt1 hG) hth.s1 (F_X5_of th 0 (nI (NX5_pass_50 th p2 μ)) (SX5_pass_50 th p2 μ)) (SX5_pass_50 th p2 μ)) lX5_37 dX5_pass_80 (by decide) (Nat.le_of_ble_eq_true rfl) rfl (Nat.le_of_ble_eq_true rfl) ?_
          refine r_if_le 94 dX5_pass_83 (by decide) (fun c4 => ?_) (fun c4 => ?_)
          · have e : (VX5_pass_3 th p2 μ) = (SX5_pass_50 th p2 μ) := by unfold VX5_pass_3; rw [if_neg c3, if_pos c4]
            rw [e] at hJ
            exact r_sub [0, 1, 2, 3, 4] rfl hJ
          · refine r_aload_n dX5_pass_86 1 rfl ?_
            refine r_aload_n dX5_pass_87 2 rfl ?_
            refine r_iload_n dX5_pass_88 4 rfl ?_
            refine r_iload dX5_pass_89 0 rfl ?_
            refine r_cvV (ok_X5_soak hG hth (nI (NX5_pass_50 th p2 μ)) (F_X5_of th 0 (nI (NX5_pass_50 th p2 μ)) (SX5_pass_50 th p2 μ)) (SX5_pass_50 th p2 μ)) lX5_99 (hth.lt hG) hth.sh ⟨_, _, rfl⟩ dX5_pass_91 (by decide) (Nat.le_of_ble_eq_true rfl) rfl (Nat.le_of_ble_eq_true rfl) ?_
            refine r_mu (muX5_pass_2 th p2 μ) rfl ?_
            have e : (VX5_pass_3 th p2 μ) = (muX5_pass_2 th p2 μ) := by unfold VX5_pass_3; rw [if_neg c3, if_neg (i32_ng c4)]
            rw [e] at hJ
            exact r_sub [0, 1, 2, 3, 4] rfl hJ
  · replace hP := hP.2 c1
    refine r_aload_n dX5_pass_10 0 rfl ?_
    refine r_getR (th + 2) fX5_15 (hth.lt hG) hth.sh (hth.f1) dX5_pass_11 ?_
    refine r_iload_n dX5_pass_14 3 rfl ?_
    refine r_aload_n dX5_pass_15 0 rfl ?_
    refine r_iload_n dX5_pass_16 3 rfl ?_
    refine r_iload_n dX5_pass_17 2 rfl ?_
    refine r_cvI (ok_X5_waterIn hG hth (nI (NX5_pass_2 th p2 μ)) p2 (SX5_pass_2 th p2 μ)) lX5_96 (hth.lt hG) hth.sh ⟨_, _, rfl⟩ dX5_pass_18 (by decide) (Nat.le_of_ble_eq_true rfl) rfl (Nat.le_of_ble_eq_true rfl) ?_
    refine r_csV (ok_X9_put hG (hth.lt1 hG) hth.s1 (nI (NX5_pass_2 th p2 μ)) (F_X5_waterIn th (nI (NX5_pass_2 th p2 μ)) p2 (SX5_pass_2 th p2 μ)) (SX5_pass_2 th p2 μ)) lX5_24 dX5_pass_21 (by decide) (Nat.le_of_ble_eq_true rfl) rfl (Nat.le_of_ble_eq_true rfl) ?_
    refine r_mu (muX5_pass_4 th p2 μ) rfl ?_
    refine r_aload_n dX5_pass_24 0 rfl ?_
    refine r_getR (th + 3) fX5_18 (hth.lt hG) hth.sh (hth.f2) dX5_pass_25 ?_
    refine r_iload_n dX5_pass_28 3 rfl ?_
    refine r_iconst 0 dX5_pass_29 rfl ?_
    refine r_csV (ok_X9_put hG (hth.lt2 hG) hth.s2 (nI (NX5_pass_2 th p2 μ)) 0 (muX5_pass_4 th p2 μ)) lX5_24 dX5_pass_30 (by decide) (Nat.le_of_ble_eq_true rfl) rfl (Nat.le_of_ble_eq_true rfl) ?_
    refine r_mu (muX5_pass_5 th p2 μ) rfl ?_
    refine r_aload_n dX5_pass_33 0 rfl ?_
    refine r_getR (th + 4) fX5_21 (hth.lt hG) hth.sh (hth.f3) dX5_pass_34 ?_
    refine r_iload_n dX5_pass_37 3 rfl ?_
    refine r_iconst 0 dX5_pass_38 rfl ?_
    refine r_csV (ok_X9_put hG (hth.lt3 hG) hth.s3 (nI (NX5_pass_2 th p2 μ)) 0 (muX5_pass_5 th p2 μ)) lX5_24 dX5_pass_39 (by decide) (Nat.le_of_ble_eq_true rfl) rfl (Nat.le_of_ble_eq_true rfl) ?_
    refine r_mu (muX5_pass_6 th p2 μ) rfl ?_
    refine r_iinc ((nI (NX5_pass_2 th p2 μ)) + 1) [(3, _), (0, _), (1, _), (2, _)] dX5_pass_42 3 rfl rfl (Nat.le_of_ble_eq_true rfl) rfl ?_
    refine r_goto 2 dX5_pass_45 (by decide) ?_
    exact hP.elim
def muX0_passNext_1 (μ : Mem) : Mem := (M_X5_pass 52 (F_X7_heightOf (F_X5_tideToCome 52 μ) μ) μ)
def M_X0_passNext  (μ : Mem) : Mem := (muX0_passNext_1 μ)
def P_X0_passNext  (μ : Mem) : Prop := ((P_X7_heightOf (F_X5_tideToCome 52 μ) μ) ∧ (P_X5_pass 52 (F_X7_heightOf (F_X5_tideToCome 52 μ) μ) μ))
set_option maxRecDepth 20000 in
set_option maxHeartbeats 2000000 in
theorem ok_X0_passNext {G : SG} (hG : GK 57 G)  (μ : Mem) (hP : P_X0_passNext  μ) : OkF G mX0_passNext [.ref (ga G 51)] μ none (M_X0_passNext  μ) := by
  refine okF_of hG rfl rfl (Nat.le_of_ble_eq_true rfl) ?_
  unfold P_X0_passNext at hP
  refine r_aload_n dX0_passNext_0 0 rfl ?_
  refine r_getR 52 fX0_12 (hG.lt (by decide)) sh51 fs51_3 dX0_passNext_1 ?_
  refine r_aload_n dX0_passNext_4 0 rfl ?_
  refine r_getR 3 fX0_18 (hG.lt (by decide)) sh51 fs51_0 dX0_passNext_5 ?_
  refine r_aload_n dX0_passNext_8 0 rfl ?_
  refine r_getR 3 fX0_18 (hG.lt (by decide)) sh51 fs51_0 dX0_passNext_9 ?_
  refine r_aload_n dX0_passNext_12 0 rfl ?_
  refine r_getR 52 fX0_12 (hG.lt (by decide)) sh51 fs51_3 dX0_passNext_13 ?_
  refine r_cvI (ok_X5_tideToCome hG (IsSt.of52) μ) lX0_37 (hG.lt (by decide)) sh52 ⟨_, _, rfl⟩ dX0_passNext_16 (by decide) (Nat.le_of_ble_eq_true rfl) rfl (Nat.le_of_ble_eq_true rfl) ?_
  have hs1 := hP.1
  replace hP := hP.2
  refine r_cvI (ok_X7_heightOf hG (F_X5_tideToCome 52 μ) μ hs1) lX0_41 (hG.lt (by decide)) sh3 ⟨_, _, rfl⟩ dX0_passNext_19 (by decide) (Nat.le_of_ble_eq_true rfl) rfl (Nat.le_of_ble_eq_true rfl) ?_
  have hs2 := hP
  refine r_cvV (ok_X5_pass hG (IsSt.of52) (F_X7_heightOf (F_X5_tideToCome 52 μ) μ) μ hs2) lX0_61 (hG.lt (by decide)) sh52 ⟨_, _, rfl⟩ dX0_passNext_22 (by decide) (Nat.le_of_ble_eq_true rfl) rfl (Nat.le_of_ble_eq_true rfl) ?_
  refine r_mu (muX0_passNext_1 μ) rfl ?_
  exact r_return dX0_passNext_25 rfl ⟨rfl, rfl⟩
def F_X1_outOf (p0 : Int32) (p1 : Int32) (p2 : Int32) (μ : Mem) : Int32 := (if p0 = 8 then (p1 + p2) else (if p0 = 9 then (p1 - p2) else (if p0 = 10 then (p1 * p2) else (if p0 = 11 then (if p2 ≠ 0 then (p1 / p2) else 0) else (if p0 = 12 then (imin p1 p2) else (imax p1 p2))))))
def P_X1_outOf (p0 : Int32) (p1 : Int32) (p2 : Int32) (μ : Mem) : Prop := ((p0 = 8 → True) ∧ (p0 = 9 → True) ∧ (p0 = 10 → True) ∧ (p0 = 11 → ((p2 ≠ 0 → (¬ p2 = 0)) ∧ (p2 = 0 → True))) ∧ (p0 = 12 → True) ∧ (¬ p0 = 8 ∧ ¬ p0 = 9 ∧ ¬ p0 = 10 ∧ ¬ p0 = 11 ∧ ¬ p0 = 12 → True))
set_option maxRecDepth 20000 in
set_option maxHeartbeats 2000000 in
theorem ok_X1_outOf {G : SG} (hG : GK 57 G) (p0 : Int32) (p1 : Int32) (p2 : Int32) (μ : Mem) (hP : P_X1_outOf p0 p1 p2 μ) : OkF G mX1_outOf [.int p0, .int p1, .int p2] μ (some (.int (F_X1_outOf p0 p1 p2 μ))) μ := by
  refine okF_of hG rfl rfl (Nat.le_of_ble_eq_true rfl) ?_
  unfold P_X1_outOf at hP
  refine r_iload_n dX1_outOf_0 0 rfl ?_
  by_cases c1 : p0 = 8
  · replace hP := hP.1 c1
    refine r_tableIn (35) 36 dX1_outOf_1 (by rw [c1]; decide) (by rw [c1]; decide) (by rw [c1]; rfl) (by decide) ?_
    refine r_iload_n dX1_outOf_36 1 rfl ?_
    refine r_iload_n dX1_outOf_37 2 rfl ?_
    refine r_iadd dX1_outOf_38 ?_
    exact r_ireturn _ dX1_outOf_39 rfl rfl ⟨congrArg (fun z => some (Value.int z)) (by unfold F_X1_outOf; rw [if_pos c1]), rfl⟩
  by_cases c2 : p0 = 9
  · replace hP := hP.2.1 c2
    refine r_tableIn (39) 40 dX1_outOf_1 (by rw [c2]; decide) (by rw [c2]; decide) (by rw [c2]; rfl) (by decide) ?_
    refine r_iload_n dX1_outOf_40 1 rfl ?_
    refine r_iload_n dX1_outOf_41 2 rfl ?_
    refine r_isub dX1_outOf_42 ?_
    exact r_ireturn _ dX1_outOf_43 rfl rfl ⟨congrArg (fun z => some (Value.int z)) (by unfold F_X1_outOf; rw [if_neg c1, if_pos c2]), rfl⟩
  by_cases c3 : p0 = 10
  · replace hP := hP.2.2.1 c3
    refine r_tableIn (43) 44 dX1_outOf_1 (by rw [c3]; decide) (by rw [c3]; decide) (by rw [c3]; rfl) (by decide) ?_
    refine r_iload_n dX1_outOf_44 1 rfl ?_
    refine r_iload_n dX1_outOf_45 2 rfl ?_
    refine r_imul dX1_outOf_46 ?_
    exact r_ireturn _ dX1_outOf_47 rfl rfl ⟨congrArg (fun z => some (Value.int z)) (by unfold F_X1_outOf; rw [if_neg c1, if_neg c2, if_pos c3]), rfl⟩
  by_cases c4 : p0 = 11
  · replace hP := hP.2.2.2.1 c4
    refine r_tableIn (47) 48 dX1_outOf_1 (by rw [c4]; decide) (by rw [c4]; decide) (by rw [c4]; rfl) (by decide) ?_
    refine r_iload_n dX1_outOf_48 2 rfl ?_
    refine r_if_ne 56 dX1_outOf_49 (by decide) (fun c5 => ?_) (fun c5 => ?_)
    · replace hP := hP.1 c5
      refine r_iload_n dX1_outOf_56 1 rfl ?_
      refine r_iload_n dX1_outOf_57 2 rfl ?_
      have hs1 := hP
      refine r_idiv dX1_outOf_58 hs1 ?_
      exact r_ireturn _ dX1_outOf_59 rfl rfl ⟨congrArg (fun z => some (Value.int z)) (by unfold F_X1_outOf; rw [if_neg c1, if_neg c2, if_neg c3, if_pos c4, if_pos c5]), rfl⟩
    · replace hP := hP.2 c5
      refine r_iconst 0 dX1_outOf_52 rfl ?_
      refine r_goto 59 dX1_outOf_53 (by decide) ?_
      exact r_ireturn _ dX1_outOf_59 rfl rfl ⟨congrArg (fun z => some (Value.int z)) (by unfold F_X1_outOf; rw [if_neg c1, if_neg c2, if_neg c3, if_pos c4, if_neg (not_not_intro c5)]), rfl⟩
  by_cases c5 : p0 = 12
  · replace hP := hP.2.2.2.2.1 c5
    refine r_tableIn (59) 60 dX1_outOf_1 (by rw [c5]; decide) (by rw [c5]; decide) (by rw [c5]; rfl) (by decide) ?_
    refine r_iload_n dX1_outOf_60 1 rfl ?_
    refine r_iload_n dX1_outOf_61 2 rfl ?_
    refine r_mmin lX1_122 (Nat.le_of_ble_eq_true rfl) dX1_outOf_62 ?_
    exact r_ireturn _ dX1_outOf_65 rfl rfl ⟨congrArg (fun z => some (Value.int z)) (by unfold F_X1_outOf; rw [if_neg c1, if_neg c2, if_neg c3, if_neg c4, if_pos c5]), rfl⟩
  replace hP := hP.2.2.2.2.2 ⟨c1, c2, c3, c4, c5⟩
  have ec1 := i32_ti c1
  have ec2 := i32_ti c2
  have ec3 := i32_ti c3
  have ec4 := i32_ti c4
  have ec5 := i32_ti c5
  refine r_tableOut 66 dX1_outOf_1 (by simp only [Int32.reduceToInt] at ec1 ec2 ec3 ec4 ec5; omega) (by decide) ?_
  refine r_iload_n dX1_outOf_66 1 rfl ?_
  refine r_iload_n dX1_outOf_67 2 rfl ?_
  refine r_mmax lX1_127 (Nat.le_of_ble_eq_true rfl) dX1_outOf_68 ?_
  exact r_ireturn _ dX1_outOf_71 rfl rfl ⟨congrArg (fun z => some (Value.int z)) (by unfold F_X1_outOf; rw [if_neg c1, if_neg c2, if_neg c3, if_neg c4, if_neg c5]), rfl⟩
def muX1_dueBy_1 (p1 : Int32) (p2 : Int32) (p3 : Int32) (p4 : Int32) (p5 : Int32) (p6 : Int32) (μ : Mem) : Mem := (M_X9_put 24 7 0 p1 μ)
def muX1_dueBy_2 (p1 : Int32) (p2 : Int32) (p3 : Int32) (p4 : Int32) (p5 : Int32) (p6 : Int32) (μ : Mem) : Mem := (M_X9_put 24 7 1 p2 (muX1_dueBy_1 p1 p2 p3 p4 p5 p6 μ))
def muX1_dueBy_3 (p1 : Int32) (p2 : Int32) (p3 : Int32) (p4 : Int32) (p5 : Int32) (p6 : Int32) (μ : Mem) : Mem := (M_X9_put 24 7 2 p3 (muX1_dueBy_2 p1 p2 p3 p4 p5 p6 μ))
def muX1_dueBy_4 (p1 : Int32) (p2 : Int32) (p3 : Int32) (p4 : Int32) (p5 : Int32) (p6 : Int32) (μ : Mem) : Mem := (M_X9_put 24 7 3 p4 (muX1_dueBy_3 p1 p2 p3 p4 p5 p6 μ))
def muX1_dueBy_5 (p1 : Int32) (p2 : Int32) (p3 : Int32) (p4 : Int32) (p5 : Int32) (p6 : Int32) (μ : Mem) : Mem := (M_X9_put 24 7 4 (p4 - p4 / 8 * 8) (muX1_dueBy_4 p1 p2 p3 p4 p5 p6 μ))
def muX1_dueBy_6 (p1 : Int32) (p2 : Int32) (p3 : Int32) (p4 : Int32) (p5 : Int32) (p6 : Int32) (μ : Mem) : Mem := (M_X9_put 24 7 5 p5 (muX1_dueBy_5 p1 p2 p3 p4 p5 p6 μ))
def muX1_dueBy_7 (p1 : Int32) (p2 : Int32) (p3 : Int32) (p4 : Int32) (p5 : Int32) (p6 : Int32) (μ : Mem) : Mem := (M_X9_put 24 7 6 p6 (muX1_dueBy_6 p1 p2 p3 p4 p5 p6 μ))
def muX1_dueBy_77_1 (v1 : Int32) (v2 : Int32) (v3 : Int32) (v4 : Int32) (v5 : Int32) (v6 : Int32) (i : Nat) (s : Int32 × Mem) : Mem := (M_X9_put 25 150 (s.1 + (-1)) (F_X1_outOf (F_X9_at 22 150 (nI i) s.2) (F_X9_at 25 150 (s.1 + (-1)) s.2) (F_X9_at 25 150 ((s.1 + (-1)) + 1) s.2) s.2) s.2)
def VX1_dueBy_77_2 (v1 : Int32) (v2 : Int32) (v3 : Int32) (v4 : Int32) (v5 : Int32) (v6 : Int32) (i : Nat) (s : Int32 × Mem) : Int32 := (if (F_X9_at 22 150 (nI i) s.2) ≠ 7 then (F_X9_at 24 7 (F_X9_at 22 150 (nI i) s.2) s.2) else (F_X9_at 23 150 (nI i) s.2))
def muX1_dueBy_77_3 (v1 : Int32) (v2 : Int32) (v3 : Int32) (v4 : Int32) (v5 : Int32) (v6 : Int32) (i : Nat) (s : Int32 × Mem) : Mem := (M_X9_put 25 150 (s.1 + 1) (VX1_dueBy_77_2 v1 v2 v3 v4 v5 v6 i s) s.2)
def VX1_dueBy_77_4 (v1 : Int32) (v2 : Int32) (v3 : Int32) (v4 : Int32) (v5 : Int32) (v6 : Int32) (i : Nat) (s : Int32 × Mem) : Int32 := (if 7 < (F_X9_at 22 150 (nI i) s.2) then (s.1 + (-1)) else (s.1 + 1))
def VX1_dueBy_77_5 (v1 : Int32) (v2 : Int32) (v3 : Int32) (v4 : Int32) (v5 : Int32) (v6 : Int32) (i : Nat) (s : Int32 × Mem) : Mem := (if 7 < (F_X9_at 22 150 (nI i) s.2) then (muX1_dueBy_77_1 v1 v2 v3 v4 v5 v6 i s) else (muX1_dueBy_77_3 v1 v2 v3 v4 v5 v6 i s))
def g_X1_dueBy_77 (v1 : Int32) (v2 : Int32) (v3 : Int32) (v4 : Int32) (v5 : Int32) (v6 : Int32) (i : Nat) (s : Int32 × Mem) : Int32 × Mem := ((VX1_dueBy_77_4 v1 v2 v3 v4 v5 v6 i s), (VX1_dueBy_77_5 v1 v2 v3 v4 v5 v6 i s))
def Pb_X1_dueBy_77 (v1 : Int32) (v2 : Int32) (v3 : Int32) (v4 : Int32) (v5 : Int32) (v6 : Int32) (i : Nat) (s : Int32 × Mem) : Prop := (((s.2 21 4) ≤ (nI i) → False) ∧ ((nI i) < (s.2 21 4) → ((7 < (F_X9_at 22 150 (nI i) s.2) → P_X1_outOf (F_X9_at 22 150 (nI i) s.2) (F_X9_at 25 150 (s.1 + (-1)) s.2) (F_X9_at 25 150 ((s.1 + (-1)) + 1) s.2) s.2) ∧ ((F_X9_at 22 150 (nI i) s.2) ≤ 7 → True))))
set_option maxRecDepth 20000 in
set_option maxHeartbeats 2000000 in
theorem lp_X1_dueBy_77 {G : SG} (hG : GK 57 G)  (v1 : Int32) (v2 : Int32) (v3 : Int32) (v4 : Int32) (v5 : Int32) (v6 : Int32) (s0 : Int32 × Mem) (N : Nat) (sN : Int32 × Mem) (eN : sN = fo N (g_X1_dueBy_77 v1 v2 v3 v4 v5 v6) s0) (hN : ∀ i, i < N → Pb_X1_dueBy_77 v1 v2 v3 v4 v5 v6 i (fo i (g_X1_dueBy_77 v1 v2 v3 v4 v5 v6) s0)) {t : Nat} {Q : PQ} {X : PX} (h : R G mX1_dueBy 77 [(0, .ref (ga G 21)), (1, .int v1), (2, .int v2), (3, .int v3), (4, .int v4), (5, .int v5), (6, .int v6), (7, .int (sN).1), (8, .int (nI N))] [] (sN).2 t Q X) : R G mX1_dueBy 77 [(0, .ref (ga G 21)), (1, .int v1), (2, .int v2), (3, .int v3), (4, .int v4), (5, .int v5), (6, .int v6), (7, .int (s0).1), (8, .int 0)] [] (s0).2 t Q X := by
  subst eN
  refine down_i N (fun i => R G mX1_dueBy 77 [(0, .ref (ga G 21)), (1, .int v1), (2, .int v2), (3, .int v3), (4, .int v4), (5, .int v5), (6, .int v6), (7, .int ((fo i (g_X1_dueBy_77 v1 v2 v3 v4 v5 v6) s0)).1), (8, .int (nI i))] [] ((fo i (g_X1_dueBy_77 v1 v2 v3 v4 v5 v6) s0)).2 t Q X) h (fun i hi hS => ?_)
  have hP := hN i hi
  rw [fo_succ] at hS
  rw [nI_succ] at hS
  generalize fo i (g_X1_dueBy_77 v1 v2 v3 v4 v5 v6) s0 = s at hS hP ⊢
  unfold Pb_X1_dueBy_77 at hP
  refine r_iload dX1_dueBy_77 8 rfl ?_
  refine r_aload_n dX1_dueBy_79 0 rfl ?_
  refine r_getI fX1_28 (hG.lt (by decide)) sh21 fs21_4 dX1_dueBy_80 ?_
  refine r_icmp_ge 190 dX1_dueBy_83 (by decide) (fun c1 => ?_) (fun c1 => ?_)
  · replace hP := hP.1 c1
    exact hP.elim
  · replace hP := hP.2 c1
    refine r_aload_n dX1_dueBy_86 0 rfl ?_
    refine r_getR 22 fX1_9 (hG.lt (by decide)) sh21 fs21_0 dX1_dueBy_87 ?_
    refine r_iload dX1_dueBy_90 8 rfl ?_
    refine r_csI (ok_X9_at hG (hG.lt (by decide)) sh22 (nI i) s.2) lX1_114 dX1_dueBy_92 (by decide) (Nat.le_of_ble_eq_true rfl) rfl (Nat.le_of_ble_eq_true rfl) ?_
    refine r_istore [(9, _), (0, _), (1, _), (2, _), (3, _), (4, _), (5, _), (6, _), (7, _), (8, _)] dX1_dueBy_95 (Nat.le_of_ble_eq_true rfl) rfl ?_
    refine r_iload dX1_dueBy_97 0 rfl ?_
    refine r_bipush 7 dX1_dueBy_99 rfl ?_
    refine r_join 184 [(7, .int (VX1_dueBy_77_4 v1 v2 v3 v4 v5 v6 i s)), (9, .int (F_X9_at 22 150 (nI i) s.2)), (0, .ref (ga G 21)), (1, .int v1), (2, .int v2), (3, .int v3), (4, .int v4), (5, .int v5), (6, .int v6), (8, .int (nI i))] [] (VX1_dueBy_77_5 v1 v2 v3 v4 v5 v6 i s) ?_ (fun hJ => ?_)
    · refine r_iinc ((nI i) + 1) [(8, _), (7, _), (9, _), (0, _), (1, _), (2, _), (3, _), (4, _), (5, _), (6, _)] dX1_dueBy_184 9 rfl rfl (Nat.le_of_ble_eq_true rfl) rfl ?_
      refine r_goto 77 dX1_dueBy_187 (by decide) ?_
      have e : g_X1_dueBy_77 v1 v2 v3 v4 v5 v6 i s = ((VX1_dueBy_77_4 v1 v2 v3 v4 v5 v6 i s), (VX1_dueBy_77_5 v1 v2 v3 v4 v5 v6 i s)) := by unfold g_X1_dueBy_77; rfl
      rw [e] at hS
      dsimp only at hS
      exact r_sub [3, 4, 5, 6, 7, 8, 9, 1, 0] rfl hS
    · refine r_icmp_gt 147 dX1_dueBy_101 (by decide) (fun c2 => ?_) (fun c2 => ?_)
      · replace hP := hP.1 c2
        refine r_iinc (s.1 + (-1)) [(7, _), (9, _), (0, _), (1, _), (2, _), (3, _), (4, _), (5, _), (6, _), (8, _)] dX1_dueBy_147 8 rfl rfl (Nat.le_of_ble_eq_true rfl) rfl ?_
        refine r_aload_n dX1_dueBy_150 2 rfl ?_
        refine r_getR 25 fX1_21 (hG.lt (by decide)) sh21 fs21_3 dX1_dueBy_151 ?_
        refine r_iload dX1_dueBy_154 0 rfl ?_
        refine r_iload dX1_dueBy_156 1 rfl ?_
        refine r_aload_n dX1_dueBy_158 2 rfl ?_
        refine r_getR 25 fX1_21 (hG.lt (by decide)) sh21 fs21_3 dX1_dueBy_159 ?_
        refine r_iload dX1_dueBy_162 0 rfl ?_
        refine r_csI (ok_X9_at hG (hG.lt (by decide)) sh25 (s.1 + (-1)) s.2) lX1_114 dX1_dueBy_164 (by decide) (Nat.le_of_ble_eq_true rfl) rfl (Nat.le_of_ble_eq_true rfl) ?_
        refine r_aload_n dX1_dueBy_167 2 rfl ?_
        refine r_getR 25 fX1_21 (hG.lt (by decide)) sh21 fs21_3 dX1_dueBy_168 ?_
        refine r_iload dX1_dueBy_171 0 rfl ?_
        refine r_iconst 1 dX1_dueBy_173 rfl ?_
        refine r_iadd dX1_dueBy_174 ?_
        refine r_csI (ok_X9_at hG (hG.lt (by decide)) sh25 ((s.1 + (-1)) + 1) s.2) lX1_114 dX1_dueBy_175 (by decide) (Nat.le_of_ble_eq_true rfl) rfl (Nat.le_of_ble_eq_true rfl) ?_
        have hs1 := hP
        refine r_csI (ok_X1_outOf hG (F_X9_at 22 150 (nI i) s.2) (F_X9_at 25 150 (s.1 + (-1)) s.2) (F_X9_at 25 150 ((s.1 + (-1)) + 1) s.2) s.2 hs1) lX1_118 dX1_dueBy_178 (by decide) (Nat.le_of_ble_eq_true rfl) rfl (Nat.le_of_ble_eq_true rfl) ?_
        refine r_csV (ok_X9_put hG (hG.lt (by decide)) sh25 (s.1 + (-1)) (F_X1_outOf (F_X9_at 22 150 (nI i) s.2) (F_X9_at 25 150 (s.1 + (-1)) s.2) (F_X9_at 25 150 ((s.1 + (-1)) + 1) s.2) s.2) s.2) lX1_39 dX1_dueBy_181 (by decide) (Nat.le_of_ble_eq_true rfl) rfl (Nat.le_of_ble_eq_true rfl) ?_
        refine r_mu (muX1_dueBy_77_1 v1 v2 v3 v4 v5 v6 i s) rfl ?_
        have e : (VX1_dueBy_77_4 v1 v2 v3 v4 v5 v6 i s) = (s.1 + (-1)) := by unfold VX1_dueBy_77_4; rw [if_pos c2]
        rw [e] at hJ
        clear e
        have e : (VX1_dueBy_77_5 v1 v2 v3 v4 v5 v6 i s) = (muX1_dueBy_77_1 v1 v2 v3 v4 v5 v6 i s) := by unfold VX1_dueBy_77_5; rw [if_pos c2]
        rw [e] at hJ
        exact r_sub [0, 1, 2, 3, 4, 5, 6, 7, 8, 9] rfl hJ
      · replace hP := hP.2 c2
        refine r_iinc (s.1 + 1) [(7, _), (9, _), (0, _), (1, _), (2, _), (3, _), (4, _), (5, _), (6, _), (8, _)] dX1_dueBy_104 8 rfl rfl (Nat.le_of_ble_eq_true rfl) rfl ?_
        refine r_aload_n dX1_dueBy_107 2 rfl ?_
        refine r_getR 25 fX1_21 (hG.lt (by decide)) sh21 fs21_3 dX1_dueBy_108 ?_
        refine r_iload dX1_dueBy_111 0 rfl ?_
        refine r_iload dX1_dueBy_113 1 rfl ?_
        refine r_bipush 7 dX1_dueBy_115 rfl ?_
        refine r_join 141 [(7, .int (s.1 + 1)), (9, .int (F_X9_at 22 150 (nI i) s.2)), (0, .ref (ga G 21)), (1, .int v1), (2, .int v2), (3, .int v3), (4, .int v4), (5, .int v5), (6, .int v6), (8, .int (nI i))] [.int (VX1_dueBy_77_2 v1 v2 v3 v4 v5 v6 i s), .int (s.1 + 1), .ref (ga G 25)] s.2 ?_ (fun hJ => ?_)
        · refine r_csV (ok_X9_put hG (hG.lt (by decide)) sh25 (s.1 + 1) (VX1_dueBy_77_2 v1 v2 v3 v4 v5 v6 i s) s.2) lX1_39 dX1_dueBy_141 (by decide) (Nat.le_of_ble_eq_true rfl) rfl (Nat.le_of_ble_eq_true rfl) ?_
          refine r_mu (muX1_dueBy_77_3 v1 v2 v3 v4 v5 v6 i s) rfl ?_
          refine r_goto 184 dX1_dueBy_144 (by decide) ?_
          have e : (VX1_dueBy_77_4 v1 v2 v3 v4 v5 v6 i s) = (s.1 + 1) := by unfold VX1_dueBy_77_4; rw [if_neg (i32_nl c2)]
          rw [e] at hJ
          clear e
          have e : (VX1_dueBy_77_5 v1 v2 v3 v4 v5 v6 i s) = (muX1_dueBy_77_3 v1 v2 v3 v4 v5 v6 i s) := by unfold VX1_dueBy_77_5; rw [if_neg (i32_nl c2)]
          rw [e] at hJ
          exact r_sub [0, 1, 2, 3, 4, 5, 6, 7, 8, 9] rfl hJ
        · refine r_icmp_ne 132 dX1_dueBy_117 (by decide) (fun c3 => ?_) (fun c3 => ?_)
          · refine r_aload_n dX1_dueBy_132 2 rfl ?_
            refine r_getR 24 fX1_18 (hG.lt (by decide)) sh21 fs21_2 dX1_dueBy_133 ?_
            refine r_iload dX1_dueBy_136 1 rfl ?_
            refine r_csI (ok_X9_at hG (hG.lt (by decide)) sh24 (F_X9_at 22 150 (nI i) s.2) s.2) lX1_114 dX1_dueBy_138 (by decide) (Nat.le_of_ble_eq_true rfl) rfl (Nat.le_of_ble_eq_true rfl) ?_
            have e : (VX1_dueBy_77_2 v1 v2 v3 v4 v5 v6 i s) = (F_X9_at 24 7 (F_X9_at 22 150 (nI i) s.2) s.2) := by unfold VX1_dueBy_77_2; rw [if_pos c3]
            rw [e] at hJ
            exact r_sub [0, 1, 2, 3, 4, 5, 6, 7, 8, 9] rfl hJ
          · refine r_aload_n dX1_dueBy_120 2 rfl ?_
            refine r_getR 23 fX1_15 (hG.lt (by decide)) sh21 fs21_1 dX1_dueBy_121 ?_
            refine r_iload dX1_dueBy_124 9 rfl ?_
            refine r_csI (ok_X9_at hG (hG.lt (by decide)) sh23 (nI i) s.2) lX1_114 dX1_dueBy_126 (by decide) (Nat.le_of_ble_eq_true rfl) rfl (Nat.le_of_ble_eq_true rfl) ?_
            refine r_goto 141 dX1_dueBy_129 (by decide) ?_
            have e : (VX1_dueBy_77_2 v1 v2 v3 v4 v5 v6 i s) = (F_X9_at 23 150 (nI i) s.2) := by unfold VX1_dueBy_77_2; rw [if_neg (not_not_intro c3)]
            rw [e] at hJ
            exact r_sub [0, 1, 2, 3, 4, 5, 6, 7, 8, 9] rfl hJ
def NX1_dueBy_77 (p1 : Int32) (p2 : Int32) (p3 : Int32) (p4 : Int32) (p5 : Int32) (p6 : Int32) (μ : Mem) : Nat := ix ((muX1_dueBy_7 p1 p2 p3 p4 p5 p6 μ) 21 4)
def SX1_dueBy_77 (p1 : Int32) (p2 : Int32) (p3 : Int32) (p4 : Int32) (p5 : Int32) (p6 : Int32) (μ : Mem) : Int32 × Mem := fo (NX1_dueBy_77 p1 p2 p3 p4 p5 p6 μ) (g_X1_dueBy_77 p1 p2 p3 p4 p5 p6) ((-1), (muX1_dueBy_7 p1 p2 p3 p4 p5 p6 μ))
def muX1_dueBy_8 (p1 : Int32) (p2 : Int32) (p3 : Int32) (p4 : Int32) (p5 : Int32) (p6 : Int32) (μ : Mem) : Mem := (M_X9_put 25 150 ((SX1_dueBy_77 p1 p2 p3 p4 p5 p6 μ).1 + (-1)) (F_X1_outOf (F_X9_at 22 150 (nI (NX1_dueBy_77 p1 p2 p3 p4 p5 p6 μ)) (SX1_dueBy_77 p1 p2 p3 p4 p5 p6 μ).2) (F_X9_at 25 150 ((SX1_dueBy_77 p1 p2 p3 p4 p5 p6 μ).1 + (-1)) (SX1_dueBy_77 p1 p2 p3 p4 p5 p6 μ).2) (F_X9_at 25 150 (((SX1_dueBy_77 p1 p2 p3 p4 p5 p6 μ).1 + (-1)) + 1) (SX1_dueBy_77 p1 p2 p3 p4 p5 p6 μ).2) (SX1_dueBy_77 p1 p2 p3 p4 p5 p6 μ).2) (SX1_dueBy_77 p1 p2 p3 p4 p5 p6 μ).2)
def VX1_dueBy_9 (p1 : Int32) (p2 : Int32) (p3 : Int32) (p4 : Int32) (p5 : Int32) (p6 : Int32) (μ : Mem) : Int32 := (if (F_X9_at 22 150 (nI (NX1_dueBy_77 p1 p2 p3 p4 p5 p6 μ)) (SX1_dueBy_77 p1 p2 p3 p4 p5 p6 μ).2) ≠ 7 then (F_X9_at 24 7 (F_X9_at 22 150 (nI (NX1_dueBy_77 p1 p2 p3 p4 p5 p6 μ)) (SX1_dueBy_77 p1 p2 p3 p4 p5 p6 μ).2) (SX1_dueBy_77 p1 p2 p3 p4 p5 p6 μ).2) else (F_X9_at 23 150 (nI (NX1_dueBy_77 p1 p2 p3 p4 p5 p6 μ)) (SX1_dueBy_77 p1 p2 p3 p4 p5 p6 μ).2))
def muX1_dueBy_10 (p1 : Int32) (p2 : Int32) (p3 : Int32) (p4 : Int32) (p5 : Int32) (p6 : Int32) (μ : Mem) : Mem := (M_X9_put 25 150 ((SX1_dueBy_77 p1 p2 p3 p4 p5 p6 μ).1 + 1) (VX1_dueBy_9 p1 p2 p3 p4 p5 p6 μ) (SX1_dueBy_77 p1 p2 p3 p4 p5 p6 μ).2)
def VX1_dueBy_11 (p1 : Int32) (p2 : Int32) (p3 : Int32) (p4 : Int32) (p5 : Int32) (p6 : Int32) (μ : Mem) : Int32 := (if 7 < (F_X9_at 22 150 (nI (NX1_dueBy_77 p1 p2 p3 p4 p5 p6 μ)) (SX1_dueBy_77 p1 p2 p3 p4 p5 p6 μ).2) then ((SX1_dueBy_77 p1 p2 p3 p4 p5 p6 μ).1 + (-1)) else ((SX1_dueBy_77 p1 p2 p3 p4 p5 p6 μ).1 + 1))
def VX1_dueBy_12 (p1 : Int32) (p2 : Int32) (p3 : Int32) (p4 : Int32) (p5 : Int32) (p6 : Int32) (μ : Mem) : Mem := (if 7 < (F_X9_at 22 150 (nI (NX1_dueBy_77 p1 p2 p3 p4 p5 p6 μ)) (SX1_dueBy_77 p1 p2 p3 p4 p5 p6 μ).2) then (muX1_dueBy_8 p1 p2 p3 p4 p5 p6 μ) else (muX1_dueBy_10 p1 p2 p3 p4 p5 p6 μ))
def F_X1_dueBy (p1 : Int32) (p2 : Int32) (p3 : Int32) (p4 : Int32) (p5 : Int32) (p6 : Int32) (μ : Mem) : Int32 := (imax 0 (imin 99 (F_X9_at 25 150 0 (SX1_dueBy_77 p1 p2 p3 p4 p5 p6 μ).2)))
def M_X1_dueBy (p1 : Int32) (p2 : Int32) (p3 : Int32) (p4 : Int32) (p5 : Int32) (p6 : Int32) (μ : Mem) : Mem := (SX1_dueBy_77 p1 p2 p3 p4 p5 p6 μ).2
def P_X1_dueBy (p1 : Int32) (p2 : Int32) (p3 : Int32) (p4 : Int32) (p5 : Int32) (p6 : Int32) (μ : Mem) : Prop := ((∀ j9, j9 < (NX1_dueBy_77 p1 p2 p3 p4 p5 p6 μ) → Pb_X1_dueBy_77 p1 p2 p3 p4 p5 p6 j9 (fo j9 (g_X1_dueBy_77 p1 p2 p3 p4 p5 p6) ((-1), (muX1_dueBy_7 p1 p2 p3 p4 p5 p6 μ)))) ∧ ((((SX1_dueBy_77 p1 p2 p3 p4 p5 p6 μ).2 21 4) ≤ (nI (NX1_dueBy_77 p1 p2 p3 p4 p5 p6 μ)) → True) ∧ ((nI (NX1_dueBy_77 p1 p2 p3 p4 p5 p6 μ)) < ((SX1_dueBy_77 p1 p2 p3 p4 p5 p6 μ).2 21 4) → (((7 < (F_X9_at 22 150 (nI (NX1_dueBy_77 p1 p2 p3 p4 p5 p6 μ)) (SX1_dueBy_77 p1 p2 p3 p4 p5 p6 μ).2) → (P_X1_outOf (F_X9_at 22 150 (nI (NX1_dueBy_77 p1 p2 p3 p4 p5 p6 μ)) (SX1_dueBy_77 p1 p2 p3 p4 p5 p6 μ).2) (F_X9_at 25 150 ((SX1_dueBy_77 p1 p2 p3 p4 p5 p6 μ).1 + (-1)) (SX1_dueBy_77 p1 p2 p3 p4 p5 p6 μ).2) (F_X9_at 25 150 (((SX1_dueBy_77 p1 p2 p3 p4 p5 p6 μ).1 + (-1)) + 1) (SX1_dueBy_77 p1 p2 p3 p4 p5 p6 μ).2) (SX1_dueBy_77 p1 p2 p3 p4 p5 p6 μ).2)) ∧ ((F_X9_at 22 150 (nI (NX1_dueBy_77 p1 p2 p3 p4 p5 p6 μ)) (SX1_dueBy_77 p1 p2 p3 p4 p5 p6 μ).2) ≤ 7 → True)) ∧ False))))
set_option maxRecDepth 20000 in
set_option maxHeartbeats 2000000 in
theorem ok_X1_dueBy {G : SG} (hG : GK 57 G) (p1 : Int32) (p2 : Int32) (p3 : Int32) (p4 : Int32) (p5 : Int32) (p6 : Int32) (μ : Mem) (hP : P_X1_dueBy p1 p2 p3 p4 p5 p6 μ) : OkF G mX1_dueBy [.ref (ga G 21), .int p1, .int p2, .int p3, .int p4, .int p5, .int p6] μ (some (.int (F_X1_dueBy p1 p2 p3 p4 p5 p6 μ))) (M_X1_dueBy p1 p2 p3 p4 p5 p6 μ) := by
  refine okF_of hG rfl rfl (Nat.le_of_ble_eq_true rfl) ?_
  unfold P_X1_dueBy at hP
  refine r_aload_n dX1_dueBy_0 0 rfl ?_
  refine r_getR 24 fX1_18 (hG.lt (by decide)) sh21 fs21_2 dX1_dueBy_1 ?_
  refine r_iconst 0 dX1_dueBy_4 rfl ?_
  refine r_iload_n dX1_dueBy_5 1 rfl ?_
  refine r_csV (ok_X9_put hG (hG.lt (by decide)) sh24 0 p1 μ) lX1_39 dX1_dueBy_6 (by decide) (Nat.le_of_ble_eq_true rfl) rfl (Nat.le_of_ble_eq_true rfl) ?_
  refine r_mu (muX1_dueBy_1 p1 p2 p3 p4 p5 p6 μ) rfl ?_
  refine r_aload_n dX1_dueBy_9 0 rfl ?_
  refine r_getR 24 fX1_18 (hG.lt (by decide)) sh21 fs21_2 dX1_dueBy_10 ?_
  refine r_iconst 1 dX1_dueBy_13 rfl ?_
  refine r_iload_n dX1_dueBy_14 2 rfl ?_
  refine r_csV (ok_X9_put hG (hG.lt (by decide)) sh24 1 p2 (muX1_dueBy_1 p1 p2 p3 p4 p5 p6 μ)) lX1_39 dX1_dueBy_15 (by decide) (Nat.le_of_ble_eq_true rfl) rfl (Nat.le_of_ble_eq_true rfl) ?_
  refine r_mu (muX1_dueBy_2 p1 p2 p3 p4 p5 p6 μ) rfl ?_
  refine r_aload_n dX1_dueBy_18 0 rfl ?_
  refine r_getR 24 fX1_18 (hG.lt (by decide)) sh21 fs21_2 dX1_dueBy_19 ?_
  refine r_iconst 2 dX1_dueBy_22 rfl ?_
  refine r_iload_n dX1_dueBy_23 3 rfl ?_
  refine r_csV (ok_X9_put hG (hG.lt (by decide)) sh24 2 p3 (muX1_dueBy_2 p1 p2 p3 p4 p5 p6 μ)) lX1_39 dX1_dueBy_24 (by decide) (Nat.le_of_ble_eq_true rfl) rfl (Nat.le_of_ble_eq_true rfl) ?_
  refine r_mu (muX1_dueBy_3 p1 p2 p3 p4 p5 p6 μ) rfl ?_
  refine r_aload_n dX1_dueBy_27 0 rfl ?_
  refine r_getR 24 fX1_18 (hG.lt (by decide)) sh21 fs21_2 dX1_dueBy_28 ?_
  refine r_iconst 3 dX1_dueBy_31 rfl ?_
  refine r_iload dX1_dueBy_32 4 rfl ?_
  refine r_csV (ok_X9_put hG (hG.lt (by decide)) sh24 3 p4 (muX1_dueBy_3 p1 p2 p3 p4 p5 p6 μ)) lX1_39 dX1_dueBy_34 (by decide) (Nat.le_of_ble_eq_true rfl) rfl (Nat.le_of_ble_eq_true rfl) ?_
  refine r_mu (muX1_dueBy_4 p1 p2 p3 p4 p5 p6 μ) rfl ?_
  refine r_aload_n dX1_dueBy_37 0 rfl ?_
  refine r_getR 24 fX1_18 (hG.lt (by decide)) sh21 fs21_2 dX1_dueBy_38 ?_
  refine r_iconst 4 dX1_dueBy_41 rfl ?_
  refine r_iload dX1_dueBy_42 4 rfl ?_
  refine r_bipush 8 dX1_dueBy_44 rfl ?_
  refine r_irem dX1_dueBy_46 (by decide) ?_
  refine r_csV (ok_X9_put hG (hG.lt (by decide)) sh24 4 (p4 - p4 / 8 * 8) (muX1_dueBy_4 p1 p2 p3 p4 p5 p6 μ)) lX1_39 dX1_dueBy_47 (by decide) (Nat.le_of_ble_eq_true rfl) rfl (Nat.le_of_ble_eq_true rfl) ?_
  refine r_mu (muX1_dueBy_5 p1 p2 p3 p4 p5 p6 μ) rfl ?_
  refine r_aload_n dX1_dueBy_50 0 rfl ?_
  refine r_getR 24 fX1_18 (hG.lt (by decide)) sh21 fs21_2 dX1_dueBy_51 ?_
  refine r_iconst 5 dX1_dueBy_54 rfl ?_
  refine r_iload dX1_dueBy_55 5 rfl ?_
  refine r_csV (ok_X9_put hG (hG.lt (by decide)) sh24 5 p5 (muX1_dueBy_5 p1 p2 p3 p4 p5 p6 μ)) lX1_39 dX1_dueBy_57 (by decide) (Nat.le_of_ble_eq_true rfl) rfl (Nat.le_of_ble_eq_true rfl) ?_
  refine r_mu (muX1_dueBy_6 p1 p2 p3 p4 p5 p6 μ) rfl ?_
  refine r_aload_n dX1_dueBy_60 0 rfl ?_
  refine r_getR 24 fX1_18 (hG.lt (by decide)) sh21 fs21_2 dX1_dueBy_61 ?_
  refine r_bipush 6 dX1_dueBy_64 rfl ?_
  refine r_iload dX1_dueBy_66 6 rfl ?_
  refine r_csV (ok_X9_put hG (hG.lt (by decide)) sh24 6 p6 (muX1_dueBy_6 p1 p2 p3 p4 p5 p6 μ)) lX1_39 dX1_dueBy_68 (by decide) (Nat.le_of_ble_eq_true rfl) rfl (Nat.le_of_ble_eq_true rfl) ?_
  refine r_mu (muX1_dueBy_7 p1 p2 p3 p4 p5 p6 μ) rfl ?_
  refine r_iconst (-1) dX1_dueBy_71 rfl ?_
  refine r_istore [(7, _), (0, _), (1, _), (2, _), (3, _), (4, _), (5, _), (6, _)] dX1_dueBy_72 (Nat.le_of_ble_eq_true rfl) rfl ?_
  refine r_iconst 0 dX1_dueBy_74 rfl ?_
  refine r_istore [(8, _), (7, _), (0, _), (1, _), (2, _), (3, _), (4, _), (5, _), (6, _)] dX1_dueBy_75 (Nat.le_of_ble_eq_true rfl) rfl ?_
  have hs1 := hP.1
  replace hP := hP.2
  refine r_sub [2, 3, 4, 5, 6, 7, 8, 1, 0] rfl ?_
  refine lp_X1_dueBy_77 hG p1 p2 p3 p4 p5 p6 ((-1), (muX1_dueBy_7 p1 p2 p3 p4 p5 p6 μ)) ((NX1_dueBy_77 p1 p2 p3 p4 p5 p6 μ)) (SX1_dueBy_77 p1 p2 p3 p4 p5 p6 μ) rfl hs1 ?_
  refine r_iload dX1_dueBy_77 8 rfl ?_
  refine r_aload_n dX1_dueBy_79 0 rfl ?_
  refine r_getI fX1_28 (hG.lt (by decide)) sh21 fs21_4 dX1_dueBy_80 ?_
  refine r_icmp_ge 190 dX1_dueBy_83 (by decide) (fun c1 => ?_) (fun c1 => ?_)
  · replace hP := hP.1 c1
    refine r_iconst 0 dX1_dueBy_190 rfl ?_
    refine r_bipush 99 dX1_dueBy_191 rfl ?_
    refine r_aload_n dX1_dueBy_193 0 rfl ?_
    refine r_getR 25 fX1_21 (hG.lt (by decide)) sh21 fs21_3 dX1_dueBy_194 ?_
    refine r_iconst 0 dX1_dueBy_197 rfl ?_
    refine r_csI (ok_X9_at hG (hG.lt (by decide)) sh25 0 (SX1_dueBy_77 p1 p2 p3 p4 p5 p6 μ).2) lX1_114 dX1_dueBy_198 (by decide) (Nat.le_of_ble_eq_true rfl) rfl (Nat.le_of_ble_eq_true rfl) ?_
    refine r_mmin lX1_122 (Nat.le_of_ble_eq_true rfl) dX1_dueBy_201 ?_
    refine r_mmax lX1_127 (Nat.le_of_ble_eq_true rfl) dX1_dueBy_204 ?_
    exact r_ireturn _ dX1_dueBy_207 rfl rfl ⟨congrArg (fun z => some (Value.int z)) (rfl), rfl⟩
  · replace hP := hP.2 c1
    refine r_aload_n dX1_dueBy_86 0 rfl ?_
    refine r_getR 22 fX1_9 (hG.lt (by decide)) sh21 fs21_0 dX1_dueBy_87 ?_
    refine r_iload dX1_dueBy_90 8 rfl ?_
    refine r_csI (ok_X9_at hG (hG.lt (by decide)) sh22 (nI (NX1_dueBy_77 p1 p2 p3 p4 p5 p6 μ)) (SX1_dueBy_77 p1 p2 p3 p4 p5 p6 μ).2) lX1_114 dX1_dueBy_92 (by decide) (Nat.le_of_ble_eq_true rfl) rfl (Nat.le_of_ble_eq_true rfl) ?_
    refine r_istore [(9, _), (0, _), (1, _), (2, _), (3, _), (4, _), (5, _), (6, _), (7, _), (8, _)] dX1_dueBy_95 (Nat.le_of_ble_eq_true rfl) rfl ?_
    refine r_iload dX1_dueBy_97 0 rfl ?_
    refine r_bipush 7 dX1_dueBy_99 rfl ?_
    refine r_join 184 [(7, .int (VX1_dueBy_11 p1 p2 p3 p4 p5 p6 μ)), (9, .int (F_X9_at 22 150 (nI (NX1_dueBy_77 p1 p2 p3 p4 p5 p6 μ)) (SX1_dueBy_77 p1 p2 p3 p4 p5 p6 μ).2)), (0, .ref (ga G 21)), (1, .int p1), (2, .int p2), (3, .int p3), (4, .int p4), (5, .int p5), (6, .int p6), (8, .int (nI (NX1_dueBy_77 p1 p2 p3 p4 p5 p6 μ)))] [] (VX1_dueBy_12 p1 p2 p3 p4 p5 p6 μ) ?_ (fun hJ => ?_)
    · replace hP := hP.2
      refine r_iinc ((nI (NX1_dueBy_77 p1 p2 p3 p4 p5 p6 μ)) + 1) [(8, _), (7, _), (9, _), (0, _), (1, _), (2, _), (3, _), (4, _), (5, _), (6, _)] dX1_dueBy_184 9 rfl rfl (Nat.le_of_ble_eq_true rfl) rfl ?_
      refine r_goto 77 dX1_dueBy_187 (by decide) ?_
      exact hP.elim
    · replace hP := hP.1
      refine r_icmp_gt 147 dX1_dueBy_101 (by decide) (fun c2 => ?_) (fun c2 => ?_)
      · replace hP := hP.1 c2
        refine r_iinc ((SX1_dueBy_77 p1 p2 p3 p4 p5 p6 μ).1 + (-1)) [(7, _), (9, _), (0, _), (1, _), (2, _), (3, _), (4, _), (5, _), (6, _), (8, _)] dX1_dueBy_147 8 rfl rfl (Nat.le_of_ble_eq_true rfl) rfl ?_
        refine r_aload_n dX1_dueBy_150 2 rfl ?_
        refine r_getR 25 fX1_21 (hG.lt (by decide)) sh21 fs21_3 dX1_dueBy_151 ?_
        refine r_iload dX1_dueBy_154 0 rfl ?_
        refine r_iload dX1_dueBy_156 1 rfl ?_
        refine r_aload_n dX1_dueBy_158 2 rfl ?_
        refine r_getR 25 fX1_21 (hG.lt (by decide)) sh21 fs21_3 dX1_dueBy_159 ?_
        refine r_iload dX1_dueBy_162 0 rfl ?_
        refine r_csI (ok_X9_at hG (hG.lt (by decide)) sh25 ((SX1_dueBy_77 p1 p2 p3 p4 p5 p6 μ).1 + (-1)) (SX1_dueBy_77 p1 p2 p3 p4 p5 p6 μ).2) lX1_114 dX1_dueBy_164 (by decide) (Nat.le_of_ble_eq_true rfl) rfl (Nat.le_of_ble_eq_true rfl) ?_
        refine r_aload_n dX1_dueBy_167 2 rfl ?_
        refine r_getR 25 fX1_21 (hG.lt (by decide)) sh21 fs21_3 dX1_dueBy_168 ?_
        refine r_iload dX1_dueBy_171 0 rfl ?_
        refine r_iconst 1 dX1_dueBy_173 rfl ?_
        refine r_iadd dX1_dueBy_174 ?_
        refine r_csI (ok_X9_at hG (hG.lt (by decide)) sh25 (((SX1_dueBy_77 p1 p2 p3 p4 p5 p6 μ).1 + (-1)) + 1) (SX1_dueBy_77 p1 p2 p3 p4 p5 p6 μ).2) lX1_114 dX1_dueBy_175 (by decide) (Nat.le_of_ble_eq_true rfl) rfl (Nat.le_of_ble_eq_true rfl) ?_
        have hs3 := hP
        refine r_csI (ok_X1_outOf hG (F_X9_at 22 150 (nI (NX1_dueBy_77 p1 p2 p3 p4 p5 p6 μ)) (SX1_dueBy_77 p1 p2 p3 p4 p5 p6 μ).2) (F_X9_at 25 150 ((SX1_dueBy_77 p1 p2 p3 p4 p5 p6 μ).1 + (-1)) (SX1_dueBy_77 p1 p2 p3 p4 p5 p6 μ).2) (F_X9_at 25 150 (((SX1_dueBy_77 p1 p2 p3 p4 p5 p6 μ).1 + (-1)) + 1) (SX1_dueBy_77 p1 p2 p3 p4 p5 p6 μ).2) (SX1_dueBy_77 p1 p2 p3 p4 p5 p6 μ).2 hs3) lX1_118 dX1_dueBy_178 (by decide) (Nat.le_of_ble_eq_true rfl) rfl (Nat.le_of_ble_eq_true rfl) ?_
        refine r_csV (ok_X9_put hG (hG.lt (by decide)) sh25 ((SX1_dueBy_77 p1 p2 p3 p4 p5 p6 μ).1 + (-1)) (F_X1_outOf (F_X9_at 22 150 (nI (NX1_dueBy_77 p1 p2 p3 p4 p5 p6 μ)) (SX1_dueBy_77 p1 p2 p3 p4 p5 p6 μ).2) (F_X9_at 25 150 ((SX1_dueBy_77 p1 p2 p3 p4 p5 p6 μ).1 + (-1)) (SX1_dueBy_77 p1 p2 p3 p4 p5 p6 μ).2) (F_X9_at 25 150 (((SX1_dueBy_77 p1 p2 p3 p4 p5 p6 μ).1 + (-1)) + 1) (SX1_dueBy_77 p1 p2 p3 p4 p5 p6 μ).2) (SX1_dueBy_77 p1 p2 p3 p4 p5 p6 μ).2) (SX1_dueBy_77 p1 p2 p3 p4 p5 p6 μ).2) lX1_39 dX1_dueBy_181 (by decide) (Nat.le_of_ble_eq_true rfl) rfl (Nat.le_of_ble_eq_true rfl) ?_
        refine r_mu (muX1_dueBy_8 p1 p2 p3 p4 p5 p6 μ) rfl ?_
        have e : (VX1_dueBy_11 p1 p2 p3 p4 p5 p6 μ) = ((SX1_dueBy_77 p1 p2 p3 p4 p5 p6 μ).1 + (-1)) := by unfold VX1_dueBy_11; rw [if_pos c2]
        rw [e] at hJ
        clear e
        have e : (VX1_dueBy_12 p1 p2 p3 p4 p5 p6 μ) = (muX1_dueBy_8 p1 p2 p3 p4 p5 p6 μ) := by unfold VX1_dueBy_12; rw [if_pos c2]
        rw [e] at hJ
        exact r_sub [0, 1, 2, 3, 4, 5, 6, 7, 8, 9] rfl hJ
      · replace hP := hP.2 c2
        refine r_iinc ((SX1_dueBy_77 p1 p2 p3 p4 p5 p6 μ).1 + 1) [(7, _), (9, _), (0, _), (1, _), (2, _), (3, _), (4, _), (5, _), (6, _), (8, _)] dX1_dueBy_104 8 rfl rfl (Nat.le_of_ble_eq_true rfl) rfl ?_
        refine r_aload_n dX1_dueBy_107 2 rfl ?_
        refine r_getR 25 fX1_21 (hG.lt (by decide)) sh21 fs21_3 dX1_dueBy_108 ?_
        refine r_iload dX1_dueBy_111 0 rfl ?_
        refine r_iload dX1_dueBy_113 1 rfl ?_
        refine r_bipush 7 dX1_dueBy_115 rfl ?_
        refine r_join 141 [(7, .int ((SX1_dueBy_77 p1 p2 p3 p4 p5 p6 μ).1 + 1)), (9, .int (F_X9_at 22 150 (nI (NX1_dueBy_77 p1 p2 p3 p4 p5 p6 μ)) (SX1_dueBy_77 p1 p2 p3 p4 p5 p6 μ).2)), (0, .ref (ga G 21)), (1, .int p1), (2, .int p2), (3, .int p3), (4, .int p4), (5, .int p5), (6, .int p6), (8, .int (nI (NX1_dueBy_77 p1 p2 p3 p4 p5 p6 μ)))] [.int (VX1_dueBy_9 p1 p2 p3 p4 p5 p6 μ), .int ((SX1_dueBy_77 p1 p2 p3 p4 p5 p6 μ).1 + 1), .ref (ga G 25)] (SX1_dueBy_77 p1 p2 p3 p4 p5 p6 μ).2 ?_ (fun hJ => ?_)
        · refine r_csV (ok_X9_put hG (hG.lt (by decide)) sh25 ((SX1_dueBy_77 p1 p2 p3 p4 p5 p6 μ).1 + 1) (VX1_dueBy_9 p1 p2 p3 p4 p5 p6 μ) (SX1_dueBy_77 p1 p2 p3 p4 p5 p6 μ).2) lX1_39 dX1_dueBy_141 (by decide) (Nat.le_of_ble_eq_true rfl) rfl (Nat.le_of_ble_eq_true rfl) ?_
          refine r_mu (muX1_dueBy_10 p1 p2 p3 p4 p5 p6 μ) rfl ?_
          refine r_goto 184 dX1_dueBy_144 (by decide) ?_
          have e : (VX1_dueBy_11 p1 p2 p3 p4 p5 p6 μ) = ((SX1_dueBy_77 p1 p2 p3 p4 p5 p6 μ).1 + 1) := by unfold VX1_dueBy_11; rw [if_neg (i32_nl c2)]
          rw [e] at hJ
          clear e
          have e : (VX1_dueBy_12 p1 p2 p3 p4 p5 p6 μ) = (muX1_dueBy_10 p1 p2 p3 p4 p5 p6 μ) := by unfold VX1_dueBy_12; rw [if_neg (i32_nl c2)]
          rw [e] at hJ
          exact r_sub [0, 1, 2, 3, 4, 5, 6, 7, 8, 9] rfl hJ
        · refine r_icmp_ne 132 dX1_dueBy_117 (by decide) (fun c3 => ?_) (fun c3 => ?_)
          · refine r_aload_n dX1_dueBy_132 2 rfl ?_
            refine r_getR 24 fX1_18 (hG.lt (by decide)) sh21 fs21_2 dX1_dueBy_133 ?_
            refine r_iload dX1_dueBy_136 1 rfl ?_
            refine r_csI (ok_X9_at hG (hG.lt (by decide)) sh24 (F_X9_at 22 150 (nI (NX1_dueBy_77 p1 p2 p3 p4 p5 p6 μ)) (SX1_dueBy_77 p1 p2 p3 p4 p5 p6 μ).2) (SX1_dueBy_77 p1 p2 p3 p4 p5 p6 μ).2) lX1_114 dX1_dueBy_138 (by decide) (Nat.le_of_ble_eq_true rfl) rfl (Nat.le_of_ble_eq_true rfl) ?_
            have e : (VX1_dueBy_9 p1 p2 p3 p4 p5 p6 μ) = (F_X9_at 24 7 (F_X9_at 22 150 (nI (NX1_dueBy_77 p1 p2 p3 p4 p5 p6 μ)) (SX1_dueBy_77 p1 p2 p3 p4 p5 p6 μ).2) (SX1_dueBy_77 p1 p2 p3 p4 p5 p6 μ).2) := by unfold VX1_dueBy_9; rw [if_pos c3]
            rw [e] at hJ
            exact r_sub [0, 1, 2, 3, 4, 5, 6, 7, 8, 9] rfl hJ
          · refine r_aload_n dX1_dueBy_120 2 rfl ?_
            refine r_getR 23 fX1_15 (hG.lt (by decide)) sh21 fs21_1 dX1_dueBy_121 ?_
            refine r_iload dX1_dueBy_124 9 rfl ?_
            refine r_csI (ok_X9_at hG (hG.lt (by decide)) sh23 (nI (NX1_dueBy_77 p1 p2 p3 p4 p5 p6 μ)) (SX1_dueBy_77 p1 p2 p3 p4 p5 p6 μ).2) lX1_114 dX1_dueBy_126 (by decide) (Nat.le_of_ble_eq_true rfl) rfl (Nat.le_of_ble_eq_true rfl) ?_
            refine r_goto 141 dX1_dueBy_129 (by decide) ?_
            have e : (VX1_dueBy_9 p1 p2 p3 p4 p5 p6 μ) = (F_X9_at 23 150 (nI (NX1_dueBy_77 p1 p2 p3 p4 p5 p6 μ)) (SX1_dueBy_77 p1 p2 p3 p4 p5 p6 μ).2) := by unfold VX1_dueBy_9; rw [if_neg (not_not_intro c3)]
            rw [e] at hJ
            exact r_sub [0, 1, 2, 3, 4, 5, 6, 7, 8, 9] rfl hJ
def muX5_payDues_3_1 (th : Nat) (v3 : Int32) (i : Nat) (s : Mem) : Mem := (M_X1_dueBy (F_X9_at (th + 2) 6 (nI i) s) (F_X9_at (th + 3) 6 (nI i) s) (F_X9_at (th + 4) 6 (nI i) s) ((F_X5_tideToCome th s) - 1) v3 (nI i) s)
def muX5_payDues_3_2 (th : Nat) (v3 : Int32) (i : Nat) (s : Mem) : Mem := (M_X5_set th 62 (nI i) ((F_X5_of th 62 (nI i) (muX5_payDues_3_1 th v3 i s)) + (F_X1_dueBy (F_X9_at (th + 2) 6 (nI i) s) (F_X9_at (th + 3) 6 (nI i) s) (F_X9_at (th + 4) 6 (nI i) s) ((F_X5_tideToCome th s) - 1) v3 (nI i) s)) (muX5_payDues_3_1 th v3 i s))
def VX5_payDues_3_3 (th : Nat) (v3 : Int32) (i : Nat) (s : Mem) : Mem := (if (F_X9_at (th + 2) 6 (nI i) s) ≤ 0 then s else (muX5_payDues_3_2 th v3 i s))
def g_X5_payDues_3 (th : Nat) (v3 : Int32) (i : Nat) (s : Mem) : Mem := (VX5_payDues_3_3 th v3 i s)
def Pb_X5_payDues_3 (th : Nat) (v3 : Int32) (i : Nat) (s : Mem) : Prop := (((s 3 8) ≤ (nI i) → False) ∧ ((nI i) < (s 3 8) → (((F_X9_at (th + 2) 6 (nI i) s) ≤ 0 → True) ∧ (0 < (F_X9_at (th + 2) 6 (nI i) s) → P_X1_dueBy (F_X9_at (th + 2) 6 (nI i) s) (F_X9_at (th + 3) 6 (nI i) s) (F_X9_at (th + 4) 6 (nI i) s) ((F_X5_tideToCome th s) - 1) v3 (nI i) s))))
set_option maxRecDepth 20000 in
set_option maxHeartbeats 2000000 in
theorem lp_X5_payDues_3 {G : SG} (hG : GK 57 G) {th : Nat} (hth : IsSt th) (v3 : Int32) (s0 : Mem) (N : Nat) (sN : Mem) (eN : sN = fo N (g_X5_payDues_3 th v3) s0) (hN : ∀ i, i < N → Pb_X5_payDues_3 th v3 i (fo i (g_X5_payDues_3 th v3) s0)) {t : Nat} {Q : PQ} {X : PX} (h : R G mX5_payDues 3 [(0, .ref (ga G th)), (1, .ref (ga G 3)), (2, .ref (ga G 21)), (3, .int v3), (4, .int (nI N))] [] sN t Q X) : R G mX5_payDues 3 [(0, .ref (ga G th)), (1, .ref (ga G 3)), (2, .ref (ga G 21)), (3, .int v3), (4, .int 0)] [] s0 t Q X := by
  subst eN
  refine down_i N (fun i => R G mX5_payDues 3 [(0, .ref (ga G th)), (1, .ref (ga G 3)), (2, .ref (ga G 21)), (3, .int v3), (4, .int (nI i))] [] (fo i (g_X5_payDues_3 th v3) s0) t Q X) h (fun i hi hS => ?_)
  have hP := hN i hi
  rw [fo_succ] at hS
  rw [nI_succ] at hS
  generalize fo i (g_X5_payDues_3 th v3) s0 = s at hS hP ⊢
  unfold Pb_X5_payDues_3 at hP
  refine r_iload dX5_payDues_3 4 rfl ?_
  refine r_aload_n dX5_payDues_5 1 rfl ?_
  refine r_getI fX5_28 (hG.lt (by decide)) sh3 fs3_8 dX5_payDues_6 ?_
  refine r_icmp_ge 92 dX5_payDues_9 (by decide) (fun c1 => ?_) (fun c1 => ?_)
  · replace hP := hP.1 c1
    exact hP.elim
  · replace hP := hP.2 c1
    refine r_aload_n dX5_payDues_12 0 rfl ?_
    refine r_getR (th + 2) fX5_15 (hth.lt hG) hth.sh (hth.f1) dX5_payDues_13 ?_
    refine r_iload dX5_payDues_16 4 rfl ?_
    refine r_csI (ok_X9_at hG (hth.lt1 hG) hth.s1 (nI i) s) lX5_37 dX5_payDues_18 (by decide) (Nat.le_of_ble_eq_true rfl) rfl (Nat.le_of_ble_eq_true rfl) ?_
    refine r_istore [(5, _), (0, _), (1, _), (2, _), (3, _), (4, _)] dX5_payDues_21 (Nat.le_of_ble_eq_true rfl) rfl ?_
    refine r_iload dX5_payDues_23 0 rfl ?_
    refine r_join 86 [(5, .int (F_X9_at (th + 2) 6 (nI i) s)), (0, .ref (ga G th)), (1, .ref (ga G 3)), (2, .ref (ga G 21)), (3, .int v3), (4, .int (nI i))] [] (VX5_payDues_3_3 th v3 i s) ?_ (fun hJ => ?_)
    · refine r_iinc ((nI i) + 1) [(4, _), (5, _), (0, _), (1, _), (2, _), (3, _)] dX5_payDues_86 5 rfl rfl (Nat.le_of_ble_eq_true rfl) rfl ?_
      refine r_goto 3 dX5_payDues_89 (by decide) ?_
      have e : g_X5_payDues_3 th v3 i s = (VX5_payDues_3_3 th v3 i s) := by unfold g_X5_payDues_3; rfl
      rw [e] at hS
      exact r_sub [2, 3, 4, 5, 0] rfl hS
    · refine r_if_le 86 dX5_payDues_25 (by decide) (fun c2 => ?_) (fun c2 => ?_)
      · replace hP := hP.1 c2
        have e : (VX5_payDues_3_3 th v3 i s) = s := by unfold VX5_payDues_3_3; rw [if_pos c2]
        rw [e] at hJ
        exact r_sub [0, 1, 2, 3, 4, 5] rfl hJ
      · replace hP := hP.2 c2
        refine r_aload_n dX5_payDues_28 1 rfl ?_
        refine r_getR (th + 3) fX5_18 (hth.lt hG) hth.sh (hth.f2) dX5_payDues_29 ?_
        refine r_iload dX5_payDues_32 5 rfl ?_
        refine r_csI (ok_X9_at hG (hth.lt2 hG) hth.s2 (nI i) s) lX5_37 dX5_payDues_34 (by decide) (Nat.le_of_ble_eq_true rfl) rfl (Nat.le_of_ble_eq_true rfl) ?_
        refine r_istore [(6, _), (5, _), (0, _), (1, _), (2, _), (3, _), (4, _)] dX5_payDues_37 (Nat.le_of_ble_eq_true rfl) rfl ?_
        refine r_aload_n dX5_payDues_39 4 rfl ?_
        refine r_iload dX5_payDues_40 1 rfl ?_
        refine r_iload dX5_payDues_42 0 rfl ?_
        refine r_aload_n dX5_payDues_44 2 rfl ?_
        refine r_getR (th + 4) fX5_21 (hth.lt hG) hth.sh (hth.f3) dX5_payDues_45 ?_
        refine r_iload dX5_payDues_48 6 rfl ?_
        refine r_csI (ok_X9_at hG (hth.lt3 hG) hth.s3 (nI i) s) lX5_37 dX5_payDues_50 (by decide) (Nat.le_of_ble_eq_true rfl) rfl (Nat.le_of_ble_eq_true rfl) ?_
        refine r_aload_n dX5_payDues_53 2 rfl ?_
        refine r_cvI (ok_X5_tideToCome hG hth s) lX5_77 (hth.lt hG) hth.sh ⟨_, _, rfl⟩ dX5_payDues_54 (by decide) (Nat.le_of_ble_eq_true rfl) rfl (Nat.le_of_ble_eq_true rfl) ?_
        refine r_iconst 1 dX5_payDues_57 rfl ?_
        refine r_isub dX5_payDues_58 ?_
        refine r_iload_n dX5_payDues_59 5 rfl ?_
        refine r_iload dX5_payDues_60 6 rfl ?_
        have hs1 := hP
        refine r_cvI (ok_X1_dueBy hG (F_X9_at (th + 2) 6 (nI i) s) (F_X9_at (th + 3) 6 (nI i) s) (F_X9_at (th + 4) 6 (nI i) s) ((F_X5_tideToCome th s) - 1) v3 (nI i) s hs1) lX5_109 (hG.lt (by decide)) sh21 ⟨_, _, rfl⟩ dX5_payDues_62 (by decide) (Nat.le_of_ble_eq_true rfl) rfl (Nat.le_of_ble_eq_true rfl) ?_
        refine r_mu (muX5_payDues_3_1 th v3 i s) rfl ?_
        refine r_istore [(7, _), (6, _), (5, _), (0, _), (1, _), (2, _), (3, _), (4, _)] dX5_payDues_65 (Nat.le_of_ble_eq_true rfl) rfl ?_
        refine r_aload_n dX5_payDues_67 3 rfl ?_
        refine r_bipush 62 dX5_payDues_68 rfl ?_
        refine r_iload dX5_payDues_70 7 rfl ?_
        refine r_aload_n dX5_payDues_72 3 rfl ?_
        refine r_bipush 62 dX5_payDues_73 rfl ?_
        refine r_iload dX5_payDues_75 7 rfl ?_
        refine r_cvI (ok_X5_of hG hth 62 (nI i) (muX5_payDues_3_1 th v3 i s)) lX5_54 (hth.lt hG) hth.sh ⟨_, _, rfl⟩ dX5_payDues_77 (by decide) (Nat.le_of_ble_eq_true rfl) rfl (Nat.le_of_ble_eq_true rfl) ?_
        refine r_iload dX5_payDues_80 0 rfl ?_
        refine r_iadd dX5_payDues_82 ?_
        refine r_cvV (ok_X5_set hG hth 62 (nI i) ((F_X5_of th 62 (nI i) (muX5_payDues_3_1 th v3 i s)) + (F_X1_dueBy (F_X9_at (th + 2) 6 (nI i) s) (F_X9_at (th + 3) 6 (nI i) s) (F_X9_at (th + 4) 6 (nI i) s) ((F_X5_tideToCome th s) - 1) v3 (nI i) s)) (muX5_payDues_3_1 th v3 i s)) lX5_41 (hth.lt hG) hth.sh ⟨_, _, rfl⟩ dX5_payDues_83 (by decide) (Nat.le_of_ble_eq_true rfl) rfl (Nat.le_of_ble_eq_true rfl) ?_
        refine r_mu (muX5_payDues_3_2 th v3 i s) rfl ?_
        have e : (VX5_payDues_3_3 th v3 i s) = (muX5_payDues_3_2 th v3 i s) := by unfold VX5_payDues_3_3; rw [if_neg (i32_ng c2)]
        rw [e] at hJ
        exact r_sub [2, 3, 4, 5, 6, 7] rfl hJ
def NX5_payDues_3 (th : Nat) (p3 : Int32) (μ : Mem) : Nat := ix (μ 3 8)
def SX5_payDues_3 (th : Nat) (p3 : Int32) (μ : Mem) : Mem := fo (NX5_payDues_3 th p3 μ) (g_X5_payDues_3 th p3) μ
def muX5_payDues_1 (th : Nat) (p3 : Int32) (μ : Mem) : Mem := (M_X1_dueBy (F_X9_at (th + 2) 6 (nI (NX5_payDues_3 th p3 μ)) (SX5_payDues_3 th p3 μ)) (F_X9_at (th + 3) 6 (nI (NX5_payDues_3 th p3 μ)) (SX5_payDues_3 th p3 μ)) (F_X9_at (th + 4) 6 (nI (NX5_payDues_3 th p3 μ)) (SX5_payDues_3 th p3 μ)) ((F_X5_tideToCome th (SX5_payDues_3 th p3 μ)) - 1) p3 (nI (NX5_payDues_3 th p3 μ)) (SX5_payDues_3 th p3 μ))
def muX5_payDues_2 (th : Nat) (p3 : Int32) (μ : Mem) : Mem := (M_X5_set th 62 (nI (NX5_payDues_3 th p3 μ)) ((F_X5_of th 62 (nI (NX5_payDues_3 th p3 μ)) (muX5_payDues_1 th p3 μ)) + (F_X1_dueBy (F_X9_at (th + 2) 6 (nI (NX5_payDues_3 th p3 μ)) (SX5_payDues_3 th p3 μ)) (F_X9_at (th + 3) 6 (nI (NX5_payDues_3 th p3 μ)) (SX5_payDues_3 th p3 μ)) (F_X9_at (th + 4) 6 (nI (NX5_payDues_3 th p3 μ)) (SX5_payDues_3 th p3 μ)) ((F_X5_tideToCome th (SX5_payDues_3 th p3 μ)) - 1) p3 (nI (NX5_payDues_3 th p3 μ)) (SX5_payDues_3 th p3 μ))) (muX5_payDues_1 th p3 μ))
def VX5_payDues_3 (th : Nat) (p3 : Int32) (μ : Mem) : Mem := (if (F_X9_at (th + 2) 6 (nI (NX5_payDues_3 th p3 μ)) (SX5_payDues_3 th p3 μ)) ≤ 0 then (SX5_payDues_3 th p3 μ) else (muX5_payDues_2 th p3 μ))
def M_X5_payDues (th : Nat) (p3 : Int32) (μ : Mem) : Mem := (SX5_payDues_3 th p3 μ)
def P_X5_payDues (th : Nat) (p3 : Int32) (μ : Mem) : Prop := ((∀ j9, j9 < (NX5_payDues_3 th p3 μ) → Pb_X5_payDues_3 th p3 j9 (fo j9 (g_X5_payDues_3 th p3) μ)) ∧ ((((SX5_payDues_3 th p3 μ) 3 8) ≤ (nI (NX5_payDues_3 th p3 μ)) → True) ∧ ((nI (NX5_payDues_3 th p3 μ)) < ((SX5_payDues_3 th p3 μ) 3 8) → ((((F_X9_at (th + 2) 6 (nI (NX5_payDues_3 th p3 μ)) (SX5_payDues_3 th p3 μ)) ≤ 0 → True) ∧ (0 < (F_X9_at (th + 2) 6 (nI (NX5_payDues_3 th p3 μ)) (SX5_payDues_3 th p3 μ)) → (P_X1_dueBy (F_X9_at (th + 2) 6 (nI (NX5_payDues_3 th p3 μ)) (SX5_payDues_3 th p3 μ)) (F_X9_at (th + 3) 6 (nI (NX5_payDues_3 th p3 μ)) (SX5_payDues_3 th p3 μ)) (F_X9_at (th + 4) 6 (nI (NX5_payDues_3 th p3 μ)) (SX5_payDues_3 th p3 μ)) ((F_X5_tideToCome th (SX5_payDues_3 th p3 μ)) - 1) p3 (nI (NX5_payDues_3 th p3 μ)) (SX5_payDues_3 th p3 μ)))) ∧ False))))
set_option maxRecDepth 20000 in
set_option maxHeartbeats 2000000 in
theorem ok_X5_payDues {G : SG} (hG : GK 57 G) {th : Nat} (hth : IsSt th) (p3 : Int32) (μ : Mem) (hP : P_X5_payDues th p3 μ) : OkF G mX5_payDues [.ref (ga G th), .ref (ga G 3), .ref (ga G 21), .int p3] μ none (M_X5_payDues th p3 μ) := by
  refine okF_of hG rfl rfl (Nat.le_of_ble_eq_true rfl) ?_
  unfold P_X5_payDues at hP
  refine r_iconst 0 dX5_payDues_0 rfl ?_
  refine r_istore [(4, _), (0, _), (1, _), (2, _), (3, _)] dX5_payDues_1 (Nat.le_of_ble_eq_true rfl) rfl ?_
  have hs1 := hP.1
  replace hP := hP.2
  refine r_sub [1, 2, 3, 4, 0] rfl ?_
  refine lp_X5_payDues_3 hG hth p3 μ ((NX5_payDues_3 th p3 μ)) (SX5_payDues_3 th p3 μ) rfl hs1 ?_
  refine r_iload dX5_payDues_3 4 rfl ?_
  refine r_aload_n dX5_payDues_5 1 rfl ?_
  refine r_getI fX5_28 (hG.lt (by decide)) sh3 fs3_8 dX5_payDues_6 ?_
  refine r_icmp_ge 92 dX5_payDues_9 (by decide) (fun c1 => ?_) (fun c1 => ?_)
  · replace hP := hP.1 c1
    exact r_return dX5_payDues_92 rfl ⟨rfl, rfl⟩
  · replace hP := hP.2 c1
    refine r_aload_n dX5_payDues_12 0 rfl ?_
    refine r_getR (th + 2) fX5_15 (hth.lt hG) hth.sh (hth.f1) dX5_payDues_13 ?_
    refine r_iload dX5_payDues_16 4 rfl ?_
    refine r_csI (ok_X9_at hG (hth.lt1 hG) hth.s1 (nI (NX5_payDues_3 th p3 μ)) (SX5_payDues_3 th p3 μ)) lX5_37 dX5_payDues_18 (by decide) (Nat.le_of_ble_eq_true rfl) rfl (Nat.le_of_ble_eq_true rfl) ?_
    refine r_istore [(5, _), (0, _), (1, _), (2, _), (3, _), (4, _)] dX5_payDues_21 (Nat.le_of_ble_eq_true rfl) rfl ?_
    refine r_iload dX5_payDues_23 0 rfl ?_
    refine r_join 86 [(5, .int (F_X9_at (th + 2) 6 (nI (NX5_payDues_3 th p3 μ)) (SX5_payDues_3 th p3 μ))), (0, .ref (ga G th)), (1, .ref (ga G 3)), (2, .ref (ga G 21)), (3, .int p3), (4, .int (nI (NX5_payDues_3 th p3 μ)))] [] (VX5_payDues_3 th p3 μ) ?_ (fun hJ => ?_)
    · replace hP := hP.2
      refine r_iinc ((nI (NX5_payDues_3 th p3 μ)) + 1) [(4, _), (5, _), (0, _), (1, _), (2, _), (3, _)] dX5_payDues_86 5 rfl rfl (Nat.le_of_ble_eq_true rfl) rfl ?_
      refine r_goto 3 dX5_payDues_89 (by decide) ?_
      exact hP.elim
    · replace hP := hP.1
      refine r_if_le 86 dX5_payDues_25 (by decide) (fun c2 => ?_) (fun c2 => ?_)
      · replace hP := hP.1 c2
        have e : (VX5_payDues_3 th p3 μ) = (SX5_payDues_3 th p3 μ) := by unfold VX5_payDues_3; rw [if_pos c2]
        rw [e] at hJ
        exact r_sub [0, 1, 2, 3, 4, 5] rfl hJ
      · replace hP := hP.2 c2
        refine r_aload_n dX5_payDues_28 1 rfl ?_
        refine r_getR (th + 3) fX5_18 (hth.lt hG) hth.sh (hth.f2) dX5_payDues_29 ?_
        refine r_iload dX5_payDues_32 5 rfl ?_
        refine r_csI (ok_X9_at hG (hth.lt2 hG) hth.s2 (nI (NX5_payDues_3 th p3 μ)) (SX5_payDues_3 th p3 μ)) lX5_37 dX5_payDues_34 (by decide) (Nat.le_of_ble_eq_true rfl) rfl (Nat.le_of_ble_eq_true rfl) ?_
        refine r_istore [(6, _), (5, _), (0, _), (1, _), (2, _), (3, _), (4, _)] dX5_payDues_37 (Nat.le_of_ble_eq_true rfl) rfl ?_
        refine r_aload_n dX5_payDues_39 4 rfl ?_
        refine r_iload dX5_payDues_40 1 rfl ?_
        refine r_iload dX5_payDues_42 0 rfl ?_
        refine r_aload_n dX5_payDues_44 2 rfl ?_
        refine r_getR (th + 4) fX5_21 (hth.lt hG) hth.sh (hth.f3) dX5_payDues_45 ?_
        refine r_iload dX5_payDues_48 6 rfl ?_
        refine r_csI (ok_X9_at hG (hth.lt3 hG) hth.s3 (nI (NX5_payDues_3 th p3 μ)) (SX5_payDues_3 th p3 μ)) lX5_37 dX5_payDues_50 (by decide) (Nat.le_of_ble_eq_true rfl) rfl (Nat.le_of_ble_eq_true rfl) ?_
        refine r_aload_n dX5_payDues_53 2 rfl ?_
        refine r_cvI (ok_X5_tideToCome hG hth (SX5_payDues_3 th p3 μ)) lX5_77 (hth.lt hG) hth.sh ⟨_, _, rfl⟩ dX5_payDues_54 (by decide) (Nat.le_of_ble_eq_true rfl) rfl (Nat.le_of_ble_eq_true rfl) ?_
        refine r_iconst 1 dX5_payDues_57 rfl ?_
        refine r_isub dX5_payDues_58 ?_
        refine r_iload_n dX5_payDues_59 5 rfl ?_
        refine r_iload dX5_payDues_60 6 rfl ?_
        have hs2 := hP
        refine r_cvI (ok_X1_dueBy hG (F_X9_at (th + 2) 6 (nI (NX5_payDues_3 th p3 μ)) (SX5_payDues_3 th p3 μ)) (F_X9_at (th + 3) 6 (nI (NX5_payDues_3 th p3 μ)) (SX5_payDues_3 th p3 μ)) (F_X9_at (th + 4) 6 (nI (NX5_payDues_3 th p3 μ)) (SX5_payDues_3 th p3 μ)) ((F_X5_tideToCome th (SX5_payDues_3 th p3 μ)) - 1) p3 (nI (NX5_payDues_3 th p3 μ)) (SX5_payDues_3 th p3 μ) hs2) lX5_109 (hG.lt (by decide)) sh21 ⟨_, _, rfl⟩ dX5_payDues_62 (by decide) (Nat.le_of_ble_eq_true rfl) rfl (Nat.le_of_ble_eq_true rfl) ?_
        refine r_mu (muX5_payDues_1 th p3 μ) rfl ?_
        refine r_istore [(7, _), (6, _), (5, _), (0, _), (1, _), (2, _), (3, _), (4, _)] dX5_payDues_65 (Nat.le_of_ble_eq_true rfl) rfl ?_
        refine r_aload_n dX5_payDues_67 3 rfl ?_
        refine r_bipush 62 dX5_payDues_68 rfl ?_
        refine r_iload dX5_payDues_70 7 rfl ?_
        refine r_aload_n dX5_payDues_72 3 rfl ?_
        refine r_bipush 62 dX5_payDues_73 rfl ?_
        refine r_iload dX5_payDues_75 7 rfl ?_
        refine r_cvI (ok_X5_of hG hth 62 (nI (NX5_payDues_3 th p3 μ)) (muX5_payDues_1 th p3 μ)) lX5_54 (hth.lt hG) hth.sh ⟨_, _, rfl⟩ dX5_payDues_77 (by decide) (Nat.le_of_ble_eq_true rfl) rfl (Nat.le_of_ble_eq_true rfl) ?_
        refine r_iload dX5_payDues_80 0 rfl ?_
        refine r_iadd dX5_payDues_82 ?_
        refine r_cvV (ok_X5_set hG hth 62 (nI (NX5_payDues_3 th p3 μ)) ((F_X5_of th 62 (nI (NX5_payDues_3 th p3 μ)) (muX5_payDues_1 th p3 μ)) + (F_X1_dueBy (F_X9_at (th + 2) 6 (nI (NX5_payDues_3 th p3 μ)) (SX5_payDues_3 th p3 μ)) (F_X9_at (th + 3) 6 (nI (NX5_payDues_3 th p3 μ)) (SX5_payDues_3 th p3 μ)) (F_X9_at (th + 4) 6 (nI (NX5_payDues_3 th p3 μ)) (SX5_payDues_3 th p3 μ)) ((F_X5_tideToCome th (SX5_payDues_3 th p3 μ)) - 1) p3 (nI (NX5_payDues_3 th p3 μ)) (SX5_payDues_3 th p3 μ))) (muX5_payDues_1 th p3 μ)) lX5_41 (hth.lt hG) hth.sh ⟨_, _, rfl⟩ dX5_payDues_83 (by decide) (Nat.le_of_ble_eq_true rfl) rfl (Nat.le_of_ble_eq_true rfl) ?_
        refine r_mu (muX5_payDues_2 th p3 μ) rfl ?_
        have e : (VX5_payDues_3 th p3 μ) = (muX5_payDues_2 th p3 μ) := by unfold VX5_payDues_3; rw [if_neg (i32_ng c2)]
        rw [e] at hJ
        exact r_sub [2, 3, 4, 5, 6, 7] rfl hJ
