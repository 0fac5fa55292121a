/-! methods that throw -/
/-- T needs at most; K = 0: returns v; 1: NoSuchElementException, 2: IllegalArgumentException; the ints are μ' in each case -/
def OkK (G : SG) (mt : MT) (T : Nat) (args : List Value) (μ : Mem) (K : Nat) (v : Option Value) (μ' : Mem) : Prop := Ok G mt T args μ (fun w ν => K = 0 ∧ w = v ∧ ν = μ') (fun E ν => ((K = 1 ∧ E = R_NSE) ∨ (K = 2 ∧ E = R_IAE)) ∧ ν = μ')
theorem okK_of {G : SG} {mt : MT} {T : Nat} {args : List Value} {μ μ' : Mem} {K : Nat} {v : Option Value} {n : Nat} (g : GK n G) (hH : mH mt = []) (hy : plainName (mN mt).cls = true) (hL : (lg_sl args).length ≤ mL mt) (h : R G mt 0 (lv_args 0 args) [] μ T (fun w ν => K = 0 ∧ w = v ∧ ν = μ') (fun E ν => ((K = 1 ∧ E = R_NSE) ∨ (K = 2 ∧ E = R_IAE)) ∧ ν = μ')) : OkK G mt T args μ K v μ' := ok_of g.2 hH hy hL h
theorem kthrow {Kc K : Nat} {μc μ' : Mem} (hk : K = Kc) (hm : μ' = μc) : ∀ (E : String) (ν : Mem), ((Kc = 1 ∧ E = R_NSE) ∨ (Kc = 2 ∧ E = R_IAE)) ∧ ν = μc → ((K = 1 ∧ E = R_NSE) ∨ (K = 2 ∧ E = R_IAE)) ∧ ν = μ' := by
  intro E ν h
  rw [hk, hm]
  exact h
theorem r_cvK {G : SG} {mt mk : MT} {pc : Nat} {lv : List (Nat × Value)} {stk : List Value} {μ μ' : Mem} {t T : Nat} {Q : PQ} {X : PX} {K idx th ck : Nat} {As rest : List Value} (μ2 : Mem) (hk : OkK G mk T (.ref (ga G th) :: As) μ K none μ') (hln : LNV (mN mt).cls idx mk As.length) (hth : th < gh G) (hs : shp th = (0, ck, 0)) (hcl : ∃ T N, CLX[ck]? = some ((mN mk).cls, T, N)) (hd : decode (mB mt) pc = .ok (.invokevirtual idx, 3)) (hdep : mD mk + 1 ≤ mD mt) (hml : mL mk ≤ 21) (hstk : stk = As.reverse ++ .ref (ga G th) :: rest) (hcat : (rest.map fun v => v.category).sum ≤ 8) (hm2 : μ2 = μ')
    (hX : ¬ K = 0 → ∀ (E : String) (ν : Mem), ((K = 1 ∧ E = R_NSE) ∨ (K = 2 ∧ E = R_IAE)) ∧ ν = μ2 → X E ν) (kk : K = 0 → R G mt (pc + 3) lv rest μ2 t Q X) (hH : mH mt = [] := by rfl) : R G mt pc lv stk μ (T + t) Q X := by
  subst hm2
  refine r_callV hk hln hth hs hcl hd hdep hml hstk hcat (Nat.le_add_right T t) (fun E ν h => Or.inl ⟨fun z hz => (by rw [hH] at hz; cases hz), hX (fun q => (by rcases h.1 with h | h <;> omega)) E ν h⟩) (fun w ν h => ?_)
  rw [h.2.1, h.2.2, Nat.add_sub_cancel_left]
  exact kk h.1
def M_needR (k : Nat) (μ : Mem) : Mem := upm μ 0 k ((μ 0 k) + 1)
def K_X9_needRange (p1 p2 p3 : Int32) (μ : Mem) : Nat := if p1 < p2 then 2 else if p1 ≤ p3 then 0 else 2
def M_X9_needRange (p1 p2 p3 : Int32) (μ : Mem) : Mem := if p1 < p2 then M_needR 13 μ else if p1 ≤ p3 then μ else M_needR 13 μ
def K_X9_needElement (p1 p2 : Int32) (μ : Mem) : Nat := if p1 < 0 then 1 else if p1 < p2 then 0 else 1
def M_X9_needElement (p1 p2 : Int32) (μ : Mem) : Mem := if p1 < 0 then M_needR 12 μ else if p1 < p2 then μ else M_needR 12 μ
theorem th_needRange {G : SG} (hG : GK 57 G) (p1 p2 p3 : Int32) (μ : Mem) {Q : PQ} {X : PX} (hX : X R_IAE (M_needR 13 μ)) : R G mX9_needRange 10 [(0, .ref (ga G 0)), (1, .int p1), (2, .int p2), (3, .int p3)] [] μ 1 Q X := by
  refine r_aload_n dX9_needRange_10 0 rfl ?_
  refine r_dup dX9_needRange_11 rfl ?_
  refine r_getI fX9_343 (hG.lt (by decide)) sh0 fs0_13 dX9_needRange_12 ?_
  refine r_iconst 1 dX9_needRange_15 rfl ?_
  refine r_iadd dX9_needRange_16 ?_
  refine r_put fiX9_343 (hG.lt (by decide)) sh0 fs0_13 dX9_needRange_17 ?_
  refine r_mu (M_needR 13 μ) rfl ?_
  exact r_throwSW (k := 0) (text := "a number is out of its range") (names := ["java/lang/RuntimeException", "java/lang/Exception"]) 10 rfl rfl (by decide) (by decide) rfl (bc2 196 (by decide +kernel) (by decide +kernel)) (bc1 15 (by decide +kernel) (by decide +kernel)) (by decide) hat_RX9_367 dX9_needRange_20 dX9_needRange_23 dX9_needRange_24 dX9_needRange_27 dX9_needRange_30 hX
theorem ok_X9_needRange {G : SG} (hG : GK 57 G) (p1 p2 p3 : Int32) (μ : Mem) : OkK G mX9_needRange 1 [.ref (ga G 0), .int p1, .int p2, .int p3] μ (K_X9_needRange p1 p2 p3 μ) none (M_X9_needRange p1 p2 p3 μ) := by
  refine okK_of hG rfl (by decide) (Nat.le_of_ble_eq_true rfl) ?_
  refine r_iload_n dX9_needRange_0 1 rfl ?_
  refine r_iload_n dX9_needRange_1 2 rfl ?_
  refine r_icmp_lt 10 dX9_needRange_2 (by decide) (fun c1 => ?_) (fun c1 => ?_)
  · refine th_needRange hG p1 p2 p3 μ ⟨Or.inr ⟨?_, rfl⟩, ?_⟩
    · unfold K_X9_needRange; rw [if_pos c1]
    · unfold M_X9_needRange; rw [if_pos c1]
  · refine r_iload_n dX9_needRange_5 1 rfl ?_
    refine r_iload_n dX9_needRange_6 3 rfl ?_
    refine r_icmp_le 31 dX9_needRange_7 (by decide) (fun c2 => ?_) (fun c2 => ?_)
    · refine r_return dX9_needRange_31 rfl ⟨?_, rfl, ?_⟩
      · unfold K_X9_needRange; rw [if_neg (i32_nl c1), if_pos c2]
      · unfold M_X9_needRange; rw [if_neg (i32_nl c1), if_pos c2]
    · refine th_needRange hG p1 p2 p3 μ ⟨Or.inr ⟨?_, rfl⟩, ?_⟩
      · unfold K_X9_needRange; rw [if_neg (i32_nl c1), if_neg (i32_ng c2)]
      · unfold M_X9_needRange; rw [if_neg (i32_nl c1), if_neg (i32_ng c2)]
theorem r_throwN {G : SG} {mt : MT} {pc : Nat} {lv : List (Nat × Value)} {μ : Mem} {t : Nat} {Q : PQ} {X : PX} {ik is k : Nat} {text : String} (hmt : (mN mt).cls = RX9) (hH : mH mt = []) (hk : Cond.classLink RX9 ik R_NSE ∈ BIG) (hini : Cond.initialized R_NSE ∈ BIG) (hstr : (RX9, is, text, k) ∈ strL)
    (d0 : decode (mB mt) pc = .ok (.new ik, 3)) (d3 : decode (mB mt) (pc + 3) = .ok (.dup, 1)) (d4 : decode (mB mt) (pc + 4) = .ok (.ldc_w is, 3)) (d7 : decode (mB mt) (pc + 7) = .ok (.invokespecial 360, 3)) (d10 : decode (mB mt) (pc + 10) = .ok (.athrow, 1)) (hX : X R_NSE μ) : R G mt pc lv [] μ (t + 1) Q X := by
  intro p e Rm s m args below meth cd Ct St QQ H locs cells slots ls C E EX hW hS hc hs hl
  have nb : ∀ w : Cond, (w ∈ BIG ∨ w ∈ NSTW) → w.before args s = true := fun w h => h.elim (C.big _) fun h => va_Nw.use (nst_ot h) (C.env.nest _ h)
  have ng : ∀ w : Cond, (w ∈ BIG ∨ w ∈ NSTW) → vx_ot w = true := fun w h => by
    unfold vx_ot
    rcases h with h | h
    · rw [(List.mem_filter.mp h).2, Bool.or_true]
    · rw [nst_ot h, Bool.true_or]
  have hgood : ∀ w ∈ Cond.classLink RX9 ik R_NSE :: Cond.initialized R_NSE :: vx_atS RX9 360 R_NSE ["java/lang/RuntimeException", "java/lang/Exception"], w ∉ bad7 → vx_ot w = true := fun w hw hn => by
    refine ng w ?_
    rcases List.mem_cons.mp hw with rfl | hw
    · exact Or.inl hk
    · rcases List.mem_cons.mp hw with rfl | hw
      · exact Or.inl hini
      · exact nse_at w hw hn
  have c1 := C.2.2.2.2.2.2.2.1
  have c2 := C.2.2.2.2.2.2.2.2.1
  have c3 := C.2.2.2.2.2.2.2.2.2.1
  have c4 := C.2.2.2.2.2.2.2.2.2.2.1
  have c5 := C.2.2.2.2.2.2.2.2.2.2.2.1
  have hown := C.own
  have hstr' : ((mN mt).cls, is, text, k) ∈ strL := by rw [hmt]; exact hstr
  have hs9 := C.env.1 _ hstr'
  dsimp only at hs9
  rw [hmt] at hown hs9
  have hci : CLX[11]? = some (R_NSE, T_non, 0) := rfl
  refine sn_makeS (D := gD G) (cl := CLX) (ci := 11) (T0 := T_non) C.1 C.2.1 c5 hown (by decide) (by decide) (by decide) (by decide) nse_T nse_S nse_C (fun a ha => nb a (nse_13 a ha)) (fun a ha => ng a (nse_13 a ha)) (C.big _ hk) (C.big _ hini) hs9 (fun w hw hn => nb w (nse_at w hw hn)) hgood C.env.2.2.1 C.env.2.2.2.1 hS (hl.1.trans C.2.2.1.symm) d0 d3 d4 d7 C.k hW.1 hW.2 (fun q hq => Nat.le_trans C.env.low hq) hci (by simp only [List.length_cons, List.length_nil]; omega) (by simp only [List.length_cons, List.length_nil, List.map_nil, List.sum_nil]; omega) (by omega) (by omega) ?_
  intro q H1 hP1 hD1 hS1
  refine vx_athrow C.1 C.2.1 d10 ?_
  have hlen : (wl G μ ++ [(q, (Sum.inr (11, []) : va_E))])[(wl G μ).length]? = some (q, .inr (11, [])) := by rw [List.getElem?_append_right (Nat.le_refl _), Nat.sub_self]; rfl
  obtain ⟨q', h1, cell, g1, g2, g3, -⟩ := hP1 _ _ hlen
  have hW1 : WH G μ H1 := by
    refine ⟨fun k q9 hq => hP1 k q9 ?_, hW.2⟩
    rw [List.getElem?_append_left (List.getElem?_eq_some_iff.mp hq).1]
    exact hq
  refine EX R_NSE cell q μ H1 locs (cells + 1) (slots + 6) (pc + 10) ls [] hW1 hS1 (by omega) (by omega) hX g1 g3 ?_ (fun z hz => by rw [hH] at hz; cases hz)
  rw [g2]
  exact (C.k.1 11 _ hci).2.1
theorem th_needElement {G : SG} (hG : GK 57 G) (p1 p2 : Int32) (μ : Mem) {Q : PQ} {X : PX} (hX : X R_NSE (M_needR 12 μ)) : R G mX9_needElement 9 [(0, .ref (ga G 0)), (1, .int p1), (2, .int p2)] [] μ 1 Q X := by
  refine r_aload_n dX9_needElement_9 0 rfl ?_
  refine r_dup dX9_needElement_10 rfl ?_
  refine r_getI fX9_340 (hG.lt (by decide)) sh0 fs0_12 dX9_needElement_11 ?_
  refine r_iconst 1 dX9_needElement_14 rfl ?_
  refine r_iadd dX9_needElement_15 ?_
  refine r_put fiX9_340 (hG.lt (by decide)) sh0 fs0_12 dX9_needElement_16 ?_
  refine r_mu (M_needR 12 μ) rfl ?_
  exact r_throwN (k := 19) (text := "there is no such one") rfl rfl (bc4 189 (by decide +kernel) (by decide +kernel)) (bc1 21 (by decide +kernel) (by decide +kernel)) (by decide) dX9_needElement_19 dX9_needElement_22 dX9_needElement_23 dX9_needElement_26 dX9_needElement_29 hX
theorem ok_X9_needElement {G : SG} (hG : GK 57 G) (p1 p2 : Int32) (μ : Mem) : OkK G mX9_needElement 1 [.ref (ga G 0), .int p1, .int p2] μ (K_X9_needElement p1 p2 μ) none (M_X9_needElement p1 p2 μ) := by
  refine okK_of hG rfl (by decide) (Nat.le_of_ble_eq_true rfl) ?_
  refine r_iload_n dX9_needElement_0 1 rfl ?_
  refine r_if_lt 9 dX9_needElement_1 (by decide) (fun c1 => ?_) (fun c1 => ?_)
  · refine th_needElement hG p1 p2 μ ⟨Or.inl ⟨?_, rfl⟩, ?_⟩
    · unfold K_X9_needElement; rw [if_pos c1]
    · unfold M_X9_needElement; rw [if_pos c1]
  · refine r_iload_n dX9_needElement_4 1 rfl ?_
    refine r_iload_n dX9_needElement_5 2 rfl ?_
    refine r_icmp_lt 30 dX9_needElement_6 (by decide) (fun c2 => ?_) (fun c2 => ?_)
    · refine r_return dX9_needElement_30 rfl ⟨?_, rfl, ?_⟩
      · unfold K_X9_needElement; rw [if_neg (i32_nl c1), if_pos c2]
      · unfold M_X9_needElement; rw [if_neg (i32_nl c1), if_pos c2]
    · refine th_needElement hG p1 p2 μ ⟨Or.inl ⟨?_, rfl⟩, ?_⟩
      · unfold K_X9_needElement; rw [if_neg (i32_nl c1), if_neg (i32_nl c2)]
      · unfold M_X9_needElement; rw [if_neg (i32_nl c1), if_neg (i32_nl c2)]
