/-! methods that throw -/
/-- T needs at most; K = 0: returns v; 1: NoSuchElementException, 2: IllegalArgumentException; the ints are μ' in each case -/
def OkK (G : SG) (mt : MT) (T : Nat) (args : List Value) (μ : Mem) (K : Nat) (v : Option Value) (μ' : Mem) : Prop := Ok G mt T args μ (fun w ν => K = 0 ∧ w = v ∧ ν = μ') (fun E ν => ((K = 1 ∧ E = R_NSE) ∨ (K = 2 ∧ E = R_IAE)) ∧ ν = μ')
theorem okK_of {G : SG} {mt : MT} {T : Nat} {args : List Value} {μ μ' : Mem} {K : Nat} {v : Option Value} {n : Nat} (g : GK n G) (hH : mH mt = []) (hy : plainName (mN mt).cls = true) (hL : (lg_sl args).length ≤ mL mt) (h : R G mt 0 (lv_args 0 args) [] μ T (fun w ν => K = 0 ∧ w = v ∧ ν = μ') (fun E ν => ((K = 1 ∧ E = R_NSE) ∨ (K = 2 ∧ E = R_IAE)) ∧ ν = μ')) : OkK G mt T args μ K v μ' := ok_of g.2 hH hy hL h
theorem kthrow {Kc K : Nat} {μc μ' : Mem} (hk : K = Kc) (hm : μ' = μc) : ∀ (E : String) (ν : Mem), ((Kc = 1 ∧ E = R_NSE) ∨ (Kc = 2 ∧ E = R_IAE)) ∧ ν = μc → ((K = 1 ∧ E = R_NSE) ∨ (K = 2 ∧ E = R_IAE)) ∧ ν = μ' := by
  intro E ν h
  rw [hk, hm]
  exact h
theorem r_cvK {G : SG} {mt mk : MT} {pc : Nat} {lv : List (Nat × Value)} {stk : List Value} {μ μ' : Mem} {t T : Nat} {Q : PQ} {X : PX} {K idx th ck : Nat} {As rest : List Value} (μ2 : Mem) (hk : OkK G mk T (.ref (ga G th) :: As) μ K none μ') (hln : LNV (mN mt).cls idx mk As.length) (hth : th < gh G) (hs : shp th = (0, ck, 0)) (hcl : ∃ T N, CLX[ck]? = some ((mN mk).cls, T, N)) (hd : decode (mB mt) pc = .ok (.invokevirtual idx, 3)) (hdep : mD mk + 1 ≤ mD mt) (hml : mL mk ≤ 21) (hstk : stk = As.reverse ++ .ref (ga G th) :: rest) (hcat : (rest.map fun v => v.category).sum ≤ 8) (hm2 : μ2 = μ')
    (hX : ¬ K = 0 → ∀ (E : String) (ν : Mem), ((K = 1 ∧ E = R_NSE) ∨ (K = 2 ∧ E = R_IAE)) ∧ ν = μ2 → X E ν) (kk : K = 0 → R G mt (pc + 3) lv rest μ2 t Q X) (hH : mH mt = [] := by rfl) : R G mt pc lv stk μ (T + t) Q X := by
  subst hm2
  refine r_callV hk hln hth hs hcl hd hdep hml hstk hcat (Nat.le_add_right T t) (fun E ν h => Or.inl ⟨fun z hz => by rw [hH] at hz; cases hz, hX (fun q => by rcases h.1 with h | h <;> omega) E ν h⟩) (fun w ν h => ?_)
  rw [h.2.1, h.2.2, Nat.add_sub_cancel_left]
  exact kk h.1
def M_needR (k : Nat) (μ : Mem) : Mem := upm μ 0 k ((μ 0 k) + 1)
def K_X9_needRange (p1 p2 p3 : Int32) (μ : Mem) : Nat := if p1 < p2 then 2 else if p1 ≤ p3 then 0 else 2
def M_X9_needRange (p1 p2 p3 : Int32) (μ : Mem) : Mem := if p1 < p2 then M_needR 13 μ else if p1 ≤ p3 then μ else M_needR 13 μ
def K_X9_needElement (p1 p2 : Int32) (μ : Mem) : Nat := if p1 < 0 then 1 else if p1 < p2 then 0 else 1
def M_X9_needElement (p1 p2 : Int32) (μ : Mem) : Mem := if p1 < 0 then M_needR 12 μ else if p1 < p2 then μ else M_needR 12 μ
theorem th_needRange {G : SG} (hG : GK 57 G) (p1 p2 p3 : Int32) (μ : Mem) {Q : PQ} {X : PX} (hX : X R_IAE (M_needR 13 μ)) : R G mX9_needRange 10 [(0, .ref (ga G 0)), (1, .int p1), (2, .int p2), (3, .int p3)] [] μ 1 Q X := by
  refine r_aload_n dX9_needRange_10 0 rfl ?_
  refine r_dup dX9_needRange_11 rfl ?_
  refine r_getI fX9_343 (hG.lt (by decide)) sh0 fs0_13 dX9_needRange_12 ?_
  refine r_iconst 1 dX9_needRange_15 rfl ?_
  refine r_iadd dX9_needRange_16 ?_
  refine r_put fiX9_343 (hG.lt (by decide)) sh0 fs0_13 dX9_needRange_17 ?_
  refine r_mu (M_needR 13 μ) rfl ?_
  exact r_throwSW (k := 0) (names := ["java/lang/RuntimeException", "java/lang/Exception"]) 10 rfl rfl (by decide) (by decide) rfl (bc2 196 (by decide +kernel) (by decide +kernel)) (bc1 15 (by decide +kernel) (by decide +kernel)) (by decide) hat_RX9_367 dX9_needRange_20 dX9_needRange_23 dX9_needRange_24 dX9_needRange_27 dX9_needRange_30 hX
theorem ok_X9_needRange {G : SG} (hG : GK 57 G) (p1 p2 p3 : Int32) (μ : Mem) : OkK G mX9_needRange 1 [.ref (ga G 0), .int p1, .int p2, .int p3] μ (K_X9_needRange p1 p2 p3 μ) none (M_X9_needRange p1 p2 p3 μ) := by
  refine okK_of hG rfl (by decide) (Nat.le_of_ble_eq_true rfl) ?_
  refine r_iload_n dX9_needRange_0 1 rfl ?_
  refine r_iload_n dX9_needRange_1 2 rfl ?_
  refine r_icmp_lt 10 dX9_needRange_2 (by decide) (fun c1 => ?_) (fun c1 => ?_)
  · refine th_needRange hG p1 p2 p3 μ ⟨Or.inr ⟨?_, rfl⟩, ?_⟩
    · unfold K_X9_needRange; rw [if_pos c1]
    · unfold M_X9_needRange; rw [if_pos c1]
  · refine r_iload_n dX9_needRange_5 1 rfl ?_
    refine r_iload_n dX9_needRange_6 3 rfl ?_
    refine r_icmp_le 31 dX9_needRange_7 (by decide) (fun c2 => ?_) (fun c2 => ?_)
    · refine r_return dX9_needRange_31 rfl ⟨?_, rfl, ?_⟩
      · unfold K_X9_needRange; rw [if_neg (i32_nl c1), if_pos c2]
      · unfold M_X9_needRange; rw [if_neg (i32_nl c1), if_pos c2]
    · refine th_needRange hG p1 p2 p3 μ ⟨Or.inr ⟨?_, rfl⟩, ?_⟩
      · unfold K_X9_needRange; rw [if_neg (i32_nl c1), if_neg (i32_ng c2)]
      · unfold M_X9_needRange; rw [if_neg (i32_nl c1), if_neg (i32_ng c2)]
theorem th_needElement {G : SG} (hG : GK 57 G) (p1 p2 : Int32) (μ : Mem) {Q : PQ} {X : PX} (hX : X R_NSE (M_needR 12 μ)) : R G mX9_needElement 9 [(0, .ref (ga G 0)), (1, .int p1), (2, .int p2)] [] μ 1 Q X := by
  sorry
theorem ok_X9_needElement {G : SG} (hG : GK 57 G) (p1 p2 : Int32) (μ : Mem) : OkK G mX9_needElement 1 [.ref (ga G 0), .int p1, .int p2] μ (K_X9_needElement p1 p2 μ) none (M_X9_needElement p1 p2 μ) := by
  refine okK_of hG rfl (by decide) (Nat.le_of_ble_eq_true rfl) ?_
  refine r_iload_n dX9_needElement_0 1 rfl ?_
  refine r_if_lt 9 dX9_needElement_1 (by decide) (fun c1 => ?_) (fun c1 => ?_)
  · refine th_needElement hG p1 p2 μ ⟨Or.inl ⟨?_, rfl⟩, ?_⟩
    · unfold K_X9_needElement; rw [if_pos c1]
    · unfold M_X9_needElement; rw [if_pos c1]
  · refine r_iload_n dX9_needElement_4 1 rfl ?_
    refine r_iload_n dX9_needElement_5 2 rfl ?_
    refine r_icmp_lt 30 dX9_needElement_6 (by decide) (fun c2 => ?_) (fun c2 => ?_)
    · refine r_return dX9_needElement_30 rfl ⟨?_, rfl, ?_⟩
      · unfold K_X9_needElement; rw [if_neg (i32_nl c1), if_pos c2]
      · unfold M_X9_needElement; rw [if_neg (i32_nl c1), if_pos c2]
    · refine th_needElement hG p1 p2 μ ⟨Or.inl ⟨?_, rfl⟩, ?_⟩
      · unfold K_X9_needElement; rw [if_neg (i32_nl c1), if_neg (i32_nl c2)]
      · unfold M_X9_needElement; rw [if_neg (i32_nl c1), if_neg (i32_nl c2)]
