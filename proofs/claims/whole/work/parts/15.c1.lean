/-- g done for 0, 1 .. n - 1, from a -/
def fo {α : Type} (n : Nat) (g : Nat → α → α) (a : α) : α := Nat.rec (motive := fun _ => α) a (fun i s => g i s) n
theorem fo_zero {α : Type} (g : Nat → α → α) (a : α) : fo 0 g a = a := rfl
theorem fo_succ {α : Type} (n : Nat) (g : Nat → α → α) (a : α) : fo (n + 1) g a = g n (fo n g a) := rfl
theorem nI_sc (c i : Nat) : nI (c + (i + 1)) = nI (c + i) + 1 := nI_succ (c + i)
/-! calls, by what they return -/
theorem dpe {e a b : Nat} (h : a + 1 ≤ b) : e + a + 1 ≤ e + b := by omega
theorem dle {k e o : Nat} (hk : k + 1 ≤ 40) (he : 40 ≤ e) : k + 1 ≤ e + o := by omega
theorem r_ialdK {G : SG} {mt : MT} {pc : Nat} {lv : List (Nat × Value)} {st : List Value} {μ : Mem} {t : Nat} {Q : PQ} {X : PX} {h n : Nat} {i : Int32} (j : Nat) (hj : i.toNatClampNeg = j) (hh : h < gh G) (hs : shp h = (1, n, 0)) (hi : vp_in i n) (hd : decode (mB mt) pc = .ok (.iaload, 1)) (kk : R G mt (pc + 1) lv (.int (μ h j) :: st) μ t Q X) : R G mt pc lv (.int i :: .ref (ga G h) :: st) μ t Q X := by
  subst hj
  exact r_iald hh hs hi hd kk
theorem r_iastK {G : SG} {mt : MT} {pc : Nat} {lv : List (Nat × Value)} {st : List Value} {μ : Mem} {t : Nat} {Q : PQ} {X : PX} {h n : Nat} {i x : Int32} (j : Nat) (hj : i.toNatClampNeg = j) (hh : h < gh G) (hs : shp h = (1, n, 0)) (hi : vp_in i n) (hd : decode (mB mt) pc = .ok (.iastore, 1)) (kk : R G mt (pc + 1) lv st (upm μ h j x) t Q X) : R G mt pc lv (.int x :: .int i :: .ref (ga G h) :: st) μ t Q X := by
  subst hj
  exact r_iast hh hs hi hd kk
theorem r_laldK {G : SG} {mt : MT} {pc : Nat} {lv : List (Nat × Value)} {st : List Value} {μ : Mem} {t : Nat} {Q : PQ} {X : PX} {h n : Nat} {i : Int32} (j : Nat) (hj : i.toNatClampNeg = j) (hh : h < gh G) (hs : shp h = (3, n, 0)) (hi : vp_in i n) (hd : decode (mB mt) pc = .ok (.laload, 1)) (kk : R G mt (pc + 1) lv (.long (μ h j).toInt64 :: st) μ t Q X) : R G mt pc lv (.int i :: .ref (ga G h) :: st) μ t Q X := by
  subst hj
  exact r_lald hh hs hi hd kk
theorem r_lastK {G : SG} {mt : MT} {pc : Nat} {lv : List (Nat × Value)} {st : List Value} {μ : Mem} {t : Nat} {Q : PQ} {X : PX} {h n : Nat} {i x : Int32} (j : Nat) (hj : i.toNatClampNeg = j) (hh : h < gh G) (hs : shp h = (3, n, 0)) (hi : vp_in i n) (hd : decode (mB mt) pc = .ok (.lastore, 1)) (kk : R G mt (pc + 1) lv st (upm μ h j x) t Q X) : R G mt pc lv (.long x.toInt64 :: .int i :: .ref (ga G h) :: st) μ t Q X := by
  subst hj
  exact r_last hh hs hi hd kk
theorem r_join {G : SG} {mt : MT} {pc : Nat} {lv : List (Nat × Value)} {st : List Value} {μ : Mem} {t : Nat} {Q : PQ} {X : PX} (J : Nat) (lv2 : List (Nat × Value)) (st2 : List Value) (μ2 : Mem) (h1 : R G mt J lv2 st2 μ2 t Q X) (h2 : R G mt J lv2 st2 μ2 t Q X → R G mt pc lv st μ t Q X) : R G mt pc lv st μ t Q X := h2 h1
theorem r_cvI {G : SG} {mt mk : MT} {pc : Nat} {lv : List (Nat × Value)} {stk : List Value} {μ μ' : Mem} {t : Nat} {Q : PQ} {X : PX} {x : Int32} {idx th ck : Nat} {As rest : List Value} (hk : OkF G mk (.ref (ga G th) :: As) μ (some (.int x)) μ') (hln : LNV (mN mt).cls idx mk As.length) (hth : th < gh G) (hs : shp th = (0, ck, 0)) (hcl : ∃ T N, CLX[ck]? = some ((mN mk).cls, T, N)) (hd : decode (mB mt) pc = .ok (.invokevirtual idx, 3)) (hdep : mD mk + 1 ≤ mD mt) (hml : mL mk ≤ 21) (hstk : stk = As.reverse ++ .ref (ga G th) :: rest) (hcat : (rest.map fun v => v.category).sum ≤ 8) (kk : R G mt (pc + 3) lv (.int x :: rest) μ' t Q X) : R G mt pc lv stk μ t Q X := r_cvF hk hln hth hs hcl hd hdep hml hstk hcat kk
theorem r_cvL {G : SG} {mt mk : MT} {pc : Nat} {lv : List (Nat × Value)} {stk : List Value} {μ μ' : Mem} {t : Nat} {Q : PQ} {X : PX} {x : Int64} {idx th ck : Nat} {As rest : List Value} (hk : OkF G mk (.ref (ga G th) :: As) μ (some (.long x)) μ') (hln : LNV (mN mt).cls idx mk As.length) (hth : th < gh G) (hs : shp th = (0, ck, 0)) (hcl : ∃ T N, CLX[ck]? = some ((mN mk).cls, T, N)) (hd : decode (mB mt) pc = .ok (.invokevirtual idx, 3)) (hdep : mD mk + 1 ≤ mD mt) (hml : mL mk ≤ 21) (hstk : stk = As.reverse ++ .ref (ga G th) :: rest) (hcat : (rest.map fun v => v.category).sum ≤ 8) (kk : R G mt (pc + 3) lv (.long x :: rest) μ' t Q X) : R G mt pc lv stk μ t Q X := r_cvF hk hln hth hs hcl hd hdep hml hstk hcat kk
theorem r_cvV {G : SG} {mt mk : MT} {pc : Nat} {lv : List (Nat × Value)} {stk : List Value} {μ μ' : Mem} {t : Nat} {Q : PQ} {X : PX}  {idx th ck : Nat} {As rest : List Value} (hk : OkF G mk (.ref (ga G th) :: As) μ none μ') (hln : LNV (mN mt).cls idx mk As.length) (hth : th < gh G) (hs : shp th = (0, ck, 0)) (hcl : ∃ T N, CLX[ck]? = some ((mN mk).cls, T, N)) (hd : decode (mB mt) pc = .ok (.invokevirtual idx, 3)) (hdep : mD mk + 1 ≤ mD mt) (hml : mL mk ≤ 21) (hstk : stk = As.reverse ++ .ref (ga G th) :: rest) (hcat : (rest.map fun v => v.category).sum ≤ 8) (kk : R G mt (pc + 3) lv rest μ' t Q X) : R G mt pc lv stk μ t Q X := r_cvF hk hln hth hs hcl hd hdep hml hstk hcat kk
theorem r_csI {G : SG} {mt mk : MT} {pc : Nat} {lv : List (Nat × Value)} {stk : List Value} {μ μ' : Mem} {t : Nat} {Q : PQ} {X : PX} {x : Int32} {idx : Nat} {As rest : List Value} (hk : OkF G mk As μ (some (.int x)) μ') (hln : LNS (mN mt).cls idx mk As.length) (hd : decode (mB mt) pc = .ok (.invokestatic idx, 3)) (hdep : mD mk + 1 ≤ mD mt) (hml : mL mk ≤ 21) (hstk : stk = As.reverse ++ rest) (hcat : (rest.map fun v => v.category).sum ≤ 8) (kk : R G mt (pc + 3) lv (.int x :: rest) μ' t Q X) : R G mt pc lv stk μ t Q X := r_csF hk hln hd hdep hml hstk hcat kk
theorem r_csL {G : SG} {mt mk : MT} {pc : Nat} {lv : List (Nat × Value)} {stk : List Value} {μ μ' : Mem} {t : Nat} {Q : PQ} {X : PX} {x : Int64} {idx : Nat} {As rest : List Value} (hk : OkF G mk As μ (some (.long x)) μ') (hln : LNS (mN mt).cls idx mk As.length) (hd : decode (mB mt) pc = .ok (.invokestatic idx, 3)) (hdep : mD mk + 1 ≤ mD mt) (hml : mL mk ≤ 21) (hstk : stk = As.reverse ++ rest) (hcat : (rest.map fun v => v.category).sum ≤ 8) (kk : R G mt (pc + 3) lv (.long x :: rest) μ' t Q X) : R G mt pc lv stk μ t Q X := r_csF hk hln hd hdep hml hstk hcat kk
theorem r_csV {G : SG} {mt mk : MT} {pc : Nat} {lv : List (Nat × Value)} {stk : List Value} {μ μ' : Mem} {t : Nat} {Q : PQ} {X : PX}  {idx : Nat} {As rest : List Value} (hk : OkF G mk As μ none μ') (hln : LNS (mN mt).cls idx mk As.length) (hd : decode (mB mt) pc = .ok (.invokestatic idx, 3)) (hdep : mD mk + 1 ≤ mD mt) (hml : mL mk ≤ 21) (hstk : stk = As.reverse ++ rest) (hcat : (rest.map fun v => v.category).sum ≤ 8) (kk : R G mt (pc + 3) lv rest μ' t Q X) : R G mt pc lv stk μ t Q X := r_csF hk hln hd hdep hml hstk hcat kk
/-! Math.max, Math.min -/
def imax (x y : Int32) : Int32 := if x < y then y else x
def imin (x y : Int32) : Int32 := if y < x then y else x
theorem r_mu {G : SG} {mt : MT} {pc : Nat} {lv : List (Nat × Value)} {st : List Value} {μ : Mem} {t : Nat} {Q : PQ} {X : PX} (μ' : Mem) (e : μ' = μ) (h : R G mt pc lv st μ' t Q X) : R G mt pc lv st μ t Q X := e ▸ h
def LMX (own : String) (idx : Nat) : Prop := Cond.methodLink own idx Lib.Math.max.name ∈ BIG ∧ Cond.static Lib.Math.max.name ∈ BIG ∧ Cond.initialized "java/lang/Math" ∈ BIG ∧ Cond.code Lib.Math.max.name Lib.Math.max.code 2 (some .int) ∈ BIG
def LMN (own : String) (idx : Nat) : Prop := Cond.methodLink own idx Lib.Math.min.name ∈ BIG ∧ Cond.static Lib.Math.min.name ∈ BIG ∧ Cond.initialized "java/lang/Math" ∈ BIG ∧ Cond.code Lib.Math.min.name Lib.Math.min.code 2 (some .int) ∈ BIG
theorem r_mmax {G : SG} {mt : MT} {pc : Nat} {lv : List (Nat × Value)} {st : List Value} {μ : Mem} {t : Nat} {Q : PQ} {X : PX} {idx : Nat} {x y : Int32} (hw : LMX (mN mt).cls idx) (hcat : (st.map fun v => v.category).sum ≤ 8) (hd : decode (mB mt) pc = .ok (.invokestatic idx, 3))
    (kk : R G mt (pc + 3) lv (.int (imax x y) :: st) μ t Q X) : R G mt pc lv (.int y :: .int x :: st) μ t Q X := by
  intro p e Rm s m args below meth cd Ct St QQ H locs cells slots ls C E EX hW hS hc hs hl
  have c1 := C.2.2.2.2.2.2.2.1
  have c2 := C.2.2.2.2.2.2.2.2.1
  have c3 := C.2.2.2.2.2.2.2.2.2.1
  have c4 := C.2.2.2.2.2.2.2.2.2.2.1
  exact va_mmax C.1 C.2.1 (C.2.2.1.trans hl.1.symm) C.own (C.big _ hw.1) (C.big _ hw.2.1) (C.big _ hw.2.2.1) (C.big _ hw.2.2.2) (by omega) (by omega) (by omega) (by omega) hd (kk p e Rm s m args below meth cd Ct St QQ H locs cells slots ls C E EX hW hS hc hs hl)
theorem r_mmin {G : SG} {mt : MT} {pc : Nat} {lv : List (Nat × Value)} {st : List Value} {μ : Mem} {t : Nat} {Q : PQ} {X : PX} {idx : Nat} {x y : Int32} (hw : LMN (mN mt).cls idx) (hcat : (st.map fun v => v.category).sum ≤ 8) (hd : decode (mB mt) pc = .ok (.invokestatic idx, 3))
    (kk : R G mt (pc + 3) lv (.int (imin x y) :: st) μ t Q X) : R G mt pc lv (.int y :: .int x :: st) μ t Q X := by
  intro p e Rm s m args below meth cd Ct St QQ H locs cells slots ls C E EX hW hS hc hs hl
  have c1 := C.2.2.2.2.2.2.2.1
  have c2 := C.2.2.2.2.2.2.2.2.1
  have c3 := C.2.2.2.2.2.2.2.2.2.1
  have c4 := C.2.2.2.2.2.2.2.2.2.2.1
  exact va_mmin C.1 C.2.1 (C.2.2.1.trans hl.1.symm) C.own (C.big _ hw.1) (C.big _ hw.2.1) (C.big _ hw.2.2.1) (C.big _ hw.2.2.2) (by omega) (by omega) (by omega) (by omega) hd (kk p e Rm s m args below meth cd Ct St QQ H locs cells slots ls C E EX hW hS hc hs hl)

theorem lX9_288 : LMN RX9 288 := ⟨bc2 189 (by decide +kernel) (by decide +kernel), bc2 190 (by decide +kernel) (by decide +kernel), bc1 11 (by decide +kernel) (by decide +kernel), bc2 191 (by decide +kernel) (by decide +kernel)⟩
theorem lX9_325 : LMX RX9 325 := ⟨bc6 114 (by decide +kernel) (by decide +kernel), bc4 102 (by decide +kernel) (by decide +kernel), bc1 11 (by decide +kernel) (by decide +kernel), bc4 103 (by decide +kernel) (by decide +kernel)⟩
theorem lX0_124 : LMX RX0 124 := ⟨bc5 132 (by decide +kernel) (by decide +kernel), bc4 102 (by decide +kernel) (by decide +kernel), bc1 11 (by decide +kernel) (by decide +kernel), bc4 103 (by decide +kernel) (by decide +kernel)⟩
theorem lX1_122 : LMN RX1 122 := ⟨bc4 120 (by decide +kernel) (by decide +kernel), bc2 190 (by decide +kernel) (by decide +kernel), bc1 11 (by decide +kernel) (by decide +kernel), bc2 191 (by decide +kernel) (by decide +kernel)⟩
theorem lX1_127 : LMX RX1 127 := ⟨bc4 121 (by decide +kernel) (by decide +kernel), bc4 102 (by decide +kernel) (by decide +kernel), bc1 11 (by decide +kernel) (by decide +kernel), bc4 103 (by decide +kernel) (by decide +kernel)⟩
theorem lX2_83 : LMX RX2 83 := ⟨bc5 191 (by decide +kernel) (by decide +kernel), bc4 102 (by decide +kernel) (by decide +kernel), bc1 11 (by decide +kernel) (by decide +kernel), bc4 103 (by decide +kernel) (by decide +kernel)⟩
theorem lX5_58 : LMX RX5 58 := ⟨bc4 101 (by decide +kernel) (by decide +kernel), bc4 102 (by decide +kernel) (by decide +kernel), bc1 11 (by decide +kernel) (by decide +kernel), bc4 103 (by decide +kernel) (by decide +kernel)⟩
theorem lX5_67 : LMN RX5 67 := ⟨bc6 2 (by decide +kernel) (by decide +kernel), bc2 190 (by decide +kernel) (by decide +kernel), bc1 11 (by decide +kernel) (by decide +kernel), bc2 191 (by decide +kernel) (by decide +kernel)⟩
theorem lX8_41 : LMN RX8 41 := ⟨bc3 39 (by decide +kernel) (by decide +kernel), bc2 190 (by decide +kernel) (by decide +kernel), bc1 11 (by decide +kernel) (by decide +kernel), bc2 191 (by decide +kernel) (by decide +kernel)⟩
def F_X9_at (row nrow : Nat) (p1 : Int32) (μ : Mem) : Int32 := (if p1 < 0 then 0 else (if (nI nrow) ≤ p1 then 0 else (μ row (ix p1))))
set_option maxRecDepth 20000 in
set_option maxHeartbeats 2000000 in
theorem ok_X9_at {G : SG} (hG : GK 57 G) {row nrow : Nat} (hlrow : row < gh G) (hsrow : shp row = (1, nrow, 0)) (p1 : Int32) (μ : Mem) : OkF G mX9_at [.ref (ga G row), .int p1] μ (some (.int (F_X9_at row nrow p1 μ))) μ := by
  refine okF_of hG rfl rfl (Nat.le_of_ble_eq_true rfl) ?_
  refine r_iload_n dX9_at_0 1 rfl ?_
  refine r_if_lt 16 dX9_at_1 (by decide) (fun c1 => ?_) (fun c1 => ?_)
  · refine r_iconst 0 dX9_at_16 rfl ?_
    exact r_ireturn _ dX9_at_17 rfl rfl ⟨congrArg (fun z => some (Value.int z)) (by unfold F_X9_at; rw [if_pos c1]), rfl⟩
  · refine r_iload_n dX9_at_4 1 rfl ?_
    refine r_aload_n dX9_at_5 0 rfl ?_
    refine r_alen (nI nrow) hlrow hsrow rfl dX9_at_6 ?_
    refine r_icmp_ge 16 dX9_at_7 (by decide) (fun c2 => ?_) (fun c2 => ?_)
    · refine r_iconst 0 dX9_at_16 rfl ?_
      exact r_ireturn _ dX9_at_17 rfl rfl ⟨congrArg (fun z => some (Value.int z)) (by unfold F_X9_at; rw [if_neg (i32_nl c1), if_pos c2]), rfl⟩
    · refine r_aload_n dX9_at_10 0 rfl ?_
      refine r_iload_n dX9_at_11 1 rfl ?_
      refine r_iald hlrow hsrow (vpI nrow c1 c2 (shp_lt hsrow)) dX9_at_12 ?_
      refine r_goto 17 dX9_at_13 (by decide) ?_
      exact r_ireturn _ dX9_at_17 rfl rfl ⟨congrArg (fun z => some (Value.int z)) (by unfold F_X9_at; rw [if_neg (i32_nl c1), if_neg (i32_ng c2)]), rfl⟩
def muX9_put_1 (row : Nat) (nrow : Nat) (p1 : Int32) (p2 : Int32) (μ : Mem) : Mem := (upm μ row (ix p1) p2)
def M_X9_put (row nrow : Nat) (p1 : Int32) (p2 : Int32) (μ : Mem) : Mem := (if p1 < 0 then μ else (if (nI nrow) ≤ p1 then μ else (muX9_put_1 row nrow p1 p2 μ)))
set_option maxRecDepth 20000 in
set_option maxHeartbeats 2000000 in
theorem ok_X9_put {G : SG} (hG : GK 57 G) {row nrow : Nat} (hlrow : row < gh G) (hsrow : shp row = (1, nrow, 0)) (p1 : Int32) (p2 : Int32) (μ : Mem) : OkF G mX9_put [.ref (ga G row), .int p1, .int p2] μ none (M_X9_put row nrow p1 p2 μ) := by
  refine okF_of hG rfl rfl (Nat.le_of_ble_eq_true rfl) ?_
  refine r_iload_n dX9_put_0 1 rfl ?_
  refine r_if_lt 14 dX9_put_1 (by decide) (fun c1 => ?_) (fun c1 => ?_)
  · exact r_return dX9_put_14 rfl ⟨rfl, by unfold M_X9_put; rw [if_pos c1]⟩
  · refine r_iload_n dX9_put_4 1 rfl ?_
    refine r_aload_n dX9_put_5 0 rfl ?_
    refine r_alen (nI nrow) hlrow hsrow rfl dX9_put_6 ?_
    refine r_icmp_ge 14 dX9_put_7 (by decide) (fun c2 => ?_) (fun c2 => ?_)
    · exact r_return dX9_put_14 rfl ⟨rfl, by unfold M_X9_put; rw [if_neg (i32_nl c1), if_pos c2]⟩
    · refine r_aload_n dX9_put_10 0 rfl ?_
      refine r_iload_n dX9_put_11 1 rfl ?_
      refine r_iload_n dX9_put_12 2 rfl ?_
      refine r_iast hlrow hsrow (vpI nrow c1 c2 (shp_lt hsrow)) dX9_put_13 ?_
      refine r_mu (muX9_put_1 row nrow p1 p2 μ) rfl ?_
      exact r_return dX9_put_14 rfl ⟨rfl, by unfold M_X9_put; rw [if_neg (i32_nl c1), if_neg (i32_ng c2)]⟩
def F_X5_of (th : Nat) (p1 : Int32) (p2 : Int32) (μ : Mem) : Int32 := (if (p1 + p2) < 0 then 0 else (if 69 ≤ (p1 + p2) then 0 else (μ (th + 1) (ix (p1 + p2)))))
set_option maxRecDepth 20000 in
set_option maxHeartbeats 2000000 in
theorem ok_X5_of {G : SG} (hG : GK 57 G) {th : Nat} (hth : IsSt th) (p1 : Int32) (p2 : Int32) (μ : Mem) : OkF G mX5_of [.ref (ga G th), .int p1, .int p2] μ (some (.int (F_X5_of th p1 p2 μ))) μ := by
  refine okF_of hG rfl rfl (Nat.le_of_ble_eq_true rfl) ?_
  refine r_iload_n dX5_of_0 1 rfl ?_
  refine r_iload_n dX5_of_1 2 rfl ?_
  refine r_iadd dX5_of_2 ?_
  refine r_istore_n [(3, _), (0, _), (1, _), (2, _)] dX5_of_3 (Nat.le_of_ble_eq_true rfl) rfl ?_
  refine r_iload_n dX5_of_4 0 rfl ?_
  refine r_if_lt 26 dX5_of_5 (by decide) (fun c1 => ?_) (fun c1 => ?_)
  · refine r_iconst 0 dX5_of_26 rfl ?_
    exact r_ireturn _ dX5_of_27 rfl rfl ⟨congrArg (fun z => some (Value.int z)) (by unfold F_X5_of; rw [if_pos c1]), rfl⟩
  · refine r_iload_n dX5_of_8 0 rfl ?_
    refine r_aload_n dX5_of_9 1 rfl ?_
    refine r_getR (th + 1) fX5_11 (hth.lt hG) hth.sh (hth.f0) dX5_of_10 ?_
    refine r_alen 69 (hth.lt0 hG) hth.s0 rfl dX5_of_13 ?_
    refine r_icmp_ge 26 dX5_of_14 (by decide) (fun c2 => ?_) (fun c2 => ?_)
    · refine r_iconst 0 dX5_of_26 rfl ?_
      exact r_ireturn _ dX5_of_27 rfl rfl ⟨congrArg (fun z => some (Value.int z)) (by unfold F_X5_of; rw [if_neg (i32_nl c1), if_pos c2]), rfl⟩
    · refine r_aload_n dX5_of_17 1 rfl ?_
      refine r_getR (th + 1) fX5_11 (hth.lt hG) hth.sh (hth.f0) dX5_of_18 ?_
      refine r_iload_n dX5_of_21 0 rfl ?_
      refine r_iald (hth.lt0 hG) hth.s0 (vpI 69 c1 c2 (by decide)) dX5_of_22 ?_
      refine r_goto 27 dX5_of_23 (by decide) ?_
      exact r_ireturn _ dX5_of_27 rfl rfl ⟨congrArg (fun z => some (Value.int z)) (by unfold F_X5_of; rw [if_neg (i32_nl c1), if_neg (i32_ng c2)]), rfl⟩
def muX5_set_1 (th : Nat) (p1 : Int32) (p2 : Int32) (p3 : Int32) (μ : Mem) : Mem := (upm μ (th + 1) (ix (p1 + p2)) p3)
def M_X5_set (th : Nat) (p1 : Int32) (p2 : Int32) (p3 : Int32) (μ : Mem) : Mem := (if (p1 + p2) < 0 then μ else (if 69 ≤ (p1 + p2) then μ else (muX5_set_1 th p1 p2 p3 μ)))
set_option maxRecDepth 20000 in
set_option maxHeartbeats 2000000 in
theorem ok_X5_set {G : SG} (hG : GK 57 G) {th : Nat} (hth : IsSt th) (p1 : Int32) (p2 : Int32) (p3 : Int32) (μ : Mem) : OkF G mX5_set [.ref (ga G th), .int p1, .int p2, .int p3] μ none (M_X5_set th p1 p2 p3 μ) := by
  refine okF_of hG rfl rfl (Nat.le_of_ble_eq_true rfl) ?_
  refine r_iload_n dX5_set_0 1 rfl ?_
  refine r_iload_n dX5_set_1 2 rfl ?_
  refine r_iadd dX5_set_2 ?_
  refine r_istore [(4, _), (0, _), (1, _), (2, _), (3, _)] dX5_set_3 (Nat.le_of_ble_eq_true rfl) rfl ?_
  refine r_iload dX5_set_5 0 rfl ?_
  refine r_if_lt 28 dX5_set_7 (by decide) (fun c1 => ?_) (fun c1 => ?_)
  · exact r_return dX5_set_28 rfl ⟨rfl, by unfold M_X5_set; rw [if_pos c1]⟩
  · refine r_iload dX5_set_10 0 rfl ?_
    refine r_aload_n dX5_set_12 1 rfl ?_
    refine r_getR (th + 1) fX5_11 (hth.lt hG) hth.sh (hth.f0) dX5_set_13 ?_
    refine r_alen 69 (hth.lt0 hG) hth.s0 rfl dX5_set_16 ?_
    refine r_icmp_ge 28 dX5_set_17 (by decide) (fun c2 => ?_) (fun c2 => ?_)
    · exact r_return dX5_set_28 rfl ⟨rfl, by unfold M_X5_set; rw [if_neg (i32_nl c1), if_pos c2]⟩
    · refine r_aload_n dX5_set_20 1 rfl ?_
      refine r_getR (th + 1) fX5_11 (hth.lt hG) hth.sh (hth.f0) dX5_set_21 ?_
      refine r_iload dX5_set_24 0 rfl ?_
      refine r_iload_n dX5_set_26 4 rfl ?_
      refine r_iast (hth.lt0 hG) hth.s0 (vpI 69 c1 c2 (by decide)) dX5_set_27 ?_
      refine r_mu (muX5_set_1 th p1 p2 p3 μ) rfl ?_
      exact r_return dX5_set_28 rfl ⟨rfl, by unfold M_X5_set; rw [if_neg (i32_nl c1), if_neg (i32_ng c2)]⟩
def F_X5_tideToCome (th : Nat) (μ : Mem) : Int32 := (F_X5_of th 68 0 μ)
set_option maxRecDepth 20000 in
set_option maxHeartbeats 2000000 in
theorem ok_X5_tideToCome {G : SG} (hG : GK 57 G) {th : Nat} (hth : IsSt th) (μ : Mem) : OkF G mX5_tideToCome [.ref (ga G th)] μ (some (.int (F_X5_tideToCome th μ))) μ := by
  refine okF_of hG rfl rfl (Nat.le_of_ble_eq_true rfl) ?_
  refine r_aload_n dX5_tideToCome_0 0 rfl ?_
  refine r_bipush 68 dX5_tideToCome_1 rfl ?_
  refine r_iconst 0 dX5_tideToCome_3 rfl ?_
  refine r_cvI (ok_X5_of hG hth 68 0 μ) lX5_54 (hth.lt hG) hth.sh ⟨_, _, rfl⟩ dX5_tideToCome_4 (by decide) (Nat.le_of_ble_eq_true rfl) rfl (Nat.le_of_ble_eq_true rfl) ?_
  exact r_ireturn _ dX5_tideToCome_7 rfl rfl ⟨congrArg (fun z => some (Value.int z)) (rfl), rfl⟩
def F_X5_isGone (th : Nat) (p1 : Int32) (μ : Mem) : Int32 := (if (F_X5_of th 0 p1 μ) ≠ (-1) then 0 else 1)
theorem bo_X5_isGone (th : Nat) (p1 : Int32) (μ : Mem) : F_X5_isGone th p1 μ = 0 ∨ F_X5_isGone th p1 μ = 1 := by
  unfold F_X5_isGone
  split
  · exact Or.inl rfl
  · exact Or.inr rfl
set_option maxRecDepth 20000 in
set_option maxHeartbeats 2000000 in
theorem ok_X5_isGone {G : SG} (hG : GK 57 G) {th : Nat} (hth : IsSt th) (p1 : Int32) (μ : Mem) : OkF G mX5_isGone [.ref (ga G th), .int p1] μ (some (.int (F_X5_isGone th p1 μ))) μ := by
  refine okF_of hG rfl rfl (Nat.le_of_ble_eq_true rfl) ?_
  refine r_aload_n dX5_isGone_0 0 rfl ?_
  refine r_iconst 0 dX5_isGone_1 rfl ?_
  refine r_iload_n dX5_isGone_2 1 rfl ?_
  refine r_cvI (ok_X5_of hG hth 0 p1 μ) lX5_54 (hth.lt hG) hth.sh ⟨_, _, rfl⟩ dX5_isGone_3 (by decide) (Nat.le_of_ble_eq_true rfl) rfl (Nat.le_of_ble_eq_true rfl) ?_
  refine r_iconst (-1) dX5_isGone_6 rfl ?_
  refine r_icmp_ne 14 dX5_isGone_7 (by decide) (fun c1 => ?_) (fun c1 => ?_)
  · refine r_iconst 0 dX5_isGone_14 rfl ?_
    exact r_ireturn _ dX5_isGone_15 rfl rfl ⟨congrArg (fun z => some (Value.int z)) (by unfold F_X5_isGone; rw [if_pos c1]), rfl⟩
  · refine r_iconst 1 dX5_isGone_10 rfl ?_
    refine r_goto 15 dX5_isGone_11 (by decide) ?_
    exact r_ireturn _ dX5_isGone_15 rfl rfl ⟨congrArg (fun z => some (Value.int z)) (by unfold F_X5_isGone; rw [if_neg (not_not_intro c1)]), rfl⟩
def F_X5_isDown (th : Nat) (p1 : Int32) (μ : Mem) : Int32 := (if (F_X5_of th 0 p1 μ) = (-1) then 0 else (if (F_X5_of th 10 p1 μ) ≠ 0 then 0 else 1))
theorem bo_X5_isDown (th : Nat) (p1 : Int32) (μ : Mem) : F_X5_isDown th p1 μ = 0 ∨ F_X5_isDown th p1 μ = 1 := by
  unfold F_X5_isDown
  split
  · exact Or.inl rfl
  · split
    · exact Or.inl rfl
    · exact Or.inr rfl
set_option maxRecDepth 20000 in
set_option maxHeartbeats 2000000 in
theorem ok_X5_isDown {G : SG} (hG : GK 57 G) {th : Nat} (hth : IsSt th) (p1 : Int32) (μ : Mem) : OkF G mX5_isDown [.ref (ga G th), .int p1] μ (some (.int (F_X5_isDown th p1 μ))) μ := by
  refine okF_of hG rfl rfl (Nat.le_of_ble_eq_true rfl) ?_
  refine r_aload_n dX5_isDown_0 0 rfl ?_
  refine r_iconst 0 dX5_isDown_1 rfl ?_
  refine r_iload_n dX5_isDown_2 1 rfl ?_
  refine r_cvI (ok_X5_of hG hth 0 p1 μ) lX5_54 (hth.lt hG) hth.sh ⟨_, _, rfl⟩ dX5_isDown_3 (by decide) (Nat.le_of_ble_eq_true rfl) rfl (Nat.le_of_ble_eq_true rfl) ?_
  refine r_iconst (-1) dX5_isDown_6 rfl ?_
  refine r_icmp_eq 24 dX5_isDown_7 (by decide) (fun c1 => ?_) (fun c1 => ?_)
  · refine r_iconst 0 dX5_isDown_24 rfl ?_
    exact r_ireturn _ dX5_isDown_25 rfl rfl ⟨congrArg (fun z => some (Value.int z)) (by unfold F_X5_isDown; rw [if_pos c1]), rfl⟩
  · refine r_aload_n dX5_isDown_10 0 rfl ?_
    refine r_bipush 10 dX5_isDown_11 rfl ?_
    refine r_iload_n dX5_isDown_13 1 rfl ?_
    refine r_cvI (ok_X5_of hG hth 10 p1 μ) lX5_54 (hth.lt hG) hth.sh ⟨_, _, rfl⟩ dX5_isDown_14 (by decide) (Nat.le_of_ble_eq_true rfl) rfl (Nat.le_of_ble_eq_true rfl) ?_
    refine r_if_ne 24 dX5_isDown_17 (by decide) (fun c2 => ?_) (fun c2 => ?_)
    · refine r_iconst 0 dX5_isDown_24 rfl ?_
      exact r_ireturn _ dX5_isDown_25 rfl rfl ⟨congrArg (fun z => some (Value.int z)) (by unfold F_X5_isDown; rw [if_neg c1, if_pos c2]), rfl⟩
    · refine r_iconst 1 dX5_isDown_20 rfl ?_
      refine r_goto 25 dX5_isDown_21 (by decide) ?_
      exact r_ireturn _ dX5_isDown_25 rfl rfl ⟨congrArg (fun z => some (Value.int z)) (by unfold F_X5_isDown; rw [if_neg c1, if_neg (not_not_intro c2)]), rfl⟩
def VX5_goneThings_4_1 (th : Nat) (μ : Mem) (i : Nat) (s : Int32) : Int32 := (if (F_X5_isGone th (nI i) μ) = 0 then 0 else 1)
theorem bo_VX5_goneThings_4_1 (th : Nat) (μ : Mem) (i : Nat) (s : Int32) : (VX5_goneThings_4_1 th μ i s) = 0 ∨ (VX5_goneThings_4_1 th μ i s) = 1 := by
  unfold VX5_goneThings_4_1
  split
  · exact Or.inl rfl
  · exact Or.inr rfl
def g_X5_goneThings_4 (th : Nat) (μ : Mem) (i : Nat) (s : Int32) : Int32 := (s + (VX5_goneThings_4_1 th μ i s))
def Pb_X5_goneThings_4 (th : Nat) (μ : Mem) (i : Nat) (s : Int32) : Prop := (((μ 3 9) ≤ (nI i) → False) ∧ ((nI i) < (μ 3 9) → True))
set_option maxRecDepth 20000 in
set_option maxHeartbeats 2000000 in
theorem lp_X5_goneThings_4 {G : SG} (hG : GK 57 G) {th : Nat} (hth : IsSt th) (μ : Mem) (s0 : Int32) (N : Nat) (sN : Int32) (eN : sN = fo N (g_X5_goneThings_4 th μ) s0) (hN : ∀ i, i < N → Pb_X5_goneThings_4 th μ i (fo i (g_X5_goneThings_4 th μ) s0)) {t : Nat} {Q : PQ} {X : PX} (h : R G mX5_goneThings 4 [(0, .ref (ga G th)), (1, .ref (ga G 3)), (2, .int sN), (3, .int (nI N))] [] μ t Q X) : R G mX5_goneThings 4 [(0, .ref (ga G th)), (1, .ref (ga G 3)), (2, .int s0), (3, .int 0)] [] μ t Q X := by
  subst eN
  refine down_i N (fun i => R G mX5_goneThings 4 [(0, .ref (ga G th)), (1, .ref (ga G 3)), (2, .int (fo i (g_X5_goneThings_4 th μ) s0)), (3, .int (nI i))] [] μ t Q X) h (fun i hi hS => ?_)
  have hP := hN i hi
  rw [fo_succ] at hS
  rw [nI_succ] at hS
  generalize fo i (g_X5_goneThings_4 th μ) s0 = s at hS hP ⊢
  unfold Pb_X5_goneThings_4 at hP
  refine r_iload_n dX5_goneThings_4 3 rfl ?_
  refine r_aload_n dX5_goneThings_5 1 rfl ?_
  refine r_getI fX5_45 (hG.lt (by decide)) sh3 fs3_9 dX5_goneThings_6 ?_
  refine r_icmp_ge 34 dX5_goneThings_9 (by decide) (fun c1 => ?_) (fun c1 => ?_)
  · replace hP := hP.1 c1
    exact hP.elim
  · replace hP := hP.2 c1
    refine r_iload_n dX5_goneThings_12 2 rfl ?_
    refine r_aload_n dX5_goneThings_13 0 rfl ?_
    refine r_iload_n dX5_goneThings_14 3 rfl ?_
    refine r_cvI (ok_X5_isGone hG hth (nI i) μ) lX5_63 (hth.lt hG) hth.sh ⟨_, _, rfl⟩ dX5_goneThings_15 (by decide) (Nat.le_of_ble_eq_true rfl) rfl (Nat.le_of_ble_eq_true rfl) ?_
    refine r_join 26 [(0, .ref (ga G th)), (1, .ref (ga G 3)), (2, .int s), (3, .int (nI i))] [.int (VX5_goneThings_4_1 th μ i s), .int s] μ ?_ (fun hJ => ?_)
    · refine r_iadd dX5_goneThings_26 ?_
      refine r_istore_n [(2, _), (0, _), (1, _), (3, _)] dX5_goneThings_27 (Nat.le_of_ble_eq_true rfl) rfl ?_
      refine r_iinc ((nI i) + 1) [(3, _), (2, _), (0, _), (1, _)] dX5_goneThings_28 3 rfl rfl (Nat.le_of_ble_eq_true rfl) rfl ?_
      refine r_goto 4 dX5_goneThings_31 (by decide) ?_
      have e : g_X5_goneThings_4 th μ i s = (s + (VX5_goneThings_4_1 th μ i s)) := by unfold g_X5_goneThings_4; rfl
      rw [e] at hS
      exact r_sub [2, 3, 1, 0] rfl hS
    · refine r_if_eq 25 dX5_goneThings_18 (by decide) (fun c2 => ?_) (fun c2 => ?_)
      · refine r_iconst 0 dX5_goneThings_25 rfl ?_
        have e : (VX5_goneThings_4_1 th μ i s) = 0 := by unfold VX5_goneThings_4_1; rw [if_pos c2]
        rw [e] at hJ
        exact r_sub [0, 1, 2, 3] rfl hJ
      · refine r_iconst 1 dX5_goneThings_21 rfl ?_
        refine r_goto 26 dX5_goneThings_22 (by decide) ?_
        have e : (VX5_goneThings_4_1 th μ i s) = 1 := by unfold VX5_goneThings_4_1; rw [if_neg c2]
        rw [e] at hJ
        exact r_sub [0, 1, 2, 3] rfl hJ
def NX5_goneThings_4 (th : Nat) (μ : Mem) : Nat := (ix (μ 3 9))
def SX5_goneThings_4 (th : Nat) (μ : Mem) : Int32 := fo (NX5_goneThings_4 th μ) (g_X5_goneThings_4 th μ) 0
def VX5_goneThings_1 (th : Nat) (μ : Mem) : Int32 := (if (F_X5_isGone th (nI (NX5_goneThings_4 th μ)) μ) = 0 then 0 else 1)
theorem bo_VX5_goneThings_1 (th : Nat) (μ : Mem) : (VX5_goneThings_1 th μ) = 0 ∨ (VX5_goneThings_1 th μ) = 1 := by
  unfold VX5_goneThings_1
  split
  · exact Or.inl rfl
  · exact Or.inr rfl
def F_X5_goneThings (th : Nat) (μ : Mem) : Int32 := (SX5_goneThings_4 th μ)
def P_X5_goneThings (th : Nat) (μ : Mem) : Prop := ((∀ j9, j9 < (NX5_goneThings_4 th μ) → Pb_X5_goneThings_4 th μ j9 (fo j9 (g_X5_goneThings_4 th μ) 0)) ∧ (((μ 3 9) ≤ (nI (NX5_goneThings_4 th μ)) → True) ∧ ((nI (NX5_goneThings_4 th μ)) < (μ 3 9) → False)))
set_option maxRecDepth 20000 in
set_option maxHeartbeats 2000000 in
theorem ok_X5_goneThings {G : SG} (hG : GK 57 G) {th : Nat} (hth : IsSt th) (μ : Mem) (hP : P_X5_goneThings th μ) : OkF G mX5_goneThings [.ref (ga G th), .ref (ga G 3)] μ (some (.int (F_X5_goneThings th μ))) μ := by
  refine okF_of hG rfl rfl (Nat.le_of_ble_eq_true rfl) ?_
  unfold P_X5_goneThings at hP
  refine r_iconst 0 dX5_goneThings_0 rfl ?_
  refine r_istore_n [(2, _), (0, _), (1, _)] dX5_goneThings_1 (Nat.le_of_ble_eq_true rfl) rfl ?_
  refine r_iconst 0 dX5_goneThings_2 rfl ?_
  refine r_istore_n [(3, _), (2, _), (0, _), (1, _)] dX5_goneThings_3 (Nat.le_of_ble_eq_true rfl) rfl ?_
  have hs1 := hP.1
  replace hP := hP.2
  refine r_sub [2, 3, 1, 0] rfl ?_
  refine lp_X5_goneThings_4 hG hth μ 0 ((NX5_goneThings_4 th μ)) (SX5_goneThings_4 th μ) rfl hs1 ?_
  refine r_iload_n dX5_goneThings_4 3 rfl ?_
  refine r_aload_n dX5_goneThings_5 1 rfl ?_
  refine r_getI fX5_45 (hG.lt (by decide)) sh3 fs3_9 dX5_goneThings_6 ?_
  refine r_icmp_ge 34 dX5_goneThings_9 (by decide) (fun c1 => ?_) (fun c1 => ?_)
  · replace hP := hP.1 c1
    refine r_iload_n dX5_goneThings_34 2 rfl ?_
    exact r_ireturn _ dX5_goneThings_35 rfl rfl ⟨congrArg (fun z => some (Value.int z)) (rfl), rfl⟩
  · replace hP := hP.2 c1
    refine r_iload_n dX5_goneThings_12 2 rfl ?_
    refine r_aload_n dX5_goneThings_13 0 rfl ?_
    refine r_iload_n dX5_goneThings_14 3 rfl ?_
    refine r_cvI (ok_X5_isGone hG hth (nI (NX5_goneThings_4 th μ)) μ) lX5_63 (hth.lt hG) hth.sh ⟨_, _, rfl⟩ dX5_goneThings_15 (by decide) (Nat.le_of_ble_eq_true rfl) rfl (Nat.le_of_ble_eq_true rfl) ?_
    refine r_join 26 [(0, .ref (ga G th)), (1, .ref (ga G 3)), (2, .int (SX5_goneThings_4 th μ)), (3, .int (nI (NX5_goneThings_4 th μ)))] [.int (VX5_goneThings_1 th μ), .int (SX5_goneThings_4 th μ)] μ ?_ (fun hJ => ?_)
    · refine r_iadd dX5_goneThings_26 ?_
      refine r_istore_n [(2, _), (0, _), (1, _), (3, _)] dX5_goneThings_27 (Nat.le_of_ble_eq_true rfl) rfl ?_
      refine r_iinc ((nI (NX5_goneThings_4 th μ)) + 1) [(3, _), (2, _), (0, _), (1, _)] dX5_goneThings_28 3 rfl rfl (Nat.le_of_ble_eq_true rfl) rfl ?_
      refine r_goto 4 dX5_goneThings_31 (by decide) ?_
      exact hP.elim
    · refine r_if_eq 25 dX5_goneThings_18 (by decide) (fun c2 => ?_) (fun c2 => ?_)
      · refine r_iconst 0 dX5_goneThings_25 rfl ?_
        have e : (VX5_goneThings_1 th μ) = 0 := by unfold VX5_goneThings_1; rw [if_pos c2]
        rw [e] at hJ
        exact r_sub [0, 1, 2, 3] rfl hJ
      · refine r_iconst 1 dX5_goneThings_21 rfl ?_
        refine r_goto 26 dX5_goneThings_22 (by decide) ?_
        have e : (VX5_goneThings_1 th μ) = 1 := by unfold VX5_goneThings_1; rw [if_neg c2]
        rw [e] at hJ
        exact r_sub [0, 1, 2, 3] rfl hJ
def VX5_worthLeft_4_1 (th : Nat) (μ : Mem) (i : Nat) (s : Int32) : Int32 := (if (F_X5_isGone th (nI i) μ) = 0 then (F_X5_of th 40 (nI i) μ) else 0)
def g_X5_worthLeft_4 (th : Nat) (μ : Mem) (i : Nat) (s : Int32) : Int32 := (s + (VX5_worthLeft_4_1 th μ i s))
def Pb_X5_worthLeft_4 (th : Nat) (μ : Mem) (i : Nat) (s : Int32) : Prop := (((μ 3 9) ≤ (nI i) → False) ∧ ((nI i) < (μ 3 9) → True))
set_option maxRecDepth 20000 in
set_option maxHeartbeats 2000000 in
theorem lp_X5_worthLeft_4 {G : SG} (hG : GK 57 G) {th : Nat} (hth : IsSt th) (μ : Mem) (s0 : Int32) (N : Nat) (sN : Int32) (eN : sN = fo N (g_X5_worthLeft_4 th μ) s0) (hN : ∀ i, i < N → Pb_X5_worthLeft_4 th μ i (fo i (g_X5_worthLeft_4 th μ) s0)) {t : Nat} {Q : PQ} {X : PX} (h : R G mX5_worthLeft 4 [(0, .ref (ga G th)), (1, .ref (ga G 3)), (2, .int sN), (3, .int (nI N))] [] μ t Q X) : R G mX5_worthLeft 4 [(0, .ref (ga G th)), (1, .ref (ga G 3)), (2, .int s0), (3, .int 0)] [] μ t Q X := by
  subst eN
  refine down_i N (fun i => R G mX5_worthLeft 4 [(0, .ref (ga G th)), (1, .ref (ga G 3)), (2, .int (fo i (g_X5_worthLeft_4 th μ) s0)), (3, .int (nI i))] [] μ t Q X) h (fun i hi hS => ?_)
  have hP := hN i hi
  rw [fo_succ] at hS
  rw [nI_succ] at hS
  generalize fo i (g_X5_worthLeft_4 th μ) s0 = s at hS hP ⊢
  unfold Pb_X5_worthLeft_4 at hP
  refine r_iload_n dX5_worthLeft_4 3 rfl ?_
  refine r_aload_n dX5_worthLeft_5 1 rfl ?_
  refine r_getI fX5_45 (hG.lt (by decide)) sh3 fs3_9 dX5_worthLeft_6 ?_
  refine r_icmp_ge 40 dX5_worthLeft_9 (by decide) (fun c1 => ?_) (fun c1 => ?_)
  · replace hP := hP.1 c1
    exact hP.elim
  · replace hP := hP.2 c1
    refine r_iload_n dX5_worthLeft_12 2 rfl ?_
    refine r_aload_n dX5_worthLeft_13 0 rfl ?_
    refine r_iload_n dX5_worthLeft_14 3 rfl ?_
    refine r_cvI (ok_X5_isGone hG hth (nI i) μ) lX5_63 (hth.lt hG) hth.sh ⟨_, _, rfl⟩ dX5_worthLeft_15 (by decide) (Nat.le_of_ble_eq_true rfl) rfl (Nat.le_of_ble_eq_true rfl) ?_
    refine r_join 32 [(0, .ref (ga G th)), (1, .ref (ga G 3)), (2, .int s), (3, .int (nI i))] [.int (VX5_worthLeft_4_1 th μ i s), .int s] μ ?_ (fun hJ => ?_)
    · refine r_iadd dX5_worthLeft_32 ?_
      refine r_istore_n [(2, _), (0, _), (1, _), (3, _)] dX5_worthLeft_33 (Nat.le_of_ble_eq_true rfl) rfl ?_
      refine r_iinc ((nI i) + 1) [(3, _), (2, _), (0, _), (1, _)] dX5_worthLeft_34 3 rfl rfl (Nat.le_of_ble_eq_true rfl) rfl ?_
      refine r_goto 4 dX5_worthLeft_37 (by decide) ?_
      have e : g_X5_worthLeft_4 th μ i s = (s + (VX5_worthLeft_4_1 th μ i s)) := by unfold g_X5_worthLeft_4; rfl
      rw [e] at hS
      exact r_sub [2, 3, 1, 0] rfl hS
    · refine r_if_eq 25 dX5_worthLeft_18 (by decide) (fun c2 => ?_) (fun c2 => ?_)
      · refine r_aload_n dX5_worthLeft_25 0 rfl ?_
        refine r_bipush 40 dX5_worthLeft_26 rfl ?_
        refine r_iload_n dX5_worthLeft_28 3 rfl ?_
        refine r_cvI (ok_X5_of hG hth 40 (nI i) μ) lX5_54 (hth.lt hG) hth.sh ⟨_, _, rfl⟩ dX5_worthLeft_29 (by decide) (Nat.le_of_ble_eq_true rfl) rfl (Nat.le_of_ble_eq_true rfl) ?_
        have e : (VX5_worthLeft_4_1 th μ i s) = (F_X5_of th 40 (nI i) μ) := by unfold VX5_worthLeft_4_1; rw [if_pos c2]
        rw [e] at hJ
        exact r_sub [0, 1, 2, 3] rfl hJ
      · refine r_iconst 0 dX5_worthLeft_21 rfl ?_
        refine r_goto 32 dX5_worthLeft_22 (by decide) ?_
        have e : (VX5_worthLeft_4_1 th μ i s) = 0 := by unfold VX5_worthLeft_4_1; rw [if_neg c2]
        rw [e] at hJ
        exact r_sub [0, 1, 2, 3] rfl hJ
def NX5_worthLeft_4 (th : Nat) (μ : Mem) : Nat := (ix (μ 3 9))
def SX5_worthLeft_4 (th : Nat) (μ : Mem) : Int32 := fo (NX5_worthLeft_4 th μ) (g_X5_worthLeft_4 th μ) 0
def VX5_worthLeft_1 (th : Nat) (μ : Mem) : Int32 := (if (F_X5_isGone th (nI (NX5_worthLeft_4 th μ)) μ) = 0 then (F_X5_of th 40 (nI (NX5_worthLeft_4 th μ)) μ) else 0)
def F_X5_worthLeft (th : Nat) (μ : Mem) : Int32 := (SX5_worthLeft_4 th μ)
def P_X5_worthLeft (th : Nat) (μ : Mem) : Prop := ((∀ j9, j9 < (NX5_worthLeft_4 th μ) → Pb_X5_worthLeft_4 th μ j9 (fo j9 (g_X5_worthLeft_4 th μ) 0)) ∧ (((μ 3 9) ≤ (nI (NX5_worthLeft_4 th μ)) → True) ∧ ((nI (NX5_worthLeft_4 th μ)) < (μ 3 9) → False)))
set_option maxRecDepth 20000 in
set_option maxHeartbeats 2000000 in
theorem ok_X5_worthLeft {G : SG} (hG : GK 57 G) {th : Nat} (hth : IsSt th) (μ : Mem) (hP : P_X5_worthLeft th μ) : OkF G mX5_worthLeft [.ref (ga G th), .ref (ga G 3)] μ (some (.int (F_X5_worthLeft th μ))) μ := by
  refine okF_of hG rfl rfl (Nat.le_of_ble_eq_true rfl) ?_
  unfold P_X5_worthLeft at hP
  refine r_iconst 0 dX5_worthLeft_0 rfl ?_
  refine r_istore_n [(2, _), (0, _), (1, _)] dX5_worthLeft_1 (Nat.le_of_ble_eq_true rfl) rfl ?_
  refine r_iconst 0 dX5_worthLeft_2 rfl ?_
  refine r_istore_n [(3, _), (2, _), (0, _), (1, _)] dX5_worthLeft_3 (Nat.le_of_ble_eq_true rfl) rfl ?_
  have hs1 := hP.1
  replace hP := hP.2
  refine r_sub [2, 3, 1, 0] rfl ?_
  refine lp_X5_worthLeft_4 hG hth μ 0 ((NX5_worthLeft_4 th μ)) (SX5_worthLeft_4 th μ) rfl hs1 ?_
  refine r_iload_n dX5_worthLeft_4 3 rfl ?_
  refine r_aload_n dX5_worthLeft_5 1 rfl ?_
  refine r_getI fX5_45 (hG.lt (by decide)) sh3 fs3_9 dX5_worthLeft_6 ?_
  refine r_icmp_ge 40 dX5_worthLeft_9 (by decide) (fun c1 => ?_) (fun c1 => ?_)
  · replace hP := hP.1 c1
    refine r_iload_n dX5_worthLeft_40 2 rfl ?_
    exact r_ireturn _ dX5_worthLeft_41 rfl rfl ⟨congrArg (fun z => some (Value.int z)) (rfl), rfl⟩
  · replace hP := hP.2 c1
    refine r_iload_n dX5_worthLeft_12 2 rfl ?_
    refine r_aload_n dX5_worthLeft_13 0 rfl ?_
    refine r_iload_n dX5_worthLeft_14 3 rfl ?_
    refine r_cvI (ok_X5_isGone hG hth (nI (NX5_worthLeft_4 th μ)) μ) lX5_63 (hth.lt hG) hth.sh ⟨_, _, rfl⟩ dX5_worthLeft_15 (by decide) (Nat.le_of_ble_eq_true rfl) rfl (Nat.le_of_ble_eq_true rfl) ?_
    refine r_join 32 [(0, .ref (ga G th)), (1, .ref (ga G 3)), (2, .int (SX5_worthLeft_4 th μ)), (3, .int (nI (NX5_worthLeft_4 th μ)))] [.int (VX5_worthLeft_1 th μ), .int (SX5_worthLeft_4 th μ)] μ ?_ (fun hJ => ?_)
    · refine r_iadd dX5_worthLeft_32 ?_
      refine r_istore_n [(2, _), (0, _), (1, _), (3, _)] dX5_worthLeft_33 (Nat.le_of_ble_eq_true rfl) rfl ?_
      refine r_iinc ((nI (NX5_worthLeft_4 th μ)) + 1) [(3, _), (2, _), (0, _), (1, _)] dX5_worthLeft_34 3 rfl rfl (Nat.le_of_ble_eq_true rfl) rfl ?_
      refine r_goto 4 dX5_worthLeft_37 (by decide) ?_
      exact hP.elim
    · refine r_if_eq 25 dX5_worthLeft_18 (by decide) (fun c2 => ?_) (fun c2 => ?_)
      · refine r_aload_n dX5_worthLeft_25 0 rfl ?_
        refine r_bipush 40 dX5_worthLeft_26 rfl ?_
        refine r_iload_n dX5_worthLeft_28 3 rfl ?_
        refine r_cvI (ok_X5_of hG hth 40 (nI (NX5_worthLeft_4 th μ)) μ) lX5_54 (hth.lt hG) hth.sh ⟨_, _, rfl⟩ dX5_worthLeft_29 (by decide) (Nat.le_of_ble_eq_true rfl) rfl (Nat.le_of_ble_eq_true rfl) ?_
        have e : (VX5_worthLeft_1 th μ) = (F_X5_of th 40 (nI (NX5_worthLeft_4 th μ)) μ) := by unfold VX5_worthLeft_1; rw [if_pos c2]
        rw [e] at hJ
        exact r_sub [0, 1, 2, 3] rfl hJ
      · refine r_iconst 0 dX5_worthLeft_21 rfl ?_
        refine r_goto 32 dX5_worthLeft_22 (by decide) ?_
        have e : (VX5_worthLeft_1 th μ) = 0 := by unfold VX5_worthLeft_1; rw [if_neg c2]
        rw [e] at hJ
        exact r_sub [0, 1, 2, 3] rfl hJ
def g_X5_paidInAll_4 (th : Nat) (μ : Mem) (i : Nat) (s : Int32) : Int32 := (s + (F_X5_of th 62 (nI i) μ))
def Pb_X5_paidInAll_4 (th : Nat) (μ : Mem) (i : Nat) (s : Int32) : Prop := (((μ 3 8) ≤ (nI i) → False) ∧ ((nI i) < (μ 3 8) → True))
set_option maxRecDepth 20000 in
set_option maxHeartbeats 2000000 in
theorem lp_X5_paidInAll_4 {G : SG} (hG : GK 57 G) {th : Nat} (hth : IsSt th) (μ : Mem) (s0 : Int32) (N : Nat) (sN : Int32) (eN : sN = fo N (g_X5_paidInAll_4 th μ) s0) (hN : ∀ i, i < N → Pb_X5_paidInAll_4 th μ i (fo i (g_X5_paidInAll_4 th μ) s0)) {t : Nat} {Q : PQ} {X : PX} (h : R G mX5_paidInAll 4 [(0, .ref (ga G th)), (1, .ref (ga G 3)), (2, .int sN), (3, .int (nI N))] [] μ t Q X) : R G mX5_paidInAll 4 [(0, .ref (ga G th)), (1, .ref (ga G 3)), (2, .int s0), (3, .int 0)] [] μ t Q X := by
  subst eN
  refine down_i N (fun i => R G mX5_paidInAll 4 [(0, .ref (ga G th)), (1, .ref (ga G 3)), (2, .int (fo i (g_X5_paidInAll_4 th μ) s0)), (3, .int (nI i))] [] μ t Q X) h (fun i hi hS => ?_)
  have hP := hN i hi
  rw [fo_succ] at hS
  rw [nI_succ] at hS
  generalize fo i (g_X5_paidInAll_4 th μ) s0 = s at hS hP ⊢
  unfold Pb_X5_paidInAll_4 at hP
  refine r_iload_n dX5_paidInAll_4 3 rfl ?_
  refine r_aload_n dX5_paidInAll_5 1 rfl ?_
  refine r_getI fX5_28 (hG.lt (by decide)) sh3 fs3_8 dX5_paidInAll_6 ?_
  refine r_icmp_ge 28 dX5_paidInAll_9 (by decide) (fun c1 => ?_) (fun c1 => ?_)
  · replace hP := hP.1 c1
    exact hP.elim
  · replace hP := hP.2 c1
    refine r_iload_n dX5_paidInAll_12 2 rfl ?_
    refine r_aload_n dX5_paidInAll_13 0 rfl ?_
    refine r_bipush 62 dX5_paidInAll_14 rfl ?_
    refine r_iload_n dX5_paidInAll_16 3 rfl ?_
    refine r_cvI (ok_X5_of hG hth 62 (nI i) μ) lX5_54 (hth.lt hG) hth.sh ⟨_, _, rfl⟩ dX5_paidInAll_17 (by decide) (Nat.le_of_ble_eq_true rfl) rfl (Nat.le_of_ble_eq_true rfl) ?_
    refine r_iadd dX5_paidInAll_20 ?_
    refine r_istore_n [(2, _), (0, _), (1, _), (3, _)] dX5_paidInAll_21 (Nat.le_of_ble_eq_true rfl) rfl ?_
    refine r_iinc ((nI i) + 1) [(3, _), (2, _), (0, _), (1, _)] dX5_paidInAll_22 3 rfl rfl (Nat.le_of_ble_eq_true rfl) rfl ?_
    refine r_goto 4 dX5_paidInAll_25 (by decide) ?_
    have e : g_X5_paidInAll_4 th μ i s = (s + (F_X5_of th 62 (nI i) μ)) := by unfold g_X5_paidInAll_4; rfl
    rw [e] at hS
    exact r_sub [2, 3, 1, 0] rfl hS
def NX5_paidInAll_4 (th : Nat) (μ : Mem) : Nat := (ix (μ 3 8))
def SX5_paidInAll_4 (th : Nat) (μ : Mem) : Int32 := fo (NX5_paidInAll_4 th μ) (g_X5_paidInAll_4 th μ) 0
def F_X5_paidInAll (th : Nat) (μ : Mem) : Int32 := (SX5_paidInAll_4 th μ)
def P_X5_paidInAll (th : Nat) (μ : Mem) : Prop := ((∀ j9, j9 < (NX5_paidInAll_4 th μ) → Pb_X5_paidInAll_4 th μ j9 (fo j9 (g_X5_paidInAll_4 th μ) 0)) ∧ (((μ 3 8) ≤ (nI (NX5_paidInAll_4 th μ)) → True) ∧ ((nI (NX5_paidInAll_4 th μ)) < (μ 3 8) → False)))
set_option maxRecDepth 20000 in
set_option maxHeartbeats 2000000 in
theorem ok_X5_paidInAll {G : SG} (hG : GK 57 G) {th : Nat} (hth : IsSt th) (μ : Mem) (hP : P_X5_paidInAll th μ) : OkF G mX5_paidInAll [.ref (ga G th), .ref (ga G 3)] μ (some (.int (F_X5_paidInAll th μ))) μ := by
  refine okF_of hG rfl rfl (Nat.le_of_ble_eq_true rfl) ?_
  unfold P_X5_paidInAll at hP
  refine r_iconst 0 dX5_paidInAll_0 rfl ?_
  refine r_istore_n [(2, _), (0, _), (1, _)] dX5_paidInAll_1 (Nat.le_of_ble_eq_true rfl) rfl ?_
  refine r_iconst 0 dX5_paidInAll_2 rfl ?_
  refine r_istore_n [(3, _), (2, _), (0, _), (1, _)] dX5_paidInAll_3 (Nat.le_of_ble_eq_true rfl) rfl ?_
  have hs1 := hP.1
  replace hP := hP.2
  refine r_sub [2, 3, 1, 0] rfl ?_
  refine lp_X5_paidInAll_4 hG hth μ 0 ((NX5_paidInAll_4 th μ)) (SX5_paidInAll_4 th μ) rfl hs1 ?_
  refine r_iload_n dX5_paidInAll_4 3 rfl ?_
  refine r_aload_n dX5_paidInAll_5 1 rfl ?_
  refine r_getI fX5_28 (hG.lt (by decide)) sh3 fs3_8 dX5_paidInAll_6 ?_
  refine r_icmp_ge 28 dX5_paidInAll_9 (by decide) (fun c1 => ?_) (fun c1 => ?_)
  · replace hP := hP.1 c1
    refine r_iload_n dX5_paidInAll_28 2 rfl ?_
    exact r_ireturn _ dX5_paidInAll_29 rfl rfl ⟨congrArg (fun z => some (Value.int z)) (rfl), rfl⟩
  · replace hP := hP.2 c1
    refine r_iload_n dX5_paidInAll_12 2 rfl ?_
    refine r_aload_n dX5_paidInAll_13 0 rfl ?_
    refine r_bipush 62 dX5_paidInAll_14 rfl ?_
    refine r_iload_n dX5_paidInAll_16 3 rfl ?_
    refine r_cvI (ok_X5_of hG hth 62 (nI (NX5_paidInAll_4 th μ)) μ) lX5_54 (hth.lt hG) hth.sh ⟨_, _, rfl⟩ dX5_paidInAll_17 (by decide) (Nat.le_of_ble_eq_true rfl) rfl (Nat.le_of_ble_eq_true rfl) ?_
    refine r_iadd dX5_paidInAll_20 ?_
    refine r_istore_n [(2, _), (0, _), (1, _), (3, _)] dX5_paidInAll_21 (Nat.le_of_ble_eq_true rfl) rfl ?_
    refine r_iinc ((nI (NX5_paidInAll_4 th μ)) + 1) [(3, _), (2, _), (0, _), (1, _)] dX5_paidInAll_22 3 rfl rfl (Nat.le_of_ble_eq_true rfl) rfl ?_
    refine r_goto 4 dX5_paidInAll_25 (by decide) ?_
    exact hP.elim
def VX5_thingsIn_5_1 (th : Nat) (v2 : Int32) (μ : Mem) (i : Nat) (s : Int32) : Int32 := (if (F_X5_of th 0 (nI i) μ) ≠ v2 then s else (s ||| ((1 : Int32) <<< ((nI i) &&& 31))))
def g_X5_thingsIn_5 (th : Nat) (v2 : Int32) (μ : Mem) (i : Nat) (s : Int32) : Int32 := (VX5_thingsIn_5_1 th v2 μ i s)
def Pb_X5_thingsIn_5 (th : Nat) (v2 : Int32) (μ : Mem) (i : Nat) (s : Int32) : Prop := (((μ 3 9) ≤ (nI i) → False) ∧ ((nI i) < (μ 3 9) → True))
set_option maxRecDepth 20000 in
set_option maxHeartbeats 2000000 in
theorem lp_X5_thingsIn_5 {G : SG} (hG : GK 57 G) {th : Nat} (hth : IsSt th) (v2 : Int32) (μ : Mem) (s0 : Int32) (N : Nat) (sN : Int32) (eN : sN = fo N (g_X5_thingsIn_5 th v2 μ) s0) (hN : ∀ i, i < N → Pb_X5_thingsIn_5 th v2 μ i (fo i (g_X5_thingsIn_5 th v2 μ) s0)) {t : Nat} {Q : PQ} {X : PX} (h : R G mX5_thingsIn 5 [(0, .ref (ga G th)), (1, .ref (ga G 3)), (2, .int v2), (3, .int sN), (4, .int (nI N))] [] μ t Q X) : R G mX5_thingsIn 5 [(0, .ref (ga G th)), (1, .ref (ga G 3)), (2, .int v2), (3, .int s0), (4, .int 0)] [] μ t Q X := by
  subst eN
  refine down_i N (fun i => R G mX5_thingsIn 5 [(0, .ref (ga G th)), (1, .ref (ga G 3)), (2, .int v2), (3, .int (fo i (g_X5_thingsIn_5 th v2 μ) s0)), (4, .int (nI i))] [] μ t Q X) h (fun i hi hS => ?_)
  have hP := hN i hi
  rw [fo_succ] at hS
  rw [nI_succ] at hS
  generalize fo i (g_X5_thingsIn_5 th v2 μ) s0 = s at hS hP ⊢
  unfold Pb_X5_thingsIn_5 at hP
  refine r_iload dX5_thingsIn_5 4 rfl ?_
  refine r_aload_n dX5_thingsIn_7 1 rfl ?_
  refine r_getI fX5_45 (hG.lt (by decide)) sh3 fs3_9 dX5_thingsIn_8 ?_
  refine r_icmp_ge 38 dX5_thingsIn_11 (by decide) (fun c1 => ?_) (fun c1 => ?_)
  · replace hP := hP.1 c1
    exact hP.elim
  · replace hP := hP.2 c1
    refine r_aload_n dX5_thingsIn_14 0 rfl ?_
    refine r_iconst 0 dX5_thingsIn_15 rfl ?_
    refine r_iload dX5_thingsIn_16 4 rfl ?_
    refine r_cvI (ok_X5_of hG hth 0 (nI i) μ) lX5_54 (hth.lt hG) hth.sh ⟨_, _, rfl⟩ dX5_thingsIn_18 (by decide) (Nat.le_of_ble_eq_true rfl) rfl (Nat.le_of_ble_eq_true rfl) ?_
    refine r_iload_n dX5_thingsIn_21 2 rfl ?_
    refine r_join 32 [(0, .ref (ga G th)), (1, .ref (ga G 3)), (2, .int v2), (3, .int (VX5_thingsIn_5_1 th v2 μ i s)), (4, .int (nI i))] [] μ ?_ (fun hJ => ?_)
    · refine r_iinc ((nI i) + 1) [(4, _), (0, _), (1, _), (2, _), (3, _)] dX5_thingsIn_32 4 rfl rfl (Nat.le_of_ble_eq_true rfl) rfl ?_
      refine r_goto 5 dX5_thingsIn_35 (by decide) ?_
      have e : g_X5_thingsIn_5 th v2 μ i s = (VX5_thingsIn_5_1 th v2 μ i s) := by unfold g_X5_thingsIn_5; rfl
      rw [e] at hS
      exact r_sub [1, 2, 3, 4, 0] rfl hS
    · refine r_icmp_ne 32 dX5_thingsIn_22 (by decide) (fun c2 => ?_) (fun c2 => ?_)
      · have e : (VX5_thingsIn_5_1 th v2 μ i s) = s := by unfold VX5_thingsIn_5_1; rw [if_pos c2]
        rw [e] at hJ
        exact r_sub [0, 1, 2, 3, 4] rfl hJ
      · refine r_iload_n dX5_thingsIn_25 3 rfl ?_
        refine r_iconst 1 dX5_thingsIn_26 rfl ?_
        refine r_iload dX5_thingsIn_27 4 rfl ?_
        refine r_ishl dX5_thingsIn_29 rfl ?_
        refine r_ior dX5_thingsIn_30 ?_
        refine r_istore_n [(3, _), (0, _), (1, _), (2, _), (4, _)] dX5_thingsIn_31 (Nat.le_of_ble_eq_true rfl) rfl ?_
        have e : (VX5_thingsIn_5_1 th v2 μ i s) = (s ||| ((1 : Int32) <<< ((nI i) &&& 31))) := by unfold VX5_thingsIn_5_1; rw [if_neg (not_not_intro c2)]
        rw [e] at hJ
        exact r_sub [1, 2, 3, 0, 4] rfl hJ
def NX5_thingsIn_5 (th : Nat) (p2 : Int32) (μ : Mem) : Nat := (ix (μ 3 9))
def SX5_thingsIn_5 (th : Nat) (p2 : Int32) (μ : Mem) : Int32 := fo (NX5_thingsIn_5 th p2 μ) (g_X5_thingsIn_5 th p2 μ) 0
def VX5_thingsIn_1 (th : Nat) (p2 : Int32) (μ : Mem) : Int32 := (if (F_X5_of th 0 (nI (NX5_thingsIn_5 th p2 μ)) μ) ≠ p2 then (SX5_thingsIn_5 th p2 μ) else ((SX5_thingsIn_5 th p2 μ) ||| ((1 : Int32) <<< ((nI (NX5_thingsIn_5 th p2 μ)) &&& 31))))
def F_X5_thingsIn (th : Nat) (p2 : Int32) (μ : Mem) : Int32 := (SX5_thingsIn_5 th p2 μ)
def P_X5_thingsIn (th : Nat) (p2 : Int32) (μ : Mem) : Prop := ((∀ j9, j9 < (NX5_thingsIn_5 th p2 μ) → Pb_X5_thingsIn_5 th p2 μ j9 (fo j9 (g_X5_thingsIn_5 th p2 μ) 0)) ∧ (((μ 3 9) ≤ (nI (NX5_thingsIn_5 th p2 μ)) → True) ∧ ((nI (NX5_thingsIn_5 th p2 μ)) < (μ 3 9) → False)))
set_option maxRecDepth 20000 in
set_option maxHeartbeats 2000000 in
theorem ok_X5_thingsIn {G : SG} (hG : GK 57 G) {th : Nat} (hth : IsSt th) (p2 : Int32) (μ : Mem) (hP : P_X5_thingsIn th p2 μ) : OkF G mX5_thingsIn [.ref (ga G th), .ref (ga G 3), .int p2] μ (some (.int (F_X5_thingsIn th p2 μ))) μ := by
  refine okF_of hG rfl rfl (Nat.le_of_ble_eq_true rfl) ?_
  unfold P_X5_thingsIn at hP
  refine r_iconst 0 dX5_thingsIn_0 rfl ?_
  refine r_istore_n [(3, _), (0, _), (1, _), (2, _)] dX5_thingsIn_1 (Nat.le_of_ble_eq_true rfl) rfl ?_
  refine r_iconst 0 dX5_thingsIn_2 rfl ?_
  refine r_istore [(4, _), (3, _), (0, _), (1, _), (2, _)] dX5_thingsIn_3 (Nat.le_of_ble_eq_true rfl) rfl ?_
  have hs1 := hP.1
  replace hP := hP.2
  refine r_sub [2, 3, 4, 1, 0] rfl ?_
  refine lp_X5_thingsIn_5 hG hth p2 μ 0 ((NX5_thingsIn_5 th p2 μ)) (SX5_thingsIn_5 th p2 μ) rfl hs1 ?_
  refine r_iload dX5_thingsIn_5 4 rfl ?_
  refine r_aload_n dX5_thingsIn_7 1 rfl ?_
  refine r_getI fX5_45 (hG.lt (by decide)) sh3 fs3_9 dX5_thingsIn_8 ?_
  refine r_icmp_ge 38 dX5_thingsIn_11 (by decide) (fun c1 => ?_) (fun c1 => ?_)
  · replace hP := hP.1 c1
    refine r_iload_n dX5_thingsIn_38 3 rfl ?_
    exact r_ireturn _ dX5_thingsIn_39 rfl rfl ⟨congrArg (fun z => some (Value.int z)) (rfl), rfl⟩
  · replace hP := hP.2 c1
    refine r_aload_n dX5_thingsIn_14 0 rfl ?_
    refine r_iconst 0 dX5_thingsIn_15 rfl ?_
    refine r_iload dX5_thingsIn_16 4 rfl ?_
    refine r_cvI (ok_X5_of hG hth 0 (nI (NX5_thingsIn_5 th p2 μ)) μ) lX5_54 (hth.lt hG) hth.sh ⟨_, _, rfl⟩ dX5_thingsIn_18 (by decide) (Nat.le_of_ble_eq_true rfl) rfl (Nat.le_of_ble_eq_true rfl) ?_
    refine r_iload_n dX5_thingsIn_21 2 rfl ?_
    refine r_join 32 [(0, .ref (ga G th)), (1, .ref (ga G 3)), (2, .int p2), (3, .int (VX5_thingsIn_1 th p2 μ)), (4, .int (nI (NX5_thingsIn_5 th p2 μ)))] [] μ ?_ (fun hJ => ?_)
    · refine r_iinc ((nI (NX5_thingsIn_5 th p2 μ)) + 1) [(4, _), (0, _), (1, _), (2, _), (3, _)] dX5_thingsIn_32 4 rfl rfl (Nat.le_of_ble_eq_true rfl) rfl ?_
      refine r_goto 5 dX5_thingsIn_35 (by decide) ?_
      exact hP.elim
    · refine r_icmp_ne 32 dX5_thingsIn_22 (by decide) (fun c2 => ?_) (fun c2 => ?_)
      · have e : (VX5_thingsIn_1 th p2 μ) = (SX5_thingsIn_5 th p2 μ) := by unfold VX5_thingsIn_1; rw [if_pos c2]
        rw [e] at hJ
        exact r_sub [0, 1, 2, 3, 4] rfl hJ
      · refine r_iload_n dX5_thingsIn_25 3 rfl ?_
        refine r_iconst 1 dX5_thingsIn_26 rfl ?_
        refine r_iload dX5_thingsIn_27 4 rfl ?_
        refine r_ishl dX5_thingsIn_29 rfl ?_
        refine r_ior dX5_thingsIn_30 ?_
        refine r_istore_n [(3, _), (0, _), (1, _), (2, _), (4, _)] dX5_thingsIn_31 (Nat.le_of_ble_eq_true rfl) rfl ?_
        have e : (VX5_thingsIn_1 th p2 μ) = ((SX5_thingsIn_5 th p2 μ) ||| ((1 : Int32) <<< ((nI (NX5_thingsIn_5 th p2 μ)) &&& 31))) := by unfold VX5_thingsIn_1; rw [if_neg (not_not_intro c2)]
        rw [e] at hJ
        exact r_sub [1, 2, 3, 0, 4] rfl hJ
def VX5_givenUnder_6_1 (th : Nat) (v2 : Int32) (v3 : Int32) (μ : Mem) (i : Nat) (s : Int32) : Int32 := (if ((v2 >>> ((nI i) &&& 31)) &&& 1) ≠ 0 then (imin v3 (F_X5_of th 62 (nI i) μ)) else 0)
def g_X5_givenUnder_6 (th : Nat) (v2 : Int32) (v3 : Int32) (μ : Mem) (i : Nat) (s : Int32) : Int32 := (s + (VX5_givenUnder_6_1 th v2 v3 μ i s))
def Pb_X5_givenUnder_6 (th : Nat) (v2 : Int32) (v3 : Int32) (μ : Mem) (i : Nat) (s : Int32) : Prop := (((μ 3 8) ≤ (nI i) → False) ∧ ((nI i) < (μ 3 8) → True))
set_option maxRecDepth 20000 in
set_option maxHeartbeats 2000000 in
theorem lp_X5_givenUnder_6 {G : SG} (hG : GK 57 G) {th : Nat} (hth : IsSt th) (v2 : Int32) (v3 : Int32) (μ : Mem) (s0 : Int32) (N : Nat) (sN : Int32) (eN : sN = fo N (g_X5_givenUnder_6 th v2 v3 μ) s0) (hN : ∀ i, i < N → Pb_X5_givenUnder_6 th v2 v3 μ i (fo i (g_X5_givenUnder_6 th v2 v3 μ) s0)) {t : Nat} {Q : PQ} {X : PX} (h : R G mX5_givenUnder 6 [(0, .ref (ga G th)), (1, .ref (ga G 3)), (2, .int v2), (3, .int v3), (4, .int sN), (5, .int (nI N))] [] μ t Q X) : R G mX5_givenUnder 6 [(0, .ref (ga G th)), (1, .ref (ga G 3)), (2, .int v2), (3, .int v3), (4, .int s0), (5, .int 0)] [] μ t Q X := by
  subst eN
  refine down_i N (fun i => R G mX5_givenUnder 6 [(0, .ref (ga G th)), (1, .ref (ga G 3)), (2, .int v2), (3, .int v3), (4, .int (fo i (g_X5_givenUnder_6 th v2 v3 μ) s0)), (5, .int (nI i))] [] μ t Q X) h (fun i hi hS => ?_)
  have hP := hN i hi
  rw [fo_succ] at hS
  rw [nI_succ] at hS
  generalize fo i (g_X5_givenUnder_6 th v2 v3 μ) s0 = s at hS hP ⊢
  unfold Pb_X5_givenUnder_6 at hP
  refine r_iload dX5_givenUnder_6 5 rfl ?_
  refine r_aload_n dX5_givenUnder_8 1 rfl ?_
  refine r_getI fX5_28 (hG.lt (by decide)) sh3 fs3_8 dX5_givenUnder_9 ?_
  refine r_icmp_ge 51 dX5_givenUnder_12 (by decide) (fun c1 => ?_) (fun c1 => ?_)
  · replace hP := hP.1 c1
    exact hP.elim
  · replace hP := hP.2 c1
    refine r_iload dX5_givenUnder_15 4 rfl ?_
    refine r_iload_n dX5_givenUnder_17 2 rfl ?_
    refine r_iload dX5_givenUnder_18 5 rfl ?_
    refine r_ishr dX5_givenUnder_20 rfl ?_
    refine r_iconst 1 dX5_givenUnder_21 rfl ?_
    refine r_iand dX5_givenUnder_22 ?_
    refine r_join 42 [(0, .ref (ga G th)), (1, .ref (ga G 3)), (2, .int v2), (3, .int v3), (4, .int s), (5, .int (nI i))] [.int (VX5_givenUnder_6_1 th v2 v3 μ i s), .int s] μ ?_ (fun hJ => ?_)
    · refine r_iadd dX5_givenUnder_42 ?_
      refine r_istore [(4, _), (0, _), (1, _), (2, _), (3, _), (5, _)] dX5_givenUnder_43 (Nat.le_of_ble_eq_true rfl) rfl ?_
      refine r_iinc ((nI i) + 1) [(5, _), (4, _), (0, _), (1, _), (2, _), (3, _)] dX5_givenUnder_45 5 rfl rfl (Nat.le_of_ble_eq_true rfl) rfl ?_
      refine r_goto 6 dX5_givenUnder_48 (by decide) ?_
      have e : g_X5_givenUnder_6 th v2 v3 μ i s = (s + (VX5_givenUnder_6_1 th v2 v3 μ i s)) := by unfold g_X5_givenUnder_6; rfl
      rw [e] at hS
      exact r_sub [2, 3, 4, 5, 1, 0] rfl hS
    · refine r_if_ne 30 dX5_givenUnder_23 (by decide) (fun c2 => ?_) (fun c2 => ?_)
      · refine r_iload_n dX5_givenUnder_30 3 rfl ?_
        refine r_aload_n dX5_givenUnder_31 0 rfl ?_
        refine r_bipush 62 dX5_givenUnder_32 rfl ?_
        refine r_iload dX5_givenUnder_34 5 rfl ?_
        refine r_cvI (ok_X5_of hG hth 62 (nI i) μ) lX5_54 (hth.lt hG) hth.sh ⟨_, _, rfl⟩ dX5_givenUnder_36 (by decide) (Nat.le_of_ble_eq_true rfl) rfl (Nat.le_of_ble_eq_true rfl) ?_
        refine r_mmin lX5_67 (Nat.le_of_ble_eq_true rfl) dX5_givenUnder_39 ?_
        have e : (VX5_givenUnder_6_1 th v2 v3 μ i s) = (imin v3 (F_X5_of th 62 (nI i) μ)) := by unfold VX5_givenUnder_6_1; rw [if_pos c2]
        rw [e] at hJ
        exact r_sub [0, 1, 2, 3, 4, 5] rfl hJ
      · refine r_iconst 0 dX5_givenUnder_26 rfl ?_
        refine r_goto 42 dX5_givenUnder_27 (by decide) ?_
        have e : (VX5_givenUnder_6_1 th v2 v3 μ i s) = 0 := by unfold VX5_givenUnder_6_1; rw [if_neg (not_not_intro c2)]
        rw [e] at hJ
        exact r_sub [0, 1, 2, 3, 4, 5] rfl hJ
def NX5_givenUnder_6 (th : Nat) (p2 : Int32) (p3 : Int32) (μ : Mem) : Nat := (ix (μ 3 8))
def SX5_givenUnder_6 (th : Nat) (p2 : Int32) (p3 : Int32) (μ : Mem) : Int32 := fo (NX5_givenUnder_6 th p2 p3 μ) (g_X5_givenUnder_6 th p2 p3 μ) 0
def VX5_givenUnder_1 (th : Nat) (p2 : Int32) (p3 : Int32) (μ : Mem) : Int32 := (if ((p2 >>> ((nI (NX5_givenUnder_6 th p2 p3 μ)) &&& 31)) &&& 1) ≠ 0 then (imin p3 (F_X5_of th 62 (nI (NX5_givenUnder_6 th p2 p3 μ)) μ)) else 0)
def F_X5_givenUnder (th : Nat) (p2 : Int32) (p3 : Int32) (μ : Mem) : Int32 := (SX5_givenUnder_6 th p2 p3 μ)
def P_X5_givenUnder (th : Nat) (p2 : Int32) (p3 : Int32) (μ : Mem) : Prop := ((∀ j9, j9 < (NX5_givenUnder_6 th p2 p3 μ) → Pb_X5_givenUnder_6 th p2 p3 μ j9 (fo j9 (g_X5_givenUnder_6 th p2 p3 μ) 0)) ∧ (((μ 3 8) ≤ (nI (NX5_givenUnder_6 th p2 p3 μ)) → True) ∧ ((nI (NX5_givenUnder_6 th p2 p3 μ)) < (μ 3 8) → False)))
set_option maxRecDepth 20000 in
set_option maxHeartbeats 2000000 in
theorem ok_X5_givenUnder {G : SG} (hG : GK 57 G) {th : Nat} (hth : IsSt th) (p2 : Int32) (p3 : Int32) (μ : Mem) (hP : P_X5_givenUnder th p2 p3 μ) : OkF G mX5_givenUnder [.ref (ga G th), .ref (ga G 3), .int p2, .int p3] μ (some (.int (F_X5_givenUnder th p2 p3 μ))) μ := by
  refine okF_of hG rfl rfl (Nat.le_of_ble_eq_true rfl) ?_
  unfold P_X5_givenUnder at hP
  refine r_iconst 0 dX5_givenUnder_0 rfl ?_
  refine r_istore [(4, _), (0, _), (1, _), (2, _), (3, _)] dX5_givenUnder_1 (Nat.le_of_ble_eq_true rfl) rfl ?_
  refine r_iconst 0 dX5_givenUnder_3 rfl ?_
  refine r_istore [(5, _), (4, _), (0, _), (1, _), (2, _), (3, _)] dX5_givenUnder_4 (Nat.le_of_ble_eq_true rfl) rfl ?_
  have hs1 := hP.1
  replace hP := hP.2
  refine r_sub [2, 3, 4, 5, 1, 0] rfl ?_
  refine lp_X5_givenUnder_6 hG hth p2 p3 μ 0 ((NX5_givenUnder_6 th p2 p3 μ)) (SX5_givenUnder_6 th p2 p3 μ) rfl hs1 ?_
  refine r_iload dX5_givenUnder_6 5 rfl ?_
  refine r_aload_n dX5_givenUnder_8 1 rfl ?_
  refine r_getI fX5_28 (hG.lt (by decide)) sh3 fs3_8 dX5_givenUnder_9 ?_
  refine r_icmp_ge 51 dX5_givenUnder_12 (by decide) (fun c1 => ?_) (fun c1 => ?_)
  · replace hP := hP.1 c1
    refine r_iload dX5_givenUnder_51 4 rfl ?_
    exact r_ireturn _ dX5_givenUnder_53 rfl rfl ⟨congrArg (fun z => some (Value.int z)) (rfl), rfl⟩
  · replace hP := hP.2 c1
    refine r_iload dX5_givenUnder_15 4 rfl ?_
    refine r_iload_n dX5_givenUnder_17 2 rfl ?_
    refine r_iload dX5_givenUnder_18 5 rfl ?_
    refine r_ishr dX5_givenUnder_20 rfl ?_
    refine r_iconst 1 dX5_givenUnder_21 rfl ?_
    refine r_iand dX5_givenUnder_22 ?_
    refine r_join 42 [(0, .ref (ga G th)), (1, .ref (ga G 3)), (2, .int p2), (3, .int p3), (4, .int (SX5_givenUnder_6 th p2 p3 μ)), (5, .int (nI (NX5_givenUnder_6 th p2 p3 μ)))] [.int (VX5_givenUnder_1 th p2 p3 μ), .int (SX5_givenUnder_6 th p2 p3 μ)] μ ?_ (fun hJ => ?_)
    · refine r_iadd dX5_givenUnder_42 ?_
      refine r_istore [(4, _), (0, _), (1, _), (2, _), (3, _), (5, _)] dX5_givenUnder_43 (Nat.le_of_ble_eq_true rfl) rfl ?_
      refine r_iinc ((nI (NX5_givenUnder_6 th p2 p3 μ)) + 1) [(5, _), (4, _), (0, _), (1, _), (2, _), (3, _)] dX5_givenUnder_45 5 rfl rfl (Nat.le_of_ble_eq_true rfl) rfl ?_
      refine r_goto 6 dX5_givenUnder_48 (by decide) ?_
      exact hP.elim
    · refine r_if_ne 30 dX5_givenUnder_23 (by decide) (fun c2 => ?_) (fun c2 => ?_)
      · refine r_iload_n dX5_givenUnder_30 3 rfl ?_
        refine r_aload_n dX5_givenUnder_31 0 rfl ?_
        refine r_bipush 62 dX5_givenUnder_32 rfl ?_
        refine r_iload dX5_givenUnder_34 5 rfl ?_
        refine r_cvI (ok_X5_of hG hth 62 (nI (NX5_givenUnder_6 th p2 p3 μ)) μ) lX5_54 (hth.lt hG) hth.sh ⟨_, _, rfl⟩ dX5_givenUnder_36 (by decide) (Nat.le_of_ble_eq_true rfl) rfl (Nat.le_of_ble_eq_true rfl) ?_
        refine r_mmin lX5_67 (Nat.le_of_ble_eq_true rfl) dX5_givenUnder_39 ?_
        have e : (VX5_givenUnder_1 th p2 p3 μ) = (imin p3 (F_X5_of th 62 (nI (NX5_givenUnder_6 th p2 p3 μ)) μ)) := by unfold VX5_givenUnder_1; rw [if_pos c2]
        rw [e] at hJ
        exact r_sub [0, 1, 2, 3, 4, 5] rfl hJ
      · refine r_iconst 0 dX5_givenUnder_26 rfl ?_
        refine r_goto 42 dX5_givenUnder_27 (by decide) ?_
        have e : (VX5_givenUnder_1 th p2 p3 μ) = 0 := by unfold VX5_givenUnder_1; rw [if_neg (not_not_intro c2)]
        rw [e] at hJ
        exact r_sub [0, 1, 2, 3, 4, 5] rfl hJ
