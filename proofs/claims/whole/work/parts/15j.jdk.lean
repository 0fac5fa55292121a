/-! JDK: String.length, charAt of a constant; Integer.bitCount -/
section JDK
variable {G : SG} {mt mk : MT} {pc : Nat} {lv : List (Nat × Value)} {st : List Value} {μ : Mem} {t t' : Nat} {Q Qk : PQ} {X Xk : PX}
theorem r_strCoder {k i : Nat} (hk : k < nStr) (hw : Cond.fieldLink (mN mt).cls i "java/lang/String" "coder" "B" ∈ BIG) (hd : decode (mB mt) pc = .ok (.getfield i, 3)) (kk : R G mt (pc + 3) lv (.int 0 :: st) μ t Q X) : R G mt pc lv (.ref (ga G (1000 + k)) :: st) μ t Q X := by
  intro p e Rm s m args below meth cd Ct St QQ H locs cells slots ls C E EX hW hS hc hs' hl
  exact vk_getf C.1 C.2.1 (C.env.2.1.1 k hk).2.1 hS C.own (C.big _ hw) (fun _ q => q) hd (kk p e Rm s m args below meth cd Ct St QQ H locs cells slots ls C E EX hW hS hc hs' hl)
theorem r_strValue {k i : Nat} (hk : k < nStr) (hw : Cond.fieldLink (mN mt).cls i "java/lang/String" "value" "[B" ∈ BIG) (hd : decode (mB mt) pc = .ok (.getfield i, 3)) (kk : R G mt (pc + 3) lv (.ref (ga G (2000 + k)) :: st) μ t Q X) : R G mt pc lv (.ref (ga G (1000 + k)) :: st) μ t Q X := by
  intro p e Rm s m args below meth cd Ct St QQ H locs cells slots ls C E EX hW hS hc hs' hl
  exact vk_getf C.1 C.2.1 (C.env.2.1.1 k hk).2.2.1 hS C.own (C.big _ hw) (fun _ q => q) hd (kk p e Rm s m args below meth cd Ct St QQ H locs cells slots ls C E EX hW hS hc hs' hl)
theorem r_strLen {k : Nat} (hk : k < nStr) (hd : decode (mB mt) pc = .ok (.arraylength, 1)) (kk : R G mt (pc + 1) lv (.int (nI (strLen.getD k 0)) :: st) μ t Q X) : R G mt pc lv (.ref (ga G (2000 + k)) :: st) μ t Q X := by
  intro p e Rm s m args below meth cd Ct St QQ H locs cells slots ls C E EX hW hS hc hs' hl
  exact va_tlen C.1 C.2.1 (C.env.2.1.1 k hk).2.2.2 hS rfl hd (kk p e Rm s m args below meth cd Ct St QQ H locs cells slots ls C E EX hW hS hc hs' hl)
theorem r_strByte {k : Nat} {i : Int32} (hk : k < nStr) (hi : vp_in i (strLen.getD k 0)) (hd : decode (mB mt) pc = .ok (.baload, 1)) (kk : R G mt (pc + 1) lv (.int ((strByt.getD k []).getD (ix i) 0) :: st) μ t Q X) : R G mt pc lv (.int i :: .ref (ga G (2000 + k)) :: st) μ t Q X := by
  intro p e Rm s m args below meth cd Ct St QQ H locs cells slots ls C E EX hW hS hc hs' hl
  exact va_tb C.1 C.2.1 (C.env.2.1.1 k hk).2.2.2 hS hi rfl hd (kk p e Rm s m args below meth cd Ct St QQ H locs cells slots ls C E EX hW hS hc hs' hl)
theorem r_compact {i : Nat} (hw : Cond.fieldLink (mN mt).cls i "java/lang/String" "COMPACT_STRINGS" "Z" ∈ BIG) (hd : decode (mB mt) pc = .ok (.getstatic i, 3)) (kk : R G mt (pc + 3) lv (.int 1 :: st) μ t Q X) : R G mt pc lv st μ t Q X := by
  intro p e Rm s m args below meth cd Ct St QQ H locs cells slots ls C E EX hW hS hc hs' hl
  exact va_gets C.1 C.2.1 C.env.2.2.2.2.1 hS C.own (C.big _ hw) (fun _ q => q) hd (kk p e Rm s m args below meth cd Ct St QQ H locs cells slots ls C E EX hW hS hc hs' hl)
theorem r_sioobe {i : Nat} (hw : Cond.fieldLink (mN mt).cls i "jdk/internal/util/Preconditions" "SIOOBE_FORMATTER" "Ljava/util/function/BiFunction;" ∈ BIG) (hd : decode (mB mt) pc = .ok (.getstatic i, 3)) (kk : ∀ v : Value, (v = .null ∨ ∃ q, v = .ref q) → R G mt (pc + 3) lv (v :: st) μ t Q X) : R G mt pc lv st μ t Q X := by
  intro p e Rm s m args below meth cd Ct St QQ H locs cells slots ls C E EX hW hS hc hs' hl
  rcases C.env.2.2.2.2.2.2.2.2.2.2 with hz | ⟨q, hz⟩
  · exact va_gets C.1 C.2.1 hz hS C.own (C.big _ hw) (fun _ q => q) hd (kk .null (Or.inl rfl) p e Rm s m args below meth cd Ct St QQ H locs cells slots ls C E EX hW hS hc hs' hl)
  · exact va_gets C.1 C.2.1 hz hS C.own (C.big _ hw) (fun _ q => q) hd (kk (.ref q) (Or.inr ⟨q, rfl⟩) p e Rm s m args below meth cd Ct St QQ H locs cells slots ls C E EX hW hS hc hs' hl)
theorem r_i2c {x v : Int32} (hd : decode (mB mt) pc = .ok (.i2c, 1)) (hv : (x.toUInt32 % 65536).toInt32 = v) (h : R G mt (pc + 1) lv (.int v :: st) μ t Q X) : R G mt pc lv (.int x :: st) μ t Q X := fun p e Rm s m args below meth c Ct St QQ H locs cells slots ls C E EX hW hS hc hs hl => lv_i2c C.1 C.2.1 hd hv (h p e Rm s m args below meth c Ct St QQ H locs cells slots ls C E EX hW hS hc hs hl)
theorem r_cvS {idx k : Nat} {x : Int32} {As rest stk : List Value} (hkn : k < nStr) (hk : OkF G mk (.ref (ga G (1000 + k)) :: As) μ (some (.int x)) μ) (hln : LNV (mN mt).cls idx mk As.length) (hcl : (mN mk).cls = "java/lang/String") (hd : decode (mB mt) pc = .ok (.invokevirtual idx, 3)) (hdep : mD mk + 1 ≤ mD mt) (hml : mL mk ≤ 21) (hstk : stk = As.reverse ++ .ref (ga G (1000 + k)) :: rest) (hcat : (rest.map fun v => v.category).sum ≤ 8)
    (kk : R G mt (pc + 3) lv (.int x :: rest) μ t Q X) : R G mt pc lv stk μ t Q X := by
  refine r_run (t' := 0) (Qk := fun w ν => w = some (.int x) ∧ ν = μ) (Xk := noX) (rest := rest) (idx := idx) (len := 3) (g0 := .invokevirtual idx) ?_ (Nat.zero_le t) (fun _ _ h => h.elim) (fun w ν h => by rw [h.1, h.2]; exact kk)
  intro p e Rm s m args below meth cd Ct St H locs cells slots ls C hW hS hc hs' hl
  refine ⟨(Value.ref (ga G (1000 + k)) :: As).toArray, ?_⟩
  obtain ⟨⟨hlink, hini, hd3⟩, hcode, hinst, hsel⟩ := hln
  have hrv : ∃ cellB : Cell, H[ga G (1000 + k)]? = some cellB ∧ cellB.vm.isStatics = false ∧ s.vm.findClass (mN mk).cls = some cellB.cls := by
    rw [hcl]
    have h9 := vk_recv (i := k) C.env.2.1 hkn hS
    exact h9
  have hpre : PreV s H (mN mk).cls (ga G (1000 + k)) (va_Pc (.ref (ga G (1000 + k)) :: As) (WU G μ)) As := ⟨WU.blind, hrv, fun U hU hWm => ⟨rfl, by rw [hU]; exact hW, va_K.moved hWm.alike C.k, by rw [hU]; exact (C.env.warm hWm).kept hS.1 hS.2.1⟩⟩
  have hroom : (rmM (mD mk) 0).frames + 1 ≤ Rm.frames ∧ 8 + (mL mk + 11) + (rmM (mD mk) 0).locals ≤ Rm.locals := by
    have h1 := C.2.2.2.2.2.2.2.1
    have h2 := C.2.2.2.2.2.2.2.2.1
    constructor
    · show mD mk + 8 + 1 ≤ Rm.frames; omega
    · show 8 + (mL mk + 11) + (40 * mD mk + 200) ≤ Rm.locals; omega
  have hf : cells + 0 ≤ Rm.cells ∧ slots + 6 * 0 ≤ Rm.slots := by
    have h1 := C.2.2.2.2.2.2.2.2.2.1
    have h2 := C.2.2.2.2.2.2.2.2.2.2.1
    constructor <;> omega
  rcases hlink with hlink | ⟨host, hlink⟩
  · exact vx_runV (As := As) (rest := rest) ⟨C.1, C.2.1, C.2.2.1, C.own, C.big⟩ hk ⟨callB_of As.length C.big (ws_good hcode) rfl rfl rfl (C.big _ hini) (C.big _ hlink) hd3 hroom, C.big _ hinst, C.big _ hsel⟩ hpre rfl rfl hl.1 hstk (lv_room hcat) hd hf
  · exact vx_runVN (As := As) (rest := rest) (host := host) ⟨C.1, C.2.1, C.2.2.1, C.own, C.big⟩ hk ⟨va_cnB As.length C.big (ws_good hcode) rfl rfl rfl (C.env.nest _ hlink) (C.big _ hini) hd3 hroom, C.big _ hinst, C.big _ hsel⟩ hpre rfl rfl hl.1 hstk (lv_room hcat) hd hf
end JDK
theorem ok_J0_coder {G : SG} {n : Nat} (g : GK n G) (k : Nat) (hk : k < nStr) (μ : Mem) : OkF G mJ0_coder_7d493 [.ref (ga G (1000 + k))] μ (some (.int 0)) μ := by
  refine okF_of g rfl (by decide) (Nat.le_of_ble_eq_true rfl) ?_
  refine r_compact (bc3 69 (by decide +kernel) (by decide +kernel)) dJ0_coder_7d493_0 ?_
  refine r_if_eq 13 dJ0_coder_7d493_3 (by decide) (fun q => absurd q (by decide)) (fun _ => ?_)
  refine r_aload_n dJ0_coder_7d493_6 0 rfl ?_
  refine r_strCoder hk (bc9 34 (by decide +kernel) (by decide +kernel)) dJ0_coder_7d493_7 ?_
  refine r_goto 14 dJ0_coder_7d493_10 (by decide) ?_
  exact r_ireturn _ dJ0_coder_7d493_14 rfl rfl ⟨rfl, rfl⟩
theorem ok_J0_isLatin1 {G : SG} {n : Nat} (g : GK n G) (k : Nat) (hk : k < nStr) (μ : Mem) : OkF G mJ0_isLatin1_aae02 [.ref (ga G (1000 + k))] μ (some (.int 1)) μ := by
  refine okF_of g rfl (by decide) (Nat.le_of_ble_eq_true rfl) ?_
  refine r_compact (bc3 69 (by decide +kernel) (by decide +kernel)) dJ0_isLatin1_aae02_0 ?_
  refine r_if_eq 17 dJ0_isLatin1_aae02_3 (by decide) (fun q => absurd q (by decide)) (fun _ => ?_)
  refine r_aload_n dJ0_isLatin1_aae02_6 0 rfl ?_
  refine r_strCoder hk (bc9 34 (by decide +kernel) (by decide +kernel)) dJ0_isLatin1_aae02_7 ?_
  refine r_if_ne 17 dJ0_isLatin1_aae02_10 (by decide) (fun q => absurd rfl q) (fun _ => ?_)
  refine r_iconst 1 dJ0_isLatin1_aae02_13 rfl ?_
  refine r_goto 18 dJ0_isLatin1_aae02_14 (by decide) ?_
  exact r_ireturn _ dJ0_isLatin1_aae02_18 rfl rfl ⟨rfl, rfl⟩
theorem strLen_lt : ∀ k, k < nStr → strLen.getD k 0 < 100 ∧ (strByt.getD k []).length = strLen.getD k 0 ∧ ∀ i, i < strLen.getD k 0 → ((((strByt.getD k []).getD i 0) &&& 255).toUInt32 % 65536).toInt32 = (strByt.getD k []).getD i 0 ∧ narrow .char (.int ((strByt.getD k []).getD i 0)) = .int ((strByt.getD k []).getD i 0) := by decide +kernel
theorem ok_J0_length {G : SG} {n : Nat} (g : GK n G) (k : Nat) (hk : k < nStr) (μ : Mem) : OkF G mJ0_length_8abf5 [.ref (ga G (1000 + k))] μ (some (.int (nI (strLen.getD k 0)))) μ := by
  refine okF_of g rfl (by decide) (Nat.le_of_ble_eq_true rfl) ?_
  refine r_aload_n dJ0_length_8abf5_0 0 rfl ?_
  refine r_strValue hk (bc9 33 (by decide +kernel) (by decide +kernel)) dJ0_length_8abf5_1 ?_
  refine r_strLen hk dJ0_length_8abf5_4 ?_
  refine r_aload_n dJ0_length_8abf5_5 0 rfl ?_
  refine r_cvS hk (ok_J0_coder g k hk μ) lJ0_335 rfl dJ0_length_8abf5_6 (by decide) (by decide) rfl (Nat.le_of_ble_eq_true rfl) ?_
  refine r_ishr dJ0_length_8abf5_9 rfl ?_
  refine r_ireturn _ dJ0_length_8abf5_10 rfl rfl ⟨congrArg (fun z => some (Value.int z)) ?_, rfl⟩
  exact Int32.shiftRight_zero
theorem ok_J3_checkIndex {G : SG} {n : Nat} (g : GK n G) (i m : Int32) (v : Value) (hv : v = .null ∨ ∃ q, v = .ref q) (h0 : 0 ≤ i) (h1 : i < m) (μ : Mem) : OkF G mJ3_checkIndex_8e157 [.int i, .int m, v] μ (some (.int i)) μ := by
  rcases hv with rfl | ⟨q, rfl⟩
  · refine okF_of g rfl (by decide) (Nat.le_of_ble_eq_true rfl) ?_
    refine r_iload_n dJ3_checkIndex_8e157_0 0 rfl ?_
    refine r_if_lt 9 dJ3_checkIndex_8e157_1 (by decide) (fun c => absurd c (i32_nl h0)) (fun _ => ?_)
    refine r_iload_n dJ3_checkIndex_8e157_4 0 rfl ?_
    refine r_iload_n dJ3_checkIndex_8e157_5 1 rfl ?_
    refine r_icmp_lt 16 dJ3_checkIndex_8e157_6 (by decide) (fun _ => ?_) (fun c => absurd h1 (i32_nl c))
    refine r_iload_n dJ3_checkIndex_8e157_16 0 rfl ?_
    exact r_ireturn _ dJ3_checkIndex_8e157_17 rfl rfl ⟨rfl, rfl⟩
  · refine okF_of g rfl (by decide) (Nat.le_of_ble_eq_true rfl) ?_
    refine r_iload_n dJ3_checkIndex_8e157_0 0 rfl ?_
    refine r_if_lt 9 dJ3_checkIndex_8e157_1 (by decide) (fun c => absurd c (i32_nl h0)) (fun _ => ?_)
    refine r_iload_n dJ3_checkIndex_8e157_4 0 rfl ?_
    refine r_iload_n dJ3_checkIndex_8e157_5 1 rfl ?_
    refine r_icmp_lt 16 dJ3_checkIndex_8e157_6 (by decide) (fun _ => ?_) (fun c => absurd h1 (i32_nl c))
    refine r_iload_n dJ3_checkIndex_8e157_16 0 rfl ?_
    exact r_ireturn _ dJ3_checkIndex_8e157_17 rfl rfl ⟨rfl, rfl⟩
theorem ok_J0_checkIndex {G : SG} {n : Nat} (g : GK n G) (i m : Int32) (h0 : 0 ≤ i) (h1 : i < m) (μ : Mem) : OkF G mJ0_checkIndex_df160 [.int i, .int m] μ none μ := by
  refine okF_of g rfl (by decide) (Nat.le_of_ble_eq_true rfl) ?_
  refine r_iload_n dJ0_checkIndex_df160_0 0 rfl ?_
  refine r_iload_n dJ0_checkIndex_df160_1 1 rfl ?_
  refine r_sioobe (bc3 85 (by decide +kernel) (by decide +kernel)) dJ0_checkIndex_df160_2 (fun v hv => ?_)
  have hc : v.category = 1 := by rcases hv with rfl | ⟨q, rfl⟩ <;> rfl
  refine r_csI (ok_J3_checkIndex g i m v hv h0 h1 μ) lJ0_1059 dJ0_checkIndex_df160_5 (by decide) (by decide) rfl (Nat.le_of_ble_eq_true rfl) ?_
  refine r_pop dJ0_checkIndex_df160_8 rfl ?_
  exact r_return dJ0_checkIndex_df160_9 rfl ⟨rfl, rfl⟩
theorem ok_J1_charAt {G : SG} {n : Nat} (g : GK n G) (k : Nat) (hk : k < nStr) (i : Int32) (hi : vp_in i (strLen.getD k 0)) (μ : Mem) : OkF G mJ1_charAt_3b067 [.ref (ga G (2000 + k)), .int i] μ (some (.int ((strByt.getD k []).getD (ix i) 0))) μ := by
  obtain ⟨s1, s2, s3⟩ := strLen_lt k hk
  obtain ⟨s4, s5⟩ := s3 (ix i) (vp_ix hi)
  have hi0 : 0 ≤ i := i32_nlt (fun q => hi (Or.inl q))
  have hi1 : i < nI (strLen.getD k 0) := by
    have e1 := vp_ix hi
    have e0 := Int32.le_iff_toInt_le.mp hi0
    rw [Int32.toInt_zero] at e0
    rw [Int32.lt_iff_toInt_lt, nI_toInt (by omega)]
    unfold ix Int32.toNatClampNeg at e1
    omega
  refine okF_of g rfl (by decide) (Nat.le_of_ble_eq_true rfl) ?_
  refine r_iload_n dJ1_charAt_3b067_0 1 rfl ?_
  refine r_aload_n dJ1_charAt_3b067_1 0 rfl ?_
  refine r_strLen hk dJ1_charAt_3b067_2 ?_
  refine r_csV (ok_J0_checkIndex g i (nI (strLen.getD k 0)) hi0 hi1 μ) lJ1_9 dJ1_charAt_3b067_3 (by decide) (by decide) rfl (Nat.le_of_ble_eq_true rfl) ?_
  refine r_aload_n dJ1_charAt_3b067_6 0 rfl ?_
  refine r_iload_n dJ1_charAt_3b067_7 1 rfl ?_
  refine r_strByte hk hi dJ1_charAt_3b067_8 ?_
  refine r_sipush 255 dJ1_charAt_3b067_9 rfl ?_
  refine r_iand dJ1_charAt_3b067_12 ?_
  refine r_i2c dJ1_charAt_3b067_13 s4 ?_
  exact r_ireturn _ dJ1_charAt_3b067_14 rfl s5 ⟨rfl, rfl⟩
theorem ok_J0_charAt {G : SG} {n : Nat} (g : GK n G) (k : Nat) (hk : k < nStr) (i : Int32) (hi : vp_in i (strLen.getD k 0)) (μ : Mem) : OkF G mJ0_charAt_5068e [.ref (ga G (1000 + k)), .int i] μ (some (.int ((strByt.getD k []).getD (ix i) 0))) μ := by
  obtain ⟨s1, s2, s3⟩ := strLen_lt k hk
  refine okF_of g rfl (by decide) (Nat.le_of_ble_eq_true rfl) ?_
  refine r_aload_n dJ0_charAt_5068e_0 0 rfl ?_
  refine r_cvS hk (ok_J0_isLatin1 g k hk μ) lJ0_492 rfl dJ0_charAt_5068e_1 (by decide) (by decide) rfl (Nat.le_of_ble_eq_true rfl) ?_
  refine r_if_eq 16 dJ0_charAt_5068e_4 (by decide) (fun q => absurd q (by decide)) (fun _ => ?_)
  refine r_aload_n dJ0_charAt_5068e_7 0 rfl ?_
  refine r_strValue hk (bc9 33 (by decide +kernel) (by decide +kernel)) dJ0_charAt_5068e_8 ?_
  refine r_iload_n dJ0_charAt_5068e_11 1 rfl ?_
  refine r_csI (ok_J1_charAt g k hk i hi μ) lJ0_495 dJ0_charAt_5068e_12 (by decide) (by decide) rfl (Nat.le_of_ble_eq_true rfl) ?_
  exact r_ireturn _ dJ0_charAt_5068e_15 rfl (s3 (ix i) (vp_ix hi)).2 ⟨rfl, rfl⟩
def ushr (x y : Int32) : Int32 := (x.toUInt32 >>> (y.toUInt32 &&& Int32.toUInt32 31)).toInt32
theorem r_iushr {G : SG} {mt : MT} {pc : Nat} {lv : List (Nat × Value)} {st : List Value} {μ : Mem} {t : Nat} {Q : PQ} {X : PX} {x y v : Int32} (hd : decode (mB mt) pc = .ok (.iushr, 1)) (hv : (x.toUInt32 >>> (y.toUInt32 &&& Int32.toUInt32 31)).toInt32 = v) (h : R G mt (pc + 1) lv (.int v :: st) μ t Q X) : R G mt pc lv (.int y :: .int x :: st) μ t Q X := fun p e Rm s m args below meth c Ct St QQ H locs cells slots ls C E EX hW hS hc hs hl => lv_iushr C.1 C.2.1 hd hv (h p e Rm s m args below meth c Ct St QQ H locs cells slots ls C E EX hW hS hc hs hl)
