/-! refusals, both sides -/
def inR (x lo hi : Int32) : Bool := decide (lo ≤ x ∧ x ≤ hi)
theorem inR_t {x lo hi : Int32} (h : inR x lo hi = true) : lo ≤ x ∧ x ≤ hi := of_decide_eq_true h
theorem inR_f {x lo hi : Int32} (h : inR x lo hi = false) : ¬ (lo ≤ x ∧ x ≤ hi) := of_decide_eq_false h
theorem inR_n {x lo hi : Int32} {n : Nat} (h : inR x lo hi = true) (h0 : 0 ≤ lo) (hn : hi.toInt = n) : ∃ j : Nat, j ≤ n ∧ x = nI j := by
  obtain ⟨h1, h2⟩ := inR_t h
  exact nI_of2 hn (Int32.not_lt.mpr (Int32.le_trans h0 h1)) h2
theorem nrK (x lo hi : Int32) (μ : Mem) : K_X9_needRange x lo hi μ = if inR x lo hi = true then 0 else 2 := by
  unfold K_X9_needRange
  cases h : inR x lo hi with
  | true =>
    obtain ⟨h1, h2⟩ := inR_t h
    rw [if_neg (Int32.not_lt.mpr h1), if_pos h2, if_pos rfl]
  | false =>
    have := inR_f h
    rw [if_neg (show ¬ false = true by decide)]
    by_cases h1 : x < lo
    · rw [if_pos h1]
    · rw [if_neg h1, if_neg]
      exact fun q => this ⟨Int32.not_lt.mp h1, q⟩
theorem nrM (x lo hi : Int32) (μ : Mem) : M_X9_needRange x lo hi μ = if inR x lo hi = true then μ else M_needR 13 μ := by
  unfold M_X9_needRange
  cases h : inR x lo hi with
  | true =>
    obtain ⟨h1, h2⟩ := inR_t h
    rw [if_neg (Int32.not_lt.mpr h1), if_pos h2, if_pos rfl]
  | false =>
    have := inR_f h
    rw [if_neg (show ¬ false = true by decide)]
    by_cases h1 : x < lo
    · rw [if_pos h1]
    · rw [if_neg h1, if_neg]
      exact fun q => this ⟨Int32.not_lt.mp h1, q⟩
theorem isIn_eq (x lo hi : Int32) (μ : Mem) : F_X10_isIn x lo hi μ = if inR x lo hi = true then 1 else 0 := by
  unfold F_X10_isIn
  cases h : inR x lo hi with
  | true =>
    obtain ⟨h1, h2⟩ := inR_t h
    rw [if_neg (Int32.not_lt.mpr h1), if_neg (Int32.not_lt.mpr h2), if_pos rfl]
  | false =>
    have := inR_f h
    rw [if_neg (show ¬ false = true by decide)]
    by_cases h1 : x < lo
    · rw [if_pos h1]
    · rw [if_neg h1, if_pos]
      exact Int32.not_le.mp fun q => this ⟨Int32.not_lt.mp h1, q⟩
theorem lt_le1 {x : Int32} {n : Nat} (hn : n < 2 ^ 31) (h0 : 0 ≤ x) : x < nI n ↔ x ≤ nI n - 1 := by
  cases n with
  | zero =>
    have e : nI 0 - 1 = -1 := by decide
    rw [e, nI_0]
    constructor <;> intro h <;> grind
  | succ n =>
    rw [nI_pred]
    obtain ⟨j, hj, rfl⟩ := nI_of (Int32.not_lt.mpr h0)
    rw [nI_ltI hj hn, nI_leI hj (by omega)]
    omega
theorem neK {x : Int32} {n : Nat} (μ : Mem) (hn : n < 2 ^ 31) : K_X9_needElement x (nI n) μ = if inR x 0 (nI n - 1) = true then 0 else 1 := by
  unfold K_X9_needElement
  cases h : inR x 0 (nI n - 1) with
  | true =>
    obtain ⟨h1, h2⟩ := inR_t h
    rw [if_neg (Int32.not_lt.mpr h1), if_pos ((lt_le1 hn h1).mpr h2), if_pos rfl]
  | false =>
    have := inR_f h
    rw [if_neg (show ¬ false = true by decide)]
    by_cases h1 : x < 0
    · rw [if_pos h1]
    · rw [if_neg h1, if_neg]
      exact fun q => this ⟨Int32.not_lt.mp h1, (lt_le1 hn (Int32.not_lt.mp h1)).mp q⟩
theorem neM {x : Int32} {n : Nat} (μ : Mem) (hn : n < 2 ^ 31) : M_X9_needElement x (nI n) μ = if inR x 0 (nI n - 1) = true then μ else M_needR 12 μ := by
  unfold M_X9_needElement
  cases h : inR x 0 (nI n - 1) with
  | true =>
    obtain ⟨h1, h2⟩ := inR_t h
    rw [if_neg (Int32.not_lt.mpr h1), if_pos ((lt_le1 hn h1).mpr h2), if_pos rfl]
  | false =>
    have := inR_f h
    rw [if_neg (show ¬ false = true by decide)]
    by_cases h1 : x < 0
    · rw [if_pos h1]
    · rw [if_neg h1, if_neg]
      exact fun q => this ⟨Int32.not_lt.mp h1, (lt_le1 hn (Int32.not_lt.mp h1)).mp q⟩
theorem inR_el {x : Int32} {n : Nat} (hn : n < 2 ^ 31) (h : inR x 0 (nI n - 1) = true) : ∃ j, j < n ∧ x = nI j := by
  obtain ⟨h1, h2⟩ := inR_t h
  obtain ⟨j, hj, rfl⟩ := nI_of (Int32.not_lt.mpr h1)
  exact ⟨j, (nI_ltI hj hn).mp ((lt_le1 hn h1).mpr h2), rfl⟩
/-- the reference's thrown and refused behind a refusal -/
def thr (w : Int32) (j : Nat) (μ : Mem) : Mem := upm (upm (upm μ 57 0 0) 57 0 w) 59 j (μ 59 j + 1)
theorem badP {c w b : Int32} {μ : Mem} (hb : b = 0 ∨ b = 1) : P_X10_bad c w b μ := by
  unfold P_X10_bad
  have v : vp_in b 2 := by
    rcases hb with rfl | rfl
    · exact vp_of (by decide) (by decide)
    · exact vp_of (by decide) (by decide)
  exact ⟨fun _ => trivial, fun _ => ⟨fun _ => trivial, fun _ => ⟨v, v⟩⟩⟩
theorem bad0M {w b : Int32} {μ : Mem} : M_X10_bad 0 w b μ = μ := by
  unfold M_X10_bad VX10_bad_3
  rw [if_pos rfl]
theorem bad0F {w b : Int32} {μ : Mem} (h : μ 57 0 = 0) : F_X10_bad 0 w b μ = 0 := by
  unfold F_X10_bad VX10_bad_3
  rw [if_pos rfl, if_pos h]
theorem bad1M {w b : Int32} {μ : Mem} : M_X10_bad 1 w b (upm μ 57 0 0) = thr w (ix b) μ := by
  unfold M_X10_bad VX10_bad_3
  rw [if_neg (by decide), upm_rr, if_pos rfl, if_neg (not_not_intro rfl)]
  unfold muX10_bad_2 muX10_bad_1 thr
  rw [upm_other (by decide), upm_other (by decide)]
theorem bad1F {w b : Int32} {μ : Mem} (hw : w ≠ 0) : F_X10_bad 1 w b (upm μ 57 0 0) = 1 := by
  have h : VX10_bad_3 1 w b (upm μ 57 0 0) = thr w (ix b) μ := bad1M
  unfold F_X10_bad
  rw [h]
  unfold thr
  rw [upm_other (by decide), upm_rr, if_pos rfl, if_neg hw]
/-! the two sides, side by side -/
def TxR (μ : Mem) : Prop := μ 57 1 = μ 1 1 ∧ (∃ n, n ≤ 600 ∧ μ 1 1 = nI n) ∧ (∀ k, k < 600 → μ 58 k = μ 2 k ∧ 0 ≤ μ 2 k ∧ μ 2 k ≤ 255) ∧ μ 57 3 = μ 1 7
def MkR (E : EV) (μ : Mem) : Prop := ∃ n, n ≤ 6 ∧ μ 37 2 = nI n ∧ μ 57 38 = nI n ∧ (∀ k, k < n → ∃ h, h < eH E ∧ μ (425 + k) 0 = nI h ∧ μ (425 + k) 1 = μ 38 h ∧ 0 ≤ μ 38 h ∧ μ 38 h ≤ 60) ∧ (∀ h, h < 6 → μ 38 h ≠ -1 → ∃ k, k < n ∧ μ (425 + k) 0 = nI h)
/-- a row of the class, the same by the reference -/
def RwR (E : EV) (c r : Nat → Int32) : Prop := RC0 E c r ∧ RCP c r ∧ RowOK E 500 r
def StR (E : EV) (μ : Mem) : Prop := RwR E (μ 44) (μ 521)
def PsR (E : EV) (μ : Mem) : Prop := ∃ w m, w ≤ 16 ∧ m ≤ 3 ∧ μ 48 2 = nI w ∧ μ 57 39 = nI w ∧ μ 48 3 = nI m ∧ μ 57 41 = nI m ∧ (∀ i, i < w → RwR E (fun k => μ 49 (69 * i + k)) (μ (527 + i))) ∧
  (∀ j, j < m → ∃ v, v ≤ 16 ∧ μ 50 (1174 * j) = nI v ∧ μ (544 + j) 0 = nI v ∧ RwR E (fun k => μ 50 (1174 * j + 1 + k)) (fun k => μ (544 + j) (1 + k)) ∧ ∀ i, i < v → RwR E (fun k => μ 50 (1174 * j + 70 + (69 * i + k))) (fun k => μ (544 + j) (64 + (63 * i + k))))
def CnR (μ : Mem) : Prop := μ 0 11 = μ 57 40 ∧ μ 0 12 = μ 59 0 ∧ μ 0 13 = μ 59 1
def Inv (E : EV) (L : LW) (μ : Mem) : Prop := EvOK E ∧ EvM E μ ∧ EvC E μ ∧ LwOK L ∧ LwC L μ ∧ LwR L μ ∧ TxR μ ∧ MkR E μ ∧ PsR E μ ∧ StR E μ ∧ CnR μ ∧ μ 57 43 = 0 ∧ μ 57 44 = eR E
/-- what questions change: nothing that lasts -/
def KQ (μ μ' : Mem) : Prop := (∀ h, h ≠ 24 → h ≠ 25 → h ≠ 39 → (h < 45 ∨ 47 < h) → (h < 53 ∨ 56 < h) → h ≠ 57 → h ≠ 438 → h ≠ 439 → (h < 522 ∨ 525 < h) → h ≠ 547 → h ≠ 548 → μ' h = μ h) ∧ ∀ k, k ≠ 0 → k ≠ 48 → k ≠ 49 → μ' 57 k = μ 57 k
theorem KQ.rfl (μ : Mem) : KQ μ μ := ⟨fun _ _ _ _ _ _ _ _ _ _ _ _ => Eq.refl _, fun _ _ _ _ => Eq.refl _⟩
theorem KQ.trans {a b c : Mem} (h1 : KQ a b) (h2 : KQ b c) : KQ a c := by
  refine ⟨fun h q1 q2 q3 q4 q5 q6 q7 q8 q9 q10 q11 => ?_, fun k q1 q2 q3 => ?_⟩
  · rw [h2.1 h q1 q2 q3 q4 q5 q6 q7 q8 q9 q10 q11, h1.1 h q1 q2 q3 q4 q5 q6 q7 q8 q9 q10 q11]
  · rw [h2.2 k q1 q2 q3, h1.2 k q1 q2 q3]
theorem Inv.keep {E : EV} {L : LW} {μ μ' : Mem} (hI : Inv E L μ) (hk : KQ μ μ') : Inv E L μ' := by
  obtain ⟨hO, hM, hC, hL, hLC, hLR, hT, hMk, hP, hS, hN, h43, h44⟩ := hI
  have o : ∀ h, (h ≤ 23 ∨ (26 ≤ h ∧ h ≤ 38) ∨ (40 ≤ h ∧ h ≤ 44) ∨ (48 ≤ h ∧ h ≤ 52) ∨ (58 ≤ h ∧ h ≤ 437) ∨ (440 ≤ h ∧ h ≤ 521) ∨ (526 ≤ h ∧ h ≤ 546)) → μ' h = μ h := fun h q => hk.1 h (by omega) (by omega) (by omega) (by omega) (by omega) (by omega) (by omega) (by omega) (by omega) (by omega) (by omega)
  have o57 : ∀ k, k ≠ 0 → k ≠ 48 → k ≠ 49 → μ' 57 k = μ 57 k := hk.2
  refine ⟨hO, hM.mono (fun h q => o h (by omega)) hO, hC.mono fun h q => o h (by omega), hL, hLC.mono (by rw [o 21 (by omega)]) (o 22 (by omega)) (o 23 (by omega)), hLR.mono hL (o57 21 (by omega) (by omega) (by omega)) fun q _ _ => o q (by omega), ?_, ?_, ?_, ?_, ?_, ?_, ?_⟩
  · unfold TxR at hT ⊢
    rw [o57 1 (by omega) (by omega) (by omega), o57 3 (by omega) (by omega) (by omega), o 1 (by omega), o 58 (by omega), o 2 (by omega)]
    exact hT
  · obtain ⟨n, n1, n2, n3, n4, n5⟩ := hMk
    refine ⟨n, n1, by rw [o 37 (by omega)]; exact n2, by rw [o57 38 (by omega) (by omega) (by omega)]; exact n3, fun k hk => ?_, fun h hh hne => ?_⟩
    · rw [o (425 + k) (by omega), o 38 (by omega)]
      exact n4 k hk
    · rw [o 38 (by omega)] at hne
      obtain ⟨k, hk, e⟩ := n5 h hh hne
      exact ⟨k, hk, by rw [o (425 + k) (by omega)]; exact e⟩
  · obtain ⟨w, m, p1, p2, p3, p4, p5, p6, p7, p8⟩ := hP
    refine ⟨w, m, p1, p2, by rw [o 48 (by omega)]; exact p3, by rw [o57 39 (by omega) (by omega) (by omega)]; exact p4, by rw [o 48 (by omega)]; exact p5, by rw [o57 41 (by omega) (by omega) (by omega)]; exact p6, fun i hi => ?_, fun j hj => ?_⟩
    · rw [o 49 (by omega), o (527 + i) (by omega)]
      exact p7 i hi
    · rw [o 50 (by omega), o (544 + j) (by omega)]
      exact p8 j hj
  · unfold StR at hS ⊢
    rw [o 44 (by omega), o 521 (by omega)]
    exact hS
  · unfold CnR at hN ⊢
    rw [o 0 (by omega), o57 40 (by omega) (by omega) (by omega), o 59 (by omega)]
    exact hN
  · rw [o57 43 (by omega) (by omega) (by omega)]
    exact h43
  · rw [o57 44 (by omega) (by omega) (by omega)]
    exact h44
theorem Inv.cnt {E : EV} {L : LW} {μ μ' : Mem} (hI : Inv E L μ) (o : ∀ h, h ≠ 0 → h ≠ 59 → μ' h = μ h) (h11 : μ' 0 11 = μ 0 11) (h12 : μ' 0 12 = μ' 59 0) (h13 : μ' 0 13 = μ' 59 1) : Inv E L μ' := by
  obtain ⟨hO, hM, hC, hL, hLC, hLR, hT, hMk, hP, hS, hN, h43, h44⟩ := hI
  refine ⟨hO, hM.mono (fun h q => o h (by omega) (by omega)) hO, hC.mono fun h q => o h (by omega) (by omega), hL, hLC.mono (by rw [o 21 (by omega) (by omega)]) (o 22 (by omega) (by omega)) (o 23 (by omega) (by omega)), hLR.mono hL (by rw [o 57 (by omega) (by omega)]) fun q _ _ => o q (by omega) (by omega), ?_, ?_, ?_, ?_, ?_, ?_, ?_⟩
  · unfold TxR at hT ⊢
    rw [o 57 (by omega) (by omega), o 1 (by omega) (by omega), o 58 (by omega) (by omega), o 2 (by omega) (by omega)]
    exact hT
  · obtain ⟨n, n1, n2, n3, n4, n5⟩ := hMk
    refine ⟨n, n1, by rw [o 37 (by omega) (by omega)]; exact n2, by rw [o 57 (by omega) (by omega)]; exact n3, fun k hk => ?_, fun h hh hne => ?_⟩
    · rw [o (425 + k) (by omega) (by omega), o 38 (by omega) (by omega)]
      exact n4 k hk
    · rw [o 38 (by omega) (by omega)] at hne
      obtain ⟨k, hk, e⟩ := n5 h hh hne
      exact ⟨k, hk, by rw [o (425 + k) (by omega) (by omega)]; exact e⟩
  · obtain ⟨w, m, p1, p2, p3, p4, p5, p6, p7, p8⟩ := hP
    refine ⟨w, m, p1, p2, by rw [o 48 (by omega) (by omega)]; exact p3, by rw [o 57 (by omega) (by omega)]; exact p4, by rw [o 48 (by omega) (by omega)]; exact p5, by rw [o 57 (by omega) (by omega)]; exact p6, fun i hi => ?_, fun j hj => ?_⟩
    · rw [o 49 (by omega) (by omega), o (527 + i) (by omega) (by omega)]
      exact p7 i hi
    · rw [o 50 (by omega) (by omega), o (544 + j) (by omega) (by omega)]
      exact p8 j hj
  · unfold StR at hS ⊢
    rw [o 44 (by omega) (by omega), o 521 (by omega) (by omega)]
    exact hS
  · unfold CnR at hN ⊢
    rw [h11, o 57 (by omega) (by omega)]
    exact ⟨hN.1, h12, h13⟩
  · rw [o 57 (by omega) (by omega)]
    exact h43
  · rw [o 57 (by omega) (by omega)]
    exact h44
theorem inv_thr {E : EV} {L : LW} {μ : Mem} (hI : Inv E L μ) {w : Int32} {j : Nat} (hj : j = 0 ∨ j = 1) : Inv E L (thr w j (M_needR (12 + j) μ)) := by
  have hc := hI.2.2.2.2.2.2.2.2.2.2.1
  have h1 : Inv E L (upm (M_needR (12 + j) μ) 59 j (μ 59 j + 1)) := by
    refine hI.cnt (fun h a b => ?_) ?_ ?_ ?_
    · unfold M_needR
      rw [upm_other b, upm_other a]
    · unfold M_needR
      rw [upm_other (by decide), upm_rr, if_neg (by omega)]
    · unfold M_needR
      rw [upm_other (by decide), upm_rr, upm_rr, upm_other (by decide)]
      rcases hj with rfl | rfl
      · rw [if_pos rfl, if_pos rfl, hc.2.1]
      · rw [if_neg (by omega), if_neg (by omega), hc.2.1]
    · unfold M_needR
      rw [upm_other (by decide), upm_rr, upm_rr, upm_other (by decide)]
      rcases hj with rfl | rfl
      · rw [if_neg (by omega), if_neg (by omega), hc.2.2]
      · rw [if_pos rfl, if_pos rfl, hc.2.2]
  refine h1.keep ⟨fun h q1 q2 q3 q4 q5 q6 q7 q8 q9 q10 q11 => ?_, fun k q1 q2 q3 => ?_⟩
  · unfold thr
    by_cases h59 : h = 59
    · subst h59
      rw [upm_row, upm_row, upm_other (show 59 ≠ 57 by decide), upm_other (show 59 ≠ 57 by decide)]
      unfold M_needR
      rw [upm_other (show 59 ≠ 0 by decide)]
    · rw [upm_other h59, upm_other h59, upm_other q6, upm_other q6]
  · unfold thr
    rw [upm_other (show 57 ≠ 59 by decide), upm_other (show 57 ≠ 59 by decide), upm_rr, if_neg q1, upm_rr, if_neg q1]
/-! what a round of the law asks of two answers -/
theorem lg_self (x : Int64) : lg_cmp x x = 0 := by
  unfold lg_cmp
  simp
theorem clo {P9 P10 : Prop} {T W : Int32} {x y : Int64} (h9 : P9) (h10 : P10) (hT : T = W) (hv : W = 0 → x = y) : P9 ∧ (P10 ∧ ((T = W → ((W ≠ 0 → True) ∧ (W = 0 → ((lg_cmp x y = 0 → True) ∧ (¬ lg_cmp x y = 0 → False))))) ∧ (¬ T = W → False))) :=
  ⟨h9, h10, fun _ => ⟨fun _ => trivial, fun q => ⟨fun _ => trivial, fun z => z (by rw [hv q]; exact lg_self y)⟩⟩, fun q => q hT⟩
theorem cloK {P9 PK P10 : Prop} {T W : Int32} {x y : Int64} (h9 : P9) (hK : PK) (h10 : P10) (hT : T = W) (hv : W = 0 → x = y) : P9 ∧ (PK ∧ (P10 ∧ ((T = W → ((W ≠ 0 → True) ∧ (W = 0 → ((lg_cmp x y = 0 → True) ∧ (¬ lg_cmp x y = 0 → False))))) ∧ (¬ T = W → False)))) :=
  ⟨h9, hK, h10, fun _ => ⟨fun _ => trivial, fun q => ⟨fun _ => trivial, fun z => z (by rw [hv q]; exact lg_self y)⟩⟩, fun q => q hT⟩
