/-! a text's gate, begin and end, both sides -/
theorem imin_le (a b : Int32) : imin a b ≤ b := by
  unfold imin
  split
  · exact Int32.le_refl _
  · rename_i h
    exact Int32.not_lt.mp h
def txB (μ : Mem) (p1 : Int32) (lim : Int32) : Bool := inR p1 0 (imin lim (μ 1 1))
theorem ntK (p1 lim : Int32) (μ : Mem) : K_X9_needText p1 lim μ = if txB μ p1 lim = true then 0 else 2 := nrK _ _ _ _
theorem ntM (p1 lim : Int32) (μ : Mem) : M_X9_needText p1 lim μ = if txB μ p1 lim = true then μ else M_needR 13 μ := nrM _ _ _ _
theorem tx_gate {μ : Mem} {p1 : Int32} {lim : Nat} (hT : TxR μ) (hl : lim ≤ 600) (h : txB μ p1 (nI lim) = true) : ∃ N, N ≤ lim ∧ N ≤ 600 ∧ p1 = nI N ∧ inR p1 0 (μ 1 1) = true ∧ p1 ≤ nI lim := by
  obtain ⟨-, ⟨n, hn, e⟩, -⟩ := hT
  unfold txB at h
  rw [e, imin_nI (by omega) (by omega)] at h
  obtain ⟨N, h1, h2⟩ := inR_n h (Int32.le_refl _) (nI_toInt (by omega))
  have : N ≤ lim ∧ N ≤ n := by omega
  refine ⟨N, this.1, by omega, h2, ?_, ?_⟩
  · rw [e, h2]
    exact decide_eq_true ⟨nI_pos' (by omega), nI_le this.2 (by omega)⟩
  · rw [h2]
    exact nI_le this.1 (by omega)
theorem tx_shut {μ : Mem} {p1 : Int32} {lim : Nat} (hT : TxR μ) (hl : lim ≤ 600) (h : txB μ p1 (nI lim) = false) : inR p1 0 (μ 1 1) = false ∨ ¬ p1 ≤ nI lim := by
  obtain ⟨-, ⟨n, hn, e⟩, -⟩ := hT
  unfold txB at h
  rw [e, imin_nI (by omega) (by omega)] at h
  cases q : inR p1 0 (μ 1 1) with
  | false => exact Or.inl rfl
  | true =>
    refine Or.inr fun z => ?_
    rw [e] at q
    obtain ⟨N, h1, h2⟩ := inR_n q (Int32.le_refl _) (nI_toInt (by omega))
    rw [h2, nI_leI (by omega) (by omega)] at z
    refine inR_f h ⟨?_, ?_⟩
    · rw [h2]
      exact nI_pos' (by omega)
    · rw [h2]
      exact nI_le (by omega) (by omega)
theorem sp_beg {μ : Mem} {N : Nat} (hN : N ≤ 600) : TxC (μ 2) N 0 (M_X8_begin (nI N) μ) ∧ M_X8_begin (nI N) μ 1 1 = 0 ∧ M_X8_begin (nI N) μ 1 6 = 0 ∧ M_X8_begin (nI N) μ 1 7 = -1 ∧ ∀ q, q ≠ 1 → M_X8_begin (nI N) μ q = μ q := by
  have e : M_X8_begin (nI N) μ = upm (upm (upm (upm (upm (upm (upm μ 1 2 (nI N)) 1 1 0) 1 3 0) 1 4 0) 1 5 0) 1 6 0) 1 7 (-1) := rfl
  rw [e]
  have o : ∀ q, q ≠ 1 → upm (upm (upm (upm (upm (upm (upm μ 1 2 (nI N)) 1 1 0) 1 3 0) 1 4 0) 1 5 0) 1 6 0) 1 7 (-1) q = μ q := fun q hq => by
    rw [upm_other hq, upm_other hq, upm_other hq, upm_other hq, upm_other hq, upm_other hq, upm_other hq]
  refine ⟨⟨hN, Nat.zero_le _, by simp [upm_rr], by simp [upm_rr, nI_0], fun k hk => by rw [o 2 (by decide)]⟩, by simp [upm_rr], by simp [upm_rr], by simp [upm_rr], o⟩
theorem sp_starts {t : Nat → Int32} {μ : Mem} {N : Nat} (hN : N ≤ 600) (hb : ∀ k, k < N → μ 58 k = t k) : P_X10_starts (nI N) μ ∧ TxM t N (skp t N 0) (M_X10_starts (nI N) μ) ∧ (M_X10_starts (nI N) μ 57 5 = 0 ∧ M_X10_starts (nI N) μ 57 6 = -1 ∧ M_X10_starts (nI N) μ 57 1 = 0 ∧ M_X10_starts (nI N) μ 57 7 = 0 ∧ M_X10_starts (nI N) μ 57 8 = 0) ∧ (∀ k, k ≠ 1 → k ≠ 2 → k ≠ 4 → k ≠ 5 → k ≠ 6 → k ≠ 7 → k ≠ 8 → M_X10_starts (nI N) μ 57 k = μ 57 k) ∧ ∀ q, q ≠ 57 → M_X10_starts (nI N) μ q = μ q := by
  have e : muX10_starts_7 (nI N) μ = upm (upm (upm (upm (upm (upm (upm μ 57 1 0) 57 2 (nI N)) 57 4 0) 57 5 0) 57 6 (-1)) 57 7 0) 57 8 0 := rfl
  have o : ∀ q, q ≠ 57 → muX10_starts_7 (nI N) μ q = μ q := fun q hq => by
    rw [e, upm_other hq, upm_other hq, upm_other hq, upm_other hq, upm_other hq, upm_other hq, upm_other hq]
  have h : TxM t N 0 (muX10_starts_7 (nI N) μ) := ⟨hN, Nat.zero_le _, by rw [e]; simp [upm_rr], by rw [e]; simp [upm_rr, nI_0], fun k hk => by rw [o 58 (by decide)]; exact hb k hk⟩
  obtain ⟨b1, b2, b3, b4⟩ := sp_blanks h
  refine ⟨b1, b2, ⟨?_, ?_, ?_, ?_, ?_⟩, fun k h1 h2 h4 h5 h6 h7 h8 => ?_, fun q hq => ?_⟩
  · show M_X10_blanks (muX10_starts_7 (nI N) μ) 57 5 = 0
    rw [b4 5 (by decide), e]
    simp [upm_rr]
  · show M_X10_blanks (muX10_starts_7 (nI N) μ) 57 6 = -1
    rw [b4 6 (by decide), e]
    simp [upm_rr]
  · show M_X10_blanks (muX10_starts_7 (nI N) μ) 57 1 = 0
    rw [b4 1 (by decide), e]
    simp [upm_rr]
  · show M_X10_blanks (muX10_starts_7 (nI N) μ) 57 7 = 0
    rw [b4 7 (by decide), e]
    simp [upm_rr]
  · show M_X10_blanks (muX10_starts_7 (nI N) μ) 57 8 = 0
    rw [b4 8 (by decide), e]
    simp [upm_rr]
  · show M_X10_blanks (muX10_starts_7 (nI N) μ) 57 k = _
    rw [b4 k h4, e, upm_rr, if_neg h8, upm_rr, if_neg h7, upm_rr, if_neg h6, upm_rr, if_neg h5, upm_rr, if_neg h4, upm_rr, if_neg h2, upm_rr, if_neg h1]
  · show M_X10_blanks (muX10_starts_7 (nI N) μ) q = _
    rw [b3 q hq, o q hq]
/-- bytes are no ends -/
def TxO (t : Nat → Int32) (N : Nat) : Prop := ∀ k, k < N → 0 ≤ t k ∧ t k ≤ 255
theorem byt_end {t : Nat → Int32} {N p : Nat} (ho : TxO t N) : byt t N p = -1 ↔ N ≤ p := by
  unfold byt
  constructor
  · intro h
    refine Nat.le_of_not_lt fun q => ?_
    rw [if_pos q] at h
    have := (ho p q).1
    rw [h] at this
    exact absurd this (by decide)
  · intro h
    rw [if_neg (by omega)]
theorem sp_isEnded {t : Nat → Int32} {N p : Nat} {μ : Mem} (ho : TxO t N) (h : TxC t N p μ) : P_X8_isEnded μ ∧ (F_X8_isEnded μ = if skp t N p < N then 0 else 1) ∧ TxC t N (skp t N p) (M_X8_isEnded μ) ∧ (∀ q, q ≠ 1 → M_X8_isEnded μ q = μ q) ∧ ∀ k, k ≠ 3 → M_X8_isEnded μ 1 k = μ 1 k := by
  obtain ⟨k1, k2, k3, k4, k5⟩ := sp_peek h
  refine ⟨k1, ?_, k3, k4, k5⟩
  unfold F_X8_isEnded
  rw [k2]
  by_cases q : skp t N p < N
  · rw [if_pos q, if_pos]
    intro z
    have := (byt_end ho).mp z
    omega
  · rw [if_neg q, if_neg (not_not_intro ((byt_end ho).mpr (by omega)))]
/-- rounds side by side: until one ends -/
theorem lock {R E : Nat → Prop} {B : Nat} (h0 : R 0) (hb : ¬ R (B + 1)) (hs : ∀ i, R i → E i ∨ R (i + 1)) : ∃ n, n ≤ B ∧ R n ∧ E n := by
  have h : ∀ k, (∃ n, n < k ∧ R n ∧ E n) ∨ R k := by
    intro k
    induction k with
    | zero => exact Or.inr h0
    | succ k ih =>
      rcases ih with ⟨n, h1, h2⟩ | h
      · exact Or.inl ⟨n, by omega, h2⟩
      · rcases hs k h with e | e
        · exact Or.inl ⟨k, by omega, h, e⟩
        · exact Or.inr e
  rcases h (B + 1) with ⟨n, h1, h2⟩ | h
  · exact ⟨n, by omega, h2⟩
  · exact absurd h hb
/-- a text by both sides: what the law's round asks, and what it leaves -/
theorem wrapT {E : EV} {L : LW} {μ : Mem} (K9 : Nat) (F9 : Int32) (M9 : Mem) (P9 : Prop) (F10 : Mem → Int32) (M10 : Mem → Mem) (P10 : Mem → Prop) (hI : Inv E L μ)
    (h : (K9 = 0 ∧ P9 ∧ (∀ ν, ν = upm M9 548 0 F9 → P10 ν ∧ F10 ν = F9 ∧ M10 ν 57 0 = 0 ∧ M10 ν 548 0 = F9 ∧ ∃ E' L', Inv E' L' (M10 ν))) ∨ QNo w1 μ K9 M9 P9 M10 P10 1) :
    (P9 ∧ (K9 ≠ 1 ∧ (P10 (M_out K9 F9 M9) ∧ ((M10 (M_out K9 F9 M9) 57 0 = (if K9 = 0 then 0 else 1) → (((if K9 = 0 then (0 : Int32) else 1) ≠ 0 → True) ∧ ((if K9 = 0 then (0 : Int32) else 1) = 0 → ((lg_cmp (M10 (M_out K9 F9 M9) 548 0).toInt64 (F10 (M_out K9 F9 M9)).toInt64 = 0 → True) ∧ (¬ lg_cmp (M10 (M_out K9 F9 M9) 548 0).toInt64 (F10 (M_out K9 F9 M9)).toInt64 = 0 → False))))) ∧ (¬ M10 (M_out K9 F9 M9) 57 0 = (if K9 = 0 then 0 else 1) → False))))) ∧ ∃ E' L', Inv E' L' (M10 (M_out K9 F9 M9)) := by
  rcases h with ⟨k0, p9, h⟩ | h
  · have e : M_out K9 F9 M9 = upm M9 548 0 F9 := by
      unfold M_out
      rw [if_pos k0]
    obtain ⟨a1, a2, a3, a4, a5⟩ := h (upm M9 548 0 F9) rfl
    rw [e]
    refine ⟨cloK p9 (by omega) a1 (by rw [a3, if_pos k0]) fun _ => by rw [a4, a2], a5⟩
  · have q := wrapI K9 F9 M9 P9 F10 M10 P10 hI (Or.inr ⟨1, rfl, h⟩)
    exact ⟨q.1, E, L, q.2⟩
