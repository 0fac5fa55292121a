/-! a sign, both sides -/
theorem TxC.mono {t : Nat → Int32} {N p : Nat} {μ μ' : Mem} (h : TxC t N p μ) (e1 : μ' 1 2 = μ 1 2) (e2 : μ' 1 3 = μ 1 3) (e3 : μ' 2 = μ 2) : TxC t N p μ' := by
  obtain ⟨h1, h2, h3, h4, h5⟩ := h
  exact ⟨h1, h2, by rw [e1, h3], by rw [e2, h4], fun k hk => by rw [e3, h5 k hk]⟩
theorem TxM.mono {t : Nat → Int32} {N p : Nat} {μ μ' : Mem} (h : TxM t N p μ) (e1 : μ' 57 2 = μ 57 2) (e2 : μ' 57 4 = μ 57 4) (e3 : μ' 58 = μ 58) : TxM t N p μ' := by
  obtain ⟨h1, h2, h3, h4, h5⟩ := h
  exact ⟨h1, h2, by rw [e1, h3], by rw [e2, h4], fun k hk => by rw [e3, h5 k hk]⟩
theorem byt_lt {t : Nat → Int32} {N p : Nat} {c : Int32} (h : byt t N p = c) (hc : c ≠ -1) : p < N := Nat.lt_of_not_le fun q => by
  unfold byt at h
  rw [if_neg (by omega)] at h
  exact hc h.symm
/-- the class takes a sign -/
theorem sp_takeSign {t : Nat → Int32} {N p : Nat} {μ : Mem} {c : Int32} (h : TxC t N p μ) (hc : c ≠ -1) : P_X8_takeSign c μ ∧
    (byt t N (skp t N p) = c → F_X8_takeSign c μ = 1 ∧ TxC t N (skp t N p + 1) (M_X8_takeSign c μ) ∧ ∀ k, k ≠ 3 → M_X8_takeSign c μ 1 k = μ 1 k) ∧
    (byt t N (skp t N p) ≠ c → F_X8_takeSign c μ = 0 ∧ M_X8_takeSign c μ 1 6 = 1 ∧ M_X8_takeSign c μ 1 7 = nI (skp t N p) ∧ ∀ k, k ≠ 3 → k ≠ 6 → k ≠ 7 → M_X8_takeSign c μ 1 k = μ 1 k) ∧ ∀ q, q ≠ 1 → M_X8_takeSign c μ q = μ q := by
  obtain ⟨k1, k2, k3, k4, k5⟩ := sp_peek h
  have k3' := k3
  obtain ⟨t1, t2, t3, t4, t5⟩ := k3
  refine ⟨k1, fun e => ?_, fun e => ?_, fun q hq => ?_⟩
  · have lt := byt_lt e hc
    have em : M_X8_takeSign c μ = upm (M_X8_peek μ) 1 3 (nI (skp t N p + 1)) := by
      unfold M_X8_takeSign muX8_takeSign_2 muX8_takeSign_1
      rw [k2, if_pos e, t4, nI_succ]
    refine ⟨?_, ⟨t1, by omega, ?_, ?_, fun k hk => ?_⟩, fun k hk => ?_⟩
    · unfold F_X8_takeSign
      rw [k2, if_pos e]
    · rw [em, upm_rr, if_neg (by decide), t3]
    · rw [em, upm_rr, if_pos rfl]
    · rw [em, upm_other (by decide), t5 k hk]
    · rw [em, upm_rr, if_neg hk, k5 k hk]
  · have em : M_X8_takeSign c μ = upm (upm (M_X8_peek μ) 1 6 1) 1 7 (nI (skp t N p)) := by
      unfold M_X8_takeSign muX8_takeSign_3 muX8_takeSign_1 M_X8_failHere muX8_failHere_2 muX8_failHere_1
      rw [k2, if_neg e, upm_rr, if_neg (by decide), t4]
    refine ⟨?_, ?_, ?_, fun k h1 h2 h3 => ?_⟩
    · unfold F_X8_takeSign F_X8_failHere
      rw [k2, if_neg e]
    · rw [em, upm_rr, if_neg (by decide), upm_rr, if_pos rfl]
    · rw [em, upm_rr, if_pos rfl]
    · rw [em, upm_rr, if_neg h3, upm_rr, if_neg h2, k5 k h1]
  · unfold M_X8_takeSign muX8_takeSign_2 muX8_takeSign_3 muX8_takeSign_1 M_X8_failHere muX8_failHere_2 muX8_failHere_1
    split
    · rw [upm_other hq, k4 q hq]
    · rw [upm_other hq, upm_other hq, k4 q hq]
/-- the reference takes a sign, no fault so far -/
theorem sp_sign {t : Nat → Int32} {N p : Nat} {μ : Mem} {c : Int32} (h : TxM t N p μ) (h0 : μ 57 5 = 0) (hc : c ≠ -1) : P_X10_sign c μ ∧
    (byt t N (skp t N p) = c → TxM t N (skp t N p + 1) (M_X10_sign c μ) ∧ ∀ k, k ≠ 4 → M_X10_sign c μ 57 k = μ 57 k) ∧
    (byt t N (skp t N p) ≠ c → M_X10_sign c μ 57 5 = 1 ∧ M_X10_sign c μ 57 6 = nI (skp t N p) ∧ ∀ k, k ≠ 4 → k ≠ 5 → k ≠ 6 → M_X10_sign c μ 57 k = μ 57 k) ∧ ∀ q, q ≠ 57 → M_X10_sign c μ q = μ q := by
  obtain ⟨k1, k2, k3, k4⟩ := sp_blanks h
  have k2' := k2
  obtain ⟨t1, t2, t3, t4, t5⟩ := k2
  have e4 : muX10_sign_1 c μ 57 4 = nI (skp t N p) := t4
  obtain ⟨b1, b2⟩ := sp_byteAt (k := skp t N p) k2' (by omega)
  have b2' : F_X10_byteAt (nI (skp t N p)) (muX10_sign_1 c μ) = byt t N (skp t N p) := b2
  have z5 : muX10_sign_1 c μ 57 5 = 0 := by
    show M_X10_blanks μ 57 5 = 0
    rw [k4 5 (by decide), h0]
  refine ⟨⟨fun _ => ⟨k1, ?_⟩, fun _ => trivial⟩, fun e => ?_, fun e => ?_, fun q hq => ?_⟩
  · rw [e4]
    exact b1
  · have lt := byt_lt e hc
    have em : M_X10_sign c μ = upm (M_X10_blanks μ) 57 4 (nI (skp t N p + 1)) := by
      unfold M_X10_sign muX10_sign_3
      rw [if_pos h0, e4, b2', if_neg (not_not_intro e), nI_succ]
      rfl
    refine ⟨⟨t1, by omega, ?_, ?_, fun k hk => ?_⟩, fun k hk => ?_⟩
    · rw [em, upm_rr, if_neg (by decide), t3]
    · rw [em, upm_rr, if_pos rfl]
    · rw [em, upm_other (by decide), t5 k hk]
    · rw [em, upm_rr, if_neg hk, k4 k hk]
  · have em : M_X10_sign c μ = upm (upm (M_X10_blanks μ) 57 5 1) 57 6 (nI (skp t N p)) := by
      unfold M_X10_sign muX10_sign_2 M_X10_wrong muX10_wrong_2 muX10_wrong_1
      rw [if_pos h0, e4, b2', if_pos e, if_neg (not_not_intro z5)]
      rfl
    refine ⟨?_, ?_, fun k h1 h2 h3 => ?_⟩
    · rw [em, upm_rr, if_neg (by decide), upm_rr, if_pos rfl]
    · rw [em, upm_rr, if_pos rfl]
    · rw [em, upm_rr, if_neg h3, upm_rr, if_neg h2, k4 k h1]
  · unfold M_X10_sign
    rw [if_pos h0]
    split
    · unfold muX10_sign_2 M_X10_wrong muX10_wrong_2 muX10_wrong_1
      split
      · exact k3 q hq
      · rw [upm_other hq, upm_other hq]
        exact k3 q hq
    · unfold muX10_sign_3
      rw [upm_other hq]
      exact k3 q hq
theorem sp_sign_tx {t : Nat → Int32} {N p : Nat} {μ : Mem} {c : Int32} (h : TxM t N p μ) (h0 : μ 57 5 = 0) (e : byt t N (skp t N p) ≠ c) : TxM t N (skp t N p) (M_X10_sign c μ) := by
  obtain ⟨k1, k2, k3, k4⟩ := sp_blanks h
  have e4 : muX10_sign_1 c μ 57 4 = nI (skp t N p) := k2.2.2.2.1
  obtain ⟨b1, b2⟩ := sp_byteAt (k := skp t N p) k2 (by have := k2.2.1; have := k2.1; omega)
  have b2' : F_X10_byteAt (nI (skp t N p)) (muX10_sign_1 c μ) = byt t N (skp t N p) := b2
  have z5 : muX10_sign_1 c μ 57 5 = 0 := by
    show M_X10_blanks μ 57 5 = 0
    rw [k4 5 (by decide), h0]
  have em : M_X10_sign c μ = upm (upm (M_X10_blanks μ) 57 5 1) 57 6 (nI (skp t N p)) := by
    unfold M_X10_sign muX10_sign_2 M_X10_wrong muX10_wrong_2 muX10_wrong_1
    rw [if_pos h0, e4, b2', if_pos e, if_neg (not_not_intro z5)]
    rfl
  exact k2.mono (by rw [em]; simp [upm_rr]) (by rw [em]; simp [upm_rr]) (by rw [em, upm_other (by decide), upm_other (by decide)])
