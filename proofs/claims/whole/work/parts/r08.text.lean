/-! a text, both sides: the byte behind the blanks -/
def byt (t : Nat → Int32) (N p : Nat) : Int32 := if p < N then t p else -1
def skp (t : Nat → Int32) (N p : Nat) : Nat := p + fst 601 (fun j => !decide (byt t N (p + j) = 32))
theorem skp_ok {t : Nat → Int32} {N p : Nat} (hN : N ≤ 600) (hp : p ≤ N) : skp t N p ≤ N ∧ p ≤ skp t N p ∧ byt t N (skp t N p) ≠ 32 ∧ ∀ j, p ≤ j → j < skp t N p → byt t N j = 32 := by
  have e : byt t N (p + (N - p)) = -1 := by
    unfold byt
    rw [if_neg (by omega)]
  have h1 : fst 601 (fun j => !decide (byt t N (p + j) = 32)) ≤ N - p := fst_lt (by omega) (by rw [e]; rfl)
  have h2 := fst_hit (n := 601) (c := fun j => !decide (byt t N (p + j) = 32)) (by omega)
  refine ⟨by unfold skp; omega, by unfold skp; omega, fun q => ?_, fun j j1 j2 => ?_⟩
  · have h2' : (!decide (byt t N (skp t N p) = 32)) = true := h2
    rw [decide_eq_true q] at h2'
    cases h2'
  · have h3 := fst_min (n := 601) (c := fun j => !decide (byt t N (p + j) = 32)) (j := j - p) (by unfold skp at j2; omega)
    have h3' : (!decide (byt t N (p + (j - p)) = 32)) = false := h3
    rw [show p + (j - p) = j by omega] at h3'
    by_cases q : byt t N j = 32
    · exact q
    · rw [decide_eq_false q] at h3'
      cases h3'
theorem skp_stop {t : Nat → Int32} {N p : Nat} (h : byt t N p ≠ 32) : skp t N p = p := by
  unfold skp
  have : fst 601 (fun j => !decide (byt t N (p + j) = 32)) ≤ 0 := fst_lt (by omega) (by show (!decide (byt t N (p + 0) = 32)) = true; rw [Nat.add_zero, decide_eq_false h]; rfl)
  omega
theorem skp_skp {t : Nat → Int32} {N p : Nat} (hN : N ≤ 600) (hp : p ≤ N) : skp t N (skp t N p) = skp t N p := skp_stop (skp_ok hN hp).2.2.1
theorem nI_n0 {k : Nat} (h : k < 2 ^ 31) : ¬ nI k < 0 := Int32.not_lt.mpr ((nI_leI (a := 0) (by omega) h).mpr (Nat.zero_le _))
/-- the class stands at place p of a text -/
def TxC (t : Nat → Int32) (N p : Nat) (μ : Mem) : Prop := N ≤ 600 ∧ p ≤ N ∧ μ 1 2 = nI N ∧ μ 1 3 = nI p ∧ ∀ k, k < N → μ 2 k = t k
def TxM (t : Nat → Int32) (N p : Nat) (μ : Mem) : Prop := N ≤ 600 ∧ p ≤ N ∧ μ 57 2 = nI N ∧ μ 57 4 = nI p ∧ ∀ k, k < N → μ 58 k = t k
theorem sp_peek {t : Nat → Int32} {N p : Nat} {μ : Mem} (h : TxC t N p μ) : P_X8_peek μ ∧ F_X8_peek μ = byt t N (skp t N p) ∧ TxC t N (skp t N p) (M_X8_peek μ) ∧ (∀ q, q ≠ 1 → M_X8_peek μ q = μ q) ∧ ∀ k, k ≠ 3 → M_X8_peek μ 1 k = μ 1 k := by
  obtain ⟨h1, h2, h3, h4, h5⟩ := h
  have ei : imin (μ 1 2) 600 = nI N := by
    rw [h3, show (600 : Int32) = nI 600 from rfl, imin_nI (by omega) (by omega), Nat.min_eq_left h1]
  have st : ∀ j, fo j (g_X8_peek_13 (nI N)) μ 1 3 = nI (p + j) ∧ (∀ q, q ≠ 1 → fo j (g_X8_peek_13 (nI N)) μ q = μ q) ∧ ∀ k, k ≠ 3 → fo j (g_X8_peek_13 (nI N)) μ 1 k = μ 1 k := by
    intro j
    induction j with
    | zero => exact ⟨h4, fun _ _ => rfl, fun _ _ => rfl⟩
    | succ j ih =>
      obtain ⟨i1, i2, i3⟩ := ih
      have e : fo (j + 1) (g_X8_peek_13 (nI N)) μ = upm (fo j (g_X8_peek_13 (nI N)) μ) 1 3 (fo j (g_X8_peek_13 (nI N)) μ 1 3 + 1) := rfl
      rw [e, i1]
      exact ⟨by rw [upm_rr, if_pos rfl]; exact (nI_succ (p + j)).symm, fun q hq => by rw [upm_other hq, i2 q hq], fun k hk => by rw [upm_rr, if_neg hk, i3 k hk]⟩
  have hN : NX8_peek_13 μ = fst 601 (fun j => !decide (byt t N (p + j) = 32)) := by
    unfold NX8_peek_13
    rw [ei]
    refine fst_congr fun j hj => ?_
    obtain ⟨i1, i2, -⟩ := st j
    unfold Cb_X8_peek_13 byt
    rw [i1, i2 2 (by decide), nI_ix (by omega), if_neg (nI_n0 (by omega))]
    by_cases q : p + j < N
    · rw [if_neg (nI_ge q (by omega)), if_pos q, h5 _ q]
      by_cases y : t (p + j) = 32
      · rw [if_neg (not_not_intro y), decide_eq_true y]
      · rw [if_pos y, decide_eq_false y]
    · rw [if_pos (nI_le (by omega) (by omega)), if_neg q, decide_eq_false (by decide)]
  obtain ⟨k1, k2, k3, k4⟩ := skp_ok (t := t) h1 h2
  have eS : SX8_peek_13 μ = fo (fst 601 (fun j => !decide (byt t N (p + j) = 32))) (g_X8_peek_13 (nI N)) μ := by
    unfold SX8_peek_13
    rw [hN, ei]
  obtain ⟨s1, s2, s3⟩ := st (fst 601 (fun j => !decide (byt t N (p + j) = 32)))
  rw [← eS] at s1 s2 s3
  have s1' : SX8_peek_13 μ 1 3 = nI (skp t N p) := s1
  have tx : TxC t N (skp t N p) (M_X8_peek μ) := ⟨h1, k1, by show SX8_peek_13 μ 1 2 = _; rw [s3 2 (by decide), h3], s1', fun k hk => by show SX8_peek_13 μ 2 k = _; rw [s2 2 (by decide), h5 k hk]⟩
  have v : skp t N p < N → vp_in (nI (skp t N p)) 600 := fun q => vp_in_nI (by omega) (by omega)
  refine ⟨?_, ?_, tx, s2, s3⟩
  · unfold P_X8_peek
    rw [hN, s1', ei]
    have ns : ¬ nI (skp t N p) < 0 := nI_n0 (by omega)
    refine ⟨fun j hj => ?_, ?_⟩
    · obtain ⟨i1, i2, -⟩ := st j
      have b := k4 (p + j) (by omega) (by unfold skp; omega)
      have jl : p + j < N := Nat.lt_of_not_le fun q => by
        unfold byt at b
        rw [if_neg (by omega)] at b
        exact absurd b (by decide)
      unfold byt at b
      rw [if_pos jl] at b
      unfold Pb_X8_peek_13
      rw [i1, i2 2 (by decide), nI_ix (by omega), h5 _ jl, b]
      exact ⟨fun q => absurd q (nI_n0 (by omega)), fun _ => ⟨fun q => absurd q (nI_ge jl (by omega)), fun _ => ⟨vp_in_nI (by omega) (by omega), fun q => absurd rfl q, fun _ => trivial⟩⟩⟩
    · by_cases q : skp t N p < N
      · have b : SX8_peek_13 μ 2 (ix (nI (skp t N p))) ≠ 32 := by
          rw [nI_ix (by omega), s2 2 (by decide), h5 _ q]
          unfold byt at k3
          rw [if_pos q] at k3
          exact k3
        simp [ns, v q, b]
      · have le : nI N ≤ nI (skp t N p) := nI_le (by omega) (by omega)
        have nl : ¬ nI (skp t N p) < nI N := Int32.not_lt.mpr le
        simp [ns, le, nl]
  · unfold F_X8_peek byt
    rw [s1', ei, if_neg (nI_n0 (by omega))]
    by_cases q : skp t N p < N
    · rw [if_neg (nI_ge q (by omega)), if_pos q, nI_ix (by omega), s2 2 (by decide), h5 _ q]
    · rw [if_pos (nI_le (by omega) (by omega)), if_neg q]
theorem sp_byteAt {t : Nat → Int32} {N p k : Nat} {μ : Mem} (h : TxM t N p μ) (hk : k < 2 ^ 31) : P_X10_byteAt (nI k) μ ∧ F_X10_byteAt (nI k) μ = byt t N k := by
  obtain ⟨h1, h2, h3, h4, h5⟩ := h
  unfold P_X10_byteAt F_X10_byteAt byt
  rw [h3]
  by_cases q : k < N
  · rw [if_pos ((nI_ltI hk (by omega)).mpr q), if_pos q, nI_ix hk, h5 _ q]
    exact ⟨⟨fun _ => vp_in_nI (by omega) (by omega), fun _ => trivial⟩, rfl⟩
  · rw [if_neg (fun z => q ((nI_ltI hk (by omega)).mp z)), if_neg q]
    exact ⟨⟨fun z => absurd ((nI_ltI hk (by omega)).mp z) q, fun _ => trivial⟩, rfl⟩
theorem sp_blanks {t : Nat → Int32} {N p : Nat} {μ : Mem} (h : TxM t N p μ) : P_X10_blanks μ ∧ TxM t N (skp t N p) (M_X10_blanks μ) ∧ (∀ q, q ≠ 57 → M_X10_blanks μ q = μ q) ∧ ∀ k, k ≠ 4 → M_X10_blanks μ 57 k = μ 57 k := by
  have h' := h
  obtain ⟨h1, h2, h3, h4, h5⟩ := h
  have st : ∀ j, fo j g_X10_blanks_0 μ 57 4 = nI (p + j) ∧ (∀ q, q ≠ 57 → fo j g_X10_blanks_0 μ q = μ q) ∧ ∀ k, k ≠ 4 → fo j g_X10_blanks_0 μ 57 k = μ 57 k := by
    intro j
    induction j with
    | zero => exact ⟨h4, fun _ _ => rfl, fun _ _ => rfl⟩
    | succ j ih =>
      obtain ⟨i1, i2, i3⟩ := ih
      have e : fo (j + 1) g_X10_blanks_0 μ = upm (fo j g_X10_blanks_0 μ) 57 4 (fo j g_X10_blanks_0 μ 57 4 + 1) := rfl
      rw [e, i1]
      exact ⟨by rw [upm_rr, if_pos rfl]; exact (nI_succ (p + j)).symm, fun q hq => by rw [upm_other hq, i2 q hq], fun k hk => by rw [upm_rr, if_neg hk, i3 k hk]⟩
  have bt : ∀ j, j < 1000 → P_X10_byteAt (fo j g_X10_blanks_0 μ 57 4) (fo j g_X10_blanks_0 μ) ∧ F_X10_byteAt (fo j g_X10_blanks_0 μ 57 4) (fo j g_X10_blanks_0 μ) = byt t N (p + j) := fun j hj => by
    obtain ⟨i1, i2, i3⟩ := st j
    rw [i1]
    unfold P_X10_byteAt F_X10_byteAt byt
    rw [i3 2 (by decide), h3, i2 58 (by decide)]
    by_cases q : p + j < N
    · rw [if_pos ((nI_ltI (by omega) (by omega)).mpr q), if_pos q, nI_ix (by omega), h5 _ q]
      exact ⟨⟨fun _ => vp_in_nI (by omega) (by omega), fun _ => trivial⟩, rfl⟩
    · rw [if_neg (fun z => q ((nI_ltI (by omega) (by omega)).mp z)), if_neg q]
      exact ⟨⟨fun z => absurd ((nI_ltI (by omega) (by omega)).mp z) q, fun _ => trivial⟩, rfl⟩
  have hN : NX10_blanks_0 μ = fst 601 (fun j => !decide (byt t N (p + j) = 32)) := by
    unfold NX10_blanks_0
    refine fst_congr fun j hj => ?_
    unfold Cb_X10_blanks_0
    rw [(bt j (by omega)).2]
    by_cases y : byt t N (p + j) = 32
    · rw [if_neg (not_not_intro y), decide_eq_true y]
    · rw [if_pos y, decide_eq_false y]
  obtain ⟨k1, k2, k3, k4⟩ := skp_ok (t := t) h1 h2
  have eS : SX10_blanks_0 μ = fo (fst 601 (fun j => !decide (byt t N (p + j) = 32))) g_X10_blanks_0 μ := by
    unfold SX10_blanks_0
    rw [hN]
  have fl : fst 601 (fun j => !decide (byt t N (p + j) = 32)) ≤ 600 := by unfold skp at k1; omega
  obtain ⟨s1, s2, s3⟩ := st (fst 601 (fun j => !decide (byt t N (p + j) = 32)))
  have sb := bt (fst 601 (fun j => !decide (byt t N (p + j) = 32))) (by omega)
  rw [← eS] at s1 s2 s3 sb
  refine ⟨⟨fun j hj => ?_, sb.1, fun _ => trivial, fun z => ?_⟩, ⟨h1, k1, by show SX10_blanks_0 μ 57 2 = _; rw [s3 2 (by decide), h3], s1, fun k hk => by show SX10_blanks_0 μ 58 k = _; rw [s2 58 (by decide), h5 k hk]⟩, s2, s3⟩
  · rw [hN] at hj
    have b := k4 (p + j) (by omega) (by unfold skp; omega)
    unfold Pb_X10_blanks_0
    rw [(bt j (by omega)).2]
    exact ⟨(bt j (by omega)).1, fun q => absurd b q, fun _ => trivial⟩
  · rw [sb.2] at z
    exact k3 z
