/-! a number, both sides -/
def dg (b : Int32) : Bool := decide (48 ≤ b ∧ b ≤ 57)
theorem isDigC (b : Int32) (μ : Mem) : F_X8_isDigit b μ = if dg b = true then 1 else 0 := by
  unfold F_X8_isDigit dg
  by_cases h1 : b < 48
  · rw [if_pos h1, if_neg]
    intro q
    exact absurd (of_decide_eq_true q).1 (Int32.not_le.mpr h1)
  · rw [if_neg h1]
    by_cases h2 : 57 < b
    · rw [if_pos h2, if_neg]
      intro q
      exact absurd (of_decide_eq_true q).2 (Int32.not_le.mpr h2)
    · rw [if_neg h2, if_pos]
      exact decide_eq_true ⟨Int32.not_lt.mp h1, Int32.not_lt.mp h2⟩
theorem isDigM (b : Int32) (μ : Mem) : F_X10_isDigit b μ = if dg b = true then 1 else 0 := isDigC b μ
theorem dg_ne {b : Int32} (h : dg b = true) : b ≠ -1 ∧ b ≠ 32 := by
  have h' := of_decide_eq_true h
  refine ⟨fun q => ?_, fun q => ?_⟩
  · rw [q] at h'
    exact absurd h'.1 (by decide)
  · rw [q] at h'
    exact absurd h'.1 (by decide)
/-- how many digits stand at q -/
def dgn (t : Nat → Int32) (N q : Nat) : Nat := fst 601 (fun j => !dg (byt t N (q + j)))
/-- the value of n digits from q on -/
def nmF (t : Nat → Int32) (N q n : Nat) : Int32 := fo n (fun j s => imin 100000 (s * 10 + byt t N (q + j) - 48)) 0
def nmV (t : Nat → Int32) (N p : Nat) : Int32 := nmF t N (skp t N p) (dgn t N (skp t N p))
def nmE (t : Nat → Int32) (N p : Nat) : Nat := skp t N p + dgn t N (skp t N p)
def nmK (t : Nat → Int32) (N p : Nat) (lo hi : Int32) : Int32 := if dg (byt t N (skp t N p)) = true then (if nmV t N p < lo then 2 else if nmV t N p ≤ hi then 0 else 2) else 1
theorem dgn_ok {t : Nat → Int32} {N q : Nat} (hN : N ≤ 600) (hq : q ≤ N) : q + dgn t N q ≤ N ∧ dgn t N q ≤ 600 ∧ dg (byt t N (q + dgn t N q)) = false ∧ ∀ j, j < dgn t N q → dg (byt t N (q + j)) = true ∧ q + j < N := by
  have e : byt t N (q + (N - q)) = -1 := by
    unfold byt
    rw [if_neg (by omega)]
  have h1 : dgn t N q ≤ N - q := fst_lt (by omega) (by rw [e]; rfl)
  refine ⟨by omega, by omega, ?_, fun j hj => ?_⟩
  · have h2 := fst_hit (n := 601) (c := fun j => !dg (byt t N (q + j))) (show fst 601 _ < 601 by unfold dgn at h1; omega)
    have h2' : (!dg (byt t N (q + dgn t N q))) = true := h2
    cases y : dg (byt t N (q + dgn t N q)) with
    | false => rfl
    | true =>
      rw [y] at h2'
      cases h2'
  · have h3 := fst_min (n := 601) (c := fun j => !dg (byt t N (q + j))) (j := j) hj
    have h3' : (!dg (byt t N (q + j))) = false := h3
    have d : dg (byt t N (q + j)) = true := by
      cases y : dg (byt t N (q + j)) with
      | true => rfl
      | false =>
        rw [y] at h3'
        cases h3'
    exact ⟨d, byt_lt rfl (dg_ne d).1⟩
theorem dgn_0 {t : Nat → Int32} {N q : Nat} (h : dg (byt t N q) = false) : dgn t N q = 0 := by
  have : dgn t N q ≤ 0 := fst_lt (by omega) (by show (!dg (byt t N (q + 0))) = true; rw [Nat.add_zero, h]; rfl)
  omega
theorem nmF_ok (t : Nat → Int32) (N q n : Nat) : nmF t N q (n + 1) = imin 100000 (nmF t N q n * 10 + byt t N (q + n) - 48) := rfl
/-- the class's loop over digits -/
theorem numC {t : Nat → Int32} {N q : Nat} {μ : Mem} {lo hi : Int32} (h : TxC t N q μ) :
    fst 601 (fun j => !Cb_X8_takeNumber_28 lo hi j (fo j (g_X8_takeNumber_28 lo hi) (0, μ))) = dgn t N q ∧
    (∀ j, j ≤ dgn t N q → (fo j (g_X8_takeNumber_28 lo hi) (0, μ)).1 = nmF t N q j ∧ (fo j (g_X8_takeNumber_28 lo hi) (0, μ)).2 1 3 = nI (q + j) ∧ (∀ r, r ≠ 1 → (fo j (g_X8_takeNumber_28 lo hi) (0, μ)).2 r = μ r) ∧ ∀ k, k ≠ 3 → (fo j (g_X8_takeNumber_28 lo hi) (0, μ)).2 1 k = μ 1 k) ∧
    ∀ j, j < dgn t N q → Pb_X8_takeNumber_28 lo hi j (fo j (g_X8_takeNumber_28 lo hi) (0, μ)) := by
  obtain ⟨h1, h2, h3, h4, h5⟩ := h
  obtain ⟨d1, d2, d3, d4⟩ := dgn_ok (t := t) h1 h2
  have st : ∀ j, j ≤ dgn t N q → (fo j (g_X8_takeNumber_28 lo hi) (0, μ)).1 = nmF t N q j ∧ (fo j (g_X8_takeNumber_28 lo hi) (0, μ)).2 1 3 = nI (q + j) ∧ (∀ r, r ≠ 1 → (fo j (g_X8_takeNumber_28 lo hi) (0, μ)).2 r = μ r) ∧ ∀ k, k ≠ 3 → (fo j (g_X8_takeNumber_28 lo hi) (0, μ)).2 1 k = μ 1 k := by
    intro j
    induction j with
    | zero => exact fun _ => ⟨rfl, h4, fun _ _ => rfl, fun _ _ => rfl⟩
    | succ j ih =>
      intro hj
      obtain ⟨i1, i2, i3, i4⟩ := ih (by omega)
      obtain ⟨-, jl⟩ := d4 j (by omega)
      have e1 : (fo (j + 1) (g_X8_takeNumber_28 lo hi) (0, μ)).1 = imin 100000 ((fo j (g_X8_takeNumber_28 lo hi) (0, μ)).1 * 10 + F_X9_at 2 600 ((fo j (g_X8_takeNumber_28 lo hi) (0, μ)).2 1 3) (fo j (g_X8_takeNumber_28 lo hi) (0, μ)).2 - 48) := rfl
      have e2 : (fo (j + 1) (g_X8_takeNumber_28 lo hi) (0, μ)).2 = upm (fo j (g_X8_takeNumber_28 lo hi) (0, μ)).2 1 3 ((fo j (g_X8_takeNumber_28 lo hi) (0, μ)).2 1 3 + 1) := rfl
      refine ⟨?_, ?_, fun r hr => ?_, fun k hk => ?_⟩
      · rw [e1, i1, i2, at_k (by omega) (by decide), i3 2 (by decide), h5 _ jl, nmF_ok]
        unfold byt
        rw [if_pos jl]
      · rw [e2, upm_rr, if_pos rfl, i2]
        exact (nI_succ (q + j)).symm
      · rw [e2, upm_other hr, i3 r hr]
      · rw [e2, upm_rr, if_neg hk, i4 k hk]
  have cb : ∀ j, j ≤ dgn t N q → (!Cb_X8_takeNumber_28 lo hi j (fo j (g_X8_takeNumber_28 lo hi) (0, μ))) = !dg (byt t N (q + j)) := by
    intro j hj
    obtain ⟨-, i2, i3, i4⟩ := st j hj
    unfold Cb_X8_takeNumber_28
    rw [i2, i4 2 (by decide), h3, isDigC]
    by_cases y : q + j < N
    · rw [if_neg (nI_ge y (by omega)), at_k (by omega) (by decide), i3 2 (by decide), h5 _ y]
      unfold byt
      rw [if_pos y]
      cases z : dg (t (q + j)) with
      | true => rfl
      | false => rfl
    · rw [if_pos (nI_le (by omega) (by omega))]
      unfold byt
      rw [if_neg y]
      rfl
  refine ⟨?_, st, fun j hj => ?_⟩
  · refine fst_eq (by omega) ?_ fun j hj => ?_
    · rw [cb _ (Nat.le_refl _), d3]
      rfl
    · rw [cb j (by omega), (d4 j hj).1]
      rfl
  · obtain ⟨-, i2, i3, i4⟩ := st j (by omega)
    obtain ⟨dj, jl⟩ := d4 j hj
    have bj : t (q + j) = byt t N (q + j) := by
      unfold byt
      rw [if_pos jl]
    unfold Pb_X8_takeNumber_28
    rw [i2, i4 2 (by decide), h3, isDigC, at_k (by omega) (by decide), i3 2 (by decide), h5 _ jl, bj, dj]
    exact ⟨fun z => absurd z (nI_ge jl (by omega)), fun _ => ⟨fun z => absurd z (by decide), fun _ => trivial⟩⟩
theorem sp_takeNumber {t : Nat → Int32} {N p : Nat} {μ : Mem} {lo hi : Int32} (h : TxC t N p μ) : P_X8_takeNumber lo hi μ ∧
    (nmK t N p lo hi = 0 → F_X8_takeNumber lo hi μ = nmV t N p ∧ lo ≤ nmV t N p ∧ nmV t N p ≤ hi ∧ TxC t N (nmE t N p) (M_X8_takeNumber lo hi μ) ∧ M_X8_takeNumber lo hi μ 1 4 = nI (skp t N p) ∧ ∀ k, k ≠ 3 → k ≠ 4 → k ≠ 5 → M_X8_takeNumber lo hi μ 1 k = μ 1 k) ∧
    (nmK t N p lo hi ≠ 0 → F_X8_takeNumber lo hi μ = -1 ∧ M_X8_takeNumber lo hi μ 1 6 = nmK t N p lo hi ∧ M_X8_takeNumber lo hi μ 1 7 = nI (skp t N p) ∧ ∀ k, k ≠ 3 → k ≠ 4 → k ≠ 5 → k ≠ 6 → k ≠ 7 → M_X8_takeNumber lo hi μ 1 k = μ 1 k) ∧
    ∀ q, q ≠ 1 → M_X8_takeNumber lo hi μ q = μ q := by
  obtain ⟨k1, k2, k3, k4, k5⟩ := sp_peek h
  have k3' := k3
  obtain ⟨t1, t2, t3, t4, t5⟩ := k3
  obtain ⟨d1, d2, d3, d4⟩ := dgn_ok (t := t) t1 t2
  have m2 : muX8_takeNumber_2 lo hi μ = upm (M_X8_peek μ) 1 4 (nI (skp t N p)) := by
    unfold muX8_takeNumber_2 muX8_takeNumber_1
    rw [t4]
  have hx : TxC t N (skp t N p) (muX8_takeNumber_2 lo hi μ) := k3'.mono (by rw [m2, upm_rr, if_neg (by decide)]) (by rw [m2, upm_rr, if_neg (by decide)]) (by rw [m2, upm_other (by decide)])
  obtain ⟨n1, n2, n3⟩ := numC (lo := lo) (hi := hi) hx
  have eN : NX8_takeNumber_28 lo hi μ = dgn t N (skp t N p) := n1
  obtain ⟨s1, s2, s3, s4⟩ := n2 _ (Nat.le_refl _)
  have eS : SX8_takeNumber_28 lo hi μ = fo (dgn t N (skp t N p)) (g_X8_takeNumber_28 lo hi) (0, muX8_takeNumber_2 lo hi μ) := by
    unfold SX8_takeNumber_28
    rw [eN]
  rw [← eS] at s1 s2 s3 s4
  have s1' : (SX8_takeNumber_28 lo hi μ).1 = nmV t N p := s1
  have s12 : (SX8_takeNumber_28 lo hi μ).2 1 2 = nI N := by rw [s4 2 (by decide), hx.2.2.1]
  have s14 : (SX8_takeNumber_28 lo hi μ).2 1 4 = nI (skp t N p) := by rw [s4 4 (by decide), m2, upm_rr, if_pos rfl]
  have sq : ∀ r, r ≠ 1 → (SX8_takeNumber_28 lo hi μ).2 r = μ r := fun r hr => by rw [s3 r hr, m2, upm_other hr, k4 r hr]
  have sk : ∀ k, k ≠ 3 → k ≠ 4 → (SX8_takeNumber_28 lo hi μ).2 1 k = μ 1 k := fun k a b => by rw [s4 k a, m2, upm_rr, if_neg b, k5 k a]
  -- the three ends
  have e5 : ∀ ν, ν = upm (SX8_takeNumber_28 lo hi μ).2 1 5 ((SX8_takeNumber_28 lo hi μ).2 1 3) → TxC t N (nmE t N p) ν ∧ ν 1 4 = nI (skp t N p) ∧ (∀ k, k ≠ 3 → k ≠ 4 → k ≠ 5 → ν 1 k = μ 1 k) ∧ ∀ q, q ≠ 1 → ν q = μ q := by
    intro ν e
    refine ⟨⟨t1, d1, by rw [e, upm_rr, if_neg (by decide), s12], by rw [e, upm_rr, if_neg (by decide), s2]; rfl, fun k hk => by rw [e, upm_other (by decide), sq 2 (by decide), h.2.2.2.2 k hk]⟩, by rw [e, upm_rr, if_neg (by decide), s14], fun k a b c => by rw [e, upm_rr, if_neg c, sk k a b], fun q hq => by rw [e, upm_other hq, sq q hq]⟩
  have eT : ∀ ν, ν = upm (SX8_takeNumber_28 lo hi μ).2 1 5 ((SX8_takeNumber_28 lo hi μ).2 1 3) → M_X8_failToken 2 ν 1 6 = 2 ∧ M_X8_failToken 2 ν 1 7 = nI (skp t N p) ∧ (∀ k, k ≠ 3 → k ≠ 4 → k ≠ 5 → k ≠ 6 → k ≠ 7 → M_X8_failToken 2 ν 1 k = μ 1 k) ∧ ∀ q, q ≠ 1 → M_X8_failToken 2 ν q = μ q := by
    intro ν e
    obtain ⟨-, a2, a3, a4⟩ := e5 ν e
    have em : M_X8_failToken 2 ν = upm (upm ν 1 6 2) 1 7 (nI (skp t N p)) := by
      unfold M_X8_failToken muX8_failToken_2 muX8_failToken_1
      rw [upm_rr, if_neg (by decide), a2]
    refine ⟨by rw [em, upm_rr, if_neg (by decide), upm_rr, if_pos rfl], by rw [em, upm_rr, if_pos rfl], fun k a b c d f => by rw [em, upm_rr, if_neg f, upm_rr, if_neg d, a3 k a b c], fun q hq => by rw [em, upm_other hq, upm_other hq, a4 q hq]⟩
  cases hd : dg (byt t N (skp t N p)) with
  | false =>
    have c0 : ¬ F_X8_isDigit (F_X8_peek μ) (muX8_takeNumber_1 lo hi μ) ≠ 0 := by
      rw [k2, isDigC, hd]
      decide
    have nk : nmK t N p lo hi = 1 := by
      unfold nmK
      rw [hd]
      rfl
    have em : M_X8_takeNumber lo hi μ = upm (upm (M_X8_peek μ) 1 6 1) 1 7 (nI (skp t N p)) := by
      unfold M_X8_takeNumber
      rw [if_neg c0]
      unfold muX8_takeNumber_10 muX8_takeNumber_1 M_X8_failHere muX8_failHere_2 muX8_failHere_1
      rw [upm_rr, if_neg (by decide), t4]
    rw [nk]
    refine ⟨⟨k1, fun z => absurd z c0, fun _ => trivial⟩, fun z => absurd z (by decide), fun _ => ⟨?_, ?_, ?_, fun k a b c d f => ?_⟩, fun q hq => ?_⟩
    · unfold F_X8_takeNumber
      rw [if_neg c0]
    · rw [em, upm_rr, if_neg (by decide), upm_rr, if_pos rfl]
    · rw [em, upm_rr, if_pos rfl]
    · rw [em, upm_rr, if_neg f, upm_rr, if_neg d, k5 k a]
    · rw [em, upm_other hq, upm_other hq, k4 q hq]
  | true =>
    have c0 : F_X8_isDigit (F_X8_peek μ) (muX8_takeNumber_1 lo hi μ) ≠ 0 := by
      rw [k2, isDigC, hd]
      decide
    have hP : P_X8_takeNumber lo hi μ := by
      refine ⟨k1, fun _ => ⟨fun j hj => n3 j (by rw [eN] at hj; exact hj), fun _ => trivial, fun z => ⟨fun _ => trivial, fun y => y ?_⟩⟩, fun z => absurd z c0⟩
      rw [s12, s2] at z
      have jl : skp t N p + dgn t N (skp t N p) < N := (nI_ltI (by omega) (by omega)).mp z
      rw [s2, at_k (by omega) (by decide), sq 2 (by decide), h.2.2.2.2 _ jl, isDigC]
      unfold byt at d3
      rw [if_pos jl] at d3
      rw [d3]
      rfl
    refine ⟨hP, ?_⟩
    by_cases v1 : nmV t N p < lo
    · have nk : nmK t N p lo hi = 2 := by
        unfold nmK
        rw [hd, if_pos rfl, if_pos v1]
      have v1' : (SX8_takeNumber_28 lo hi μ).1 < lo := by rw [s1']; exact v1
      have em : ∃ ν, ν = upm (SX8_takeNumber_28 lo hi μ).2 1 5 ((SX8_takeNumber_28 lo hi μ).2 1 3) ∧ M_X8_takeNumber lo hi μ = M_X8_failToken 2 ν := by
        unfold M_X8_takeNumber
        rw [if_pos c0]
        split
        · exact ⟨_, rfl, rfl⟩
        · exact ⟨_, rfl, rfl⟩
      obtain ⟨ν, e, em⟩ := em
      obtain ⟨a1, a2, a3, a4⟩ := eT ν e
      rw [nk, em]
      refine ⟨fun z => absurd z (by decide), fun _ => ⟨?_, a1, a2, a3⟩, a4⟩
      unfold F_X8_takeNumber
      rw [if_pos c0, if_pos v1']
    · have v1' : ¬ (SX8_takeNumber_28 lo hi μ).1 < lo := by rw [s1']; exact v1
      by_cases v2 : nmV t N p ≤ hi
      · have nk : nmK t N p lo hi = 0 := by
          unfold nmK
          rw [hd, if_pos rfl, if_neg v1, if_pos v2]
        have v2' : (SX8_takeNumber_28 lo hi μ).1 ≤ hi := by rw [s1']; exact v2
        have em : M_X8_takeNumber lo hi μ = upm (SX8_takeNumber_28 lo hi μ).2 1 5 ((SX8_takeNumber_28 lo hi μ).2 1 3) := by
          unfold M_X8_takeNumber
          rw [if_pos c0]
          split
          · rfl
          · rfl
        obtain ⟨a1, a2, a3, a4⟩ := e5 _ em
        refine ⟨fun _ => ⟨?_, Int32.not_lt.mp v1, v2, a1, a2, a3⟩, fun z => absurd nk z, a4⟩
        unfold F_X8_takeNumber
        rw [if_pos c0, if_neg v1', if_pos v2', s1']
      · have nk : nmK t N p lo hi = 2 := by
          unfold nmK
          rw [hd, if_pos rfl, if_neg v1, if_neg v2]
        have v2' : ¬ (SX8_takeNumber_28 lo hi μ).1 ≤ hi := by rw [s1']; exact v2
        have em : ∃ ν, ν = upm (SX8_takeNumber_28 lo hi μ).2 1 5 ((SX8_takeNumber_28 lo hi μ).2 1 3) ∧ M_X8_takeNumber lo hi μ = M_X8_failToken 2 ν := by
          unfold M_X8_takeNumber
          rw [if_pos c0]
          split
          · exact ⟨_, rfl, rfl⟩
          · exact ⟨_, rfl, rfl⟩
        obtain ⟨ν, e, em⟩ := em
        obtain ⟨a1, a2, a3, a4⟩ := eT ν e
        rw [nk, em]
        refine ⟨fun z => absurd z (by decide), fun _ => ⟨?_, a1, a2, a3⟩, a4⟩
        unfold F_X8_takeNumber
        rw [if_pos c0, if_neg v1', if_neg v2']
/-- the reference's loop over digits -/
theorem numM {t : Nat → Int32} {N q : Nat} {μ : Mem} {lo hi v : Int32} (h : TxM t N q μ) :
    fst 601 (fun j => !Cb_X10_number_44 lo hi v j (fo j (g_X10_number_44 lo hi v) (0, μ))) = dgn t N q ∧
    (∀ j, j ≤ dgn t N q → (fo j (g_X10_number_44 lo hi v) (0, μ)).1 = nmF t N q j ∧ TxM t N (q + j) (fo j (g_X10_number_44 lo hi v) (0, μ)).2 ∧ (∀ r, r ≠ 57 → (fo j (g_X10_number_44 lo hi v) (0, μ)).2 r = μ r) ∧ ∀ k, k ≠ 4 → (fo j (g_X10_number_44 lo hi v) (0, μ)).2 57 k = μ 57 k) ∧
    ∀ j, j < dgn t N q → Pb_X10_number_44 lo hi v j (fo j (g_X10_number_44 lo hi v) (0, μ)) := by
  have h' := h
  obtain ⟨h1, h2, h3, h4, h5⟩ := h
  obtain ⟨d1, d2, d3, d4⟩ := dgn_ok (t := t) h1 h2
  have st : ∀ j, j ≤ dgn t N q → (fo j (g_X10_number_44 lo hi v) (0, μ)).1 = nmF t N q j ∧ TxM t N (q + j) (fo j (g_X10_number_44 lo hi v) (0, μ)).2 ∧ (∀ r, r ≠ 57 → (fo j (g_X10_number_44 lo hi v) (0, μ)).2 r = μ r) ∧ ∀ k, k ≠ 4 → (fo j (g_X10_number_44 lo hi v) (0, μ)).2 57 k = μ 57 k := by
    intro j
    induction j with
    | zero => exact fun _ => ⟨rfl, h', fun _ _ => rfl, fun _ _ => rfl⟩
    | succ j ih =>
      intro hj
      obtain ⟨i1, i2, i3, i4⟩ := ih (by omega)
      obtain ⟨-, jl⟩ := d4 j (by omega)
      obtain ⟨-, b2⟩ := sp_byteAt (k := q + j) i2 (by omega)
      have e1 : (fo (j + 1) (g_X10_number_44 lo hi v) (0, μ)).1 = VX10_number_44_1 lo hi v j (fo j (g_X10_number_44 lo hi v) (0, μ)) := rfl
      have e2 : (fo (j + 1) (g_X10_number_44 lo hi v) (0, μ)).2 = upm (fo j (g_X10_number_44 lo hi v) (0, μ)).2 57 4 ((fo j (g_X10_number_44 lo hi v) (0, μ)).2 57 4 + 1) := rfl
      obtain ⟨x1, x2, x3, x4, x5⟩ := i2
      refine ⟨?_, ⟨x1, by omega, ?_, ?_, fun k hk => ?_⟩, fun r hr => ?_, fun k hk => ?_⟩
      · rw [e1]
        unfold VX10_number_44_1
        rw [x4, b2, i1, nmF_ok, show nmF t N q j * 10 = 10 * nmF t N q j from Int32.mul_comm _ _]
        unfold imin
        split <;> split <;> grind
      · rw [e2, upm_rr, if_neg (by decide), x3]
      · rw [e2, upm_rr, if_pos rfl, x4]
        exact (nI_succ (q + j)).symm
      · rw [e2, upm_other (by decide), x5 k hk]
      · rw [e2, upm_other hr, i3 r hr]
      · rw [e2, upm_rr, if_neg hk, i4 k hk]
  have cb : ∀ j, j ≤ dgn t N q → (!Cb_X10_number_44 lo hi v j (fo j (g_X10_number_44 lo hi v) (0, μ))) = !dg (byt t N (q + j)) := by
    intro j hj
    obtain ⟨-, i2, i3, i4⟩ := st j hj
    obtain ⟨-, b2⟩ := sp_byteAt (k := q + j) i2 (by omega)
    unfold Cb_X10_number_44
    rw [i2.2.2.2.1, b2, isDigM]
    cases z : dg (byt t N (q + j)) with
    | true => rfl
    | false => rfl
  refine ⟨?_, st, fun j hj => ?_⟩
  · refine fst_eq (by omega) ?_ fun j hj => ?_
    · rw [cb _ (Nat.le_refl _), d3]
      rfl
    · rw [cb j (by omega), (d4 j hj).1]
      rfl
  · obtain ⟨-, i2, i3, i4⟩ := st j (by omega)
    obtain ⟨dj, jl⟩ := d4 j hj
    obtain ⟨b1, b2⟩ := sp_byteAt (k := q + j) i2 (by omega)
    unfold Pb_X10_number_44
    rw [i2.2.2.2.1, b2, isDigM, dj]
    exact ⟨b1, fun z => absurd z (by decide), fun _ => b1⟩
theorem sp_number {t : Nat → Int32} {N p : Nat} {μ : Mem} {lo hi : Int32} (h : TxM t N p μ) (h0 : μ 57 5 = 0) : P_X10_number lo hi μ ∧ TxM t N (nmE t N p) (M_X10_number lo hi μ) ∧ M_X10_number lo hi μ 57 5 = nmK t N p lo hi ∧
    (nmK t N p lo hi = 0 → F_X10_number lo hi μ = nmV t N p ∧ M_X10_number lo hi μ 57 6 = μ 57 6) ∧
    (nmK t N p lo hi ≠ 0 → F_X10_number lo hi μ = 0 ∧ M_X10_number lo hi μ 57 6 = nI (skp t N p)) ∧
    (∀ k, k ≠ 4 → k ≠ 5 → k ≠ 6 → M_X10_number lo hi μ 57 k = μ 57 k) ∧ ∀ q, q ≠ 57 → M_X10_number lo hi μ q = μ q := by
  obtain ⟨k1, k2, k3, k4⟩ := sp_blanks h
  have k2' := k2
  obtain ⟨t1, t2, t3, t4, t5⟩ := k2
  obtain ⟨d1, d2, d3, d4⟩ := dgn_ok (t := t) t1 t2
  have m1 : muX10_number_1 lo hi μ = M_X10_blanks μ := rfl
  have e4 : muX10_number_1 lo hi μ 57 4 = nI (skp t N p) := t4
  obtain ⟨b1, b2⟩ := sp_byteAt (k := skp t N p) k2' (by omega)
  rw [← m1] at b1 b2 k2'
  have z5 : muX10_number_1 lo hi μ 57 5 = 0 := by rw [m1, k4 5 (by decide), h0]
  cases hd : dg (byt t N (skp t N p)) with
  | false =>
    have c0 : ¬ F_X10_isDigit (F_X10_byteAt (muX10_number_1 lo hi μ 57 4) (muX10_number_1 lo hi μ)) (muX10_number_1 lo hi μ) ≠ 0 := by
      rw [e4, b2, isDigM, hd]
      decide
    have nk : nmK t N p lo hi = 1 := by
      unfold nmK
      rw [hd]
      rfl
    have n0 : dgn t N (skp t N p) = 0 := dgn_0 hd
    have em : muX10_number_6 lo hi μ = upm (upm (M_X10_blanks μ) 57 5 1) 57 6 (nI (skp t N p)) := by
      unfold muX10_number_6 M_X10_wrong muX10_wrong_2 muX10_wrong_1
      rw [if_neg (not_not_intro z5), e4]
      rfl
    have x6 : TxM t N (skp t N p) (muX10_number_6 lo hi μ) := k2'.mono (by rw [em, upm_rr, if_neg (by decide), upm_rr, if_neg (by decide), m1]) (by rw [em, upm_rr, if_neg (by decide), upm_rr, if_neg (by decide), m1]) (by rw [em, upm_other (by decide), upm_other (by decide), m1])
    obtain ⟨n1, n2, n3⟩ := numM (lo := lo) (hi := hi) (v := muX10_number_1 lo hi μ 57 4) x6
    have eN : NX10_number_44' lo hi μ = 0 := by rw [← n0]; exact n1
    have eS : SX10_number_44' lo hi μ = (0, muX10_number_6 lo hi μ) := by
      unfold SX10_number_44'
      rw [eN]
      rfl
    have z6 : muX10_number_6 lo hi μ 57 5 = 1 := by rw [em, upm_rr, if_neg (by decide), upm_rr, if_pos rfl]
    have e8 : VX10_number_8 lo hi μ = muX10_number_6 lo hi μ := by
      unfold VX10_number_8 muX10_number_7 M_X10_wrong
      rw [eS, if_pos (show (0, muX10_number_6 lo hi μ).2 57 5 ≠ 0 from fun q => absurd (z6.symm.trans q) (by decide))]
      split <;> rfl
    have eM : M_X10_number lo hi μ = muX10_number_6 lo hi μ := by
      unfold M_X10_number
      rw [if_pos h0, if_neg c0, e8]
    have d6 := sp_byteAt (k := skp t N p) x6 (by omega)
    rw [nk, eM]
    have eE : nmE t N p = skp t N p := by
      unfold nmE
      rw [n0]
      rfl
    rw [eE]
    refine ⟨⟨fun _ => ⟨k1, by rw [e4]; exact b1, fun z => absurd z c0, fun _ => ⟨fun j hj => absurd hj (by rw [eN]; omega), ?_, fun _ => trivial, fun y => absurd ?_ y⟩⟩, fun z => absurd h0 z⟩, x6, z6, fun z => absurd z (by decide), fun _ => ⟨?_, ?_⟩, fun k a b c => ?_, fun q hq => ?_⟩
    · rw [eS]
      dsimp only
      rw [x6.2.2.2.1]
      exact d6.1
    · rw [eS]
      dsimp only
      rw [x6.2.2.2.1, d6.2, isDigM, hd]
      rfl
    · unfold F_X10_number
      rw [if_pos h0, if_neg c0, e8, if_pos (by rw [z6]; decide)]
    · rw [em, upm_rr, if_pos rfl]
    · rw [em, upm_rr, if_neg c, upm_rr, if_neg b, k4 k a]
    · rw [em, upm_other hq, upm_other hq, k3 q hq]
  | true =>
    have c0 : F_X10_isDigit (F_X10_byteAt (muX10_number_1 lo hi μ 57 4) (muX10_number_1 lo hi μ)) (muX10_number_1 lo hi μ) ≠ 0 := by
      rw [e4, b2, isDigM, hd]
      decide
    obtain ⟨n1, n2, n3⟩ := numM (lo := lo) (hi := hi) (v := muX10_number_1 lo hi μ 57 4) k2'
    have eN : NX10_number_44 lo hi μ = dgn t N (skp t N p) := n1
    obtain ⟨s1, s2, s3, s4⟩ := n2 _ (Nat.le_refl _)
    have eS : SX10_number_44 lo hi μ = fo (dgn t N (skp t N p)) (g_X10_number_44 lo hi (muX10_number_1 lo hi μ 57 4)) (0, muX10_number_1 lo hi μ) := by
      unfold SX10_number_44
      rw [eN]
    rw [← eS] at s1 s2 s3 s4
    have s1' : (SX10_number_44 lo hi μ).1 = nmV t N p := s1
    have s2' : TxM t N (nmE t N p) (SX10_number_44 lo hi μ).2 := s2
    have nl : nmE t N p < 2 ^ 31 := by unfold nmE; omega
    have dE := sp_byteAt (k := nmE t N p) s2' nl
    have d3' : dg (byt t N (nmE t N p)) = false := d3
    have hP : P_X10_number lo hi μ := by
      refine ⟨fun _ => ⟨k1, by rw [e4]; exact b1, fun _ => ⟨fun j hj => n3 j (by rw [eN] at hj; exact hj), by rw [s2'.2.2.2.1]; exact dE.1, fun _ => trivial, fun y => absurd ?_ y⟩, fun z => absurd z c0⟩, fun z => absurd h0 z⟩
      rw [s2'.2.2.2.1, dE.2, isDigM, d3']
      rfl
    have z5' : (SX10_number_44 lo hi μ).2 57 5 = 0 := by rw [s4 5 (by decide), z5]
    have s3' : ∀ q, q ≠ 57 → (SX10_number_44 lo hi μ).2 q = μ q := fun q hq => by rw [s3 q hq, m1, k3 q hq]
    have s4' : ∀ k, k ≠ 4 → (SX10_number_44 lo hi μ).2 57 k = μ 57 k := fun k hk => by rw [s4 k hk, m1, k4 k hk]
    refine ⟨hP, ?_⟩
    by_cases vv : lo ≤ nmV t N p ∧ nmV t N p ≤ hi
    · have nk : nmK t N p lo hi = 0 := by
        unfold nmK
        rw [hd, if_pos rfl, if_neg (Int32.not_lt.mpr vv.1), if_pos vv.2]
      have e3 : VX10_number_3 lo hi μ = (SX10_number_44 lo hi μ).2 := by
        unfold VX10_number_3
        rw [isIn_eq, s1', show inR (nmV t N p) lo hi = true from decide_eq_true vv, if_pos rfl, if_pos (by decide)]
      have eM : M_X10_number lo hi μ = (SX10_number_44 lo hi μ).2 := by
        unfold M_X10_number
        rw [if_pos h0, if_pos c0, e3]
      rw [nk, eM]
      refine ⟨s2', z5', fun _ => ⟨?_, s4' 6 (by decide)⟩, fun z => absurd rfl z, fun k a _ _ => s4' k a, s3'⟩
      unfold F_X10_number
      rw [if_pos h0, if_pos c0, e3, if_neg (not_not_intro z5'), s1']
    · have nk : nmK t N p lo hi = 2 := by
        unfold nmK
        rw [hd, if_pos rfl]
        by_cases v1 : nmV t N p < lo
        · rw [if_pos v1]
        · rw [if_neg v1, if_neg fun z => vv ⟨Int32.not_lt.mp v1, z⟩]
      have e3 : VX10_number_3 lo hi μ = upm (upm (SX10_number_44 lo hi μ).2 57 5 2) 57 6 (nI (skp t N p)) := by
        unfold VX10_number_3
        rw [isIn_eq, s1', show inR (nmV t N p) lo hi = false from decide_eq_false vv, if_neg (show ¬ false = true by decide), if_neg (show ¬ (0 : Int32) ≠ 0 by decide)]
        unfold muX10_number_2 M_X10_wrong muX10_wrong_2 muX10_wrong_1
        rw [if_neg (not_not_intro z5'), e4]
      have eM : M_X10_number lo hi μ = upm (upm (SX10_number_44 lo hi μ).2 57 5 2) 57 6 (nI (skp t N p)) := by
        unfold M_X10_number
        rw [if_pos h0, if_pos c0, e3]
      have m5 : M_X10_number lo hi μ 57 5 = 2 := by rw [eM, upm_rr, if_neg (by decide), upm_rr, if_pos rfl]
      rw [nk]
      refine ⟨s2'.mono (by rw [eM, upm_rr, if_neg (by decide), upm_rr, if_neg (by decide)]) (by rw [eM, upm_rr, if_neg (by decide), upm_rr, if_neg (by decide)]) (by rw [eM, upm_other (by decide), upm_other (by decide)]), m5, fun z => absurd z (by decide), fun _ => ⟨?_, by rw [eM, upm_rr, if_pos rfl]⟩, fun k a b c => by rw [eM, upm_rr, if_neg c, upm_rr, if_neg b, s4' k a], fun q hq => by rw [eM, upm_other hq, upm_other hq, s3' q hq]⟩
      unfold F_X10_number
      rw [if_pos h0, if_pos c0, e3, if_pos (by rw [upm_rr, if_neg (by decide), upm_rr, if_pos rfl]; decide)]
theorem sp_number_no {μ : Mem} {lo hi : Int32} (h0 : μ 57 5 ≠ 0) : P_X10_number lo hi μ ∧ M_X10_number lo hi μ = μ ∧ F_X10_number lo hi μ = 0 := by
  refine ⟨⟨fun z => absurd z h0, fun _ => trivial⟩, ?_, ?_⟩
  · unfold M_X10_number
    rw [if_neg h0]
  · unfold F_X10_number
    rw [if_neg h0]
theorem sp_sign_no {μ : Mem} {c : Int32} (h0 : μ 57 5 ≠ 0) : P_X10_sign c μ ∧ M_X10_sign c μ = μ := by
  refine ⟨⟨fun z => absurd z h0, fun _ => trivial⟩, ?_⟩
  unfold M_X10_sign
  rw [if_neg h0]
