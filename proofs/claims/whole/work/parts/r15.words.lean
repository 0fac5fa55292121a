/-! words, both sides -/
def ltr (b : Int32) : Bool := decide (97 ≤ b ∧ b ≤ 122)
theorem isLetC (b : Int32) (μ : Mem) : F_X8_isLetter b μ = if ltr b = true then 1 else 0 := by
  unfold F_X8_isLetter ltr
  by_cases h1 : b < 97
  · rw [if_pos h1, if_neg]
    intro q
    exact absurd (of_decide_eq_true q).1 (Int32.not_le.mpr h1)
  · rw [if_neg h1]
    by_cases h2 : 122 < b
    · rw [if_pos h2, if_neg]
      intro q
      exact absurd (of_decide_eq_true q).2 (Int32.not_le.mpr h2)
    · rw [if_neg h2, if_pos]
      exact decide_eq_true ⟨Int32.not_lt.mp h1, Int32.not_lt.mp h2⟩
theorem isLetM (b : Int32) (μ : Mem) : F_X10_isSmall b μ = if ltr b = true then 1 else 0 := isLetC b μ
theorem ltr_ne {b : Int32} (h : ltr b = true) : b ≠ -1 ∧ b ≠ 32 ∧ ∃ n, 97 ≤ n ∧ n ≤ 122 ∧ b = nI n := by
  have h' := of_decide_eq_true h
  refine ⟨fun q => ?_, fun q => ?_, ?_⟩
  · rw [q] at h'
    exact absurd h'.1 (by decide)
  · rw [q] at h'
    exact absurd h'.1 (by decide)
  · obtain ⟨n, hn, e⟩ := nI_of2 (n := 122) (by decide) (Int32.not_lt.mpr (Int32.le_trans (show (0 : Int32) ≤ 97 by decide) h'.1)) h'.2
    refine ⟨n, ?_, hn, e⟩
    have := h'.1
    rw [e] at this
    exact (nI_leI (a := 97) (by omega) (by omega)).mp this
def ltn (t : Nat → Int32) (N q : Nat) : Nat := fst 601 (fun j => !ltr (byt t N (q + j)))
theorem ltn_ok {t : Nat → Int32} {N q : Nat} (hN : N ≤ 600) (hq : q ≤ N) : q + ltn t N q ≤ N ∧ ltn t N q ≤ 600 ∧ ltr (byt t N (q + ltn t N q)) = false ∧ ∀ j, j < ltn t N q → ltr (byt t N (q + j)) = true ∧ q + j < N := by
  have e : byt t N (q + (N - q)) = -1 := by
    unfold byt
    rw [if_neg (by omega)]
  have h1 : ltn t N q ≤ N - q := fst_lt (by omega) (by rw [e]; rfl)
  refine ⟨by omega, by omega, ?_, fun j hj => ?_⟩
  · have h2 := fst_hit (n := 601) (c := fun j => !ltr (byt t N (q + j))) (show fst 601 _ < 601 by unfold ltn at h1; omega)
    have h2' : (!ltr (byt t N (q + ltn t N q))) = true := h2
    cases y : ltr (byt t N (q + ltn t N q)) with
    | false => rfl
    | true =>
      rw [y] at h2'
      cases h2'
  · have h3 := fst_min (n := 601) (c := fun j => !ltr (byt t N (q + j))) (j := j) hj
    have h3' : (!ltr (byt t N (q + j))) = false := h3
    have d : ltr (byt t N (q + j)) = true := by
      cases y : ltr (byt t N (q + j)) with
      | true => rfl
      | false =>
        rw [y] at h3'
        cases h3'
    exact ⟨d, byt_lt rfl (ltr_ne d).1⟩
theorem ltn_0 {t : Nat → Int32} {N q : Nat} (hN : N ≤ 600) (hq : q ≤ N) : ltr (byt t N q) = true ↔ ltn t N q ≠ 0 := by
  obtain ⟨-, -, d3, d4⟩ := ltn_ok (t := t) hN hq
  constructor
  · intro h z
    rw [z, Nat.add_zero, h] at d3
    cases d3
  · intro h
    have := (d4 0 (by omega)).1
    rwa [Nat.add_zero] at this
def wdM (t : Nat → Int32) (N q k : Nat) : Bool := decide (ltn t N q = strLen.getD k 0 ∧ ∀ j, j < strLen.getD k 0 → byt t N (q + j) = (strByt.getD k []).getD j 0)
theorem wd_tab : ∀ k, k < 19 → k ≠ 0 → (3 ≤ strLen.getD k 0 ∧ strLen.getD k 0 ≤ 5) ∧ ∀ j, j < strLen.getD k 0 → 97 ≤ (strByt.getD k []).getD j 0 ∧ (strByt.getD k []).getD j 0 ≤ 122 := by decide +kernel
theorem wd_tab2 : ∀ k, k < 19 → ∀ k', k' < 19 → (k ≠ 0 ∧ k' ≠ 0 ∧ strLen.getD k 0 = strLen.getD k' 0 ∧ ∀ j, j < strLen.getD k 0 → (strByt.getD k []).getD j 0 = (strByt.getD k' []).getD j 0) → k = k' := by decide +kernel
theorem wd_uniq {t : Nat → Int32} {N q k k' : Nat} (h1 : k < 19) (h2 : k ≠ 0) (h3 : k' < 19) (h4 : k' ≠ 0) (h : wdM t N q k = true) (h' : wdM t N q k' = true) : k = k' := by
  obtain ⟨a1, a2⟩ := of_decide_eq_true h
  obtain ⟨b1, b2⟩ := of_decide_eq_true h'
  exact wd_tab2 k h1 k' h3 ⟨h2, h4, by rw [← a1, ← b1], fun j hj => by rw [← a2 j hj, ← b2 j (by rw [← b1, a1]; exact hj)]⟩
/-- the class takes a word -/
theorem sp_takeWord {t : Nat → Int32} {N p : Nat} {μ : Mem} (h : TxC t N p μ) : P_X8_takeWord μ ∧
    (ltn t N (skp t N p) ≠ 0 → F_X8_takeWord μ = 1 ∧ TxC t N (skp t N p + ltn t N (skp t N p)) (M_X8_takeWord μ) ∧ M_X8_takeWord μ 1 4 = nI (skp t N p) ∧ M_X8_takeWord μ 1 5 = nI (skp t N p + ltn t N (skp t N p)) ∧ ∀ k, k ≠ 3 → k ≠ 4 → k ≠ 5 → M_X8_takeWord μ 1 k = μ 1 k) ∧
    (ltn t N (skp t N p) = 0 → F_X8_takeWord μ = 0 ∧ M_X8_takeWord μ 1 6 = 1 ∧ M_X8_takeWord μ 1 7 = nI (skp t N p) ∧ ∀ k, k ≠ 3 → k ≠ 6 → k ≠ 7 → M_X8_takeWord μ 1 k = μ 1 k) ∧
    ∀ q, q ≠ 1 → M_X8_takeWord μ q = μ q := by
  obtain ⟨k1, k2, k3, k4, k5⟩ := sp_peek h
  have k3' := k3
  obtain ⟨t1, t2, t3, t4, t5⟩ := k3
  obtain ⟨d1, d2, d3, d4⟩ := ltn_ok (t := t) t1 t2
  have m2 : muX8_takeWord_2 μ = upm (M_X8_peek μ) 1 4 (nI (skp t N p)) := by
    unfold muX8_takeWord_2 muX8_takeWord_1
    rw [t4]
  have st : ∀ j, j ≤ ltn t N (skp t N p) → fo j g_X8_takeWord_24 (muX8_takeWord_2 μ) 1 3 = nI (skp t N p + j) ∧ (∀ r, r ≠ 1 → fo j g_X8_takeWord_24 (muX8_takeWord_2 μ) r = μ r) ∧ fo j g_X8_takeWord_24 (muX8_takeWord_2 μ) 1 4 = nI (skp t N p) ∧ ∀ k, k ≠ 3 → k ≠ 4 → fo j g_X8_takeWord_24 (muX8_takeWord_2 μ) 1 k = μ 1 k := by
    intro j
    induction j with
    | zero =>
      intro _
      have e : fo 0 g_X8_takeWord_24 (muX8_takeWord_2 μ) = upm (M_X8_peek μ) 1 4 (nI (skp t N p)) := m2
      rw [e]
      exact ⟨by rw [upm_rr, if_neg (by decide), t4, Nat.add_zero], fun r hr => by rw [upm_other hr, k4 r hr], by rw [upm_rr, if_pos rfl], fun k a b => by rw [upm_rr, if_neg b, k5 k a]⟩
    | succ j ih =>
      intro hj
      obtain ⟨i1, i2, i3, i4⟩ := ih (by omega)
      have e : fo (j + 1) g_X8_takeWord_24 (muX8_takeWord_2 μ) = upm (fo j g_X8_takeWord_24 (muX8_takeWord_2 μ)) 1 3 (fo j g_X8_takeWord_24 (muX8_takeWord_2 μ) 1 3 + 1) := rfl
      rw [e, i1]
      exact ⟨by rw [upm_rr, if_pos rfl]; exact (nI_succ (skp t N p + j)).symm, fun r hr => by rw [upm_other hr, i2 r hr], by rw [upm_rr, if_neg (by decide), i3], fun k a b => by rw [upm_rr, if_neg a, i4 k a b]⟩
  have by2 : ∀ j, j ≤ ltn t N (skp t N p) → skp t N p + j < N → F_X9_at 2 600 (nI (skp t N p + j)) (fo j g_X8_takeWord_24 (muX8_takeWord_2 μ)) = byt t N (skp t N p + j) := fun j hj jl => by
    rw [at_k (by omega) (by decide), (st j hj).2.1 2 (by decide), h.2.2.2.2 _ jl]
    unfold byt
    rw [if_pos jl]
  have e12 : ∀ j, j ≤ ltn t N (skp t N p) → fo j g_X8_takeWord_24 (muX8_takeWord_2 μ) 1 2 = nI N := fun j hj => by rw [(st j hj).2.2.2 2 (by decide) (by decide), h.2.2.1]
  have cb : ∀ j, j ≤ ltn t N (skp t N p) → (!Cb_X8_takeWord_24 j (fo j g_X8_takeWord_24 (muX8_takeWord_2 μ))) = !ltr (byt t N (skp t N p + j)) := by
    intro j hj
    unfold Cb_X8_takeWord_24
    rw [(st j hj).1, e12 j hj, isLetC]
    by_cases y : skp t N p + j < N
    · rw [if_neg (nI_ge y (by omega)), by2 j hj y]
      cases z : ltr (byt t N (skp t N p + j)) with
      | true => rfl
      | false => rfl
    · rw [if_pos (nI_le (by omega) (by omega))]
      unfold byt
      rw [if_neg y]
      rfl
  have eN : NX8_takeWord_24 μ = ltn t N (skp t N p) := fst_eq (by omega) (by
    show (!Cb_X8_takeWord_24 _ (fo _ g_X8_takeWord_24 (muX8_takeWord_2 μ))) = true
    rw [cb _ (Nat.le_refl _), d3]
    rfl) fun j hj => by
    show (!Cb_X8_takeWord_24 j (fo j g_X8_takeWord_24 (muX8_takeWord_2 μ))) = false
    rw [cb j (by omega), (d4 j hj).1]
    rfl
  have eS : SX8_takeWord_24 μ = fo (ltn t N (skp t N p)) g_X8_takeWord_24 (muX8_takeWord_2 μ) := by
    unfold SX8_takeWord_24
    rw [eN]
  obtain ⟨s1, s2, s3, s4⟩ := st _ (Nat.le_refl _)
  rw [← eS] at s1 s2 s3 s4
  have eL : F_X8_isLetter (F_X8_peek μ) (muX8_takeWord_1 μ) = if ltr (byt t N (skp t N p)) = true then 1 else 0 := by rw [k2, isLetC]
  by_cases hl : ltr (byt t N (skp t N p)) = true
  · have c0 : F_X8_isLetter (F_X8_peek μ) (muX8_takeWord_1 μ) ≠ 0 := by
      rw [eL, if_pos hl]
      decide
    have nz := (ltn_0 t1 t2).mp hl
    have em : M_X8_takeWord μ = upm (SX8_takeWord_24 μ) 1 5 (nI (skp t N p + ltn t N (skp t N p))) := by
      unfold M_X8_takeWord
      rw [if_pos c0]
      split
      · unfold muX8_takeWord_3
        rw [s1]
      · unfold muX8_takeWord_4
        rw [s1]
    rw [em]
    refine ⟨⟨k1, fun _ => ⟨fun j hj => ?_, fun _ => trivial, fun z => ⟨fun _ => trivial, fun y => y ?_⟩⟩, fun z => absurd z c0⟩, fun _ => ⟨?_, ⟨t1, d1, ?_, ?_, fun k hk => ?_⟩, ?_, ?_, fun k a b c => ?_⟩, fun z => absurd z nz, fun q hq => ?_⟩
    · rw [eN] at hj
      obtain ⟨dj, jl⟩ := d4 j hj
      unfold Pb_X8_takeWord_24
      rw [(st j (by omega)).1, e12 j (by omega), by2 j (by omega) jl, isLetC, dj]
      exact ⟨fun z => absurd z (nI_ge jl (by omega)), fun _ => ⟨fun z => absurd z (by decide), fun _ => trivial⟩⟩
    · rw [s1, show (SX8_takeWord_24 μ) 1 2 = nI N by rw [eS]; exact e12 _ (Nat.le_refl _)] at z
      have jl : skp t N p + ltn t N (skp t N p) < N := (nI_ltI (by omega) (by omega)).mp z
      rw [s1, eS, by2 _ (Nat.le_refl _) jl, isLetC, d3]
      rfl
    · unfold F_X8_takeWord
      rw [if_pos c0]
    · rw [upm_rr, if_neg (by decide), s4 2 (by decide) (by decide), h.2.2.1]
    · rw [upm_rr, if_neg (by decide), s1]
    · rw [upm_other (by decide), s2 2 (by decide), h.2.2.2.2 k hk]
    · rw [upm_rr, if_neg (by decide), s3]
    · rw [upm_rr, if_pos rfl]
    · rw [upm_rr, if_neg c, s4 k a b]
    · rw [upm_other hq, s2 q hq]
  · have c0 : ¬ F_X8_isLetter (F_X8_peek μ) (muX8_takeWord_1 μ) ≠ 0 := by
      rw [eL, if_neg hl]
      decide
    have z0 : ltn t N (skp t N p) = 0 := Decidable.byContradiction fun z => hl ((ltn_0 t1 t2).mpr z)
    have em : M_X8_takeWord μ = upm (upm (M_X8_peek μ) 1 6 1) 1 7 (nI (skp t N p)) := by
      unfold M_X8_takeWord
      rw [if_neg c0]
      unfold muX8_takeWord_6 muX8_takeWord_1 M_X8_failHere muX8_failHere_2 muX8_failHere_1
      rw [upm_rr, if_neg (by decide), t4]
    rw [em]
    refine ⟨⟨k1, fun z => absurd z c0, fun _ => trivial⟩, fun z => absurd z0 z, fun _ => ⟨?_, ?_, ?_, fun k a b c => ?_⟩, fun q hq => ?_⟩
    · unfold F_X8_takeWord F_X8_failHere
      rw [if_neg c0]
    · rw [upm_rr, if_neg (by decide), upm_rr, if_pos rfl]
    · rw [upm_rr, if_pos rfl]
    · rw [upm_rr, if_neg c, upm_rr, if_neg b, k5 k a]
    · rw [upm_other hq, upm_other hq, k4 q hq]
/-- a word has been taken at q -/
def WdC (t : Nat → Int32) (N q : Nat) (μ : Mem) : Prop := N ≤ 600 ∧ q ≤ N ∧ μ 1 4 = nI q ∧ μ 1 5 = nI (q + ltn t N q) ∧ ∀ k, k < N → μ 2 k = t k
theorem nI_dif (a b : Nat) : nI (a + b) - nI a = nI b := by
  rw [← nI_add, Int32.add_comm, Int32.add_sub_cancel]
theorem sp_isWordC {t : Nat → Int32} {N q k : Nat} {μ : Mem} (hk : k < 19) (hk0 : k ≠ 0) (h : WdC t N q μ) : P_X8_isWord k μ ∧ F_X8_isWord k μ = if wdM t N q k = true then 1 else 0 := by
  obtain ⟨h1, h2, h3, h4, h5⟩ := h
  obtain ⟨⟨w3, w5⟩, wb⟩ := wd_tab k hk hk0
  obtain ⟨d1, d2, d3, d4⟩ := ltn_ok (t := t) h1 h2
  have ed : μ 1 5 - μ 1 4 = nI (ltn t N q) := by rw [h3, h4, nI_dif]
  by_cases hl : ltn t N q = strLen.getD k 0
  · have c0 : μ 1 5 - μ 1 4 = nI (strLen.getD k 0) := by rw [ed, hl]
    have ad : ∀ j, μ 1 4 + nI j = nI (q + j) := fun j => by rw [h3, nI_add]
    have e2 : ∀ j, j < strLen.getD k 0 → μ 2 (ix (nI (q + j))) = byt t N (q + j) := fun j hj => by
      have jl : q + j < N := (d4 j (by omega)).2
      rw [nI_ix (by omega), h5 _ jl]
      unfold byt
      rw [if_pos jl]
    have cb : ∀ j, j < strLen.getD k 0 → Cb_X8_isWord_20 k μ j () = decide (byt t N (q + j) = (strByt.getD k []).getD j 0) := fun j hj => by
      have jl : q + j < N := (d4 j (by omega)).2
      unfold Cb_X8_isWord_20
      rw [if_neg (nI_ge hj (by omega)), ad, if_neg (nI_pos (by omega)), if_neg (show ¬ (600 : Int32) ≤ nI (q + j) from nI_ge (b := 600) (by omega) (by omega)), e2 j hj, nI_ix (by omega)]
      by_cases y : byt t N (q + j) = (strByt.getD k []).getD j 0
      · rw [if_pos y, decide_eq_true y]
      · rw [if_neg y, decide_eq_false y]
    have ce : Cb_X8_isWord_20 k μ (strLen.getD k 0) () = false := by
      unfold Cb_X8_isWord_20
      rw [if_pos (Int32.le_refl _)]
    have le : NX8_isWord_20 k μ ≤ strLen.getD k 0 := fst_lt (by omega) (by
      show (!Cb_X8_isWord_20 k μ (strLen.getD k 0) ()) = true
      rw [ce]
      rfl)
    have mn : ∀ j, j < NX8_isWord_20 k μ → byt t N (q + j) = (strByt.getD k []).getD j 0 := fun j hj => by
      have a := fst_min hj
      have a' : (!Cb_X8_isWord_20 k μ j ()) = false := a
      rw [cb j (by omega)] at a'
      exact Decidable.byContradiction fun y => by
        rw [decide_eq_false y] at a'
        cases a'
    have hP : P_X8_isWord k μ := by
      refine ⟨fun _ => ⟨fun j hj => ?_, fun _ => trivial, fun z => ?_⟩, fun z => absurd c0 z⟩
      · have jk : j < strLen.getD k 0 := by omega
        have jl : q + j < N := (d4 j (by omega)).2
        unfold Pb_X8_isWord_20
        rw [ad, e2 j jk, nI_ix (by omega)]
        exact ⟨fun z => absurd z (nI_ge jk (by omega)), fun _ => ⟨fun z => absurd z (nI_pos (by omega)), fun _ => ⟨fun z => absurd z (nI_ge (b := 600) (by omega) (by omega)), fun _ => ⟨vp_in_nI jk (by omega), fun _ => trivial, fun z => z (mn j hj)⟩⟩⟩⟩
      · have jk : NX8_isWord_20 k μ < strLen.getD k 0 := (nI_ltI (by omega) (by omega)).mp z
        have jl : q + NX8_isWord_20 k μ < N := (d4 _ (by omega)).2
        have hit := fst_hit (n := 8) (c := fun j9 => !Cb_X8_isWord_20 k μ j9 (fo j9 (g_X8_isWord_20 k μ) ())) (show NX8_isWord_20 k μ < 8 by omega)
        have hit' : (!Cb_X8_isWord_20 k μ (NX8_isWord_20 k μ) ()) = true := hit
        rw [cb _ jk] at hit'
        have ne : ¬ byt t N (q + NX8_isWord_20 k μ) = (strByt.getD k []).getD (NX8_isWord_20 k μ) 0 := fun y => by
          rw [decide_eq_true y] at hit'
          cases hit'
        rw [ad, e2 _ jk, nI_ix (show NX8_isWord_20 k μ < 2 ^ 31 by omega)]
        exact ⟨fun _ => trivial, fun _ => ⟨fun _ => trivial, fun _ => ⟨vp_in_nI jk (by omega), fun y => ne y, fun _ => trivial⟩⟩⟩
    refine ⟨hP, ?_⟩
    unfold F_X8_isWord
    rw [if_pos c0]
    by_cases y : NX8_isWord_20 k μ < strLen.getD k 0
    · have hit := fst_hit (n := 8) (c := fun j9 => !Cb_X8_isWord_20 k μ j9 (fo j9 (g_X8_isWord_20 k μ) ())) (show NX8_isWord_20 k μ < 8 by omega)
      have hit' : (!Cb_X8_isWord_20 k μ (NX8_isWord_20 k μ) ()) = true := hit
      rw [cb _ y] at hit'
      have nw : ¬ wdM t N q k = true := fun z => by
        have := (of_decide_eq_true z).2 _ y
        rw [decide_eq_true this] at hit'
        cases hit'
      rw [if_neg (nI_ge y (by omega)), if_neg nw]
    · have e : NX8_isWord_20 k μ = strLen.getD k 0 := by omega
      have w : wdM t N q k = true := decide_eq_true ⟨hl, fun j hj => mn j (by omega)⟩
      rw [e, if_pos (Int32.le_refl _), if_pos w]
  · have c0 : ¬ μ 1 5 - μ 1 4 = nI (strLen.getD k 0) := by
      rw [ed]
      exact fun z => hl ((nI_eq (by omega) (by omega)).mp z)
    have w : ¬ wdM t N q k = true := fun z => hl (of_decide_eq_true z).1
    refine ⟨⟨fun z => absurd z c0, fun _ => trivial⟩, ?_⟩
    unfold F_X8_isWord
    rw [if_neg c0, if_neg w]
/-! the reference's words -/
def hN (c : Nat → Nat) (n : Nat) : Nat := fo n (fun i s => 27 * s + c i) 0
theorem hN_inj {c d : Nat → Nat} : ∀ n m, (∀ i, i < n → 1 ≤ c i ∧ c i ≤ 26) → (∀ i, i < m → 1 ≤ d i ∧ d i ≤ 26) → hN c n = hN d m → n = m ∧ ∀ i, i < n → c i = d i := by
  intro n
  induction n with
  | zero =>
    intro m _ hd e
    cases m with
    | zero => exact ⟨rfl, fun i hi => absurd hi (by omega)⟩
    | succ m =>
      have e' : 0 = 27 * hN d m + d m := e
      have := hd m (by omega)
      omega
  | succ n ih =>
    intro m hc hd e
    cases m with
    | zero =>
      have e' : 27 * hN c n + c n = 0 := e
      have := hc n (by omega)
      omega
    | succ m =>
      have e' : 27 * hN c n + c n = 27 * hN d m + d m := e
      have h1 := hc n (by omega)
      have h2 := hd m (by omega)
      have e1 : c n = d m := by omega
      have e2 : hN c n = hN d m := by omega
      obtain ⟨i1, i2⟩ := ih m (fun i hi => hc i (by omega)) (fun i hi => hd i (by omega)) e2
      subst i1
      refine ⟨rfl, fun i hi => ?_⟩
      by_cases y : i = n
      · rw [y, e1]
      · exact i2 i (by omega)
theorem hN_lt {c : Nat → Nat} : ∀ n, (∀ i, i < n → c i ≤ 26) → hN c n < 27 ^ n := by
  intro n
  induction n with
  | zero => exact fun _ => (by decide : 0 < 27 ^ 0)
  | succ n ih =>
    intro hc
    have e' : hN c (n + 1) = 27 * hN c n + c n := rfl
    have h1 := hc n (by omega)
    have h2 := ih fun i hi => hc i (by omega)
    rw [e', Nat.pow_succ]
    omega
def wc (k i : Nat) : Nat := ix ((strByt.getD k []).getD i 0) - 96
def lc (t : Nat → Int32) (N q i : Nat) : Nat := ix (byt t N (q + i)) - 96
theorem lc_ok {b : Int32} (h : ltr b = true) : b = nI (96 + (ix b - 96)) ∧ 1 ≤ ix b - 96 ∧ ix b - 96 ≤ 26 := by
  obtain ⟨-, -, n, n1, n2, e⟩ := ltr_ne h
  rw [e, nI_ix (by omega)]
  refine ⟨?_, by omega, by omega⟩
  rw [show 96 + (n - 96) = n by omega]
theorem lg_ne {x y : Int64} (h : x ≠ y) : lg_cmp x y ≠ 0 := by
  unfold lg_cmp
  intro q
  split at q
  · exact absurd q (by decide)
  · exact absurd q (by decide)
theorem lN_inj {a b : Nat} (ha : a < 2 ^ 64) (hb : b < 2 ^ 64) (h : lN a = lN b) : a = b := by
  have h2 : BitVec.ofNat 64 a = BitVec.ofNat 64 b := congrArg Int64.toBitVec h
  have h3 := congrArg BitVec.toNat h2
  rw [BitVec.toNat_ofNat, BitVec.toNat_ofNat, Nat.mod_eq_of_lt ha, Nat.mod_eq_of_lt hb] at h3
  exact h3
theorem sp_wordHere {t : Nat → Int32} {N p : Nat} {μ : Mem} (h : TxM t N p μ) : P_X10_wordHere μ ∧ F_X10_wordHere μ = (if ltn t N (skp t N p) ≤ 7 then lN (hN (lc t N (skp t N p)) (ltn t N (skp t N p))) else -1) ∧ M_X10_wordHere μ = M_X10_blanks μ := by
  obtain ⟨k1, k2, k3, k4⟩ := sp_blanks h
  have k2' := k2
  obtain ⟨t1, t2, t3, t4, t5⟩ := k2
  obtain ⟨d1, d2, d3, d4⟩ := ltn_ok (t := t) t1 t2
  have m1 : muX10_wordHere_1 μ = M_X10_blanks μ := rfl
  rw [← m1] at k2' t4
  have bt : ∀ j, skp t N p + j < 2 ^ 31 → P_X10_byteAt ((muX10_wordHere_1 μ) 57 4 + nI j) (muX10_wordHere_1 μ) ∧ F_X10_byteAt ((muX10_wordHere_1 μ) 57 4 + nI j) (muX10_wordHere_1 μ) = byt t N (skp t N p + j) := fun j hj => by
    rw [t4, nI_add]
    exact sp_byteAt k2' hj
  have cb : ∀ j, j ≤ ltn t N (skp t N p) → ∀ s, (!Cb_X10_wordHere_8 (muX10_wordHere_1 μ) j s) = !ltr (byt t N (skp t N p + j)) := fun j hj s => by
    unfold Cb_X10_wordHere_8
    rw [(bt j (by omega)).2, isLetM]
    cases z : ltr (byt t N (skp t N p + j)) with
    | true => rfl
    | false => rfl
  have eN : NX10_wordHere_8 μ = ltn t N (skp t N p) := fst_eq (by omega) (by
    show (!Cb_X10_wordHere_8 (muX10_wordHere_1 μ) _ _) = true
    rw [cb _ (Nat.le_refl _), d3]
    rfl) fun j hj => by
    show (!Cb_X10_wordHere_8 (muX10_wordHere_1 μ) _ _) = false
    rw [cb j (by omega), (d4 j hj).1]
    rfl
  have st : ∀ j, j ≤ ltn t N (skp t N p) → j ≤ 7 → fo j (g_X10_wordHere_8 (muX10_wordHere_1 μ)) 0 = lN (hN (lc t N (skp t N p)) j) := by
    intro j
    induction j with
    | zero => exact fun _ _ => rfl
    | succ j ih =>
      intro hj h7
      have e : fo (j + 1) (g_X10_wordHere_8 (muX10_wordHere_1 μ)) 0 = VX10_wordHere_8_1 (muX10_wordHere_1 μ) j (fo j (g_X10_wordHere_8 (muX10_wordHere_1 μ)) 0) := rfl
      obtain ⟨l1, l2, l3⟩ := lc_ok (d4 j (by omega)).1
      have e' : hN (lc t N (skp t N p)) (j + 1) = 27 * hN (lc t N (skp t N p)) j + lc t N (skp t N p) j := rfl
      rw [e, e', ih (by omega) (by omega)]
      unfold VX10_wordHere_8_1
      rw [if_neg (show ¬ (7 : Int32) ≤ nI j from nI_ge (b := 7) (by omega) (by omega)), (bt j (by omega)).2, l1, nI_l (by omega), show (27 : Int64) = lN 27 from rfl, show (97 : Int64) = lN 97 from rfl, lN_mul, lN_add, lN_sub (by omega), lN_1]
      refine congrArg lN ?_
      unfold lc
      omega
  refine ⟨⟨k1, fun j hj => ?_, (bt _ (by rw [eN]; omega)).1, fun _ => trivial, fun z => absurd ?_ z⟩, ?_, m1⟩
  · rw [eN] at hj
    unfold Pb_X10_wordHere_8
    rw [(bt j (by omega)).2, isLetM, (d4 j hj).1]
    exact ⟨(bt j (by omega)).1, fun z => absurd z (by decide), fun _ => ⟨fun _ => trivial, fun _ => (bt j (by omega)).1⟩⟩
  · rw [(bt _ (by rw [eN]; omega)).2, eN, isLetM, d3]
    rfl
  · unfold F_X10_wordHere
    rw [eN]
    by_cases y : ltn t N (skp t N p) ≤ 7
    · rw [if_pos (show nI (ltn t N (skp t N p)) ≤ (7 : Int32) from nI_le (b := 7) y (by omega)), if_pos y]
      unfold SX10_wordHere_8
      rw [eN, st _ (Nat.le_refl _) y]
    · rw [if_neg (show ¬ nI (ltn t N (skp t N p)) ≤ (7 : Int32) from nI_ge (a := 7) (by omega) (by omega)), if_neg y]
theorem sp_isWordM {t : Nat → Int32} {N p k : Nat} {μ : Mem} {p1 p2 p3 p4 p5 p6 p7 : Int32} (hk : k < 19) (hk0 : k ≠ 0) (hs : ∀ μ, F_X10_seven p1 p2 p3 p4 p5 p6 p7 μ = lN (hN (wc k) (strLen.getD k 0))) (h : TxM t N p μ) (h0 : μ 57 5 = 0) :
    P_X10_isWord p1 p2 p3 p4 p5 p6 p7 μ ∧ F_X10_isWord p1 p2 p3 p4 p5 p6 p7 μ = (if wdM t N (skp t N p) k = true then 1 else 0) ∧ M_X10_isWord p1 p2 p3 p4 p5 p6 p7 μ = M_X10_blanks μ := by
  obtain ⟨a1, a2, a3⟩ := sp_wordHere h
  obtain ⟨⟨w3, w5⟩, wb⟩ := wd_tab k hk hk0
  have hN' := h.1
  obtain ⟨q1, q2, q3, q4⟩ := skp_ok (t := t) h.1 h.2.1
  obtain ⟨d1, d2, d3, d4⟩ := ltn_ok (t := t) h.1 q1
  have wl : ∀ j, j < strLen.getD k 0 → ltr ((strByt.getD k []).getD j 0) = true := fun j hj => decide_eq_true (wb j hj)
  have w27 : hN (wc k) (strLen.getD k 0) < 2 ^ 64 := Nat.lt_of_lt_of_le (hN_lt _ fun i hi => (lc_ok (wl i hi)).2.2) (Nat.le_trans (Nat.pow_le_pow_right (by decide) w5) (by decide))
  refine ⟨⟨fun _ => trivial, fun _ => a1⟩, ?_, ?_⟩
  · unfold F_X10_isWord
    rw [if_neg (not_not_intro h0), hs, a2]
    by_cases y : ltn t N (skp t N p) ≤ 7
    · rw [if_pos y]
      have c27 : hN (lc t N (skp t N p)) (ltn t N (skp t N p)) < 2 ^ 64 := Nat.lt_of_lt_of_le (hN_lt _ fun i hi => (lc_ok (d4 i hi).1).2.2) (Nat.le_trans (Nat.pow_le_pow_right (by decide) y) (by decide))
      by_cases z : hN (lc t N (skp t N p)) (ltn t N (skp t N p)) = hN (wc k) (strLen.getD k 0)
      · obtain ⟨z1, z2⟩ := hN_inj _ _ (fun i hi => (lc_ok (d4 i hi).1).2) (fun i hi => (lc_ok (wl i hi)).2) z
        have w : wdM t N (skp t N p) k = true := decide_eq_true ⟨z1, fun j hj => by
          have e := z2 j (by omega)
          rw [(lc_ok (d4 j (by omega)).1).1, (lc_ok (wl j hj)).1]
          have e' : ix (byt t N (skp t N p + j)) - 96 = ix ((strByt.getD k []).getD j 0) - 96 := e
          rw [e']⟩
        rw [z, if_neg (not_not_intro (lg_self _)), if_pos w]
      · have w : ¬ wdM t N (skp t N p) k = true := fun w => by
          obtain ⟨z1, z2⟩ := of_decide_eq_true w
          apply z
          rw [z1]
          unfold hN
          refine fo_congr _ _ _ _ fun i hi s => ?_
          unfold lc wc
          rw [z2 i hi]
        rw [if_pos (lg_ne fun q => z (lN_inj c27 w27 q)), if_neg w]
    · rw [if_neg y]
      have w : ¬ wdM t N (skp t N p) k = true := fun w => by
        have := (of_decide_eq_true w).1
        omega
      have ne : (-1 : Int64) ≠ lN (hN (wc k) (strLen.getD k 0)) := by
        have b : hN (wc k) (strLen.getD k 0) < 27 ^ 5 := Nat.lt_of_lt_of_le (hN_lt _ fun i hi => (lc_ok (wl i hi)).2.2) (Nat.pow_le_pow_right (by decide) w5)
        intro q
        have e : (-1 : Int64) = lN (2 ^ 64 - 1) := by decide
        rw [e] at q
        have := lN_inj (by decide) w27 q
        omega
      rw [if_pos (lg_ne ne), if_neg w]
  · unfold M_X10_isWord muX10_isWord_1
    rw [if_neg (not_not_intro h0), a3]
theorem sp_skipWord {t : Nat → Int32} {N q : Nat} {μ : Mem} (h : TxM t N q μ) : P_X10_skipWord μ ∧ TxM t N (q + ltn t N q) (M_X10_skipWord μ) ∧ (∀ r, r ≠ 57 → M_X10_skipWord μ r = μ r) ∧ ∀ k, k ≠ 4 → M_X10_skipWord μ 57 k = μ 57 k := by
  have h' := h
  obtain ⟨h1, h2, h3, h4, h5⟩ := h
  obtain ⟨d1, d2, d3, d4⟩ := ltn_ok (t := t) h1 h2
  have st : ∀ j, j ≤ ltn t N q → TxM t N (q + j) (fo j g_X10_skipWord_0 μ) ∧ (∀ r, r ≠ 57 → fo j g_X10_skipWord_0 μ r = μ r) ∧ ∀ k, k ≠ 4 → fo j g_X10_skipWord_0 μ 57 k = μ 57 k := by
    intro j
    induction j with
    | zero => exact fun _ => ⟨h', fun _ _ => rfl, fun _ _ => rfl⟩
    | succ j ih =>
      intro hj
      obtain ⟨i2, i3, i4⟩ := ih (by omega)
      have e2 : fo (j + 1) g_X10_skipWord_0 μ = upm (fo j g_X10_skipWord_0 μ) 57 4 (fo j g_X10_skipWord_0 μ 57 4 + 1) := rfl
      obtain ⟨x1, x2, x3, x4, x5⟩ := i2
      rw [e2]
      refine ⟨⟨x1, by omega, by rw [upm_rr, if_neg (by decide), x3], ?_, fun k hk => by rw [upm_other (by decide), x5 k hk]⟩, fun r hr => by rw [upm_other hr, i3 r hr], fun k hk => by rw [upm_rr, if_neg hk, i4 k hk]⟩
      rw [upm_rr, if_pos rfl, x4]
      exact (nI_succ (q + j)).symm
  have bt : ∀ j, j ≤ ltn t N q → P_X10_byteAt (fo j g_X10_skipWord_0 μ 57 4) (fo j g_X10_skipWord_0 μ) ∧ F_X10_byteAt (fo j g_X10_skipWord_0 μ 57 4) (fo j g_X10_skipWord_0 μ) = byt t N (q + j) := fun j hj => by
    obtain ⟨i2, -⟩ := st j hj
    rw [i2.2.2.2.1]
    exact sp_byteAt i2 (by omega)
  have cb : ∀ j, j ≤ ltn t N q → (!Cb_X10_skipWord_0 j (fo j g_X10_skipWord_0 μ)) = !ltr (byt t N (q + j)) := fun j hj => by
    unfold Cb_X10_skipWord_0
    rw [(bt j hj).2, isLetM]
    cases z : ltr (byt t N (q + j)) with
    | true => rfl
    | false => rfl
  have eN : NX10_skipWord_0 μ = ltn t N q := fst_eq (by omega) (by
    show (!Cb_X10_skipWord_0 _ (fo _ g_X10_skipWord_0 μ)) = true
    rw [cb _ (Nat.le_refl _), d3]
    rfl) fun j hj => by
    show (!Cb_X10_skipWord_0 j (fo j g_X10_skipWord_0 μ)) = false
    rw [cb j (by omega), (d4 j hj).1]
    rfl
  have eS : SX10_skipWord_0 μ = fo (ltn t N q) g_X10_skipWord_0 μ := by
    unfold SX10_skipWord_0
    rw [eN]
  have eM : M_X10_skipWord μ = fo (ltn t N q) g_X10_skipWord_0 μ := eS
  refine ⟨⟨fun j hj => ?_, ?_, fun _ => trivial, fun z => absurd ?_ z⟩, ?_, ?_, ?_⟩
  · rw [eN] at hj
    unfold Pb_X10_skipWord_0
    rw [(bt j (by omega)).2, isLetM, (d4 j hj).1]
    exact ⟨(bt j (by omega)).1, fun z => absurd z (by decide), fun _ => trivial⟩
  · rw [eS]
    exact (bt _ (Nat.le_refl _)).1
  · rw [eS, (bt _ (Nat.le_refl _)).2, isLetM, d3]
    rfl
  · rw [eM]
    exact (st _ (Nat.le_refl _)).1
  · rw [eM]
    exact (st _ (Nat.le_refl _)).2.1
  · rw [eM]
    exact (st _ (Nat.le_refl _)).2.2
