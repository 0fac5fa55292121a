/-! feed -/
def shI (i : Nat) : Int32 := fo i (fun _ x => x + (-8)) 24
def bV (p : Int32) (i : Nat) : Int32 := (p >>> (shI i &&& 31)) &&& 255
theorem and255 (x : Int32) : 0 ≤ x &&& 255 ∧ x &&& 255 ≤ 255 := by
  have e : x &&& 255 = nI (x.toBitVec.toNat &&& 255) := by
    rw [← Int32.toBitVec_inj, Int32.toBitVec_and]
    apply BitVec.eq_of_toNat_eq
    rw [BitVec.toNat_and]
    show x.toBitVec.toNat &&& 255 = (BitVec.ofNat 32 (x.toBitVec.toNat &&& 255)).toNat
    rw [BitVec.toNat_ofNat, Nat.mod_eq_of_lt]
    have : x.toBitVec.toNat &&& 255 ≤ 255 := Nat.and_le_right
    omega
  have k : x.toBitVec.toNat &&& 255 ≤ 255 := Nat.and_le_right
  rw [e]
  exact ⟨(nI_leI (a := 0) (by omega) (by omega)).mpr (Nat.zero_le _), (nI_leI (b := 255) (by omega) (by omega)).mpr k⟩
theorem sh_neg : ∀ i, i < 4 → ¬ shI i < 0 := by decide +kernel
theorem sp_addNumber {μ : Mem} {p : Int32} {n : Nat} (hn : n + 4 ≤ 600) (h1 : μ 1 1 = nI n) : P_X8_addNumber p μ ∧ M_X8_addNumber p μ 1 1 = nI (n + 4) ∧ (∀ k, M_X8_addNumber p μ 2 k = if n ≤ k ∧ k < n + 4 then bV p (k - n) else μ 2 k) ∧ (∀ q, q ≠ 1 → q ≠ 2 → M_X8_addNumber p μ q = μ q) ∧ ∀ k, k ≠ 1 → M_X8_addNumber p μ 1 k = μ 1 k := by
  obtain ⟨k1, k2, k3, k4, k5, k6⟩ := fo_all (fun i (s : Int32 × Mem) => s.1 = shI i ∧ s.2 1 1 = nI (n + i) ∧ (∀ k, s.2 2 k = if n ≤ k ∧ k < n + i then bV p (k - n) else μ 2 k) ∧ (∀ q, q ≠ 1 → q ≠ 2 → s.2 q = μ q) ∧ ∀ k, k ≠ 1 → s.2 1 k = μ 1 k) (Pb_X8_addNumber_3 p) 4 (g_X8_addNumber_3 p) (24, μ)
    ⟨rfl, h1, fun k => by rw [if_neg (by omega)], fun _ _ _ => rfl, fun _ _ => rfl⟩ (fun i hi s hs => by
    obtain ⟨a1, a2, a3, a4, a5⟩ := hs
    have em : muX8_addNumber_3_2 p i s = upm (upm s.2 2 (n + i) (bV p i)) 1 1 (nI (n + i + 1)) := by
      unfold muX8_addNumber_3_2 muX8_addNumber_3_1
      rw [a2, put_k (by omega) (by decide), upm_other (show (1 : Nat) ≠ 2 by decide), a2, a1, nI_succ]
      rfl
    refine ⟨⟨fun q => ?_, fun _ => trivial⟩, ?_, ?_, fun k => ?_, fun q q1 q2 => ?_, fun k hk => ?_⟩
    · rw [a1] at q
      exact sh_neg i hi q
    · show s.1 + (-8) = _
      rw [a1]
      rfl
    · show muX8_addNumber_3_2 p i s 1 1 = _
      rw [em, upm_rr, if_pos rfl]
      rfl
    · show muX8_addNumber_3_2 p i s 2 k = _
      rw [em, upm_other (by decide), upm_rr]
      by_cases z : k = n + i
      · rw [if_pos z, if_pos (by omega), z, Nat.add_sub_cancel_left]
      · rw [if_neg z, a3]
        by_cases y : n ≤ k ∧ k < n + i
        · rw [if_pos y, if_pos (by omega)]
        · rw [if_neg y, if_neg (by omega)]
    · show muX8_addNumber_3_2 p i s q = _
      rw [em, upm_other q1, upm_other q2, a4 q q1 q2]
    · show muX8_addNumber_3_2 p i s 1 k = _
      rw [em, upm_rr, if_neg hk, upm_other (by decide), a5 k hk])
  have e : (SX8_addNumber_3 p μ).1 = shI 4 := k2
  refine ⟨⟨k1, fun _ => trivial, fun q => ?_⟩, k3, k4, k5, k6⟩
  rw [e] at q
  exact absurd q (by decide +kernel)
def pV (a b c d e : Int32) (j : Nat) : Int32 := if j = 0 then a else if j = 1 then b else if j = 2 then c else if j = 3 then d else e
def fdV (a b c d e : Int32) (i : Nat) : Int32 := bV (pV a b c d e (i / 4)) (i % 4)
/-- the class's tape behind 4·j bytes of a feed -/
def fdC (a b c d e : Int32) (n : Nat) (μ : Mem) (j : Nat) (M : Mem) : Prop := M 1 1 = nI (n + 4 * j) ∧ (∀ k, M 2 k = if n ≤ k ∧ k < n + 4 * j then fdV a b c d e (k - n) else μ 2 k) ∧ (∀ q, q ≠ 1 → q ≠ 2 → M q = μ q) ∧ ∀ k, k ≠ 1 → M 1 k = μ 1 k
theorem fdC_s {a b c d e : Int32} {n j : Nat} {μ M : Mem} (hn : n + 20 ≤ 600) (hj : j < 5) (h : fdC a b c d e n μ j M) : P_X8_addNumber (pV a b c d e j) M ∧ fdC a b c d e n μ (j + 1) (M_X8_addNumber (pV a b c d e j) M) := by
  obtain ⟨h1, h2, h3, h4⟩ := h
  obtain ⟨k1, k2, k3, k4, k5⟩ := sp_addNumber (p := pV a b c d e j) (n := n + 4 * j) (by omega) h1
  refine ⟨k1, by rw [k2]; exact congrArg nI (by omega), fun k => ?_, fun q q1 q2 => by rw [k4 q q1 q2, h3 q q1 q2], fun k hk => by rw [k5 k hk, h4 k hk]⟩
  rw [k3]
  by_cases y : n + 4 * j ≤ k ∧ k < n + 4 * j + 4
  · rw [if_pos y, if_pos (by omega)]
    unfold fdV
    rw [show (k - n) / 4 = j by omega, show (k - n) % 4 = k - (n + 4 * j) by omega]
  · rw [if_neg y, h2]
    by_cases x : n ≤ k ∧ k < n + 4 * j
    · rw [if_pos x, if_pos (by omega)]
    · rw [if_neg x, if_neg (by omega)]
theorem sh_mod : ∀ i, i < 20 → ((24 - (8 * ((nI i) - (nI i) / 4 * 4))) &&& 31 : Int32) = (shI (i % 4) &&& 31) := by decide +kernel
theorem pick_p (a b c d e : Int32) (i : Nat) (s : Mem) (hi : i < 20) : VX10_feed_23_1 a b c d e i s = pV a b c d e (i / 4) := by
  unfold VX10_feed_23_1 pV
  have l : ∀ k : Nat, k < 100 → ((nI k : Int32) ≤ nI i ↔ k ≤ i) := fun k hk => nI_leI (by omega) (by omega)
  have l4 : (4 : Int32) ≤ nI i ↔ 4 ≤ i := l 4 (by decide)
  have l8 : (8 : Int32) ≤ nI i ↔ 8 ≤ i := l 8 (by decide)
  have l12 : (12 : Int32) ≤ nI i ↔ 12 ≤ i := l 12 (by decide)
  have l16 : (16 : Int32) ≤ nI i ↔ 16 ≤ i := l 16 (by decide)
  by_cases q4 : 4 ≤ i
  · rw [if_pos (l4.mpr q4), if_neg (show ¬ i / 4 = 0 by omega)]
    by_cases q8 : 8 ≤ i
    · rw [if_pos (l8.mpr q8), if_neg (show ¬ i / 4 = 1 by omega)]
      by_cases q12 : 12 ≤ i
      · rw [if_pos (l12.mpr q12), if_neg (show ¬ i / 4 = 2 by omega)]
        by_cases q16 : 16 ≤ i
        · rw [if_pos (l16.mpr q16), if_neg (show ¬ i / 4 = 3 by omega)]
        · rw [if_neg (fun z => q16 (l16.mp z)), if_pos (show i / 4 = 3 by omega)]
      · rw [if_neg (fun z => q12 (l12.mp z)), if_pos (show i / 4 = 2 by omega)]
    · rw [if_neg (fun z => q8 (l8.mp z)), if_pos (show i / 4 = 1 by omega)]
  · rw [if_neg (fun z => q4 (l4.mp z)), if_pos (show i / 4 = 0 by omega)]
theorem sp_feedM {μ : Mem} {a b c d e : Int32} {n : Nat} (hn : n + 20 ≤ 600) (h1 : μ 57 1 = nI n) :
    (∀ j, j < 20 → Pb_X10_feed_23 a b c d e j (fo j (g_X10_feed_23 a b c d e) μ)) ∧ fo 20 (g_X10_feed_23 a b c d e) μ 57 1 = nI (n + 20) ∧ (∀ k, fo 20 (g_X10_feed_23 a b c d e) μ 58 k = if n ≤ k ∧ k < n + 20 then fdV a b c d e (k - n) else μ 58 k) ∧ (∀ q, q ≠ 57 → q ≠ 58 → fo 20 (g_X10_feed_23 a b c d e) μ q = μ q) ∧ ∀ k, k ≠ 1 → fo 20 (g_X10_feed_23 a b c d e) μ 57 k = μ 57 k := by
  refine fo_all (fun i (s : Mem) => s 57 1 = nI (n + i) ∧ (∀ k, s 58 k = if n ≤ k ∧ k < n + i then fdV a b c d e (k - n) else μ 58 k) ∧ (∀ q, q ≠ 57 → q ≠ 58 → s q = μ q) ∧ ∀ k, k ≠ 1 → s 57 k = μ 57 k) (Pb_X10_feed_23 a b c d e) 20 (g_X10_feed_23 a b c d e) μ
    ⟨h1, fun k => by rw [if_neg (by omega)], fun _ _ _ => rfl, fun _ _ => rfl⟩ (fun i hi s hs => ?_)
  obtain ⟨a2, a3, a4, a5⟩ := hs
  have em : g_X10_feed_23 a b c d e i s = upm (upm s 58 (n + i) (fdV a b c d e i)) 57 1 (nI (n + i + 1)) := by
    unfold g_X10_feed_23 muX10_feed_23_3 muX10_feed_23_2
    rw [a2, nI_ix (by omega), upm_other (show (57 : Nat) ≠ 58 by decide), a2, pick_p a b c d e i s hi, sh_mod i hi, nI_succ]
    rfl
  rw [em]
  refine ⟨⟨fun q => absurd q (nI_ge hi (by decide)), fun _ => by rw [a2]; exact vp_in_nI (by omega) (by omega)⟩, ?_, fun k => ?_, fun q q1 q2 => ?_, fun k hk => ?_⟩
  · rw [upm_rr, if_pos rfl]
    rfl
  · rw [upm_other (by decide), upm_rr]
    by_cases z : k = n + i
    · rw [if_pos z, if_pos (by omega), z, Nat.add_sub_cancel_left]
    · rw [if_neg z, a3]
      by_cases y : n ≤ k ∧ k < n + i
      · rw [if_pos y, if_pos (by omega)]
      · rw [if_neg y, if_neg (by omega)]
  · rw [upm_other q1, upm_other q2, a4 q q1 q2]
  · rw [upm_rr, if_neg hk, upm_other (by decide), a5 k hk]
