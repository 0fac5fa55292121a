/-! the reference's images: written and read cell by cell -/
theorem puts0 {row q : Nat} {x : Int32} {s : Mem} (hr : row ≠ 57) (hq : s 57 42 = nI q) (hl : q < 1072) : P_X10_puts row x 0 s ∧ M_X10_puts row x 0 s = upm (upm s row q x) 57 42 (nI (q + 1)) ∧ F_X10_puts row x 0 s = x := by
  have v : VX10_puts_2 row x 0 s = upm s row q x := by
    unfold VX10_puts_2 muX10_puts_1
    rw [if_neg (not_not_intro rfl), hq, nI_ix (by omega)]
  have v2 : (upm s row q x) 57 42 = nI q := by rw [upm_other (fun h => hr h.symm), hq]
  have m : muX10_puts_3 row x 0 s = upm (upm s row q x) 57 42 (nI (q + 1)) := by
    unfold muX10_puts_3
    rw [v, v2, nI_succ]
  have e : (muX10_puts_3 row x 0 s) 57 42 - 1 = nI q := by rw [m, upm_rr, if_pos rfl, nI_pred]
  refine ⟨⟨⟨fun z => absurd rfl z, fun _ => ?_⟩, ?_⟩, m, ?_⟩
  · rw [hq]
    exact vp_in_nI hl (by omega)
  · rw [e]
    exact vp_in_nI hl (by omega)
  · unfold F_X10_puts
    rw [e, nI_ix (by omega), m, upm_other hr, upm_rr, if_pos rfl]
theorem puts1 {row q : Nat} {x : Int32} {s : Mem} (hr : row ≠ 57) (hq : s 57 42 = nI q) (hl : q < 1072) : P_X10_puts row x 1 s ∧ M_X10_puts row x 1 s = upm s 57 42 (nI (q + 1)) ∧ F_X10_puts row x 1 s = s row q := by
  have v : VX10_puts_2 row x 1 s = s := by
    unfold VX10_puts_2
    rw [if_pos (by decide)]
  have m : muX10_puts_3 row x 1 s = upm s 57 42 (nI (q + 1)) := by
    unfold muX10_puts_3
    rw [v, hq, nI_succ]
  have e : (muX10_puts_3 row x 1 s) 57 42 - 1 = nI q := by rw [m, upm_rr, if_pos rfl, nI_pred]
  refine ⟨⟨⟨fun _ => trivial, fun z => absurd z (by decide)⟩, ?_⟩, m, ?_⟩
  · rw [e]
    exact vp_in_nI hl (by omega)
  · unfold F_X10_puts
    rw [e, nI_ix (by omega), m, upm_other hr]
/-- what an image holds at place k -/
def srcI (μ : Mem) (k : Nat) : Int32 := if k = 0 then μ 57 39 else if k < 64 then μ 521 (k - 1) else μ (527 + (k - 64) / 63) ((k - 64) % 63)
theorem src_w {μ : Mem} {i j : Nat} (hj : j < 63) : srcI μ (64 + (63 * i + j)) = μ (527 + i) j := by
  unfold srcI
  rw [if_neg (by omega), if_neg (by omega), show 64 + (63 * i + j) - 64 = 63 * i + j by omega, show (63 * i + j) / 63 = i by omega, show (63 * i + j) % 63 = j by omega]
def J0 (row : Nat) (μ : Mem) (n : Nat) (s : Mem) : Prop := s 57 42 = nI n ∧ (∀ k, k < n → s row k = srcI μ k) ∧ (∀ h, h ≠ row → h ≠ 57 → s h = μ h) ∧ ∀ k, k ≠ 42 → s 57 k = μ 57 k
theorem J0.step {row n h j : Nat} {μ s : Mem} (hr : 544 ≤ row) (hl : n < 1072) (hs : J0 row μ n s) (hh : h = 57 ∧ j = 39 ∨ 521 ≤ h ∧ h ≤ 542) (e : srcI μ n = μ h j) : P_X10_puts row (s h j) 0 s ∧ J0 row μ (n + 1) (upm (M_X10_puts row (s h j) 0 s) h j (F_X10_puts row (s h j) 0 s)) := by
  obtain ⟨a1, a2, a3, a4⟩ := hs
  obtain ⟨b1, b2, b3⟩ := puts0 (row := row) (x := s h j) (by omega) a1 hl
  have es : s h j = μ h j := by
    rcases hh with ⟨rfl, rfl⟩ | hh
    · exact a4 39 (by decide)
    · rw [a3 h (by omega) (by omega)]
  refine ⟨b1, ?_, fun k hk => ?_, fun q q1 q2 => ?_, fun k hk => ?_⟩
  · rw [b2, b3, upm_ap, if_neg (by omega), upm_rr, if_pos rfl]
  · rw [b2, b3, upm_other (show row ≠ h by omega), upm_other (show row ≠ 57 by omega), upm_rr]
    by_cases z : k = n
    · rw [if_pos z, z, e, es]
    · rw [if_neg z, a2 k (by omega)]
  · funext k
    rw [b2, b3, upm_ap]
    by_cases z : q = h ∧ k = j
    · rw [if_pos z, es, z.1, z.2]
    · rw [if_neg z, upm_other q2, upm_other q1, a3 q q1 q2]
  · rw [b2, b3, upm_ap]
    by_cases z : 57 = h ∧ k = j
    · rw [if_pos z, es, ← z.1, ← z.2]
    · rw [if_neg z, upm_rr, if_neg hk, upm_other (show 57 ≠ row by omega), a4 k hk]
theorem sp_putsAll0 {row : Nat} {μ : Mem} (hr : 544 ≤ row) : P_X10_putsAll row 0 μ ∧ (∀ k, k < 1072 → M_X10_putsAll row 0 μ row k = srcI μ k) ∧ (∀ h, h ≠ row → h ≠ 57 → M_X10_putsAll row 0 μ h = μ h) ∧ ∀ k, k ≠ 42 → M_X10_putsAll row 0 μ 57 k = μ 57 k := by
  have j0 : J0 row μ 0 (upm μ 57 42 0) := ⟨by rw [upm_rr, if_pos rfl]; rfl, fun k hk => absurd hk (by omega), fun h h1 h2 => upm_other h2, fun k hk => by rw [upm_rr, if_neg hk]⟩
  obtain ⟨s1, s2⟩ := j0.step (h := 57) (j := 39) hr (by omega) (Or.inl ⟨rfl, rfl⟩) rfl
  have s2' : J0 row μ (1 + 0) (muX10_putsAll_3 row 0 μ) := s2
  obtain ⟨k1, k2⟩ := fo_all (fun i s => J0 row μ (1 + i) s) (Pb_X10_putsAll_21 row 0) 63 (g_X10_putsAll_21 row 0) (muX10_putsAll_3 row 0 μ) s2' (fun i hi s hs => by
    obtain ⟨t1, t2⟩ := hs.step (h := 521) (j := i) hr (by omega) (Or.inr (by omega)) (by unfold srcI; rw [if_neg (by omega), if_pos (by omega), show 1 + i - 1 = i by omega])
    refine ⟨⟨fun z => absurd z (nI_ge hi (by decide)), fun _ => ⟨vp_in_nI (by omega) (by omega), ?_, vp_in_nI (by omega) (by omega)⟩⟩, ?_⟩
    · rw [nI_ix (by omega)]
      exact t1
    · unfold g_X10_putsAll_21 muX10_putsAll_21_2 muX10_putsAll_21_1
      rw [nI_ix (by omega)]
      exact t2)
  have k2' : J0 row μ (64 + 63 * 0) (SX10_putsAll_21 row 0 μ) := k2
  have inn : ∀ i, i < 16 → ∀ s, J0 row μ (64 + 63 * i) s → (∀ j, j < 63 → Pb_X10_putsAll_62 row 0 (nI i) j (fo j (g_X10_putsAll_62 row 0 (nI i)) s)) ∧ J0 row μ (64 + 63 * i + 63) (fo 63 (g_X10_putsAll_62 row 0 (nI i)) s) := fun i hi s hs =>
    fo_all (fun j s => J0 row μ (64 + 63 * i + j) s) (Pb_X10_putsAll_62 row 0 (nI i)) 63 (g_X10_putsAll_62 row 0 (nI i)) s hs (fun j hj s hs => by
      obtain ⟨t1, t2⟩ := hs.step (h := 527 + i) (j := j) hr (by omega) (Or.inr (by omega)) (by rw [Nat.add_assoc, src_w hj])
      have v16 : vp_in (nI i) 16 := vp_in_nI (by omega) (by omega)
      refine ⟨⟨fun z => absurd z (nI_ge hj (by decide)), fun _ => ⟨v16, v16, vp_in_nI (by omega) (by omega), ?_, vp_in_nI (by omega) (by omega)⟩⟩, ?_⟩
      · rw [nI_ix (by omega), nI_ix (by omega)]
        exact t1
      · unfold g_X10_putsAll_62 muX10_putsAll_62_2 muX10_putsAll_62_1
        rw [nI_ix (by omega), nI_ix (by omega)]
        exact t2)
  obtain ⟨l1, l2⟩ := fo_all (fun i s => J0 row μ (64 + 63 * i) s) (Pb_X10_putsAll_53 row 0) 16 (g_X10_putsAll_53 row 0) (SX10_putsAll_21 row 0 μ) k2' (fun i hi s hs => by
    obtain ⟨t1, t2⟩ := inn i hi s hs
    exact ⟨⟨fun z => absurd z (nI_ge hi (by decide)), fun _ => ⟨t1, fun _ => trivial, fun z => absurd z n_lt⟩⟩, t2⟩)
  obtain ⟨m1, m2, m3, m4⟩ : J0 row μ 1072 (M_X10_putsAll row 0 μ) := l2
  exact ⟨⟨s1, k1, fun _ => ⟨l1, fun _ => trivial, fun z => absurd z n_lt⟩, fun z => absurd z n_lt⟩, m2, m3, m4⟩
def J1 (row : Nat) (μ : Mem) (n : Nat) (s : Mem) : Prop := s 57 42 = nI n ∧ (0 < n → s 57 39 = μ row 0) ∧ (∀ k, k < 63 → 1 + k < n → s 521 k = μ row (1 + k)) ∧ (∀ i k, k < 63 → 64 + (63 * i + k) < n → s (527 + i) k = μ row (64 + (63 * i + k))) ∧ (∀ h, h ≠ 57 → (h < 521 ∨ 542 < h ∨ 521 < h ∧ h < 527) → s h = μ h) ∧ ∀ k, k ≠ 42 → k ≠ 39 → s 57 k = μ 57 k
theorem J1.stp {row n h j : Nat} {μ s : Mem} (hr : 544 ≤ row) (hl : n < 1072) (hs : J1 row μ n s) (hh : h = 57 ∧ j = 39 ∧ n = 0 ∨ h = 521 ∧ j < 63 ∧ n = 1 + j ∨ ∃ i, i < 16 ∧ h = 527 + i ∧ j < 63 ∧ n = 64 + (63 * i + j)) : P_X10_puts row (s h j) 1 s ∧ J1 row μ (n + 1) (upm (M_X10_puts row (s h j) 1 s) h j (F_X10_puts row (s h j) 1 s)) := by
  obtain ⟨a1, a2, a3, a4, a5, a6⟩ := hs
  obtain ⟨b1, b2, b3⟩ := puts1 (row := row) (x := s h j) (by omega) a1 hl
  have er : s row n = μ row n := by rw [a5 row (by omega) (by omega)]
  have g : ∀ q k, upm (M_X10_puts row (s h j) 1 s) h j (F_X10_puts row (s h j) 1 s) q k = if q = h ∧ k = j then μ row n else if q = 57 ∧ k = 42 then nI (n + 1) else s q k := fun q k => by
    rw [b2, b3, er, upm_ap, upm_ap]
  have hx : h = 57 ∧ j = 39 ∨ h = 521 ∨ 527 ≤ h ∧ h ≤ 542 := by
    rcases hh with ⟨h1, h2, h3⟩ | ⟨h1, h2, h3⟩ | ⟨i, h0, h1, h2, h3⟩
    · exact Or.inl ⟨h1, h2⟩
    · exact Or.inr (Or.inl h1)
    · exact Or.inr (Or.inr ⟨by omega, by omega⟩)
  refine ⟨b1, ?_, fun _ => ?_, fun k hk hn => ?_, fun i k hk hn => ?_, fun q q1 q2 => ?_, fun k k1 k2 => ?_⟩
  · clear hh
    rw [g, if_neg (by omega), if_pos ⟨rfl, rfl⟩]
  · rw [g]
    rcases hh with ⟨h1, h2, h3⟩ | ⟨h1, h2, h3⟩ | ⟨i, h0, h1, h2, h3⟩
    · rw [if_pos (by omega), h3]
    · rw [if_neg (by omega), if_neg (by omega), a2 (by omega)]
    · rw [if_neg (by omega), if_neg (by omega), a2 (by omega)]
  · rw [g]
    rcases hh with ⟨h1, h2, h3⟩ | ⟨h1, h2, h3⟩ | ⟨i, h0, h1, h2, h3⟩
    · omega
    · by_cases z : k = j
      · rw [if_pos ⟨h1.symm, z⟩, h3, z]
      · rw [if_neg (by omega), if_neg (by omega), a3 k hk (by omega)]
    · rw [if_neg (by omega), if_neg (by omega), a3 k hk (by omega)]
  · rw [g]
    rcases hh with ⟨h1, h2, h3⟩ | ⟨h1, h2, h3⟩ | ⟨i', h0, h1, h2, h3⟩
    · omega
    · omega
    · by_cases z : i = i' ∧ k = j
      · rw [if_pos (by omega), h3, z.1, z.2]
      · rw [if_neg (by omega), if_neg (by omega), a4 i k hk (by omega)]
  · clear hh
    funext k
    rw [g, if_neg (by omega), if_neg (by omega), a5 q q1 q2]
  · clear hh
    rw [g, if_neg (by omega), if_neg (by omega), a6 k k1 k2]
theorem sp_putsAll1 {row : Nat} {μ : Mem} (hr : 544 ≤ row) : P_X10_putsAll row 1 μ ∧ J1 row μ 1072 (M_X10_putsAll row 1 μ) := by
  have j0 : J1 row μ 0 (upm μ 57 42 0) := ⟨by rw [upm_rr, if_pos rfl]; rfl, fun hk => absurd hk (by omega), fun k _ hk => absurd hk (by omega), fun i k _ hk => absurd hk (by omega), fun h h1 h2 => upm_other h1, fun k hk _ => by rw [upm_rr, if_neg hk]⟩
  obtain ⟨s1, s2⟩ := j0.stp (h := 57) (j := 39) hr (by omega) (Or.inl ⟨rfl, rfl, rfl⟩)
  have s2' : J1 row μ (1 + 0) (muX10_putsAll_3 row 1 μ) := s2
  obtain ⟨k1, k2⟩ := fo_all (fun i s => J1 row μ (1 + i) s) (Pb_X10_putsAll_21 row 1) 63 (g_X10_putsAll_21 row 1) (muX10_putsAll_3 row 1 μ) s2' (fun i hi s hs => by
    obtain ⟨t1, t2⟩ := hs.stp (h := 521) (j := i) hr (by omega) (Or.inr (Or.inl ⟨rfl, hi, rfl⟩))
    refine ⟨⟨fun z => absurd z (nI_ge hi (by decide)), fun _ => ⟨vp_in_nI (by omega) (by omega), ?_, vp_in_nI (by omega) (by omega)⟩⟩, ?_⟩
    · rw [nI_ix (by omega)]
      exact t1
    · unfold g_X10_putsAll_21 muX10_putsAll_21_2 muX10_putsAll_21_1
      rw [nI_ix (by omega)]
      exact t2)
  have k2' : J1 row μ (64 + 63 * 0) (SX10_putsAll_21 row 1 μ) := k2
  have inn : ∀ i, i < 16 → ∀ s, J1 row μ (64 + 63 * i) s → (∀ j, j < 63 → Pb_X10_putsAll_62 row 1 (nI i) j (fo j (g_X10_putsAll_62 row 1 (nI i)) s)) ∧ J1 row μ (64 + 63 * i + 63) (fo 63 (g_X10_putsAll_62 row 1 (nI i)) s) := fun i hi s hs =>
    fo_all (fun j s => J1 row μ (64 + 63 * i + j) s) (Pb_X10_putsAll_62 row 1 (nI i)) 63 (g_X10_putsAll_62 row 1 (nI i)) s hs (fun j hj s hs => by
      obtain ⟨t1, t2⟩ := hs.stp (h := 527 + i) (j := j) hr (by omega) (Or.inr (Or.inr ⟨i, hi, rfl, hj, by omega⟩))
      have v16 : vp_in (nI i) 16 := vp_in_nI (by omega) (by omega)
      refine ⟨⟨fun z => absurd z (nI_ge hj (by decide)), fun _ => ⟨v16, v16, vp_in_nI (by omega) (by omega), ?_, vp_in_nI (by omega) (by omega)⟩⟩, ?_⟩
      · rw [nI_ix (by omega), nI_ix (by omega)]
        exact t1
      · unfold g_X10_putsAll_62 muX10_putsAll_62_2 muX10_putsAll_62_1
        rw [nI_ix (by omega), nI_ix (by omega)]
        exact t2)
  obtain ⟨l1, l2⟩ := fo_all (fun i s => J1 row μ (64 + 63 * i) s) (Pb_X10_putsAll_53 row 1) 16 (g_X10_putsAll_53 row 1) (SX10_putsAll_21 row 1 μ) k2' (fun i hi s hs => by
    obtain ⟨t1, t2⟩ := inn i hi s hs
    exact ⟨⟨fun z => absurd z (nI_ge hi (by decide)), fun _ => ⟨t1, fun _ => trivial, fun z => absurd z n_lt⟩⟩, t2⟩)
  exact ⟨⟨s1, k1, fun _ => ⟨l1, fun _ => trivial, fun z => absurd z n_lt⟩, fun z => absurd z n_lt⟩, l2⟩
