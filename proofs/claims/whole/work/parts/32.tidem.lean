/-! a TIDE by the reference -/
theorem upm_rr (μ : Mem) (h i k : Nat) (x : Int32) : upm μ h i x h k = if k = i then x else μ h k := by
  rw [upm_row]
  rfl
theorem mix_step {f s p r : Nat → Int32} {i : Nat} (hi : i < 10) (hs : ∀ k, k < 50 → s k = if k % 10 < i then p k else r k) (ho : ∀ k, k < 50 → k % 10 ≠ i → f k = s k) (h0 : f i = p i) (h1 : f (10 + i) = p (10 + i)) (h2 : f (20 + i) = p (20 + i)) (h3 : f (30 + i) = p (30 + i)) (h4 : f (40 + i) = p (40 + i)) :
    ∀ k, k < 50 → f k = if k % 10 < i + 1 then p k else r k := by
  intro k hk
  by_cases hki : k % 10 = i
  · rw [if_pos (by omega)]
    have : k = i ∨ k = 10 + i ∨ k = 20 + i ∨ k = 30 + i ∨ k = 40 + i := by omega
    rcases this with h | h | h | h | h <;> rw [h] <;> assumption
  · rw [ho k hk hki, hs k hk]
    by_cases hlt : k % 10 < i
    · rw [if_pos hlt, if_pos (by omega)]
    · rw [if_neg hlt, if_neg (by omega)]
theorem pass0 {E : EV} {hh : Int32} {r : Nat → Int32} {i : Nat} (hi : i < 10) : passR E hh r i = if i < eT E ∧ isA E r hh i = true ∧ r (20 + i) = 0 then (if nI (eH E) ≤ r i + 1 then -1 else r i + 1) else r i := by
  unfold passR
  rw [if_pos hi]
theorem pass10 {E : EV} {hh : Int32} {r : Nat → Int32} {i : Nat} (hi : i < 10) : passR E hh r (10 + i) = r (10 + i) := by
  unfold passR
  rw [if_neg (by omega), if_pos (by omega)]
theorem pass20 {E : EV} {hh : Int32} {r : Nat → Int32} {i : Nat} (hi : i < 10) : passR E hh r (20 + i) = if i < eT E ∧ isA E r hh i = true ∧ r (20 + i) ≠ 0 then (if eP E ≤ r (30 + i) + 1 then 0 else r (20 + i)) else r (20 + i) := by
  unfold passR
  rw [if_neg (by omega), if_neg (by omega), if_pos (by omega), show 20 + i - 20 = i by omega, show 20 + i + 10 = 30 + i by omega]
theorem pass30 {E : EV} {hh : Int32} {r : Nat → Int32} {i : Nat} (hi : i < 10) : passR E hh r (30 + i) = if i < eT E ∧ isA E r hh i = true ∧ r (20 + i) ≠ 0 then (if eP E ≤ r (30 + i) + 1 then 0 else r (30 + i) + 1) else r (30 + i) := by
  unfold passR
  rw [if_neg (by omega), if_neg (by omega), if_neg (by omega), if_pos (by omega), show 30 + i - 30 = i by omega, show 30 + i - 10 = 20 + i by omega]
theorem pass40 {E : EV} {hh : Int32} {r : Nat → Int32} {i : Nat} (hi : i < 10) : passR E hh r (40 + i) = if i < eT E ∧ isW E r hh i = true then imax 0 (r (40 + i) - 1) else r (40 + i) := by
  unfold passR
  rw [if_neg (by omega), if_neg (by omega), if_neg (by omega), if_neg (by omega), if_pos (by omega), show 40 + i - 40 = i by omega]
theorem pass50 {E : EV} {hh : Int32} {r : Nat → Int32} {k : Nat} (hk : 50 ≤ k) (h62 : k ≠ 62) : passR E hh r k = r k := by
  unfold passR
  rw [if_neg (by omega), if_neg (by omega), if_neg (by omega), if_neg (by omega), if_neg (by omega), if_neg h62]
theorem pass62 {E : EV} {hh : Int32} {r : Nat → Int32} : passR E hh r 62 = r 62 + 1 := by
  unfold passR
  rw [if_neg (by omega), if_neg (by omega), if_neg (by omega), if_neg (by omega), if_neg (by omega), if_pos rfl]
theorem sp_heightIn {E : EV} {μ : Mem} {a : Nat} (hE : EvM E μ) (hO : EvOK E) (ha : a < 2 ^ 31) : P_X10_heightIn (nI a) μ ∧ F_X10_heightIn (nI a) μ = hgt E a := by
  obtain ⟨-, -, e2, -, -, -, -, e7, -⟩ := hE
  have hd := hO.1.2.2.1
  unfold P_X10_heightIn F_X10_heightIn hgt
  rw [e2]
  by_cases h0 : eD E = 0
  · rw [h0, nI_0, if_neg (not_not_intro rfl), if_pos rfl]
    exact ⟨⟨fun q => absurd rfl q, fun _ => trivial⟩, rfl⟩
  · have hm : a % eD E < eD E := Nat.mod_lt _ (Nat.pos_of_ne_zero h0)
    have hn : nI (eD E) ≠ 0 := nI_ne0 (Nat.pos_of_ne_zero h0) (by omega)
    rw [pk_rem ha (Nat.pos_of_ne_zero h0) (by omega), if_pos hn, if_neg h0, nI_ix (by omega), e7 _ hm]
    exact ⟨⟨fun _ => ⟨hn, vp_in_nI (by omega) (by omega)⟩, fun q => absurd q hn⟩, rfl⟩
theorem sp_sillOf {E : EV} {μ : Mem} {row h : Nat} (hE : EvM E μ) (hO : EvOK E) (hh : h < eH E) : P_X10_sillOf row (nI h) μ ∧ F_X10_sillOf row (nI h) μ = eS E h + 2 * μ row (50 + h) := by
  have hd := hO.1.1
  unfold P_X10_sillOf F_X10_sillOf
  rw [c50, nI_ix (by omega), nI_ix (by omega), hE.2.2.2.2.2.2.1 h hh]
  exact ⟨⟨vp_in_nI (by omega) (by omega), vp_in_nI (by omega) (by omega)⟩, rfl⟩
theorem sp_waterBy {E : EV} {μ : Mem} {row h : Nat} {hh : Int32} (hE : EvM E μ) (hO : EvOK E) (hl : h < eH E) : P_X10_waterBy row (nI h) hh μ ∧ F_X10_waterBy row (nI h) hh μ = wat E (μ row) hh h := by
  obtain ⟨s1, s2⟩ := sp_sillOf (row := row) hE hO hl
  unfold P_X10_waterBy F_X10_waterBy wat
  rw [s2, more_eq]
  exact ⟨s1, rfl⟩
theorem sp_waterIn {E : EV} {μ : Mem} {row h a : Nat} (hE : EvM E μ) (hO : EvOK E) (hl : h < eH E) (ha : a < 2 ^ 31) (ht : μ row 62 = nI a) : P_X10_waterIn row (nI h) μ ∧ F_X10_waterIn row (nI h) μ = wat E (μ row) (hgt E a + μ 57 43) h := by
  obtain ⟨s1, s2⟩ := sp_heightIn hE hO ha
  unfold P_X10_waterIn F_X10_waterIn
  rw [ht, s2]
  obtain ⟨w1, w2⟩ := sp_waterBy (row := row) (hh := hgt E a + μ 57 43) hE hO hl
  exact ⟨⟨s1, w1⟩, w2⟩
theorem wat_congr {E : EV} {r r' : Nat → Int32} {hh : Int32} {h : Nat} (e : r' (50 + h) = r (50 + h)) : wat E r' hh h = wat E r hh h := by
  unfold wat
  rw [e]
theorem sp_isWet {E : EV} {μ : Mem} {row t : Nat} {r : Nat → Int32} {hh : Int32} (hO : EvOK E) (ht : t < 10) (h0 : μ row t = r t) (h1 : μ row (10 + t) = r (10 + t)) (hr : r t = -1 ∨ ∃ h, h < eH E ∧ r t = nI h) (hw : ∀ h, h < eH E → μ 523 h = wat E r hh h) :
    P_X10_isWet row (nI t) μ ∧ F_X10_isWet row (nI t) μ = if isW E r hh t = true then 1 else 0 := by
  have hd := hO.1.1
  unfold P_X10_isWet F_X10_isWet isW
  rw [c0, c10, nI_ix (by omega), nI_ix (by omega), h0, h1]
  have v1 : vp_in (nI t) 63 := vp_in_nI (by omega) (by omega)
  have v2 : vp_in (nI (10 + t)) 63 := vp_in_nI (by omega) (by omega)
  rcases hr with hr | ⟨h, hl, hr⟩
  · rw [hr, if_pos rfl]
    refine ⟨⟨v1, fun _ => trivial, fun q => absurd rfl q⟩, ?_⟩
    rw [if_neg]
    intro q
    exact (of_decide_eq_true q).1 rfl
  · have hne : r t ≠ -1 := by
      rw [hr]
      intro q
      have := nI_pos (n := h) (by omega)
      rw [q] at this
      exact this (by decide)
    rw [if_neg hne]
    refine ⟨⟨v1, fun q => absurd q hne, fun _ => ⟨v2, fun _ => trivial, fun _ => ⟨v1, ?_⟩⟩⟩, ?_⟩
    · rw [hr]
      exact vp_in_nI (by omega) (by omega)
    · by_cases hu : r (10 + t) = 0
      · rw [if_neg (not_not_intro hu), hr, nI_ix (by omega), hw h hl]
        by_cases hz : wat E r hh h ≤ 0
        · rw [if_pos hz, if_neg]
          intro q
          have := (of_decide_eq_true q).2.2
          grind
        · rw [if_neg hz, if_pos]
          refine decide_eq_true ⟨by rw [← hr]; exact hne, hu, ?_⟩
          grind
      · rw [if_pos hu, if_neg]
        intro q
        exact hu (of_decide_eq_true q).2.1
theorem isW_h {E : EV} {r : Nat → Int32} {hh : Int32} {t : Nat} (hr : r t = -1 ∨ ∃ h, h < eH E ∧ r t = nI h) (h : isW E r hh t = true) : ∃ h, h < eH E ∧ r t = nI h := by
  rcases hr with q | q
  · unfold isW at h
    exact absurd q (of_decide_eq_true h).1
  · exact q
theorem isA_W {E : EV} {r : Nat → Int32} {hh : Int32} {t : Nat} (h : isA E r hh t = true) : isW E r hh t = true := by
  unfold isA at h
  exact (Bool.and_eq_true_iff.mp h).1
theorem sp_isAfloat {E : EV} {μ : Mem} {row t : Nat} {r : Nat → Int32} {hh : Int32} (hO : EvOK E) (ht : t < 10) (h0 : μ row t = r t) (h1 : μ row (10 + t) = r (10 + t)) (hr : r t = -1 ∨ ∃ h, h < eH E ∧ r t = nI h) (hw : ∀ h, h < eH E → μ 523 h = wat E r hh h) (hx : μ (78 + t) 2 = eX E t 2) :
    P_X10_isAfloat row (nI t) μ ∧ F_X10_isAfloat row (nI t) μ = if isA E r hh t = true then 1 else 0 := by
  have hd := hO.1.1
  obtain ⟨s1, s2⟩ := sp_isWet hO ht h0 h1 hr hw
  unfold P_X10_isAfloat F_X10_isAfloat isA
  rw [s2, c0, nI_ix (by omega), h0, hx]
  have v1 : vp_in (nI t) 63 := vp_in_nI (by omega) (by omega)
  by_cases hW : isW E r hh t = true
  · obtain ⟨h, hl, e⟩ := isW_h hr hW
    rw [if_pos hW, if_neg (by decide), hW, Bool.true_and, e, nI_ix (by omega), hw h hl]
    refine ⟨⟨s1, fun _ => trivial, fun _ => ⟨vp_in_nI (by omega) (by omega), v1, vp_in_nI (by omega) (by omega)⟩⟩, ?_⟩
    by_cases hz : wat E r hh h < eX E t 2
    · rw [if_pos hz, if_neg]
      intro q
      exact (Int32.not_lt.mpr (of_decide_eq_true q)) hz
    · rw [if_neg hz, if_pos]
      exact decide_eq_true (Int32.not_lt.mp hz)
  · rw [if_neg hW, if_pos rfl]
    refine ⟨⟨s1, fun _ => trivial, fun q => absurd rfl q⟩, ?_⟩
    rw [if_neg]
    intro q
    exact hW (Bool.and_eq_true_iff.mp q).1
theorem wetN_s (E : EV) (r : Nat → Int32) (hh : Int32) (n h : Nat) : wetN E r hh (n + 1) h = if isW E r hh n = true ∧ r n = nI h then wetN E r hh n h + 1 else wetN E r hh n h := rfl
theorem lostN_s (E : EV) (r : Nat → Int32) (hh : Int32) (n h : Nat) : lostN E r hh (n + 1) h = if isA E r hh n = true ∧ r (20 + n) = 0 ∧ r n = nI h then lostN E r hh n h + 1 else lostN E r hh n h := rfl
theorem counts2 {E : EV} {μ : Mem} {row a : Nat} (hrow : row = 521 ∨ row = 522) (hE : EvM E μ) (hO : EvOK E) (ha : a < 2 ^ 31) (ht : μ row 62 = nI a) :
    (∀ j, j < eH E → Pb_X10_counts_2 row j (fo j (g_X10_counts_2 row) μ)) ∧ (∀ h, h < eH E → SX10_counts_2 row μ 523 h = wat E (μ row) (hgt E a + μ 57 43) h ∧ SX10_counts_2 row μ 524 h = 0 ∧ SX10_counts_2 row μ 525 h = 0) ∧ ∀ h, h ≠ 523 → h ≠ 524 → h ≠ 525 → SX10_counts_2 row μ h = μ h := by
  have hd := hO.1.1
  have e0 := hE.1
  have hN : NX10_counts_2 row μ = eH E := by
    unfold NX10_counts_2
    rw [e0, nI_ix (by omega)]
  unfold SX10_counts_2
  rw [hN]
  have key := fo_all (fun i (s : Mem) => (∀ h, h < i → s 523 h = wat E (μ row) (hgt E a + μ 57 43) h ∧ s 524 h = 0 ∧ s 525 h = 0) ∧ ∀ h, h ≠ 523 → h ≠ 524 → h ≠ 525 → s h = μ h)
    (Pb_X10_counts_2 row) (eH E) (g_X10_counts_2 row) μ ⟨fun h hh => absurd hh (Nat.not_lt_zero h), fun h _ _ _ => rfl⟩ ?_
  · exact key
  · intro i hi s ⟨h1, h2⟩
    have hE' : EvM E s := hE.mono (fun h hh => h2 h (by omega) (by omega) (by omega)) hO
    have er : s row = μ row := h2 row (by omega) (by omega) (by omega)
    have e57 : s 57 = μ 57 := h2 57 (by omega) (by omega) (by omega)
    have hw := sp_waterIn (μ := s) (row := row) hE' hO hi ha (by rw [er]; exact ht)
    rw [er, e57] at hw
    have v6 : vp_in (nI i) 6 := vp_in_nI (by omega) (by omega)
    refine ⟨?_, ?_, ?_⟩
    · unfold Pb_X10_counts_2
      rw [h2 61 (by omega) (by omega) (by omega), e0]
      exact ⟨fun q => absurd q (nI_ge hi (by omega)), fun _ => ⟨hw.1, v6, v6, v6⟩⟩
    · intro h hh
      unfold g_X10_counts_2 muX10_counts_2_3 muX10_counts_2_2 muX10_counts_2_1
      rw [hw.2, nI_ix (by omega)]
      by_cases q : h = i
      · subst q
        simp [upm_ap]
      · have := h1 h (by omega)
        simp [upm_ap, q, this]
    · intro h a1 a2 a3
      unfold g_X10_counts_2 muX10_counts_2_3 muX10_counts_2_2 muX10_counts_2_1
      rw [upm_other a3, upm_other a2, upm_other a1]
      exact h2 h a1 a2 a3
theorem sp_counts {E : EV} {μ : Mem} {row a b : Nat} (hrow : row = 521 ∨ row = 522) (hE : EvM E μ) (hO : EvOK E) (hr : RowOK E b (μ row)) (ha : a < 2 ^ 31) (ht : μ row 62 = nI a) :
    P_X10_counts row μ ∧ (∀ h, h < eH E → M_X10_counts row μ 523 h = wat E (μ row) (hgt E a + μ 57 43) h ∧ M_X10_counts row μ 524 h = lostN E (μ row) (hgt E a + μ 57 43) (eT E) h ∧ M_X10_counts row μ 525 h = wetN E (μ row) (hgt E a + μ 57 43) (eT E) h) ∧
      ∀ h, h ≠ 523 → h ≠ 524 → h ≠ 525 → M_X10_counts row μ h = μ h := by
  have hd := hO.1.1
  have hd1 := hO.1.2.1
  obtain ⟨c1, c2, c3⟩ := counts2 hrow hE hO ha ht
  generalize hhh : hgt E a + μ 57 43 = hh at c2 ⊢
  have hN2 : NX10_counts_2 row μ = eH E := by
    unfold NX10_counts_2
    rw [hE.1, nI_ix (by omega)]
  have hN : NX10_counts_46 row μ = eT E := by
    unfold NX10_counts_46
    rw [c3 61 (by omega) (by omega) (by omega), hE.2.1, nI_ix (by omega)]
  have key := fo_all (fun i (s : Mem) => (∀ h, h < eH E → s 523 h = wat E (μ row) hh h ∧ s 524 h = lostN E (μ row) hh i h ∧ s 525 h = wetN E (μ row) hh i h) ∧ ∀ h, h ≠ 523 → h ≠ 524 → h ≠ 525 → s h = μ h)
    (Pb_X10_counts_46 row) (eT E) (g_X10_counts_46 row) (SX10_counts_2 row μ) ⟨c2, c3⟩ ?_
  · obtain ⟨k1, k2, k3⟩ := key
    have hS : SX10_counts_46 row μ = fo (eT E) (g_X10_counts_46 row) (SX10_counts_2 row μ) := by
      unfold SX10_counts_46
      rw [hN]
    unfold P_X10_counts M_X10_counts
    rw [hS, hN, hN2]
    refine ⟨⟨c1, fun _ => ⟨k1, fun _ => trivial, fun q => ?_⟩, fun q => ?_⟩, k2, k3⟩
    · rw [k3 61 (by omega) (by omega) (by omega), hE.2.1] at q
      exact absurd q (Int32.not_lt.mpr (Int32.le_refl _))
    · rw [c3 61 (by omega) (by omega) (by omega), hE.1] at q
      exact absurd q (Int32.not_lt.mpr (Int32.le_refl _))
  · intro i hi s ⟨h1, h2⟩
    have er : s row = μ row := h2 row (by omega) (by omega) (by omega)
    have hri := hr.1 i hi
    have hw523 : ∀ h, h < eH E → s 523 h = wat E (μ row) hh h := fun h hl => (h1 h hl).1
    have ex : s (78 + i) 2 = eX E i 2 := by
      rw [h2 _ (by omega) (by omega) (by omega)]
      exact hE.2.2.2.2.2.2.2.2.1 i hi 2 (by omega)
    obtain ⟨w1, w2⟩ := sp_isWet (μ := s) (row := row) (t := i) (r := μ row) (hh := hh) hO (by omega) (by rw [er]) (by rw [er]) hri hw523
    have i0 : ix (0 + nI i) = i := by rw [c0, nI_ix (by omega)]
    have i20 : ix (20 + nI i) = 20 + i := by rw [c20, nI_ix (by omega)]
    have v0 : vp_in (0 + nI i) 63 := by rw [c0]; exact vp_in_nI (by omega) (by omega)
    have v20 : vp_in (20 + nI i) 63 := by rw [c20]; exact vp_in_nI (by omega) (by omega)
    have e61 : s 61 1 = nI (eT E) := by rw [h2 61 (by omega) (by omega) (by omega), hE.2.1]
    by_cases hW : isW E (μ row) hh i = true
    · obtain ⟨h, hl, eh⟩ := isW_h hri hW
      have eih : ix (nI h) = h := nI_ix (by omega)
      have vh : vp_in (nI h) 6 := vp_in_nI (by omega) (by omega)
      have g1 : muX10_counts_46_1 row i s = upm s 525 h (wetN E (μ row) hh i h + 1) := by
        unfold muX10_counts_46_1
        rw [i0, er, eh, eih, (h1 h hl).2.2]
      have g1r : muX10_counts_46_1 row i s row = μ row := by
        rw [g1, upm_other (by omega), er]
      have hA := sp_isAfloat (μ := muX10_counts_46_1 row i s) (row := row) (t := i) (r := μ row) (hh := hh) hO (by omega) (by rw [g1r]) (by rw [g1r]) hri (fun h' hl' => by rw [g1, upm_other (by decide)]; exact hw523 h' hl') (by rw [g1, upm_other (by omega)]; exact ex)
      have gv : VX10_counts_46_2 row i s = if isA E (μ row) hh i = true ∧ μ row (20 + i) = 0 then 1 else 0 := by
        unfold VX10_counts_46_2
        rw [hA.2, i20, g1r]
        by_cases hAa : isA E (μ row) hh i = true
        · rw [if_pos hAa, if_neg (by decide)]
          by_cases hu : μ row (20 + i) = 0
          · rw [if_neg (not_not_intro hu), if_pos ⟨hAa, hu⟩]
          · rw [if_pos hu, if_neg (fun q => hu q.2)]
        · rw [if_neg hAa, if_pos rfl, if_neg (fun q => hAa q.1)]
      have g : g_X10_counts_46 row i s = upm (upm s 525 h (wetN E (μ row) hh i h + 1)) 524 h (lostN E (μ row) hh i h + (if isA E (μ row) hh i = true ∧ μ row (20 + i) = 0 then 1 else 0)) := by
        unfold g_X10_counts_46 VX10_counts_46_4
        rw [w2, if_pos hW, if_pos (by decide)]
        unfold muX10_counts_46_3
        rw [i0, g1r, eh, eih, gv, g1, upm_other (by decide), (h1 h hl).2.1]
      refine ⟨?_, ?_, ?_⟩
      · unfold Pb_X10_counts_46
        rw [e61, w2, if_pos hW, i0, g1r, er, eh]
        refine ⟨fun q => absurd q (nI_ge hi (by omega)), fun _ => ⟨w1, fun _ => ⟨v0, vh, vh, v0, vh, hA.1, ⟨fun _ => trivial, fun _ => v20⟩, vh⟩, fun q => absurd q (by decide)⟩⟩
      · intro h' hl'
        rw [g]
        obtain ⟨a1, a2, a3⟩ := h1 h' hl'
        refine ⟨?_, ?_, ?_⟩
        · rw [upm_other (by decide), upm_other (by decide)]
          exact a1
        · rw [upm_rr, upm_other (by decide), lostN_s]
          by_cases q : h' = h
          · subst q
            rw [if_pos rfl]
            by_cases hAa : isA E (μ row) hh i = true ∧ μ row (20 + i) = 0
            · rw [if_pos hAa, if_pos ⟨hAa.1, hAa.2, eh⟩]
            · rw [if_neg hAa, if_neg (fun z => hAa ⟨z.1, z.2.1⟩), Int32.add_zero]
          · rw [if_neg q, if_neg, a2]
            intro z
            rw [eh] at z
            exact q ((nI_eq (by omega) (by omega)).mp z.2.2).symm
        · rw [upm_other (by decide), upm_rr, wetN_s]
          by_cases q : h' = h
          · subst q
            rw [if_pos rfl, if_pos ⟨hW, eh⟩]
          · rw [if_neg q, if_neg, a3]
            intro z
            rw [eh] at z
            exact q ((nI_eq (by omega) (by omega)).mp z.2).symm
      · intro h' a1 a2 a3
        rw [g, upm_other a2, upm_other a3]
        exact h2 h' a1 a2 a3
    · have g : g_X10_counts_46 row i s = s := by
        unfold g_X10_counts_46 VX10_counts_46_4
        rw [w2, if_neg hW, if_neg (by decide)]
      refine ⟨?_, ?_, ?_⟩
      · unfold Pb_X10_counts_46
        rw [e61, w2, if_neg hW]
        refine ⟨fun q => absurd q (nI_ge hi (by omega)), fun _ => ⟨w1, fun q => absurd rfl q, fun _ => trivial⟩⟩
      · intro h' hl'
        rw [g, lostN_s, wetN_s, if_neg (fun z => hW (isA_W z.1)), if_neg (fun z => hW z.1)]
        exact h1 h' hl'
      · rw [g]
        exact h2
