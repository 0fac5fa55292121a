/-! board: the reference, the question -/
theorem sp_isTold {E : EV} {μ : Mem} {h : Nat} (hO : EvOK E) (hK : MkR E μ) (hl : h < eH E) : P_X10_isTold (nI h) μ ∧ F_X10_isTold (nI h) μ = if μ 38 h = -1 then 0 else 1 := by
  have hd := hO.1.1
  obtain ⟨n, hn, -, e57, k1, k2⟩ := hK
  have main : ∀ N, N = NX10_isTold_2 (nI h) μ → N ≤ n ∧ (n ≤ N ∨ μ (425 + N) 0 = nI h) ∧ ∀ j, j < N → j < n ∧ ¬ μ (425 + j) 0 = nI h := by
    intro N hN
    have hcc : ∀ j, j < 7 → (!Cb_X10_isTold_2 (nI h) μ j (fo j (g_X10_isTold_2 (nI h) μ) ())) = decide (n ≤ j ∨ μ (425 + j) 0 = nI h) := fun j hj => by
      unfold Cb_X10_isTold_2
      rw [e57, nI_ix (by omega)]
      by_cases q : n ≤ j
      · rw [if_pos (nI_le q (by omega)), decide_eq_true (Or.inl q)]
        rfl
      · rw [if_neg (nI_ge (by omega) (by omega))]
        by_cases y : μ (425 + j) 0 = nI h
        · rw [if_neg (not_not_intro y), decide_eq_true (Or.inr y)]
          rfl
        · rw [if_pos y, decide_eq_false (fun z => z.elim q y)]
          rfl
    have hN' : N = fst 7 (fun j => decide (n ≤ j ∨ μ (425 + j) 0 = nI h)) := by
      rw [hN]
      exact fst_congr hcc
    have a1 : N ≤ n := by
      rw [hN']
      exact fst_lt (by omega) (decide_eq_true (Or.inl (Nat.le_refl _)))
    refine ⟨a1, ?_, fun j hj => ?_⟩
    · have := fst_hit (n := 7) (c := fun j => decide (n ≤ j ∨ μ (425 + j) 0 = nI h)) (by rw [← hN']; omega)
      rw [← hN'] at this
      exact of_decide_eq_true this
    · rw [hN'] at hj
      have := of_decide_eq_false (fst_min (n := 7) (c := fun j => decide (n ≤ j ∨ μ (425 + j) 0 = nI h)) hj)
      exact ⟨Nat.lt_of_not_le fun q => this (Or.inl q), fun q => this (Or.inr q)⟩
  obtain ⟨a1, a2, a3⟩ := main _ rfl
  unfold P_X10_isTold F_X10_isTold
  rw [e57]
  generalize NX10_isTold_2 (nI h) μ = N at *
  refine ⟨⟨fun j hj => ?_, fun _ => trivial, fun q => ?_⟩, ?_⟩
  · obtain ⟨b1, b2⟩ := a3 j hj
    unfold Pb_X10_isTold_2
    rw [e57, nI_ix (by omega)]
    exact ⟨fun q => absurd q (nI_ge b1 (by omega)), fun _ => ⟨vp_in_nI (by omega) (by omega), fun _ => trivial, fun q => b2 q⟩⟩
  · have hN : N < n := Nat.lt_of_not_le fun z => absurd q (Int32.not_lt.mpr (nI_le z (by omega)))
    rw [nI_ix (by omega)]
    exact ⟨vp_in_nI (by omega) (by omega), fun z => z (a2.resolve_left (by omega)), fun _ => trivial⟩
  · by_cases q : n ≤ N
    · rw [if_pos (nI_le q (by omega)), if_pos]
      refine Classical.byContradiction fun z => ?_
      obtain ⟨k, hk, e⟩ := k2 h (by omega) z
      exact (a3 k (by omega)).2 e
    · rw [if_neg (nI_ge (by omega) (by omega)), if_neg]
      intro z
      obtain ⟨h', hh', g0, g1, g2, -⟩ := k1 N (by omega)
      have eh : h' = h := (nI_eq (by omega) (by omega)).mp (g0.symm.trans (a2.resolve_left q))
      rw [eh, z] at g2
      exact absurd g2 (by decide)
theorem MkR.mono {E : EV} {μ μ' : Mem} (h : MkR E μ) (e : ∀ q, q ≠ 547 → μ' q = μ q) : MkR E μ' := by
  obtain ⟨n, n1, n2, n3, n4, n5⟩ := h
  refine ⟨n, n1, by rw [e 37 (by decide)]; exact n2, by rw [e 57 (by decide)]; exact n3, fun k hk => ?_, fun h hh hne => ?_⟩
  · rw [e (425 + k) (by omega), e 38 (by decide)]
    exact n4 k hk
  · rw [e 38 (by decide)] at hne
    obtain ⟨k, hk, e'⟩ := n5 h hh hne
    exact ⟨k, hk, by rw [e (425 + k) (by omega)]; exact e'⟩
def wV (E : EV) (r mk : Nat → Int32) (h : Nat) : Nat := mxN 61 fun w => cW E r mk h 61 w
def stW (E : EV) (r mk : Nat → Int32) (h w v : Nat) : Nat := if stB E r mk v = true ∧ wN E r h (hmN (gH E) v (eD E)) = w then 1 else 0
theorem st_countW {E : EV} {r mk : Nat → Int32} {h w : Nat} (hO : EvOK E) : sumN (2 ^ eD E - 1) (fun j => stW E r mk h w (1 + j)) = cW E r mk h 61 w := by
  have c := count_all (gH E) 61 (eD E) (fun t ht => by have := (eG_k hO ht).1; unfold gH; omega) (pW E r mk h w)
  have hp := Nat.two_pow_pos (eD E)
  have e : 2 ^ eD E = 1 + (2 ^ eD E - 1) := by omega
  rw [e, sumN_add] at c
  have e1 : sumN 1 (fun v => pW E r mk h w (hmN (gH E) v (eD E))) = pW E r mk h w 0 := by
    show 0 + pW E r mk h w (hmN (gH E) 0 (eD E)) = _
    rw [hm0, Nat.zero_add]
  rw [e1] at c
  exact Nat.add_left_cancel c
theorem sp_worstAt {E : EV} {μ : Mem} {b h : Nat} (hM : EvM E μ) (hO : EvOK E) (hr : RowOK E b (μ 521)) (hK : MkR E μ) (hl : h < eH E) :
    P_X10_worstAt (nI h) μ ∧ F_X10_worstAt (nI h) μ = nI (wV E (μ 521) (μ 38) h) ∧ ∀ q, q ≠ 547 → M_X10_worstAt (nI h) μ q = μ q := by
  have hd := hO.1.2.2.1
  have hp := Nat.two_pow_pos (eD E)
  have hpl : 2 ^ eD E ≤ 2 ^ 12 := Nat.pow_le_pow_right (by decide) hd
  obtain ⟨k1, k2, k3⟩ := fo_all (fun i (t : Mem) => (∀ q, q ≠ 547 → t q = μ q) ∧ ∀ k, k < i → t 547 k = 0) (Pb_X10_worstAt_4 (nI h) 0) 61 (g_X10_worstAt_4 (nI h) 0) μ ⟨fun _ _ => rfl, fun k hk => absurd hk (by omega)⟩ (fun i hi t ht => by
    refine ⟨⟨fun q => absurd q (nI_ge hi (by decide)), fun _ => vp_in_nI (by omega) (by omega)⟩, fun q hq => ?_, fun k hk => ?_⟩
    · show upm t 547 _ _ q = _
      rw [upm_other hq, ht.1 q hq]
    · show upm t 547 (ix (nI i)) 0 547 k = _
      rw [nI_ix (by omega), upm_rr]
      by_cases z : k = i
      · rw [if_pos z]
      · rw [if_neg z, ht.2 k (by omega)])
  have hN25 : NX10_worstAt_25 (nI h) μ = 2 ^ eD E - 1 := by
    unfold NX10_worstAt_25
    have : SX10_worstAt_4 (nI h) μ 61 2 = μ 61 2 := by rw [show SX10_worstAt_4 (nI h) μ 61 = μ 61 from k2 61 (by decide)]
    rw [this, hM.2.2.1, nI_ix (by omega)]
  obtain ⟨l1, l2, l3⟩ := fo_all (fun i (s : Mem) => (∀ q, q ≠ 547 → s q = μ q) ∧ ∀ w, w < 61 → s 547 w = nI (sumN i fun j => stW E (μ 521) (μ 38) h w (1 + j))) (Pb_X10_worstAt_25 (nI h) 0) (2 ^ eD E - 1) (g_X10_worstAt_25 (nI h) 0) (SX10_worstAt_4 (nI h) μ)
    ⟨k2, fun w hw => k3 w hw⟩ (fun i hi s hs => by
    obtain ⟨a1, a2⟩ := hs
    have hMs : EvM E s := hM.mono (fun q hq => a1 q (by omega)) hO
    have hrs : RowOK E b (s 521) := by rw [a1 521 (by decide)]; exact hr
    obtain ⟨i1, i2⟩ := sp_isStained (v := nI (1 + i)) hMs hO hrs (hK.mono a1)
    obtain ⟨t1, t2⟩ := sp_stainBy (v := nI (1 + i)) hMs hO hrs hl
    rw [a1 521 (by decide), a1 38 (by decide), HM_nat _ _ hd] at i2
    have hm60 : hmN (gH E) (1 + i) (eD E) ≤ 60 := by
      rw [← HM_nat _ _ hd]
      exact HM_le hO _ _ (Nat.le_refl _)
    obtain ⟨w1, w2⟩ := wN_k hO hr hl hm60
    rw [a1 521 (by decide), HM_nat _ _ hd, w2] at t2
    have v61 : vp_in (F_X10_stainBy (nI h) (nI (1 + i)) s) 61 := by rw [t2]; exact vp_in_nI (by omega) (by omega)
    refine ⟨⟨fun q => ?_, fun _ => ⟨i1, fun _ => trivial, fun _ => ⟨t1, v61, v61⟩⟩⟩, ?_⟩
    · rw [hMs.2.2.1, shl_U _ hd] at q
      exact nI_ge (by omega) (by omega) q
    · show (∀ q, q ≠ 547 → VX10_worstAt_25_2 (nI h) 0 i s q = μ q) ∧ ∀ w, w < 61 → VX10_worstAt_25_2 (nI h) 0 i s 547 w = _
      unfold VX10_worstAt_25_2 muX10_worstAt_25_1
      rw [i2, t2, nI_ix (by omega)]
      have es : ∀ w, sumN (i + 1) (fun j => stW E (μ 521) (μ 38) h w (1 + j)) = sumN i (fun j => stW E (μ 521) (μ 38) h w (1 + j)) + stW E (μ 521) (μ 38) h w (1 + i) := fun w => rfl
      by_cases q : fitB E (μ 521) (μ 38) (hmN (gH E) (1 + i) (eD E)) = true
      · rw [if_pos q, if_neg (by decide)]
        refine ⟨fun x hx => by rw [upm_other hx, a1 x hx], fun w hw => ?_⟩
        rw [es, upm_rr]
        unfold stW
        by_cases z : w = wN E (μ 521) h (hmN (gH E) (1 + i) (eD E))
        · rw [if_pos z, if_pos ⟨q, z.symm⟩, ← z, a2 w hw, nI_succ]
          rfl
        · rw [if_neg z, if_neg (fun y => z y.2.symm), Nat.add_zero]
          exact a2 w hw
      · rw [if_neg q, if_pos rfl]
        refine ⟨a1, fun w hw => ?_⟩
        rw [es]
        have : stW E (μ 521) (μ 38) h w (1 + i) = 0 := by
          unfold stW
          rw [if_neg (fun y => q y.1)]
        rw [this, Nat.add_zero]
        exact a2 w hw)
  have hS25 : SX10_worstAt_25 (nI h) μ = fo (2 ^ eD E - 1) (g_X10_worstAt_25 (nI h) 0) (SX10_worstAt_4 (nI h) μ) := by
    unfold SX10_worstAt_25
    rw [hN25]
  rw [← hS25] at l2 l3
  have l3' : ∀ w, w < 61 → SX10_worstAt_25 (nI h) μ 547 w = nI (cW E (μ 521) (μ 38) h 61 w) := fun w hw => by rw [l3 w hw, st_countW hO]
  obtain ⟨m1, m2⟩ := fo_all (fun i (s : Int32) => s = nI (mxN i fun w => cW E (μ 521) (μ 38) h 61 w)) (Pb_X10_worstAt_68 (nI h) (SX10_worstAt_25 (nI h) μ)) 61 (g_X10_worstAt_68 (nI h) (SX10_worstAt_25 (nI h) μ)) 0 rfl (fun i hi s hs => by
    refine ⟨⟨fun q => absurd q (nI_ge hi (by decide)), fun _ => vp_in_nI (by omega) (by omega)⟩, ?_⟩
    show F_X10_more s (SX10_worstAt_25 (nI h) μ 547 (ix (nI i))) _ = _
    have b1 : mxN i (fun w => cW E (μ 521) (μ 38) h 61 w) ≤ 61 * 2 ^ 24 := mxN_le fun w _ => cW_le hO 61
    have b2 : cW E (μ 521) (μ 38) h 61 i ≤ 61 * 2 ^ 24 := cW_le hO 61
    rw [more_eq, hs, nI_ix (by omega), l3' i hi, imax_nI (by omega) (by omega)]
    rfl)
  have e612 : SX10_worstAt_25 (nI h) μ 61 2 = nI (eD E) := by
    rw [l2 61 (by decide)]
    exact hM.2.2.1
  refine ⟨⟨k1, fun _ => ⟨?_, fun _ => ⟨m1, fun _ => trivial, fun q => absurd q n_lt⟩, fun q => ?_⟩, fun q => absurd q n_lt⟩, m2, l2⟩
  · rw [hN25]
    exact l1
  · rw [hN25, e612, shl_U _ hd, show 1 + (2 ^ eD E - 1) = 2 ^ eD E by omega] at q
    exact absurd q n_lt
