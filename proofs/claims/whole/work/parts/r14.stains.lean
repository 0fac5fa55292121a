/-! stains: the case -/
theorem sp_laysS {μ : Mem} {n : Nat} (hn : n ≤ 6) : P_X10_lays_S (nI n) μ ∧ (∀ i, i < n → ∀ j, j < 2 → M_X10_lays_S (nI n) μ (425 + i) j = μ (432 + i) j) ∧ ∀ r, (r < 425 ∨ 430 < r) → M_X10_lays_S (nI n) μ r = μ r := by
  have ixn : ix (nI n) = n := nI_ix (by omega)
  have inn : ∀ i, i < 6 → ∀ (s : Mem) j, j ≤ 2 → (∀ k, k < j → fo j (g_X10_lays_S_10 (nI n) (nI i)) s (425 + i) k = s (432 + i) k) ∧ ∀ r, r ≠ 425 + i → fo j (g_X10_lays_S_10 (nI n) (nI i)) s r = s r := by
    intro i hi s j
    induction j with
    | zero => exact fun _ => ⟨fun k hk => absurd hk (by omega), fun _ _ => rfl⟩
    | succ j ih =>
      intro hj
      obtain ⟨i1, i2⟩ := ih (by omega)
      have e : fo (j + 1) (g_X10_lays_S_10 (nI n) (nI i)) s = upm (fo j (g_X10_lays_S_10 (nI n) (nI i)) s) (425 + i) j (fo j (g_X10_lays_S_10 (nI n) (nI i)) s (432 + i) j) := by
        show muX10_lays_S_10_1 (nI n) (nI i) j (fo j (g_X10_lays_S_10 (nI n) (nI i)) s) = _
        unfold muX10_lays_S_10_1
        rw [nI_ix (by omega), nI_ix (by omega)]
      rw [e]
      refine ⟨fun k hk => ?_, fun r hr => by rw [upm_other hr, i2 r hr]⟩
      rw [upm_rr]
      by_cases y : k = j
      · rw [if_pos y, i2 (432 + i) (by omega), y]
      · rw [if_neg y, i1 k (by omega)]
  have st : ∀ i, i ≤ n → (∀ k, k < i → ∀ j, j < 2 → fo i (g_X10_lays_S_2 (nI n)) μ (425 + k) j = μ (432 + k) j) ∧ ∀ r, (r < 425 ∨ 430 < r) → fo i (g_X10_lays_S_2 (nI n)) μ r = μ r := by
    intro i
    induction i with
    | zero => exact fun _ => ⟨fun k hk => absurd hk (by omega), fun _ _ => rfl⟩
    | succ i ih =>
      intro hi
      obtain ⟨i1, i2⟩ := ih (by omega)
      have e : fo (i + 1) (g_X10_lays_S_2 (nI n)) μ = fo 2 (g_X10_lays_S_10 (nI n) (nI i)) (fo i (g_X10_lays_S_2 (nI n)) μ) := rfl
      obtain ⟨a1, a2⟩ := inn i (by omega) (fo i (g_X10_lays_S_2 (nI n)) μ) 2 (Nat.le_refl _)
      rw [e]
      refine ⟨fun k hk j hj => ?_, fun r hr => by rw [a2 r (by omega), i2 r hr]⟩
      by_cases y : k = i
      · rw [y, a1 j hj, i2 (432 + i) (by omega)]
      · rw [a2 (425 + k) (by omega), i1 k (by omega) j hj]
  have eN : NX10_lays_S_2 (nI n) μ = n := ixn
  have eM : M_X10_lays_S (nI n) μ = fo n (g_X10_lays_S_2 (nI n)) μ := by
    unfold M_X10_lays_S SX10_lays_S_2
    rw [eN]
  obtain ⟨s1, s2⟩ := st n (Nat.le_refl _)
  rw [eM]
  refine ⟨⟨fun j hj => ?_, fun _ => trivial, fun z => absurd z (by rw [eN]; exact Int32.not_lt.mpr (Int32.le_refl _))⟩, s1, s2⟩
  rw [eN] at hj
  have v : vp_in (nI j) 6 := vp_in_nI (by omega) (by decide)
  refine ⟨fun z => absurd z (nI_ge hj (by omega)), fun _ => ⟨fun k hk => ?_, v, fun _ => trivial, fun z => absurd z (show ¬ (nI 2 : Int32) < 2 by decide)⟩⟩
  have hk' : k < 2 := hk
  have v2 : vp_in (nI k) 2 := vp_in_nI hk' (by decide)
  exact ⟨v, fun z => absurd z (nI_ge (b := 2) hk' (by decide)), fun _ => ⟨v, v, v2, v2⟩⟩
/-- what stains change -/
theorem Inv.marks {E : EV} {L : LW} {μ μ' : Mem} (hI : Inv E L μ) (o : ∀ h, h ≠ 1 → h ≠ 37 → h ≠ 38 → h ≠ 40 → h ≠ 41 → h ≠ 57 → (h < 425 ∨ 437 < h) → h ≠ 548 → μ' h = μ h) (o57 : ∀ k, 9 ≤ k → k ≠ 38 → μ' 57 k = μ 57 k) (hT : TxR μ') (hK : MkR E μ') : Inv E L μ' := by
  obtain ⟨hO, hM, hC, hL, hLC, hLR, -, -, hP, hS, hN, h43, h44⟩ := hI
  have o' : ∀ h, (h = 0 ∨ (2 ≤ h ∧ h ≤ 36) ∨ (42 ≤ h ∧ h ≤ 56) ∨ (58 ≤ h ∧ h ≤ 424) ∨ (438 ≤ h ∧ h ≤ 547)) → μ' h = μ h := fun h q => o h (by omega) (by omega) (by omega) (by omega) (by omega) (by omega) (by omega) (by omega)
  refine ⟨hO, hM.mono (fun h q => o' h (by omega)) hO, hC.mono fun h q => o' h (by omega), hL, hLC.mono (by rw [o' 21 (by omega)]) (o' 22 (by omega)) (o' 23 (by omega)), hLR.mono hL (o57 21 (by omega) (by omega)) fun q _ _ => o' q (by omega), hT, hK, ?_, ?_, ?_, ?_, ?_⟩
  · obtain ⟨w, m, p1, p2, p3, p4, p5, p6, p7, p8⟩ := hP
    refine ⟨w, m, p1, p2, by rw [o' 48 (by omega)]; exact p3, by rw [o57 39 (by omega) (by omega)]; exact p4, by rw [o' 48 (by omega)]; exact p5, by rw [o57 41 (by omega) (by omega)]; exact p6, fun i hi => ?_, fun j hj => ?_⟩
    · rw [o' 49 (by omega), o' (527 + i) (by omega)]
      exact p7 i hi
    · rw [o' 50 (by omega), o' (544 + j) (by omega)]
      exact p8 j hj
  · unfold StR at hS ⊢
    rw [o' 44 (by omega), o' 521 (by omega)]
    exact hS
  · unfold CnR at hN ⊢
    rw [o' 0 (by omega), o57 40 (by omega) (by omega), o' 59 (by omega)]
    exact hN
  · rw [o57 43 (by omega) (by omega)]
    exact h43
  · rw [o57 44 (by omega) (by omega)]
    exact h44
theorem case_stains {E : EV} {L : LW} {μ : Mem} (hI : Inv E L μ) (p1 : Int32) : P_W_4 p1 μ ∧ ∃ E' L', Inv E' L' (M_W_4 p1 μ) := by
  have hT := hI.2.2.2.2.2.2.1
  have hK := hI.mk
  have hE := hI.E
  have hM := hI.M
  have hO := hI.1
  have h6 := hO.1.1
  have key : (K_X9_stains p1 μ = 0 ∧ P_X9_stains p1 μ ∧ (∀ ν, ν = upm (M_X9_stains p1 μ) 548 0 (F_X9_stains p1 μ) → P_X10_stains p1 ν ∧ F_X10_stains p1 ν = F_X9_stains p1 μ ∧ M_X10_stains p1 ν 57 0 = 0 ∧ M_X10_stains p1 ν 548 0 = F_X9_stains p1 μ ∧ ∃ E' L', Inv E' L' (M_X10_stains p1 ν))) ∨ QNo w1 μ (K_X9_stains p1 μ) (M_X9_stains p1 μ) (P_X9_stains p1 μ) (M_X10_stains p1) (P_X10_stains p1) 1 := by
    cases hb : txB μ p1 (nI 60) with
    | false =>
      have k2 : K_X9_needText p1 60 μ = 2 := by
        rw [ntK, show (60 : Int32) = nI 60 from rfl, hb]
        rfl
      refine Or.inr ⟨k2, fun z => absurd z (by rw [k2]; decide), ?_, fun ν hν => ?_⟩
      · unfold M_X9_stains muX9_stains_1
        rw [if_neg (by rw [k2]; decide), ntM, show (60 : Int32) = nI 60 from rfl, hb]
        rfl
      · have e57 : ν 57 = μ 57 := hν 57 (by decide)
        have v2 : VX10_stains_2 p1 ν = 1 := by
          unfold VX10_stains_2 muX10_stains_1
          rw [isIn_eq, upm_rr, if_neg (show ¬ (1 : Nat) = 0 by decide), e57, hT.1]
          rcases tx_shut hT (by decide) hb with z | z
          · rw [z]
            rfl
          · rw [show (60 : Int32) = nI 60 from rfl, if_neg z]
            split <;> rfl
        obtain ⟨b1, b2, b3⟩ := bad_no (ν := ν) (w := 1) (b := 1) v2 (by decide) (Or.inr rfl)
        refine ⟨⟨b1, fun z => absurd z b2, fun _ => trivial⟩, ?_⟩
        show (if _ then _ else _) = _
        exact (if_neg b2).trans b3
    | true =>
      have k0 : K_X9_needText p1 60 μ = 0 := by
        rw [ntK, show (60 : Int32) = nI 60 from rfl, hb]
        rfl
      obtain ⟨N, n1, n2, rfl, n4, n5⟩ := tx_gate hT (by decide) hb
      have s1 : muX9_stains_1 (nI N) μ = μ := by
        unfold muX9_stains_1
        rw [ntM, show (60 : Int32) = nI 60 from rfl, hb]
        rfl
      have s2 : muX9_stains_2 (nI N) μ = M_X8_begin (nI N) μ := by
        unfold muX9_stains_2
        rw [s1]
      obtain ⟨a1, a2, a3, a4, a5⟩ := sp_beg (μ := μ) n2
      have h38 : muX9_stains_2 (nI N) μ 3 8 = nI (eH E) := by rw [s2, a5 3 (by decide), hE.1]
      rw [← s2] at a1 a2 a3 a4 a5
      have ho : TxO (μ 2) N := fun k hk => (hT.2.2.1 k (by omega)).2
      have s3 : muX9_stains_3 (nI N) μ = M_X2_read (nI (eH E)) (muX9_stains_2 (nI N) μ) := by
        unfold muX9_stains_3
        rw [h38]
      -- the reference's start, wherever the class leaves its own
      have start : ∀ ν, (∀ r, r ≠ 1 → r ≠ 37 → r ≠ 38 → r ≠ 40 → r ≠ 41 → r ≠ 548 → ν r = μ r) → VX10_stains_2 (nI N) ν = 0 ∧ ∃ B, B = muX10_stains_4 (nI N) ν ∧ P_X10_starts (nI N) (muX10_stains_3 (nI N) ν) ∧ TxM (μ 2) N (skp (μ 2) N 0) B ∧ B 57 5 = 0 ∧ B 57 6 = -1 ∧ B 57 1 = 0 ∧ B 57 0 = 0 ∧ (∀ k, 9 ≤ k → B 57 k = μ 57 k) ∧ (∀ r, r ≠ 57 → B r = ν r) ∧ B 61 0 = nI (eH E) := by
        intro ν hν
        have e57 : ν 57 = μ 57 := hν 57 (by decide) (by decide) (by decide) (by decide) (by decide) (by decide)
        have e58 : ν 58 = μ 58 := hν 58 (by decide) (by decide) (by decide) (by decide) (by decide) (by decide)
        have v2 : VX10_stains_2 (nI N) ν = 0 := by
          unfold VX10_stains_2 muX10_stains_1
          rw [isIn_eq, upm_rr, if_neg (show ¬ (1 : Nat) = 0 by decide), e57, hT.1, n4, if_pos rfl, if_neg (by decide), if_pos (show nI N ≤ (60 : Int32) from n5)]
        obtain ⟨b1, b2, b3⟩ := bad_ok (ν := ν) (c := VX10_stains_2 (nI N) ν) (w := 1) (b := 1) v2 (Or.inr rfl)
        have m3 : muX10_stains_3 (nI N) ν = upm ν 57 0 0 := b3
        obtain ⟨c1, c2, ⟨c3, c4, c5, c6, c7⟩, c8, c9⟩ := sp_starts (t := μ 2) (μ := upm ν 57 0 0) n2 (fun k hk => by rw [upm_other (by decide), e58]; exact (hT.2.2.1 k (by omega)).1)
        have m4 : muX10_stains_4 (nI N) ν = M_X10_starts (nI N) (upm ν 57 0 0) := by
          unfold muX10_stains_4
          rw [m3]
        refine ⟨v2, _, rfl, by rw [m3]; exact c1, by rw [m4]; exact c2, by rw [m4]; exact c3, by rw [m4]; exact c4, by rw [m4]; exact c5, ?_, fun k hk => ?_, fun r hr => ?_, ?_⟩
        · rw [m4, c8 0 (by decide) (by decide) (by decide) (by decide) (by decide) (by decide) (by decide)]
          exact z57
        · rw [m4, c8 k (by omega) (by omega) (by omega) (by omega) (by omega) (by omega) (by omega), upm_rr, if_neg (by omega), e57]
        · rw [m4, c9 r hr, upm_other hr]
        · rw [m4, c9 61 (by decide), upm_other (by decide), hν 61 (by decide) (by decide) (by decide) (by decide) (by decide) (by decide), hM.1]
      refine Or.inl ⟨k0, ?_⟩
      -- the class reads; the reference's reading from any memory like it
      have rd := fun (B : Mem) (h61 : B 61 0 = nI (eH E)) (hB : TxM (μ 2) N (skp (μ 2) N 0) B) (h5 : B 57 5 = 0) => sp_read (v := nI N) h6 ho h61 a1 hB h5
      by_cases hf : F_X2_read (nI (eH E)) (muX9_stains_2 (nI N) μ) ≠ 0
      · have hf' : F_X2_read (muX9_stains_2 (nI N) μ 3 8) (muX9_stains_2 (nI N) μ) ≠ 0 := by rw [h38]; exact hf
        have eM9 : M_X9_stains (nI N) μ = muX9_stains_4 (nI N) μ := by
          unfold M_X9_stains
          rw [if_pos k0, if_pos hf']
        have eF9 : F_X9_stains (nI N) μ = muX9_stains_4 (nI N) μ 37 2 := by
          unfold F_X9_stains
          rw [if_pos hf']
        obtain ⟨y1, y2⟩ := sp_copyRow (μ := muX9_stains_3 (nI N) μ) (fr := 41) (to := 38) (nf := 6) (nt := 6) (sp := 0) (dp := 0) (n := 6) (by omega) (by omega) (by decide) (by decide)
        have e4 : muX9_stains_4 (nI N) μ = upm (upr (muX9_stains_3 (nI N) μ) 38 (va_cpy (muX9_stains_3 (nI N) μ 41) (muX9_stains_3 (nI N) μ 38) 0 0 6)) 37 2 (muX9_stains_3 (nI N) μ 40 2) := by
          have y2' : muX2_copyFrom_1 (muX9_stains_3 (nI N) μ) = upr (muX9_stains_3 (nI N) μ) 38 (va_cpy (muX9_stains_3 (nI N) μ 41) (muX9_stains_3 (nI N) μ 38) 0 0 6) := y2
          show muX2_copyFrom_2 (muX9_stains_3 (nI N) μ) = _
          unfold muX2_copyFrom_2
          rw [y2', upr_ap, if_neg (by decide)]
        have e4o : ∀ r, r ≠ 37 → r ≠ 38 → muX9_stains_4 (nI N) μ r = muX9_stains_3 (nI N) μ r := fun r q1 q2 => by rw [e4, upm_other q1, upr_ap, if_neg q2]
        have e438 : ∀ k, k < 6 → muX9_stains_4 (nI N) μ 38 k = muX9_stains_3 (nI N) μ 41 k := fun k hk => by
          rw [e4, upm_other (by decide), upr_ap, if_pos rfl]
          unfold va_cpy
          rw [if_pos ⟨Nat.zero_le _, by omega⟩, Nat.zero_add, Nat.sub_zero]
        have e437 : muX9_stains_4 (nI N) μ 37 2 = muX9_stains_3 (nI N) μ 40 2 := by rw [e4, upm_rr, if_pos rfl]
        have z3 : ∀ r, r ≠ 1 → r ≠ 40 → r ≠ 41 → muX9_stains_3 (nI N) μ r = μ r := by
          obtain ⟨-, B0, -, -, b1, b2, -, -, -, -, -, b9⟩ := start μ fun _ _ _ _ _ _ _ => rfl
          obtain ⟨-, n, -, -, hh⟩ := rd B0 b9 b1 b2
          rcases hh with ⟨-, -, p, p', -, hS, -⟩ | ⟨hz, -⟩
          · intro r q1 q2 q3
            obtain ⟨-, -, -, -, -, fc, -⟩ := hS
            rw [s3, fc.2 r q1 q2 q3, sp_clear.2.2.2 r q2 q3, a5 r q1]
          · exact absurd hz hf
        have P9 : P_X9_stains (nI N) μ := by
          intro _
          obtain ⟨-, B0, -, -, b1, b2, -, -, -, -, -, b9⟩ := start μ fun _ _ _ _ _ _ _ => rfl
          rw [h38]
          exact ⟨(rd B0 b9 b1 b2).1, fun _ => y1, fun z => absurd z hf⟩
        refine ⟨P9, fun ν eν => ?_⟩
        rw [eM9, eF9] at eν
        have hν : ∀ r, r ≠ 1 → r ≠ 37 → r ≠ 38 → r ≠ 40 → r ≠ 41 → r ≠ 548 → ν r = μ r := fun r q1 q2 q3 q4 q5 q6 => by rw [eν, upm_other q6, e4o r q2 q3, z3 r q1 q4 q5]
        obtain ⟨v2, B, eB, b0, b1, b2, b3, b4, b5, b6, b7, b9⟩ := start ν hν
        obtain ⟨-, n, r1, r2, hh⟩ := rd B b9 b1 b2
        obtain ⟨g1, g2, g3⟩ := bad_ok (ν := ν) (c := VX10_stains_2 (nI N) ν) (w := 1) (b := 1) v2 (Or.inr rfl)
        have g2' : F_X10_bad (VX10_stains_2 (nI N) ν) 1 1 (muX10_stains_1 (nI N) ν) = 0 := g2
        have eN : NX10_stains_48 (nI N) ν = n := by
          unfold NX10_stains_48
          rw [← eB]
          exact r1
        have eS : SX10_stains_48 (nI N) ν = fo n (g_X10_stains_48 (nI N)) (0, 0, B) := by
          unfold SX10_stains_48
          rw [eN, ← eB]
        rcases hh with ⟨-, hn, p, p', hp, hS, tx⟩ | ⟨hz, -⟩
        · rw [← s3, ← eS] at hS
          rw [← eS] at tx
          obtain ⟨⟨t1, t2, t3⟩, ⟨c1, c2, c3⟩, -, hl, hr, fc, fm⟩ := hS
          have nx : (SX10_stains_48 (nI N) ν).2.2 57 2 ≤ (SX10_stains_48 (nI N) ν).2.2 57 4 := by
            rw [tx.2.2.1, tx.2.2.2.1]
            exact nI_le hp (by have := tx.2.1; omega)
          have e10 : muX10_stains_10 (nI N) ν = upm (upm (SX10_stains_48 (nI N) ν).2.2 57 3 (-1)) 57 38 (nI n) := by
            unfold muX10_stains_10 muX10_stains_9
            rw [c2]
          obtain ⟨l1, l2, l3⟩ := sp_laysS (μ := muX10_stains_10 (nI N) ν) hn
          have eM : M_X10_stains (nI N) ν = M_X10_lays_S (nI n) (muX10_stains_10 (nI N) ν) := by
            unfold M_X10_stains
            rw [if_pos g2', if_neg (not_not_intro t3), if_pos t3]
            unfold muX10_stains_11
            rw [c2]
          have oM : ∀ r, r ≠ 57 → (r < 425 ∨ 437 < r) → M_X10_stains (nI N) ν r = ν r := fun r q1 q2 => by rw [eM, l3 r (by omega), e10, upm_other q1, upm_other q1, fm.2 r q1 (by omega), b7 r q1]
          have o57 : ∀ k, k ≠ 3 → k ≠ 4 → k ≠ 38 → M_X10_stains (nI N) ν 57 k = B 57 k := fun k q1 q2 q3 => by rw [eM, l3 57 (by omega), e10, upm_rr, if_neg q3, upm_rr, if_neg q1, fm.1 k q2]
          have o573 : M_X10_stains (nI N) ν 57 3 = -1 := by rw [eM, l3 57 (by omega), e10, upm_rr, if_neg (by decide), upm_rr, if_pos rfl]
          have o5738 : M_X10_stains (nI N) ν 57 38 = nI n := by rw [eM, l3 57 (by omega), e10, upm_rr, if_pos rfl]
          have e37 : muX9_stains_4 (nI N) μ 37 2 = nI n := by rw [e437, c1]
          have cells : ∀ k, k < n → ∀ j, j < 2 → M_X10_stains (nI N) ν (425 + k) j = (SX10_stains_48 (nI N) ν).2.2 (432 + k) j := fun k hk j hj => by rw [eM, l2 k hk j hj, e10, upm_other (by omega), upm_other (by omega)]
          have n38 : ∀ h, h < 6 → M_X10_stains (nI N) ν 38 h = muX9_stains_3 (nI N) μ 41 h := fun h hh => by rw [oM 38 (by decide) (by decide), eν, upm_other (by decide), e438 h hh]
          have n1k : ∀ k, k ≠ 3 → k ≠ 4 → k ≠ 5 → M_X10_stains (nI N) ν 1 k = muX9_stains_2 (nI N) μ 1 k := fun k q1 q2 q3 => by
            rw [oM 1 (by decide) (by decide), eν, upm_other (by decide), e4o 1 (by decide) (by decide), fc.1 k q1 q2 q3, sp_clear.2.2.2 1 (by decide) (by decide)]
          rw [eF9]
          refine ⟨⟨g1, fun _ => ⟨b0, fun j hj => ?_, fun z => absurd t3 z, fun _ => ⟨fun _ => ⟨fun _ => ?_, fun _ => trivial⟩, fun z => absurd nx (Int32.not_le.mpr z)⟩⟩, fun z => absurd g2' z⟩, ?_, ?_, ?_, E, L, ?_⟩
          · rw [← eB]
            exact r2 j (by rw [eN] at hj; exact hj)
          · rw [c2]
            exact l1
          · unfold F_X10_stains
            rw [if_pos g2', if_pos t3, c2, e37]
          · rw [o57 0 (by decide) (by decide) (by decide), b5]
          · rw [oM 548 (by decide) (by decide), eν, upm_rr, if_pos rfl]
          · refine hI.marks (fun h q1 q2 q3 q4 q5 q6 q7 q8 => by rw [oM h q6 q7, hν h q1 q2 q3 q4 q5 q8]) (fun k q1 q2 => by rw [o57 k (by omega) (by omega) q2, b6 k q1]) ⟨?_, ⟨0, by omega, ?_⟩, fun k hk => ?_, ?_⟩ ⟨n, hn, ?_, o5738, fun k hk => ?_, fun h hh hne => ?_⟩
            · rw [o57 1 (by decide) (by decide) (by decide), b4, n1k 1 (by decide) (by decide) (by decide), a2]
            · rw [n1k 1 (by decide) (by decide) (by decide), a2]
              rfl
            · rw [oM 58 (by decide) (by decide), oM 2 (by decide) (by decide), hν 58 (by decide) (by decide) (by decide) (by decide) (by decide) (by decide), hν 2 (by decide) (by decide) (by decide) (by decide) (by decide) (by decide)]
              exact hT.2.2.1 k hk
            · rw [o573, n1k 7 (by decide) (by decide) (by decide), a4]
            · rw [oM 37 (by decide) (by decide), eν, upm_other (by decide), e37]
            · obtain ⟨h, h1, h2, h3, h4, h5⟩ := hl k hk
              have h6' : h < 6 := by omega
              refine ⟨h, h1, ?_, ?_, ?_, ?_⟩
              · rw [cells k hk 0 (by decide), h2]
              · rw [cells k hk 1 (by decide), h3, n38 h h6']
              · rw [n38 h h6']
                exact h4
              · rw [n38 h h6']
                exact h5
            · rw [n38 h hh] at hne
              obtain ⟨k, hk, e⟩ := hr h hh hne
              exact ⟨k, hk, by rw [cells k hk 0 (by decide), e]⟩
        · exact absurd hz hf
      · have hf0 : F_X2_read (nI (eH E)) (muX9_stains_2 (nI N) μ) = 0 := Decidable.not_not.mp hf
        have hf' : ¬ F_X2_read (muX9_stains_2 (nI N) μ 3 8) (muX9_stains_2 (nI N) μ) ≠ 0 := by rw [h38]; exact hf
        have eM9 : M_X9_stains (nI N) μ = muX9_stains_3 (nI N) μ := by
          unfold M_X9_stains
          rw [if_pos k0, if_neg hf']
        have eF9 : F_X9_stains (nI N) μ = muX9_stains_3 (nI N) μ 1 6 - 10 := by
          unfold F_X9_stains
          rw [if_neg hf']
          rfl
        have z3 : ∀ r, r ≠ 1 → r ≠ 40 → r ≠ 41 → muX9_stains_3 (nI N) μ r = μ r := by
          obtain ⟨-, B0, -, -, b1, b2, -, -, -, -, -, b9⟩ := start μ fun _ _ _ _ _ _ _ => rfl
          obtain ⟨-, n, -, -, hh⟩ := rd B0 b9 b1 b2
          rcases hh with ⟨hz, -⟩ | ⟨-, k, a, -, -, -, -, f5, -⟩
          · exact absurd hz hf
          · intro r q1 q2 q3
            rw [s3, f5 r q1 q2 q3, a5 r q1]
        have P9 : P_X9_stains (nI N) μ := by
          intro _
          obtain ⟨-, B0, -, -, b1, b2, -, -, -, -, -, b9⟩ := start μ fun _ _ _ _ _ _ _ => rfl
          rw [h38]
          exact ⟨(rd B0 b9 b1 b2).1, fun z => absurd z hf, fun _ => trivial⟩
        refine ⟨P9, fun ν eν => ?_⟩
        rw [eM9, eF9] at eν
        have hν' : ∀ r, r ≠ 1 → r ≠ 40 → r ≠ 41 → r ≠ 548 → ν r = μ r := fun r q1 q4 q5 q6 => by rw [eν, upm_other q6, z3 r q1 q4 q5]
        have hν : ∀ r, r ≠ 1 → r ≠ 37 → r ≠ 38 → r ≠ 40 → r ≠ 41 → r ≠ 548 → ν r = μ r := fun r q1 _ _ q4 q5 q6 => hν' r q1 q4 q5 q6
        obtain ⟨v2, B, eB, b0, b1, b2, b3, b4, b5, b6, b7, b9⟩ := start ν hν
        obtain ⟨-, n, r1, r2, hh⟩ := rd B b9 b1 b2
        obtain ⟨g1, g2, g3⟩ := bad_ok (ν := ν) (c := VX10_stains_2 (nI N) ν) (w := 1) (b := 1) v2 (Or.inr rfl)
        have g2' : F_X10_bad (VX10_stains_2 (nI N) ν) 1 1 (muX10_stains_1 (nI N) ν) = 0 := g2
        have eN : NX10_stains_48 (nI N) ν = n := by
          unfold NX10_stains_48
          rw [← eB]
          exact r1
        have eS : SX10_stains_48 (nI N) ν = fo n (g_X10_stains_48 (nI N)) (0, 0, B) := by
          unfold SX10_stains_48
          rw [eN, ← eB]
        rcases hh with ⟨hz, -⟩ | ⟨-, k, a, hk, f2, f3, f4, f5, f6, f7, f8, f9⟩
        · exact absurd hz hf
        · rw [← eS] at f6 f7 f8 f9
          rw [← s3] at f2 f3 f4 f5
          have nz : (SX10_stains_48 (nI N) ν).2.2 57 5 ≠ 0 := by rw [f6]; exact hk
          have eM : M_X10_stains (nI N) ν = upm (SX10_stains_48 (nI N) ν).2.2 57 3 a := by
            unfold M_X10_stains
            rw [if_pos g2', if_pos nz, if_neg nz]
            unfold muX10_stains_8 M_X10_ends muX10_ends_1
            rw [f7]
          have oM : ∀ r, r ≠ 57 → (r < 432 ∨ 437 < r) → M_X10_stains (nI N) ν r = ν r := fun r q1 q2 => by rw [eM, upm_other q1, f9 r q1 q2, b7 r q1]
          have o57 : ∀ k, k ≠ 3 → k ≠ 4 → k ≠ 5 → k ≠ 6 → M_X10_stains (nI N) ν 57 k = B 57 k := fun k q1 q2 q3 q4 => by rw [eM, upm_rr, if_neg q1, f8 k q2 q3 q4]
          have n1 : ∀ k, M_X10_stains (nI N) ν 1 k = muX9_stains_3 (nI N) μ 1 k := fun k => by rw [oM 1 (by decide) (by decide), eν, upm_other (by decide)]
          rw [eF9]
          refine ⟨⟨g1, fun _ => ⟨b0, fun j hj => ?_, fun _ => ⟨fun z => absurd z nz, fun _ => trivial⟩, fun z => absurd z nz⟩, fun z => absurd g2' z⟩, ?_, ?_, ?_, E, L, ?_⟩
          · rw [← eB]
            exact r2 j (by rw [eN] at hj; exact hj)
          · unfold F_X10_stains F_X10_ends muX10_ends_1
            rw [if_pos g2', if_neg nz, upm_rr, if_neg (by decide), f6, f2]
          · rw [o57 0 (by decide) (by decide) (by decide) (by decide), b5]
          · rw [oM 548 (by decide) (by decide), eν, upm_rr, if_pos rfl]
          · obtain ⟨m, m1, m2, m3, m4, m5⟩ := hK
            refine hI.marks (fun h q1 q2 q3 q4 q5 q6 q7 q8 => by rw [oM h q6 (by omega), hν h q1 q2 q3 q4 q5 q8]) (fun k q1 q2 => by rw [o57 k (by omega) (by omega) (by omega) (by omega), b6 k q1]) ⟨?_, ⟨0, by omega, ?_⟩, fun k hk => ?_, ?_⟩ ⟨m, m1, ?_, ?_, fun k hk => ?_, fun h hh hne => ?_⟩
            · rw [o57 1 (by decide) (by decide) (by decide) (by decide), b4, n1, f4 1 (by decide) (by decide) (by decide) (by decide) (by decide), a2]
            · rw [n1, f4 1 (by decide) (by decide) (by decide) (by decide) (by decide), a2]
              rfl
            · rw [oM 58 (by decide) (by decide), oM 2 (by decide) (by decide), hν 58 (by decide) (by decide) (by decide) (by decide) (by decide) (by decide), hν 2 (by decide) (by decide) (by decide) (by decide) (by decide) (by decide)]
              exact hT.2.2.1 k hk
            · rw [n1, f3, eM, upm_rr, if_pos rfl]
            · rw [oM 37 (by decide) (by decide), hν' 37 (by decide) (by decide) (by decide) (by decide), m2]
            · rw [o57 38 (by decide) (by decide) (by decide) (by decide), b6 38 (by decide), m3]
            · rw [oM 38 (by decide) (by decide), hν' 38 (by decide) (by decide) (by decide) (by decide), oM (425 + k) (by omega) (by omega), hν' (425 + k) (by omega) (by omega) (by omega) (by omega)]
              exact m4 k hk
            · rw [oM 38 (by decide) (by decide), hν' 38 (by decide) (by decide) (by decide) (by decide)] at hne
              obtain ⟨k, hk, e⟩ := m5 h hh hne
              exact ⟨k, hk, by rw [oM (425 + k) (by omega) (by omega), hν' (425 + k) (by omega) (by omega) (by omega) (by omega)]; exact e⟩
  have h := wrapT (K_X9_stains p1 μ) (F_X9_stains p1 μ) (M_X9_stains p1 μ) (P_X9_stains p1 μ) (F_X10_stains p1) (M_X10_stains p1) (P_X10_stains p1) hI key
  unfold P_W_4 M_W_4 muL_law_c4_2 muL_law_c4_1 M_L_stains W_L_stains F_X10_thrown
  exact h
