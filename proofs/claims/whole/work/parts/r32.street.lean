/-! STREET: what the law's round asks of it -/
theorem sp_copyW {μ : Mem} {fr to n : Nat} (hn : n < 2 ^ 30) : P_X9_copyWhole fr n to n μ ∧ (∀ k, k < n → M_X9_copyWhole fr n to n μ to k = μ fr k) ∧ ∀ r, r ≠ to → M_X9_copyWhole fr n to n μ r = μ r := by
  obtain ⟨y1, y2⟩ := sp_copyRow (μ := μ) (fr := fr) (to := to) (nf := n) (nt := n) (sp := 0) (dp := 0) (n := n) (by omega) (by omega) hn hn
  have e : M_X9_copyWhole fr n to n μ = upr μ to (va_cpy (μ fr) (μ to) 0 0 n) := y2
  refine ⟨y1, fun k hk => ?_, fun r hr => by rw [e, upr_ap, if_neg hr]⟩
  rw [e, upr_ap, if_pos rfl]
  unfold va_cpy
  rw [if_pos ⟨Nat.zero_le _, by omega⟩, Nat.zero_add, Nat.sub_zero]
theorem sp_copyStreet {E : EV} {μ μm : Mem} (hR : RdR E μ μm) (hO : EvOK E) : P_X7_copyFrom μ ∧ EvC E (M_X7_copyFrom μ) ∧ ∀ r, (r < 3 ∨ 11 < r) → M_X7_copyFrom μ r = μ r := by
  obtain ⟨⟨c0, c1, c2, c3, c4, c5⟩, -, r3, r4, r5, r6⟩ := hR
  have hH := hO.1.1
  have hT := hO.1.2.1
  have hD := hO.1.2.2.1
  have hF := hO.1.2.2.2
  obtain ⟨p1, q1, o1⟩ := sp_copyW (μ := μ) (fr := 13) (to := 4) (n := 6) (by decide)
  obtain ⟨p2, q2, o2⟩ := sp_copyW (μ := muX7_copyFrom_1 μ) (fr := 14) (to := 5) (n := 10) (by decide)
  obtain ⟨p3, q3, o3⟩ := sp_copyW (μ := muX7_copyFrom_2 μ) (fr := 15) (to := 6) (n := 10) (by decide)
  obtain ⟨p4, q4, o4⟩ := sp_copyW (μ := muX7_copyFrom_3 μ) (fr := 16) (to := 7) (n := 10) (by decide)
  obtain ⟨p5, q5, o5⟩ := sp_copyW (μ := muX7_copyFrom_4 μ) (fr := 17) (to := 8) (n := 10) (by decide)
  obtain ⟨p6, q6, o6⟩ := sp_copyW (μ := muX7_copyFrom_5 μ) (fr := 18) (to := 9) (n := 12) (by decide)
  obtain ⟨p7, q7, o7⟩ := sp_copyW (μ := muX7_copyFrom_6 μ) (fr := 19) (to := 10) (n := 6) (by decide)
  obtain ⟨p8, q8, o8⟩ := sp_copyW (μ := muX7_copyFrom_7 μ) (fr := 20) (to := 11) (n := 6) (by decide)
  have e1 : M_X9_copyWhole 13 6 4 6 μ = muX7_copyFrom_1 μ := rfl
  have e2 : M_X9_copyWhole 14 10 5 10 (muX7_copyFrom_1 μ) = muX7_copyFrom_2 μ := rfl
  have e3 : M_X9_copyWhole 15 10 6 10 (muX7_copyFrom_2 μ) = muX7_copyFrom_3 μ := rfl
  have e4 : M_X9_copyWhole 16 10 7 10 (muX7_copyFrom_3 μ) = muX7_copyFrom_4 μ := rfl
  have e5 : M_X9_copyWhole 17 10 8 10 (muX7_copyFrom_4 μ) = muX7_copyFrom_5 μ := rfl
  have e6 : M_X9_copyWhole 18 12 9 12 (muX7_copyFrom_5 μ) = muX7_copyFrom_6 μ := rfl
  have e7 : M_X9_copyWhole 19 6 10 6 (muX7_copyFrom_6 μ) = muX7_copyFrom_7 μ := rfl
  have e8 : M_X9_copyWhole 20 6 11 6 (muX7_copyFrom_7 μ) = muX7_copyFrom_8 μ := rfl
  rw [e1] at q1 o1
  rw [e2] at q2 o2
  rw [e3] at q3 o3
  rw [e4] at q4 o4
  rw [e5] at q5 o5
  rw [e6] at q6 o6
  rw [e7] at q7 o7
  rw [e8] at q8 o8
  have i1 : ∀ r, r ≠ 4 → muX7_copyFrom_1 μ r = μ r := o1
  have i2 : ∀ r, (r < 4 ∨ 5 < r) → muX7_copyFrom_2 μ r = μ r := fun r h => by rw [o2 r (by omega), i1 r (by omega)]
  have i3 : ∀ r, (r < 4 ∨ 6 < r) → muX7_copyFrom_3 μ r = μ r := fun r h => by rw [o3 r (by omega), i2 r (by omega)]
  have i4 : ∀ r, (r < 4 ∨ 7 < r) → muX7_copyFrom_4 μ r = μ r := fun r h => by rw [o4 r (by omega), i3 r (by omega)]
  have i5 : ∀ r, (r < 4 ∨ 8 < r) → muX7_copyFrom_5 μ r = μ r := fun r h => by rw [o5 r (by omega), i4 r (by omega)]
  have i6 : ∀ r, (r < 4 ∨ 9 < r) → muX7_copyFrom_6 μ r = μ r := fun r h => by rw [o6 r (by omega), i5 r (by omega)]
  have i7 : ∀ r, (r < 4 ∨ 10 < r) → muX7_copyFrom_7 μ r = μ r := fun r h => by rw [o7 r (by omega), i6 r (by omega)]
  have i8 : ∀ r, (r < 4 ∨ 11 < r) → muX7_copyFrom_8 μ r = μ r := fun r h => by rw [o8 r (by omega), i7 r (by omega)]
  have eM : M_X7_copyFrom μ = upm (upm (upm (upm (upm (upm (muX7_copyFrom_8 μ) 3 8 (nI (eH E))) 3 9 (nI (eT E))) 3 10 (nI (eD E))) 3 11 (nI (eF E))) 3 12 (eR E)) 3 13 (eP E) := by
    unfold M_X7_copyFrom muX7_copyFrom_14 muX7_copyFrom_13 muX7_copyFrom_12 muX7_copyFrom_11 muX7_copyFrom_10 muX7_copyFrom_9
    simp only [upm_other (show (12 : Nat) ≠ 3 by decide)]
    rw [i8 12 (by decide), c0, c1, c2, c3, c4, c5]
  have oM : ∀ r, r ≠ 3 → M_X7_copyFrom μ r = muX7_copyFrom_8 μ r := fun r hr => by rw [eM, upm_other hr, upm_other hr, upm_other hr, upm_other hr, upm_other hr, upm_other hr]
  refine ⟨⟨p1, p2, p3, p4, p5, p6, p7, p8⟩, ⟨?_, ?_, ?_, ?_, ?_, ?_, fun h hh => ?_, fun k hk => ?_, fun t ht => ⟨?_, ?_, ?_, ?_⟩, fun f hf => ⟨?_, ?_⟩⟩, fun r hr => by rw [oM r (by omega), i8 r (by omega)]⟩
  · simp [eM, upm_rr]
  · simp [eM, upm_rr]
  · simp [eM, upm_rr]
  · simp [eM, upm_rr]
  · simp [eM, upm_rr]
  · simp [eM, upm_rr]
  · rw [oM 4 (by decide), o8 4 (by decide), o7 4 (by decide), o6 4 (by decide), o5 4 (by decide), o4 4 (by decide), o3 4 (by decide), o2 4 (by decide), q1 h (by omega), (r3 h hh).1]
  · rw [oM 9 (by decide), o8 9 (by decide), o7 9 (by decide), q6 k (by omega), i5 18 (by decide), (r4 k hk).1]
  · rw [oM 5 (by decide), o8 5 (by decide), o7 5 (by decide), o6 5 (by decide), o5 5 (by decide), o4 5 (by decide), o3 5 (by decide), q2 t (by omega), i1 14 (by decide), (r5 t ht).1.1]
  · rw [oM 6 (by decide), o8 6 (by decide), o7 6 (by decide), o6 6 (by decide), o5 6 (by decide), o4 6 (by decide), q3 t (by omega), i2 15 (by decide), (r5 t ht).1.2.1]
  · rw [oM 7 (by decide), o8 7 (by decide), o7 7 (by decide), o6 7 (by decide), o5 7 (by decide), q4 t (by omega), i3 16 (by decide), (r5 t ht).1.2.2.1]
  · rw [oM 8 (by decide), o8 8 (by decide), o7 8 (by decide), o6 8 (by decide), q5 t (by omega), i4 17 (by decide), (r5 t ht).1.2.2.2]
  · rw [oM 10 (by decide), o8 10 (by decide), q7 f (by omega), i6 19 (by decide), (r6 f hf).1.1]
  · rw [oM 11 (by decide), q8 f (by omega), i7 20 (by decide), (r6 f hf).1.2]
theorem Inv.opens {E : EV} {μ : Mem} (hO : EvOK E) (hM : EvM E μ) (hC : EvC E μ) (hL : LwC lwZ μ) (h21 : μ 57 21 = 0) (hT : TxR μ) (h37 : μ 37 2 = 0) (h38 : ∀ h, h < 6 → μ 38 h = -1) (h5738 : μ 57 38 = 0) (h482 : μ 48 2 = 0) (h483 : μ 48 3 = 0) (h5739 : μ 57 39 = 0) (h5741 : μ 57 41 = 0) (h44 : ∀ k, k < 69 → μ 44 k = opC E k) (h521 : ∀ k, k < 63 → μ 521 k = opM E k) (h011 : μ 0 11 = 0) (h5740 : μ 57 40 = 0) (h12 : μ 0 12 = μ 59 0) (h13 : μ 0 13 = μ 59 1) (h43 : μ 57 43 = 0) (h5744 : μ 57 44 = eR E) : Inv E lwZ μ := by
  refine ⟨hO, hM, hC, lwZ_ok, hL, Or.inl ⟨rfl, h21⟩, hT, ⟨0, Nat.zero_le _, h37, h5738, fun k hk => absurd hk (Nat.not_lt_zero _), fun h hh hne => absurd (h38 h hh) hne⟩, ⟨0, 0, Nat.zero_le _, Nat.zero_le _, h482, h5739, h483, h5741, fun i hi => absurd hi (Nat.not_lt_zero _), fun j hj => absurd hj (Nat.not_lt_zero _)⟩, op_RwR hO h44 h521, ⟨by rw [h011, h5740], h12, h13⟩, h43, h5744⟩
theorem Inv.rdg {E : EV} {L : LW} {μ μ' : Mem} (hI : Inv E L μ) (o : ∀ h, h ≠ 1 → (h < 12 ∨ 20 < h) → rdF h → h ≠ 548 → μ' h = μ h) (o57 : ∀ k, 9 ≤ k → μ' 57 k = μ 57 k) (hT : TxR μ') : Inv E L μ' := by
  obtain ⟨hO, hM, hC, hL, hLC, hLR, -, hMk, hP, hS, hN, h43, h44⟩ := hI
  have o' : ∀ h, (h = 0 ∨ (2 ≤ h ∧ h ≤ 11) ∨ (21 ≤ h ∧ h ≤ 56) ∨ (58 ≤ h ∧ h ≤ 59) ∨ h = 61 ∨ h = 63 ∨ h = 65 ∨ h = 66 ∨ (77 ≤ h ∧ h ≤ 88) ∨ (95 ≤ h ∧ h ≤ 547)) → μ' h = μ h := fun h q => o h (by omega) (by omega) ⟨by omega, by omega, by omega, by omega, by omega, by omega⟩ (by omega)
  refine ⟨hO, hM.mono (fun h q => o' h (by omega)) hO, hC.mono fun h q => o' h (by omega), hL, hLC.mono (by rw [o' 21 (by omega)]) (o' 22 (by omega)) (o' 23 (by omega)), hLR.mono hL (o57 21 (by omega)) fun q _ _ => o' q (by omega), hT, ?_, ?_, ?_, ?_, ?_, ?_⟩
  · obtain ⟨n, n1, n2, n3, n4, n5⟩ := hMk
    refine ⟨n, n1, by rw [o' 37 (by omega)]; exact n2, by rw [o57 38 (by omega)]; exact n3, fun k hk => ?_, fun h hh hne => ?_⟩
    · rw [o' (425 + k) (by omega), o' 38 (by omega)]
      exact n4 k hk
    · rw [o' 38 (by omega)] at hne
      obtain ⟨k, hk, e⟩ := n5 h hh hne
      exact ⟨k, hk, by rw [o' (425 + k) (by omega)]; exact e⟩
  · obtain ⟨w, m, p1, p2, p3, p4, p5, p6, p7, p8⟩ := hP
    refine ⟨w, m, p1, p2, by rw [o' 48 (by omega)]; exact p3, by rw [o57 39 (by omega)]; exact p4, by rw [o' 48 (by omega)]; exact p5, by rw [o57 41 (by omega)]; exact p6, fun i hi => ?_, fun j hj => ?_⟩
    · rw [o' 49 (by omega), o' (527 + i) (by omega)]
      exact p7 i hi
    · rw [o' 50 (by omega), o' (544 + j) (by omega)]
      exact p8 j hj
  · unfold StR at hS ⊢
    rw [o' 44 (by omega), o' 521 (by omega)]
    exact hS
  · unfold CnR at hN ⊢
    rw [o' 0 (by omega), o57 40 (by omega), o' 59 (by omega)]
    exact hN
  · rw [o57 43 (by omega)]
    exact h43
  · rw [o57 44 (by omega)]
    exact h44
theorem case_street {E : EV} {L : LW} {μ : Mem} (hI : Inv E L μ) (p1 : Int32) : P_W_1 p1 μ ∧ ∃ E' L', Inv E' L' (M_W_1 p1 μ) := by
  have hT := hI.2.2.2.2.2.2.1
  have hN := hI.2.2.2.2.2.2.2.2.2.2.1
  have h43 := hI.2.2.2.2.2.2.2.2.2.2.2.1
  have key : (K_X9_street p1 μ = 0 ∧ P_X9_street p1 μ ∧ (∀ ν, ν = upm (M_X9_street p1 μ) 548 0 (F_X9_street p1 μ) → P_X10_street p1 ν ∧ F_X10_street p1 ν = F_X9_street p1 μ ∧ M_X10_street p1 ν 57 0 = 0 ∧ M_X10_street p1 ν 548 0 = F_X9_street p1 μ ∧ ∃ E' L', Inv E' L' (M_X10_street p1 ν))) ∨ QNo w1 μ (K_X9_street p1 μ) (M_X9_street p1 μ) (P_X9_street p1 μ) (M_X10_street p1) (P_X10_street p1) 1 := by
    cases hb : txB μ p1 (nI 600) with
    | false =>
      have k2 : K_X9_needText p1 600 μ = 2 := by
        rw [ntK, show (600 : Int32) = nI 600 from rfl, hb]
        rfl
      refine Or.inr ⟨k2, fun z => absurd z (by rw [k2]; decide), ?_, fun ν hν => ?_⟩
      · unfold M_X9_street muX9_street_1
        rw [if_neg (by rw [k2]; decide), ntM, show (600 : Int32) = nI 600 from rfl, hb]
        rfl
      · have e57 : ν 57 = μ 57 := hν 57 (by decide)
        have zz : inR p1 0 (μ 1 1) = false := by
          rcases tx_shut hT (by decide) hb with z | z
          · exact z
          · cases hq : inR p1 0 (μ 1 1) with
            | false => rfl
            | true =>
              obtain ⟨n, n1, n2⟩ := hT.2.1
              have := (inR_t hq).2
              rw [n2] at this
              exact absurd (Int32.le_trans this (nI_le n1 (by omega))) z
        have v2 : VX10_street_2 p1 ν = 1 := by
          unfold VX10_street_2 muX10_street_1
          rw [isIn_eq, upm_rr, if_neg (show ¬ (1 : Nat) = 0 by decide), e57, hT.1, zz]
          rfl
        obtain ⟨b1, b2, b3⟩ := bad_no (ν := ν) (w := 1) (b := 1) v2 (by decide) (Or.inr rfl)
        refine ⟨⟨b1, fun z => absurd z b2, fun _ => trivial⟩, ?_⟩
        show (if _ then _ else _) = _
        exact (if_neg b2).trans b3
    | true =>
      have k0 : K_X9_needText p1 600 μ = 0 := by
        rw [ntK, show (600 : Int32) = nI 600 from rfl, hb]
        rfl
      obtain ⟨N, n1, n2, rfl, n4, n5⟩ := tx_gate hT (by decide) hb
      have s1 : muX9_street_1 (nI N) μ = μ := by
        unfold muX9_street_1
        rw [ntM, show (600 : Int32) = nI 600 from rfl, hb]
        rfl
      have s2 : muX9_street_2 (nI N) μ = M_X8_begin (nI N) μ := by
        unfold muX9_street_2
        rw [s1]
      obtain ⟨a1, a2, a3, a4, a5⟩ := sp_beg (μ := μ) n2
      rw [← s2] at a1 a2 a3 a4 a5
      have ho : TxO (μ 2) N := fun k hk => (hT.2.2.1 k (by omega)).2
      have s3 : muX9_street_3 (nI N) μ = M_X7_read (muX9_street_2 (nI N) μ) := rfl
      have start : ∀ ν : Mem, ν 57 = μ 57 → ν 58 = μ 58 → VX10_street_2 (nI N) ν = 0 ∧ ∃ B, B = muX10_street_5 (nI N) ν ∧ P_X10_starts (nI N) (muX10_street_3 (nI N) ν) ∧ P_X10_tellsNothing (muX10_street_4 (nI N) ν) ∧ TxM (μ 2) N (skp (μ 2) N 0) B ∧ B 57 5 = 0 ∧ B 57 7 = 0 ∧ B 57 1 = 0 ∧ B 57 0 = 0 ∧ (∀ k, 9 ≤ k → B 57 k = μ 57 k) ∧ (∀ r, r ≠ 57 → r ≠ 60 → B r = ν r) ∧ (B 60 0 = 0 ∧ B 60 1 = 0 ∧ B 60 2 = 0 ∧ B 60 3 = 0 ∧ B 60 4 = 10 ∧ B 60 5 = 3) := by
        intro ν e57 e58
        have v2 : VX10_street_2 (nI N) ν = 0 := by
          unfold VX10_street_2 muX10_street_1
          rw [isIn_eq, upm_rr, if_neg (show ¬ (1 : Nat) = 0 by decide), e57, hT.1, n4, if_pos rfl, if_pos (by decide)]
        obtain ⟨b1, b2, b3⟩ := bad_ok (ν := ν) (c := VX10_street_2 (nI N) ν) (w := 1) (b := 1) v2 (Or.inr rfl)
        have m3 : muX10_street_3 (nI N) ν = upm ν 57 0 0 := b3
        obtain ⟨c1, c2, ⟨c3, c4, c5, c6, c7⟩, c8, c9⟩ := sp_starts (t := μ 2) (μ := upm ν 57 0 0) n2 (fun k hk => by rw [upm_other (by decide), e58]; exact (hT.2.2.1 k (by omega)).1)
        have m4 : muX10_street_4 (nI N) ν = M_X10_starts (nI N) (upm ν 57 0 0) := by
          unfold muX10_street_4
          rw [m3]
        obtain ⟨d1, d2, d3⟩ := sp_tellsNothing (μ := muX10_street_4 (nI N) ν)
        have m5 : muX10_street_5 (nI N) ν = M_X10_tellsNothing (muX10_street_4 (nI N) ν) := rfl
        have o57 : muX10_street_5 (nI N) ν 57 = M_X10_starts (nI N) (upm ν 57 0 0) 57 := by rw [m5, d3 57 (by decide), m4]
        refine ⟨v2, _, rfl, by rw [m3]; exact c1, d1, ?_, by rw [o57]; exact c3, by rw [o57]; exact c6, by rw [o57]; exact c5, ?_, fun k hk => ?_, fun r hr h60 => ?_, d2⟩
        · exact c2.mono (by rw [o57]) (by rw [o57]) (by rw [m5, d3 58 (by decide), m4])
        · rw [o57, c8 0 (by decide) (by decide) (by decide) (by decide) (by decide) (by decide) (by decide)]
          exact z57
        · rw [o57, c8 k (by omega) (by omega) (by omega) (by omega) (by omega) (by omega) (by omega), upm_rr, if_neg (by omega), e57]
        · rw [m5, d3 r h60, m4, c9 r hr, upm_other hr]
      refine Or.inl ⟨k0, ?_⟩
      have rd := fun (B : Mem) (hB : TxM (μ 2) N (skp (μ 2) N 0) B) (h5 : B 57 5 = 0) (h7 : B 57 7 = 0) (h60 : B 60 0 = 0 ∧ B 60 1 = 0 ∧ B 60 2 = 0 ∧ B 60 3 = 0 ∧ B 60 4 = 10 ∧ B 60 5 = 3) => sp_streetRead (v := nI N) ho a1 hB h5 h7 h60
      obtain ⟨-, B0, -, -, -, x1, x2, x3, -, -, -, -, x9⟩ := start μ rfl rfl
      obtain ⟨pR, -, -, -, gR, -, -⟩ := rd B0 x1 x2 x3 x9
      rw [← s3] at gR
      have z3 : ∀ r, r ≠ 1 → (r < 12 ∨ 20 < r) → muX9_street_3 (nI N) μ r = μ r := fun r q1 q2 => by rw [gR.2 r q1 q2, a5 r q1]
      by_cases hf : F_X7_read (muX9_street_2 (nI N) μ) ≠ 0
      · have eM9 : M_X9_street (nI N) μ = muX9_street_5 (nI N) μ := by
          unfold M_X9_street
          rw [if_pos k0, if_pos hf]
        have eF9 : F_X9_street (nI N) μ = muX9_street_5 (nI N) μ 3 9 := by
          unfold F_X9_street
          rw [if_pos hf]
        have e4 : muX9_street_4 (nI N) μ = M_X7_copyFrom (muX9_street_3 (nI N) μ) := rfl
        have e5 : muX9_street_5 (nI N) μ = M_X9_openStreet (muX9_street_4 (nI N) μ) := rfl
        -- the class's side, for a street that is read
        have cls : ∀ (E' : EV) (μm : Mem), EvOK E' → RdR E' (muX9_street_3 (nI N) μ) μm → P_X7_copyFrom (muX9_street_3 (nI N) μ) ∧ P_X9_openStreet (muX9_street_4 (nI N) μ) ∧ EvC E' (muX9_street_5 (nI N) μ) ∧ LwC lwZ (muX9_street_5 (nI N) μ) ∧ muX9_street_5 (nI N) μ 37 2 = 0 ∧ (∀ h, h < 6 → muX9_street_5 (nI N) μ 38 h = -1) ∧ muX9_street_5 (nI N) μ 48 2 = 0 ∧ muX9_street_5 (nI N) μ 48 3 = 0 ∧ (∀ k, k < 69 → muX9_street_5 (nI N) μ 44 k = opC E' k) ∧ muX9_street_5 (nI N) μ 0 11 = 0 ∧ (∀ k, k ≠ 11 → muX9_street_5 (nI N) μ 0 k = μ 0 k) ∧ muX9_street_5 (nI N) μ 1 = muX9_street_3 (nI N) μ 1 ∧ (∀ r, r = 2 ∨ (49 ≤ r) → muX9_street_5 (nI N) μ r = μ r) := by
          intro E' μm hO' hR'
          obtain ⟨f1, f2, f3⟩ := sp_copyStreet hR' hO'
          rw [← e4] at f2 f3
          obtain ⟨g1, g2, g3, g4, g5, g6, g7, g8, g9, g10⟩ := sp_openStreet f2 hO'
          rw [← e5] at g2 g3 g4 g5 g6 g7 g8 g9 g10
          refine ⟨f1, g1, f2.mono fun r hr => g10 r (by omega) (by omega) (by omega) (by omega) (by omega) (by omega) (by omega) (by omega), g2, g3, g4, g5, g6, g7, g8, fun k hk => ?_, ?_, fun r hr => ?_⟩
          · rw [g9 k hk, f3 0 (by decide), z3 0 (by decide) (by decide)]
          · rw [g10 1 (by decide) (by decide) (by decide) (by decide) (by decide) (by decide) (by decide) (by decide), f3 1 (by decide)]
          · rw [g10 r (by omega) (by omega) (by omega) (by omega) (by omega) (by omega) (by omega) (by omega), f3 r (by omega), z3 r (by omega) (by omega)]
        have P9 : P_X9_street (nI N) μ ∧ ∀ r, r = 2 ∨ (49 ≤ r) → muX9_street_5 (nI N) μ r = μ r := by
          obtain ⟨-, n, -, -, -, -, hh⟩ := rd B0 x1 x2 x3 x9
          rcases hh with ⟨-, E', hO', hR', -⟩ | ⟨hz, -⟩
          · rw [← s3] at hR'
            obtain ⟨f1, f2, -, -, -, -, -, -, -, -, -, -, f3⟩ := cls E' _ hO' hR'
            exact ⟨fun _ => ⟨pR, fun _ => ⟨f1, f2⟩, fun z => absurd z hf⟩, f3⟩
          · exact absurd hz hf
        refine ⟨P9.1, fun ν eν => ?_⟩
        rw [eM9, eF9] at eν
        have ν57 : ν 57 = μ 57 := by rw [eν, upm_other (by decide), P9.2 57 (by decide)]
        have ν58 : ν 58 = μ 58 := by rw [eν, upm_other (by decide), P9.2 58 (by decide)]
        obtain ⟨v2, B, eB, b0, b00, b1, b2, b3, b4, b5, b6, b7, b9⟩ := start ν ν57 ν58
        obtain ⟨-, n, r1, r2, -, gB, hh⟩ := rd B b1 b2 b3 b9
        obtain ⟨g1, g2, g3⟩ := bad_ok (ν := ν) (c := VX10_street_2 (nI N) ν) (w := 1) (b := 1) v2 (Or.inr rfl)
        have g2' : F_X10_bad (VX10_street_2 (nI N) ν) 1 1 (muX10_street_1 (nI N) ν) = 0 := g2
        have eN : NX10_street_42 (nI N) ν = n := by
          unfold NX10_street_42
          rw [← eB]
          exact r1
        have eS : SX10_street_42 (nI N) ν = fo n (g_X10_street_42 (nI N)) B := by
          unfold SX10_street_42
          rw [eN, ← eB]
        rcases hh with ⟨-, E', hO', hR', gC, f5, f6⟩ | ⟨hz, -⟩
        · rw [← s3] at hR' gC
          rw [← eS] at hR' f5 f6 gB
          obtain ⟨-, -, l1, l2, l3, l4, l5, l6, l7, l8, l9, l10, l11⟩ := cls E' _ hO' hR'
          have e9 : muX10_street_9 (nI N) ν = upm (SX10_street_42 (nI N) ν) 57 3 (-1) := rfl
          have hR9 : RdR E' (muX9_street_3 (nI N) μ) (muX10_street_9 (nI N) ν) := hR'.mono hO' (fun _ _ _ => rfl) (fun r _ w => by rw [e9, upm_other w])
          obtain ⟨w1, w2, w3, ⟨w4, w5, w6, w7, w8, w9⟩, w10, w11⟩ := sp_anew hR9 hO'
          have eM : M_X10_street (nI N) ν = M_X10_beginsAnew (muX10_street_9 (nI N) ν) := by
            unfold M_X10_street
            rw [if_pos g2', if_neg (not_not_intro f5), if_pos f5]
            rfl
          rw [← eM] at w2 w3 w4 w5 w6 w7 w8 w9 w10 w11
          -- rows that both sides leave
          have oM : ∀ r, (r < 57 ∨ r = 58 ∨ r = 59 ∨ r = 548) → M_X10_street (nI N) ν r = ν r := fun r h => by
            rw [w11 r (by omega) (by omega) (by omega) (by omega) (by omega) (by omega) (by omega), e9, upm_other (by omega), gB.2 r ⟨by omega, by omega, by omega, by omega, by omega, by omega⟩, b7 r (by omega) (by omega)]
          have oC : ∀ r, r ≠ 548 → ν r = muX9_street_5 (nI N) μ r := fun r h => by rw [eν, upm_other h]
          have o57 : ∀ k, k ≠ 3 → k ≠ 4 → k ≠ 5 → k ≠ 6 → k ≠ 7 → k ≠ 44 → k ≠ 21 → k ≠ 38 → k ≠ 39 → k ≠ 40 → k ≠ 41 → M_X10_street (nI N) ν 57 k = B 57 k := fun k q3 q4 q5 q6 q7 q8 q9 q10 q11 q12 q13 => by rw [w10 k q8 q9 q10 q11 q12 q13, e9, upm_rr, if_neg q3, gB.1 k q4 q5 q6 q7]
          have n1 : ∀ k, k ≠ 3 → k ≠ 4 → k ≠ 5 → M_X10_street (nI N) ν 1 k = muX9_street_2 (nI N) μ 1 k := fun k q1 q2 q3 => by rw [oM 1 (by decide), oC 1 (by decide), l10, gC.1 k q1 q2 q3]
          rw [eF9]
          refine ⟨⟨g1, fun _ => ⟨b0, b00, fun j hj => ?_, fun z => absurd f5 z, fun _ => ⟨fun _ => ⟨fun _ => w1, fun _ => trivial⟩, fun z => absurd f6 (Int32.not_le.mpr z)⟩⟩, fun z => absurd g2' z⟩, ?_, ?_, ?_, E', lwZ, ?_⟩
          · rw [← eB]
            exact r2 j (by rw [eN] at hj; exact hj)
          · unfold F_X10_street
            rw [if_pos g2', if_neg (not_not_intro f5), if_pos f5]
            show M_X10_beginsAnew (muX10_street_9 (nI N) ν) 61 1 = _
            rw [← eM, w2.2.1, l1.2.1]
          · rw [o57 0 (by decide) (by decide) (by decide) (by decide) (by decide) (by decide) (by decide) (by decide) (by decide) (by decide) (by decide), b5]
          · rw [oM 548 (by decide), eν, upm_rr, if_pos rfl]
          · refine Inv.opens hO' w2 (l1.mono fun r hr => by rw [oM r (by omega), oC r (by omega)]) ?_ w5 ⟨?_, ⟨0, Nat.zero_le _, ?_⟩, fun k hk => ?_, ?_⟩ ?_ (fun h hh => ?_) w6 ?_ ?_ w7 w9 (fun k hk => ?_) w3 ?_ w8 ?_ ?_ ?_ w4
            · unfold LwC at l2 ⊢
              rw [oM 21 (by decide), oM 22 (by decide), oM 23 (by decide), oC 21 (by decide), oC 22 (by decide), oC 23 (by decide)]
              exact l2
            · rw [o57 1 (by decide) (by decide) (by decide) (by decide) (by decide) (by decide) (by decide) (by decide) (by decide) (by decide) (by decide), b4, n1 1 (by decide) (by decide) (by decide), a2]
            · rw [n1 1 (by decide) (by decide) (by decide), a2]
              rfl
            · rw [oM 58 (by decide), oM 2 (by decide), oC 58 (by decide), oC 2 (by decide), l11 58 (by decide), l11 2 (by decide)]
              exact hT.2.2.1 k hk
            · rw [w10 3 (by decide) (by decide) (by decide) (by decide) (by decide) (by decide), e9, upm_rr, if_pos rfl, n1 7 (by decide) (by decide) (by decide), a4]
            · rw [oM 37 (by decide), oC 37 (by decide), l3]
            · rw [oM 38 (by decide), oC 38 (by decide), l4 h hh]
            · rw [oM 48 (by decide), oC 48 (by decide), l5]
            · rw [oM 48 (by decide), oC 48 (by decide), l6]
            · rw [oM 44 (by decide), oC 44 (by decide), l7 k hk]
            · rw [oM 0 (by decide), oC 0 (by decide), l8]
            · rw [oM 0 (by decide), oC 0 (by decide), l9 12 (by decide), oM 59 (by decide), oC 59 (by decide), l11 59 (by decide), hN.2.1]
            · rw [oM 0 (by decide), oC 0 (by decide), l9 13 (by decide), oM 59 (by decide), oC 59 (by decide), l11 59 (by decide), hN.2.2]
            · rw [o57 43 (by decide) (by decide) (by decide) (by decide) (by decide) (by decide) (by decide) (by decide) (by decide) (by decide) (by decide), b6 43 (by decide), h43]
        · exact absurd hz hf
      · have hf0 : F_X7_read (muX9_street_2 (nI N) μ) = 0 := Decidable.not_not.mp hf
        have eM9 : M_X9_street (nI N) μ = muX9_street_3 (nI N) μ := by
          unfold M_X9_street
          rw [if_pos k0, if_neg hf]
        have eF9 : F_X9_street (nI N) μ = muX9_street_3 (nI N) μ 1 6 - 10 := by
          unfold F_X9_street
          rw [if_neg hf]
          rfl
        have P9 : P_X9_street (nI N) μ := fun _ => ⟨pR, fun z => absurd z hf, fun _ => trivial⟩
        refine ⟨P9, fun ν eν => ?_⟩
        rw [eM9, eF9] at eν
        have ν57 : ν 57 = μ 57 := by rw [eν, upm_other (by decide), z3 57 (by decide) (by decide)]
        have ν58 : ν 58 = μ 58 := by rw [eν, upm_other (by decide), z3 58 (by decide) (by decide)]
        obtain ⟨v2, B, eB, b0, b00, b1, b2, b3, b4, b5, b6, b7, b9⟩ := start ν ν57 ν58
        obtain ⟨-, n, r1, r2, -, gB, hh⟩ := rd B b1 b2 b3 b9
        obtain ⟨g1, g2, g3⟩ := bad_ok (ν := ν) (c := VX10_street_2 (nI N) ν) (w := 1) (b := 1) v2 (Or.inr rfl)
        have g2' : F_X10_bad (VX10_street_2 (nI N) ν) 1 1 (muX10_street_1 (nI N) ν) = 0 := g2
        have eN : NX10_street_42 (nI N) ν = n := by
          unfold NX10_street_42
          rw [← eB]
          exact r1
        have eS : SX10_street_42 (nI N) ν = fo n (g_X10_street_42 (nI N)) B := by
          unfold SX10_street_42
          rw [eN, ← eB]
        rcases hh with ⟨hz, -⟩ | ⟨-, k, a, hk, f2, f3, f6, f7⟩
        · exact absurd hz hf
        · rw [← s3] at f2 f3
          rw [← eS] at f6 f7 gB
          have nz : SX10_street_42 (nI N) ν 57 5 ≠ 0 := by rw [f6]; exact hk
          have eM : M_X10_street (nI N) ν = upm (SX10_street_42 (nI N) ν) 57 3 a := by
            unfold M_X10_street
            rw [if_pos g2', if_pos nz, if_neg nz]
            unfold muX10_street_8 M_X10_ends muX10_ends_1
            rw [f7]
          have oM : ∀ r, rdF r → M_X10_street (nI N) ν r = ν r := fun r h => by rw [eM, upm_other h.1, gB.2 r h, b7 r h.1 h.2.1]
          have oν : ∀ r, r ≠ 1 → (r < 12 ∨ 20 < r) → r ≠ 548 → ν r = μ r := fun r q1 q2 q3 => by rw [eν, upm_other q3, z3 r q1 q2]
          have o57 : ∀ k, k ≠ 3 → k ≠ 4 → k ≠ 5 → k ≠ 6 → k ≠ 7 → M_X10_street (nI N) ν 57 k = B 57 k := fun k q1 q2 q3 q4 q5 => by rw [eM, upm_rr, if_neg q1, gB.1 k q2 q3 q4 q5]
          have rf1 : rdF 1 := ⟨by decide, by decide, by decide, by decide, by decide, by decide⟩
          have rf2 : rdF 2 := ⟨by decide, by decide, by decide, by decide, by decide, by decide⟩
          have rf58 : rdF 58 := ⟨by decide, by decide, by decide, by decide, by decide, by decide⟩
          have rf548 : rdF 548 := ⟨by decide, by decide, by decide, by decide, by decide, by decide⟩
          have n1 : ∀ k, M_X10_street (nI N) ν 1 k = muX9_street_3 (nI N) μ 1 k := fun k => by rw [oM 1 rf1, eν, upm_other (by decide)]
          rw [eF9]
          refine ⟨⟨g1, fun _ => ⟨b0, b00, fun j hj => ?_, fun _ => ⟨fun z => absurd z nz, fun _ => trivial⟩, fun z => absurd z nz⟩, fun z => absurd g2' z⟩, ?_, ?_, ?_, E, L, ?_⟩
          · rw [← eB]
            exact r2 j (by rw [eN] at hj; exact hj)
          · unfold F_X10_street F_X10_ends muX10_ends_1
            rw [if_pos g2', if_pos nz, if_neg nz, upm_rr, if_neg (by decide), f6, f2]
          · rw [o57 0 (by decide) (by decide) (by decide) (by decide) (by decide), b5]
          · rw [oM 548 rf548, eν, upm_rr, if_pos rfl]
          · refine hI.rdg (fun h q1 q2 q3 q4 => by rw [oM h q3, oν h q1 q2 q4]) (fun k q1 => by rw [o57 k (by omega) (by omega) (by omega) (by omega) (by omega), b6 k q1]) ⟨?_, ⟨0, by omega, ?_⟩, fun k hk => ?_, ?_⟩
            · rw [o57 1 (by decide) (by decide) (by decide) (by decide) (by decide), b4, n1, gR.1 1 (by decide) (by decide) (by decide) (by decide) (by decide), a2]
            · rw [n1, gR.1 1 (by decide) (by decide) (by decide) (by decide) (by decide), a2]
              rfl
            · rw [oM 58 rf58, oM 2 rf2, oν 58 (by decide) (by decide) (by decide), oν 2 (by decide) (by decide) (by decide)]
              exact hT.2.2.1 k hk
            · rw [n1, f3, eM, upm_rr, if_pos rfl]
  have h := wrapT (K_X9_street p1 μ) (F_X9_street p1 μ) (M_X9_street p1 μ) (P_X9_street p1 μ) (F_X10_street p1) (M_X10_street p1) (P_X10_street p1) hI key
  unfold P_W_1 M_W_1 muL_law_c1_2 muL_law_c1_1 M_L_street W_L_street F_X10_thrown
  exact h
