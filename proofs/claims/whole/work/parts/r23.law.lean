/-! the LAW: what the law's round asks of it -/
theorem case_law {E : EV} {L : LW} {μ : Mem} (hI : Inv E L μ) (p1 : Int32) : P_W_2 p1 μ ∧ ∃ E' L', Inv E' L' (M_W_2 p1 μ) := by
  have hT := hI.2.2.2.2.2.2.1
  have key : (K_X9_law p1 μ = 0 ∧ P_X9_law p1 μ ∧ (∀ ν, ν = upm (M_X9_law p1 μ) 548 0 (F_X9_law p1 μ) → P_X10_law p1 ν ∧ F_X10_law p1 ν = F_X9_law p1 μ ∧ M_X10_law p1 ν 57 0 = 0 ∧ M_X10_law p1 ν 548 0 = F_X9_law p1 μ ∧ ∃ E' L', Inv E' L' (M_X10_law p1 ν))) ∨ QNo w1 μ (K_X9_law p1 μ) (M_X9_law p1 μ) (P_X9_law p1 μ) (M_X10_law p1) (P_X10_law p1) 1 := by
    cases hb : txB μ p1 (nI 150) with
    | false =>
      have k2 : K_X9_needText p1 150 μ = 2 := by
        rw [ntK, show (150 : Int32) = nI 150 from rfl, hb]
        rfl
      refine Or.inr ⟨k2, fun z => absurd z (by rw [k2]; decide), ?_, fun ν hν => ?_⟩
      · unfold M_X9_law muX9_law_1
        rw [if_neg (by rw [k2]; decide), ntM, show (150 : Int32) = nI 150 from rfl, hb]
        rfl
      · have e57 : ν 57 = μ 57 := hν 57 (by decide)
        have v2 : VX10_law_2 p1 ν = 1 := by
          unfold VX10_law_2 muX10_law_1
          rw [isIn_eq, upm_rr, if_neg (show ¬ (1 : Nat) = 0 by decide), e57, hT.1]
          rcases tx_shut hT (by decide) hb with z | z
          · rw [z]
            rfl
          · rw [show (150 : Int32) = nI 150 from rfl, if_neg z]
            split <;> rfl
        obtain ⟨b1, b2, b3⟩ := bad_no (ν := ν) (w := 1) (b := 1) v2 (by decide) (Or.inr rfl)
        refine ⟨⟨b1, fun z => absurd z b2, fun _ => trivial⟩, ?_⟩
        show (if _ then _ else _) = _
        exact (if_neg b2).trans b3
    | true =>
      have k0 : K_X9_needText p1 150 μ = 0 := by
        rw [ntK, show (150 : Int32) = nI 150 from rfl, hb]
        rfl
      obtain ⟨N, n1, n2, rfl, n4, n5⟩ := tx_gate hT (by decide) hb
      have s1 : muX9_law_1 (nI N) μ = μ := by
        unfold muX9_law_1
        rw [ntM, show (150 : Int32) = nI 150 from rfl, hb]
        rfl
      have s2 : muX9_law_2 (nI N) μ = M_X8_begin (nI N) μ := by
        unfold muX9_law_2
        rw [s1]
      obtain ⟨a1, a2, a3, a4, a5⟩ := sp_beg (μ := μ) n2
      rw [← s2] at a1 a2 a3 a4 a5
      have ho : TxO (μ 2) N := fun k hk => (hT.2.2.1 k (by omega)).2
      have s3 : muX9_law_3 (nI N) μ = M_X1_read (muX9_law_2 (nI N) μ) := rfl
      have start : ∀ ν : Mem, ν 57 = μ 57 → ν 58 = μ 58 → VX10_law_2 (nI N) ν = 0 ∧ ∃ B, B = muX10_law_4 (nI N) ν ∧ P_X10_starts (nI N) (muX10_law_3 (nI N) ν) ∧ TxM (μ 2) N (skp (μ 2) N 0) B ∧ B 57 5 = 0 ∧ B 57 6 = -1 ∧ B 57 1 = 0 ∧ B 57 0 = 0 ∧ (∀ k, 9 ≤ k → B 57 k = μ 57 k) ∧ (∀ r, r ≠ 57 → B r = ν r) ∧ B 57 8 = 0 := by
        intro ν e57 e58
        have v2 : VX10_law_2 (nI N) ν = 0 := by
          unfold VX10_law_2 muX10_law_1
          rw [isIn_eq, upm_rr, if_neg (show ¬ (1 : Nat) = 0 by decide), e57, hT.1, n4, if_pos rfl, if_neg (by decide), if_pos (show nI N ≤ (150 : Int32) from n5)]
        obtain ⟨b1, b2, b3⟩ := bad_ok (ν := ν) (c := VX10_law_2 (nI N) ν) (w := 1) (b := 1) v2 (Or.inr rfl)
        have m3 : muX10_law_3 (nI N) ν = upm ν 57 0 0 := b3
        obtain ⟨c1, c2, ⟨c3, c4, c5, c6, c7⟩, c8, c9⟩ := sp_starts (t := μ 2) (μ := upm ν 57 0 0) n2 (fun k hk => by rw [upm_other (by decide), e58]; exact (hT.2.2.1 k (by omega)).1)
        have m4 : muX10_law_4 (nI N) ν = M_X10_starts (nI N) (upm ν 57 0 0) := by
          unfold muX10_law_4
          rw [m3]
        refine ⟨v2, _, rfl, by rw [m3]; exact c1, by rw [m4]; exact c2, by rw [m4]; exact c3, by rw [m4]; exact c4, by rw [m4]; exact c5, ?_, fun k hk => ?_, fun r hr => ?_, by rw [m4]; exact c7⟩
        · rw [m4, c8 0 (by decide) (by decide) (by decide) (by decide) (by decide) (by decide) (by decide)]
          exact z57
        · rw [m4, c8 k (by omega) (by omega) (by omega) (by omega) (by omega) (by omega) (by omega), upm_rr, if_neg (by omega), e57]
        · rw [m4, c9 r hr, upm_other hr]
      refine Or.inl ⟨k0, ?_⟩
      have rd := fun (B : Mem) (hB : TxM (μ 2) N (skp (μ 2) N 0) B) (h5 : B 57 5 = 0) (h8 : B 57 8 = 0) => sp_lawRead n1 ho a1 hB h5 h8
      by_cases hf : F_X1_read (muX9_law_2 (nI N) μ) ≠ 0
      · have eM9 : M_X9_law (nI N) μ = muX9_law_4 (nI N) μ := by
          unfold M_X9_law
          rw [if_pos k0, if_pos hf]
        have eF9 : F_X9_law (nI N) μ = 1 := by
          unfold F_X9_law
          rw [if_pos hf]
        obtain ⟨y1, y2⟩ := sp_copyRow (μ := muX9_law_3 (nI N) μ) (fr := 27) (to := 22) (nf := 150) (nt := 150) (sp := 0) (dp := 0) (n := 150) (by omega) (by omega) (by decide) (by decide)
        obtain ⟨y3, y4⟩ := sp_copyRow (μ := muX1_copyFrom_1 (muX9_law_3 (nI N) μ)) (fr := 28) (to := 23) (nf := 150) (nt := 150) (sp := 0) (dp := 0) (n := 150) (by omega) (by omega) (by decide) (by decide)
        have c1 : muX1_copyFrom_1 (muX9_law_3 (nI N) μ) = upr (muX9_law_3 (nI N) μ) 22 (va_cpy (muX9_law_3 (nI N) μ 27) (muX9_law_3 (nI N) μ 22) 0 0 150) := y2
        have c2 : muX1_copyFrom_2 (muX9_law_3 (nI N) μ) = upr (muX1_copyFrom_1 (muX9_law_3 (nI N) μ)) 23 (va_cpy (muX1_copyFrom_1 (muX9_law_3 (nI N) μ) 28) (muX1_copyFrom_1 (muX9_law_3 (nI N) μ) 23) 0 0 150) := y4
        have e26 : muX1_copyFrom_2 (muX9_law_3 (nI N) μ) 26 4 = muX9_law_3 (nI N) μ 26 4 := by rw [c2, upr_ap, if_neg (by decide), c1, upr_ap, if_neg (by decide)]
        have e4 : muX9_law_4 (nI N) μ = upm (muX1_copyFrom_2 (muX9_law_3 (nI N) μ)) 21 4 (muX9_law_3 (nI N) μ 26 4) := by
          unfold muX9_law_4 M_X1_copyFrom muX1_copyFrom_3
          rw [e26]
        have e4o : ∀ r, r ≠ 21 → r ≠ 22 → r ≠ 23 → muX9_law_4 (nI N) μ r = muX9_law_3 (nI N) μ r := fun r q1 q2 q3 => by rw [e4, upm_other q1, c2, upr_ap, if_neg q3, c1, upr_ap, if_neg q2]
        have cp : ∀ (f g : Nat → Int32) k, k < 150 → va_cpy f g 0 0 150 k = f k := fun f g k hk => by
          unfold va_cpy
          rw [if_pos ⟨Nat.zero_le _, by omega⟩, Nat.zero_add, Nat.sub_zero]
        have e422 : ∀ k, k < 150 → muX9_law_4 (nI N) μ 22 k = muX9_law_3 (nI N) μ 27 k := fun k hk => by
          rw [e4, upm_other (by decide), c2, upr_ap, if_neg (by decide), c1, upr_ap, if_pos rfl, cp _ _ k hk]
        have e423 : ∀ k, k < 150 → muX9_law_4 (nI N) μ 23 k = muX9_law_3 (nI N) μ 28 k := fun k hk => by
          rw [e4, upm_other (by decide), c2, upr_ap, if_pos rfl, cp _ _ k hk, c1, upr_ap, if_neg (by decide)]
        have e421 : muX9_law_4 (nI N) μ 21 4 = muX9_law_3 (nI N) μ 26 4 := by rw [e4, upm_rr, if_pos rfl]
        have z3 : ∀ r, r ≠ 1 → r ≠ 26 → r ≠ 27 → r ≠ 28 → muX9_law_3 (nI N) μ r = μ r := by
          obtain ⟨-, B0, -, -, b1, b2, -, -, -, -, -, b9⟩ := start μ rfl rfl
          obtain ⟨-, -, -, hh⟩ := rd B0 b1 b2 b9
          rcases hh with ⟨-, n, p, hS, -⟩ | ⟨hz, -⟩
          · intro r q1 q2 q3 q4
            obtain ⟨-, -, -, -, ⟨-, fc⟩, -⟩ := hS
            rw [s3, fc r q1 q2 q3 q4, upm_other q2, a5 r q1]
          · exact absurd hz hf
        have P9 : P_X9_law (nI N) μ := by
          intro _
          obtain ⟨-, B0, -, -, b1, b2, -, -, -, -, -, b9⟩ := start μ rfl rfl
          exact ⟨(rd B0 b1 b2 b9).1, fun _ => ⟨y1, y3⟩, fun z => absurd z hf⟩
        refine ⟨P9, fun ν eν => ?_⟩
        rw [eM9, eF9] at eν
        have hν : ∀ r, r ≠ 1 → (r < 21 ∨ 28 < r) → r ≠ 548 → ν r = μ r := fun r q1 q2 q3 => by rw [eν, upm_other q3, e4o r (by omega) (by omega) (by omega), z3 r q1 (by omega) (by omega) (by omega)]
        obtain ⟨v2, B, eB, b0, b1, b2, b3, b4, b5, b6, b7, b9⟩ := start ν (hν 57 (by decide) (by decide) (by decide)) (hν 58 (by decide) (by decide) (by decide))
        obtain ⟨-, r1, r2, hh⟩ := rd B b1 b2 b9
        obtain ⟨g1, g2, g3⟩ := bad_ok (ν := ν) (c := VX10_law_2 (nI N) ν) (w := 1) (b := 1) v2 (Or.inr rfl)
        have g2' : F_X10_bad (VX10_law_2 (nI N) ν) 1 1 (muX10_law_1 (nI N) ν) = 0 := g2
        have e5 : muX10_law_5 (nI N) ν = upm B 57 22 0 := by
          unfold muX10_law_5
          rw [← eB]
        have e6 : muX10_law_6 (nI N) ν = MsumM (upm B 57 22 0) := by
          unfold muX10_law_6
          rw [e5]
        have e7 : muX10_law_7 (nI N) ν = M_X10_blanks (MsumM (upm B 57 22 0)) := by
          unfold muX10_law_7
          rw [e6]
        rcases hh with ⟨-, n, p, hS, hn1, hn, hd, nx⟩ | ⟨hz, -⟩
        · rw [← s3, ← e7] at hS
          rw [← s3] at hd
          rw [← e7] at nx
          obtain ⟨⟨t1, -, t3, -⟩, ⟨c1, c2, c3⟩, cd, dp, ⟨fc, -⟩, ⟨fm, fr⟩⟩ := hS
          have e9 : VX10_law_9 (nI N) ν = muX10_law_7 (nI N) ν := by
            unfold VX10_law_9
            rw [if_neg (not_not_intro t3), if_pos nx]
          have e11 : muX10_law_11 (nI N) ν = upm (upm (muX10_law_7 (nI N) ν) 57 3 (-1)) 57 21 (nI n) := by
            unfold muX10_law_11 muX10_law_10
            rw [e9, upm_rr, if_neg (by decide), c2]
          have e1121 : muX10_law_11 (nI N) ν 57 21 = nI n := by rw [e11, upm_rr, if_pos rfl]
          obtain ⟨l1, l2, l3⟩ := sp_laysL (μ := muX10_law_11 (nI N) ν) hn
          have t9 : VX10_law_9 (nI N) ν 57 5 = 0 := by rw [e9]; exact t3
          have eM : M_X10_law (nI N) ν = M_X10_lays_L (nI n) (muX10_law_11 (nI N) ν) := by
            unfold M_X10_law
            rw [if_pos g2', if_pos t9]
            unfold muX10_law_12
            rw [e1121]
          have oM : ∀ r, r ≠ 57 → (r < 103 ∨ 423 < r) → M_X10_law (nI N) ν r = ν r := fun r q1 q2 => by rw [eM, l3 r (by omega), e11, upm_other q1, upm_other q1, fr r q1 (by omega), upm_other q1, b7 r q1]
          have o57 : ∀ k, k ≠ 3 → k ≠ 4 → k ≠ 8 → k ≠ 21 → k ≠ 22 → M_X10_law (nI N) ν 57 k = B 57 k := fun k q1 q2 q3 q4 q5 => by rw [eM, l3 57 (by omega), e11, upm_rr, if_neg q4, upm_rr, if_neg q1, fm k q2 q3 q5, upm_rr, if_neg q5]
          have o573 : M_X10_law (nI N) ν 57 3 = -1 := by rw [eM, l3 57 (by omega), e11, upm_rr, if_neg (by decide), upm_rr, if_pos rfl]
          have o5721 : M_X10_law (nI N) ν 57 21 = nI n := by rw [eM, l3 57 (by omega), e1121]
          have cells : ∀ k, k < n → ∀ j, j < 2 → M_X10_law (nI N) ν (103 + k) j = muX10_law_7 (nI N) ν (264 + k) j := fun k hk j hj => by rw [eM, l2 k hk j hj, e11, upm_other (by omega), upm_other (by omega)]
          have n1k : ∀ k, k ≠ 3 → k ≠ 4 → k ≠ 5 → M_X10_law (nI N) ν 1 k = muX9_law_2 (nI N) μ 1 k := fun k q1 q2 q3 => by
            rw [oM 1 (by decide) (by decide), eν, upm_other (by decide), e4o 1 (by decide) (by decide) (by decide), fc k q1 q2 q3, upm_other (by decide)]
          obtain ⟨c27, h27⟩ : ∃ f, f = muX9_law_3 (nI N) μ 27 := ⟨_, rfl⟩
          obtain ⟨c28, h28⟩ : ∃ f, f = muX9_law_3 (nI N) μ 28 := ⟨_, rfl⟩
          rw [← h27] at cd dp hd e422
          rw [← h28] at cd e423
          have lok : LwOK (n, c27, c28) := ⟨by show 0 < n; omega, hn, fun i hi => ⟨(cd i hi).1.1, (cd i hi).1.2, fun z => dp i hi z⟩, by show 1 ≤ dpt c27 n; omega⟩
          rw [eF9]
          refine ⟨⟨g1, fun _ => ⟨b0, by rw [e5]; exact r1, by rw [e6]; exact r2, fun _ => by rw [e1121]; exact l1, fun z => absurd t9 z⟩, fun z => absurd g2' z⟩, ?_, ?_, ?_, E, (n, c27, c28), ?_⟩
          · unfold F_X10_law
            rw [if_pos g2', if_pos t9]
          · rw [o57 0 (by decide) (by decide) (by decide) (by decide) (by decide), b5]
          · rw [oM 548 (by decide) (by decide), eν, upm_rr, if_pos rfl]
          · refine hI.lawd (fun h q1 q2 q3 q4 q5 => by rw [oM h q3 q4, hν h q1 q2 q5]) (fun k q1 q2 q3 => by rw [o57 k (by omega) (by omega) (by omega) q2 q3, b6 k q1]) ⟨?_, ⟨0, by omega, ?_⟩, fun k hk => ?_, ?_⟩ lok ⟨?_, fun i hi => ?_, fun i hi _ => ?_⟩ (Or.inr ⟨o5721, fun i hi => ⟨fun z => ?_, fun z => ?_, fun z => ?_⟩⟩)
            · rw [o57 1 (by decide) (by decide) (by decide) (by decide) (by decide), b4, n1k 1 (by decide) (by decide) (by decide), a2]
            · rw [n1k 1 (by decide) (by decide) (by decide), a2]
              rfl
            · rw [oM 58 (by decide) (by decide), oM 2 (by decide) (by decide), hν 58 (by decide) (by decide) (by decide), hν 2 (by decide) (by decide) (by decide)]
              exact hT.2.2.1 k hk
            · rw [o573, n1k 7 (by decide) (by decide) (by decide), a4]
            · rw [oM 21 (by decide) (by decide), eν, upm_other (by decide), e421, c1]
              rfl
            · have hi' : i < n := hi
              rw [oM 22 (by decide) (by decide), eν, upm_other (by decide), e422 i (by omega)]
              rfl
            · have hi' : i < n := hi
              rw [oM 23 (by decide) (by decide), eν, upm_other (by decide), e423 i (by omega)]
              rfl
            · have hi' : i < n := hi
              rw [cells i hi' 0 (by decide), cells i hi' 1 (by decide)]
              exact (cd i hi').2.1 z
            · have hi' : i < n := hi
              rw [cells i hi' 0 (by decide), cells i hi' 1 (by decide)]
              exact (cd i hi').2.2.1 z
            · have hi' : i < n := hi
              rw [cells i hi' 0 (by decide)]
              exact (cd i hi').2.2.2 z
        · exact absurd hz hf
      · have hf0 : F_X1_read (muX9_law_2 (nI N) μ) = 0 := Decidable.not_not.mp hf
        have eM9 : M_X9_law (nI N) μ = muX9_law_3 (nI N) μ := by
          unfold M_X9_law
          rw [if_pos k0, if_neg hf]
        have eF9 : F_X9_law (nI N) μ = muX9_law_3 (nI N) μ 1 6 - 10 := by
          unfold F_X9_law
          rw [if_neg hf]
          rfl
        have z3 : ∀ r, r ≠ 1 → r ≠ 26 → r ≠ 27 → r ≠ 28 → muX9_law_3 (nI N) μ r = μ r := by
          obtain ⟨-, B0, -, -, b1, b2, -, -, -, -, -, b9⟩ := start μ rfl rfl
          obtain ⟨-, -, -, hh⟩ := rd B0 b1 b2 b9
          rcases hh with ⟨hz, -⟩ | ⟨-, hh⟩
          · exact absurd hz hf
          · intro r q1 q2 q3 q4
            have : ∃ Y, Flt (μ 2) N (upm (muX9_law_2 (nI N) μ) 26 4 0) (upm B0 57 22 0) (M_X1_read (muX9_law_2 (nI N) μ)) Y := by
              rcases hh with w | ⟨-, -, w⟩
              · exact ⟨_, w⟩
              · exact ⟨_, w⟩
            obtain ⟨Y, k, a, -, -, -, -, -, -, ⟨-, f5⟩, -⟩ := this
            rw [s3, f5 r q1 q2 q3 q4, upm_other q2, a5 r q1]
        have P9 : P_X9_law (nI N) μ := by
          intro _
          obtain ⟨-, B0, -, -, b1, b2, -, -, -, -, -, b9⟩ := start μ rfl rfl
          exact ⟨(rd B0 b1 b2 b9).1, fun z => absurd z hf, fun _ => trivial⟩
        refine ⟨P9, fun ν eν => ?_⟩
        rw [eM9, eF9] at eν
        have hν : ∀ r, r ≠ 1 → r ≠ 26 → r ≠ 27 → r ≠ 28 → r ≠ 548 → ν r = μ r := fun r q1 q4 q5 q6 q7 => by rw [eν, upm_other q7, z3 r q1 q4 q5 q6]
        obtain ⟨v2, B, eB, b0, b1, b2, b3, b4, b5, b6, b7, b9⟩ := start ν (hν 57 (by decide) (by decide) (by decide) (by decide) (by decide)) (hν 58 (by decide) (by decide) (by decide) (by decide) (by decide))
        obtain ⟨-, r1, r2, hh⟩ := rd B b1 b2 b9
        obtain ⟨g1, g2, g3⟩ := bad_ok (ν := ν) (c := VX10_law_2 (nI N) ν) (w := 1) (b := 1) v2 (Or.inr rfl)
        have g2' : F_X10_bad (VX10_law_2 (nI N) ν) 1 1 (muX10_law_1 (nI N) ν) = 0 := g2
        have e5 : muX10_law_5 (nI N) ν = upm B 57 22 0 := by
          unfold muX10_law_5
          rw [← eB]
        have e6 : muX10_law_6 (nI N) ν = MsumM (upm B 57 22 0) := by
          unfold muX10_law_6
          rw [e5]
        have e7 : muX10_law_7 (nI N) ν = M_X10_blanks (MsumM (upm B 57 22 0)) := by
          unfold muX10_law_7
          rw [e6]
        rcases hh with ⟨hz, -⟩ | ⟨-, hh⟩
        · exact absurd hz hf
        · have fl : Flt (μ 2) N (upm (muX9_law_2 (nI N) μ) 26 4 0) (upm B 57 22 0) (muX9_law_3 (nI N) μ) (VX10_law_9 (nI N) ν) := by
            rw [s3]
            rcases hh with w | ⟨w1, w2, w⟩
            · have e9 : VX10_law_9 (nI N) ν = muX10_law_7 (nI N) ν := by
                unfold VX10_law_9
                rw [if_pos (by rw [e7]; exact w.nz)]
              rw [e9, e7]
              exact w
            · have e9 : VX10_law_9 (nI N) ν = M_X10_wrong 1 (muX10_law_7 (nI N) ν 57 4) (muX10_law_7 (nI N) ν) := by
                unfold VX10_law_9
                rw [if_neg (by rw [e7]; exact not_not_intro w1), if_neg (by rw [e7]; exact w2)]
                rfl
              rw [e9, e7]
              exact w
          have nz := fl.nz
          obtain ⟨k, a, hk, f2, f3, f6, f7, -, ⟨f4, f5⟩, ⟨f8, f9⟩⟩ := fl
          have eM : M_X10_law (nI N) ν = upm (VX10_law_9 (nI N) ν) 57 3 a := by
            unfold M_X10_law
            rw [if_pos g2', if_neg nz]
            unfold muX10_law_13 M_X10_ends muX10_ends_1
            rw [f7]
          have oM : ∀ r, r ≠ 57 → (r < 264 ∨ 423 < r) → M_X10_law (nI N) ν r = ν r := fun r q1 q2 => by rw [eM, upm_other q1, f9 r q1 q2, upm_other q1, b7 r q1]
          have o57 : ∀ k, k ≠ 3 → k ≠ 4 → k ≠ 5 → k ≠ 6 → k ≠ 8 → k ≠ 22 → M_X10_law (nI N) ν 57 k = B 57 k := fun k q1 q2 q3 q4 q5 q6 => by rw [eM, upm_rr, if_neg q1, f8 k q2 q3 q4 q5 q6, upm_rr, if_neg q6]
          have n1 : ∀ k, M_X10_law (nI N) ν 1 k = muX9_law_3 (nI N) μ 1 k := fun k => by rw [oM 1 (by decide) (by decide), eν, upm_other (by decide)]
          have f41 : muX9_law_3 (nI N) μ 1 1 = 0 := by rw [f4 1 (by decide) (by decide) (by decide) (by decide) (by decide), upm_other (by decide), a2]
          have hLC := hI.LC
          rw [eF9]
          refine ⟨⟨g1, fun _ => ⟨b0, by rw [e5]; exact r1, by rw [e6]; exact r2, fun z => absurd z nz, fun _ => trivial⟩, fun z => absurd g2' z⟩, ?_, ?_, ?_, E, L, ?_⟩
          · unfold F_X10_law F_X10_ends muX10_ends_1
            rw [if_pos g2', if_neg nz, upm_rr, if_neg (by decide), f6, f2]
          · rw [o57 0 (by decide) (by decide) (by decide) (by decide) (by decide) (by decide), b5]
          · rw [oM 548 (by decide) (by decide), eν, upm_rr, if_pos rfl]
          · refine hI.lawd (fun h q1 q2 q3 q4 q5 => by rw [oM h q3 (by omega), hν h q1 (by omega) (by omega) (by omega) q5]) (fun k q1 q2 q3 => by rw [o57 k (by omega) (by omega) (by omega) (by omega) (by omega) q3, b6 k q1]) ⟨?_, ⟨0, by omega, ?_⟩, fun k hk => ?_, ?_⟩ hI.LO (hLC.mono ?_ ?_ ?_) (hI.LM.mono hI.LO ?_ fun q q1 q2 => ?_)
            · rw [o57 1 (by decide) (by decide) (by decide) (by decide) (by decide) (by decide), b4, n1, f41]
            · rw [n1, f41]
              rfl
            · rw [oM 58 (by decide) (by decide), oM 2 (by decide) (by decide), hν 58 (by decide) (by decide) (by decide) (by decide) (by decide), hν 2 (by decide) (by decide) (by decide) (by decide) (by decide)]
              exact hT.2.2.1 k hk
            · rw [n1, f3, eM, upm_rr, if_pos rfl]
            · rw [oM 21 (by decide) (by decide), hν 21 (by decide) (by decide) (by decide) (by decide) (by decide)]
            · rw [oM 22 (by decide) (by decide), hν 22 (by decide) (by decide) (by decide) (by decide) (by decide)]
            · rw [oM 23 (by decide) (by decide), hν 23 (by decide) (by decide) (by decide) (by decide) (by decide)]
            · rw [o57 21 (by decide) (by decide) (by decide) (by decide) (by decide) (by decide), b6 21 (by decide)]
            · rw [oM q (by omega) (by omega), hν q (by omega) (by omega) (by omega) (by omega) (by omega)]
  have h := wrapT (K_X9_law p1 μ) (F_X9_law p1 μ) (M_X9_law p1 μ) (P_X9_law p1 μ) (F_X10_law p1) (M_X10_law p1) (P_X10_law p1) hI key
  unfold P_W_2 M_W_2 muL_law_c2_2 muL_law_c2_1 M_L_law W_L_law F_X10_thrown
  exact h
