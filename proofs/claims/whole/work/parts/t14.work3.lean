theorem case_work {E : EV} {L : LW} {μ : Mem} (hI : Inv E L μ) (p1 : Int32) : P_W_3 p1 μ ∧ ∃ E' L', Inv E' L' (M_W_3 p1 μ) := by
  have hT : TxR μ := hI.2.2.2.2.2.2.1
  have hO := hI.1
  have hS : StR E μ := hI.2.2.2.2.2.2.2.2.2.1
  have hP : PsR E μ := hI.2.2.2.2.2.2.2.2.1
  have hCn : CnR μ := hI.2.2.2.2.2.2.2.2.2.2.1
  have key : (K_X9_work p1 μ = 0 ∧ P_X9_work p1 μ ∧ (∀ ν, ν = upm (M_X9_work p1 μ) 548 0 (F_X9_work p1 μ) → P_X10_work p1 ν ∧ F_X10_work p1 ν = F_X9_work p1 μ ∧ M_X10_work p1 ν 57 0 = 0 ∧ M_X10_work p1 ν 548 0 = F_X9_work p1 μ ∧ ∃ E' L', Inv E' L' (M_X10_work p1 ν))) ∨ QNo w1 μ (K_X9_work p1 μ) (M_X9_work p1 μ) (P_X9_work p1 μ) (M_X10_work p1) (P_X10_work p1) 1 := by
    cases hb : txB μ p1 (nI 150) with
    | false =>
      have k2 : K_X9_needText p1 150 μ = 2 := by
        rw [ntK, show (150 : Int32) = nI 150 from rfl, hb]
        rfl
      refine Or.inr ⟨k2, fun z => absurd z (by rw [k2]; decide), ?_, fun ν hν => ?_⟩
      · unfold M_X9_work muX9_work_1
        rw [if_neg (by rw [k2]; decide), ntM, show (150 : Int32) = nI 150 from rfl, hb]
        rfl
      · have e57 : ν 57 = μ 57 := hν 57 (by decide)
        have v2 : VX10_work_2 p1 ν = 1 := by
          unfold VX10_work_2 muX10_work_1
          rw [isIn_eq, upm_rr, if_neg (show ¬ (1 : Nat) = 0 by decide), e57, hT.1]
          rcases tx_shut hT (by decide) hb with z | z
          · rw [z]
            rfl
          · rw [show (150 : Int32) = nI 150 from rfl, if_neg z]
            split <;> rfl
        obtain ⟨b1, b2, b3⟩ := bad_no (ν := ν) (w := 1) (b := 1) v2 (by decide) (Or.inr rfl)
        refine ⟨⟨b1, fun z => absurd z b2, fun _ => trivial⟩, ?_⟩
        show (if _ then _ else _) = _
        exact (if_neg b2).trans b3
    | true =>
      have k0 : K_X9_needText p1 150 μ = 0 := by
        rw [ntK, show (150 : Int32) = nI 150 from rfl, hb]
        rfl
      obtain ⟨N, n1, n2, rfl, n4, n5⟩ := tx_gate hT (by decide) hb
      have s1 : muX9_work_1 (nI N) μ = μ := by
        unfold muX9_work_1
        rw [ntM, show (150 : Int32) = nI 150 from rfl, hb]
        rfl
      obtain ⟨w, m, q1, q2, q3, q4, q5, q6, q7, q8⟩ := id hP
      have st := fun (ν : Mem) (hν : ∀ r, 57 ≤ r → r ≠ 548 → ν r = μ r) => work_start hI n2 n4 n5 (fun k hk => by omega) hν
      refine Or.inl ⟨k0, ?_⟩
      by_cases hw : w = 16
      · subst hw
        have fl : F_X4_isFull (muX9_work_1 (nI N) μ) = 1 := by
          rw [s1]
          unfold F_X4_isFull
          rw [q3, if_neg (by decide)]
        have fl' : ¬ F_X4_isFull (muX9_work_1 (nI N) μ) = 0 := by rw [fl]; decide
        obtain ⟨-, b2, b3, b4, b5⟩ := sp_beg (μ := μ) (N := 0) (by omega)
        have eM9 : M_X9_work (nI N) μ = M_X8_begin (nI 0) μ := by
          unfold M_X9_work muX9_work_7
          rw [if_pos k0, if_neg fl', s1]
          rfl
        have eF9 : F_X9_work (nI N) μ = -20 := by
          unfold F_X9_work
          rw [if_neg fl']
        refine ⟨fun _ => ⟨fun z => absurd z fl', fun _ => trivial⟩, fun ν eν => ?_⟩
        rw [eM9, eF9] at eν
        rw [eF9]
        have hν : ∀ r, r ≠ 1 → r ≠ 548 → ν r = μ r := fun r a b => by rw [eν, upm_other b, b5 r a]
        obtain ⟨g1, g2, g3, -⟩ := st ν (fun r a b => hν r (by omega) b)
        have n39 : muX10_work_3 (nI N) ν 57 39 = 16 := by
          rw [g3, upm_rr, if_neg (by decide), hν 57 (by decide) (by decide), q4]
          rfl
        have eM : M_X10_work (nI N) ν = upm (upm (upm ν 57 0 0) 57 1 0) 57 3 (-1) := by
          unfold M_X10_work
          rw [if_pos g2, if_neg (not_not_intro n39)]
          unfold muX10_work_25 muX10_work_24
          rw [g3]
        have oM : ∀ r, r ≠ 57 → M_X10_work (nI N) ν r = ν r := fun r hr => by rw [eM, upm_other hr, upm_other hr, upm_other hr]
        have m57 : ∀ k, k ≠ 0 → k ≠ 1 → k ≠ 3 → M_X10_work (nI N) ν 57 k = μ 57 k := fun k k0 k1 k3 => by rw [eM, upm_rr, if_neg k3, upm_rr, if_neg k1, upm_rr, if_neg k0, hν 57 (by decide) (by decide)]
        have n1' : ∀ k, M_X10_work (nI N) ν 1 k = M_X8_begin (nI 0) μ 1 k := fun k => by rw [oM 1 (by decide), eν, upm_other (by decide)]
        refine ⟨⟨g1, ⟨fun _ => ⟨fun z => absurd n39 z, fun _ => trivial⟩, fun z => absurd g2 z⟩⟩, ?_, ?_, ?_, E, L, ?_⟩
        · unfold F_X10_work
          rw [if_pos g2, if_neg (not_not_intro n39)]
        · rw [eM, upm_rr, if_neg (by decide), upm_rr, if_neg (by decide), upm_rr, if_pos rfl]
        · rw [oM 548 (by decide), eν, upm_rr, if_pos rfl]
        · refine hI.wk (fun h hh _ => by rw [oM h (by omega), hν h (by omega) (by omega)]) (fun k a b c d e f => m57 k (by omega) (by omega) (by omega)) ⟨?_, ⟨0, by omega, ?_⟩, fun k hk => ?_, ?_⟩ (hP.same (fun r hr => by rw [oM r (by omega), hν r (by omega) (by omega)]) (m57 39 (by decide) (by decide) (by decide)) (m57 41 (by decide) (by decide) (by decide))) ?_ ⟨?_, ?_, ?_⟩
          · rw [n1', b2, eM, upm_rr, if_neg (by decide), upm_rr, if_pos rfl]
          · rw [n1', b2]
            rfl
          · rw [oM 58 (by decide), oM 2 (by decide), hν 58 (by decide) (by decide), hν 2 (by decide) (by decide)]
            exact hT.2.2.1 k hk
          · rw [n1', b4, eM, upm_rr, if_pos rfl]
          · unfold StR at hS ⊢
            rw [oM 44 (by decide), oM 521 (by decide), hν 44 (by decide) (by decide), hν 521 (by decide) (by decide)]
            exact hS
          · rw [oM 0 (by decide), hν 0 (by decide) (by decide), m57 40 (by decide) (by decide) (by decide)]
            exact hCn.1
          · rw [oM 0 (by decide), hν 0 (by decide) (by decide), oM 59 (by decide), hν 59 (by decide) (by decide)]
            exact hCn.2.1
          · rw [oM 0 (by decide), hν 0 (by decide) (by decide), oM 59 (by decide), hν 59 (by decide) (by decide)]
            exact hCn.2.2
      · have hw16 : w < 16 := by omega
        have s2 : muX9_work_2 (nI N) μ = M_X8_begin (nI N) μ := by
          unfold muX9_work_2
          rw [s1]
        obtain ⟨a1, a2, a3, a4, a5⟩ := sp_beg (μ := μ) n2
        rw [← s2] at a1 a2 a3 a4 a5
        have ho : TxO (μ 2) N := fun k hk => (hT.2.2.1 k (by omega)).2
        have fl : F_X4_isFull (muX9_work_1 (nI N) μ) = 0 := by
          rw [s1]
          unfold F_X4_isFull
          rw [q3, if_pos (show nI w < 16 from nI_lt (b := 16) hw16 (by omega))]
        have e2 : muX6_read_2 (muX9_work_2 (nI N) μ) = upm (upm (muX9_work_2 (nI N) μ) 31 5 0) 31 6 0 := rfl
        have z2 : ∀ r, r ≠ 1 → r ≠ 31 → muX6_read_2 (muX9_work_2 (nI N) μ) r = μ r := fun r h1 h31 => by rw [e2, upm_other h31, upm_other h31, a5 r h1]
        have z21 : ∀ k, muX6_read_2 (muX9_work_2 (nI N) μ) 1 k = muX9_work_2 (nI N) μ 1 k := fun k => by rw [e2, upm_other (by decide), upm_other (by decide)]
        have el : ∀ ν : Mem, (∀ r, 57 ≤ r → r ≠ 548 → ν r = μ r) → EL E (muX6_read_2 (muX9_work_2 (nI N) μ)) (muX10_work_5 (nI N) ν) := fun ν hν => by
          obtain ⟨-, -, -, -, -, -, -, c9⟩ := st ν hν
          refine ⟨?_, ?_, ?_, ?_⟩
          · rw [z2 3 (by decide) (by decide)]
            exact hI.2.2.1.1
          · rw [z2 3 (by decide) (by decide)]
            exact hI.2.2.1.2.1
          · rw [c9 61 (by decide), hν 61 (by decide) (by decide)]
            exact hI.2.1.1
          · rw [c9 61 (by decide), hν 61 (by decide) (by decide)]
            exact hI.2.1.2.1
        have rd := fun (ν : Mem) (hν : ∀ r, 57 ≤ r → r ≠ 548 → ν r = μ r) => sp_workRead (v := nI N) ho n1 hO (el ν hν) a1 (st ν hν).2.2.2.2.1 (st ν hν).2.2.2.2.2.1.1 (st ν hν).2.2.2.2.2.1.2.1 (st ν hν).2.2.2.2.2.1.2.2.1
        have e3 : muX9_work_3 (nI N) μ = M_X6_read (muX9_work_2 (nI N) μ) := rfl
        have n39 : ∀ ν : Mem, (∀ r, 57 ≤ r → r ≠ 548 → ν r = μ r) → muX10_work_3 (nI N) ν 57 39 ≠ 16 := fun ν hν => by
          rw [(st ν hν).2.2.1, upm_rr, if_neg (by decide), hν 57 (by decide) (by decide), q4]
          exact fun z => absurd ((nI_eq (b := 16) (by omega) (by omega)).mp z) (by omega)
        have rdP := (rd μ (fun _ _ _ => rfl)).1
        by_cases hf : F_X6_read (muX9_work_2 (nI N) μ) ≠ 0
        · have z3 : WC (muX6_read_2 (muX9_work_2 (nI N) μ)) (muX9_work_3 (nI N) μ) := by
            obtain ⟨-, k, -, -, -, -, hcase⟩ := rd μ (fun _ _ _ => rfl)
            rcases hcase with ⟨-, -, -, h4, -⟩ | ⟨hz, -⟩
            · exact h4
            · exact absurd hz hf
          have z3r : ∀ r, r ≠ 1 → (r < 31 ∨ 35 < r) → muX9_work_3 (nI N) μ r = μ r := fun r h1 h2 => by rw [z3.2.2 r h1 h2, z2 r h1 (by omega)]
          have R48 : muX9_work_3 (nI N) μ 48 2 = nI w := by rw [z3r 48 (by decide) (by decide), q3]
          obtain ⟨kc1, kc2⟩ := keep_C R48 hw16
          have e4 : muX9_work_4 (nI N) μ = M_X4_keep (muX9_work_3 (nI N) μ) := rfl
          rw [← e4] at kc2
          have o4 : ∀ r, r ≠ 48 → r ≠ 49 → muX9_work_4 (nI N) μ r = muX9_work_3 (nI N) μ r := fun r h1 h2 => by rw [kc2, upm_other h1, upr_other h2]
          have o4r : ∀ r, r ≠ 1 → r ≠ 48 → r ≠ 49 → (r < 31 ∨ 35 < r) → muX9_work_4 (nI N) μ r = μ r := fun r h1 h2 h3 h4 => by rw [o4 r h2 h3, z3r r h1 h4]
          have both : ∀ ν : Mem, (∀ r, 57 ≤ r → r ≠ 548 → ν r = μ r) → (P_X6_doAll (muX9_work_4 (nI N) μ) ∧ XC (muX9_work_4 (nI N) μ) (M_X6_doAll (muX9_work_4 (nI N) μ))) ∧ P_X10_work (nI N) ν ∧
              ∃ B19 G, M_X10_work (nI N) ν = G ∧ F_X10_work (nI N) ν = G 57 46 ∧ F_X6_doAll (muX9_work_4 (nI N) μ) = G 57 46 ∧ M_X6_doAll (muX9_work_4 (nI N) μ) 31 7 = G 57 40 ∧ DR E L (M_X6_doAll (muX9_work_4 (nI N) μ)) G ∧ XM B19 G ∧
                (∀ k, 9 ≤ k → k ≠ 30 → k ≠ 39 → k ≠ 40 → k ≠ 45 → k ≠ 46 → B19 57 k = μ 57 k) ∧ B19 57 0 = 0 ∧ B19 57 1 = 0 ∧ B19 57 3 = -1 ∧ B19 57 39 = nI (w + 1) ∧ (∀ r, r ≠ 57 → r ≠ 527 + w → (r < 441 ∨ 520 < r) → B19 r = ν r) ∧ ∀ k, k < 63 → B19 (527 + w) k = μ 521 k := by
            intro ν hν'
            obtain ⟨g1, g2, g3, g4, g5, ⟨c5, c8, c30, c1, c0⟩, c57, c9⟩ := st ν hν'
            obtain ⟨-, k, ek, hj, -, -, hcase⟩ := rd ν hν'
            rcases hcase with ⟨-, S5, S24, wc, wm, n, s, f, hn, hs, r5, s30, hg⟩ | ⟨hz, -⟩
            · have eS : SX10_work_72 (nI N) ν = fo k (g_X10_work_72 (nI N)) (muX10_work_5 (nI N) ν) := by
                unfold SX10_work_72
                rw [show NX10_work_72 (nI N) ν = k from ek]
              have ekN : NX10_work_72 (nI N) ν = k := ek
              rw [← eS] at S5 S24 wm s30 hg
              have sr : ∀ r, r ≠ 57 → (r < 441 ∨ 520 < r) → SX10_work_72 (nI N) ν r = ν r := fun r h1 h2 => by rw [wm.2 r h1 h2, c9 r h1]
              have h39 : SX10_work_72 (nI N) ν 57 39 = nI w := by rw [wm.1 39 (by decide) (by decide) (by decide), c57 39 (by decide) (by decide), q4]
              obtain ⟨kv, kcp, k57, k3, k39, k40, k45, k46, kr, kw⟩ := keep_M (N := N) (ν := ν) rfl rfl h39 hw16
              have br : ∀ r, r ≠ 57 → r ≠ 527 + w → (r < 441 ∨ 520 < r) → muX10_work_19 (nI N) ν r = ν r := fun r h1 h2 h3 => by rw [kr r h1 h2, sr r h1 h3]
              have bm : ∀ r, 58 ≤ r → r ≤ 437 → muX10_work_19 (nI N) ν r = μ r := fun r h1 h2 => by rw [br r (by omega) (by omega) (by omega), hν' r (by omega) (by omega)]
              have b57 : ∀ j, 9 ≤ j → j ≠ 30 → j ≠ 39 → j ≠ 40 → j ≠ 45 → j ≠ 46 → muX10_work_19 (nI N) ν 57 j = μ 57 j := fun j h9 h30 h39 h40 h45 h46 => by rw [k57 j (by omega) h39 h40 h45 h46, wm.1 j (by omega) (by omega) h30, c57 j h9 h30]
              have b521 : muX10_work_19 (nI N) ν 521 = μ 521 := by rw [br 521 (by decide) (by omega) (by decide), hν' 521 (by decide) (by decide)]
              have b30 : muX10_work_19 (nI N) ν 57 30 = nI s := by rw [k57 30 (by decide) (by decide) (by decide) (by decide) (by decide), s30]
              have hdr : DR E L (muX9_work_4 (nI N) μ) (muX10_work_19 (nI N) ν) := by
                obtain ⟨-, hM, hC, hLO, hLC, hLR, -, -, -, -, -, h43, h44⟩ := hI
                refine ⟨hC.mono (fun h hh => o4r h (by omega) (by omega) (by omega) (by omega)), hLC.mono (by rw [o4r 21 (by decide) (by decide) (by decide) (by decide)]) (o4r 22 (by decide) (by decide) (by decide) (by decide)) (o4r 23 (by decide) (by decide) (by decide) (by decide)), hM.mono (fun h hh => bm h (by omega) (by omega)) hO, hLR.mono hLO (b57 21 (by decide) (by decide) (by decide) (by decide) (by decide) (by decide)) (fun q h1 h2 => bm q (by omega) (by omega)), ?_, ?_, ?_, ?_, ?_⟩
                · rw [b57 43 (by decide) (by decide) (by decide) (by decide) (by decide) (by decide)]
                  exact h43
                · rw [b57 44 (by decide) (by decide) (by decide) (by decide) (by decide) (by decide)]
                  exact h44
                · rw [o4r 44 (by decide) (by decide) (by decide) (by decide), b521]
                  exact hS.1
                · rw [o4r 44 (by decide) (by decide) (by decide) (by decide), b521]
                  exact hS.2.1
                · rw [b521]
                  exact hS.2.2
              have hg' : Sg E (muX9_work_4 (nI N) μ 32) (muX9_work_4 (nI N) μ 33) (muX9_work_4 (nI N) μ 34) (fun y => muX10_work_19 (nI N) ν (441 + y)) f 6 0 n 0 s :=
                Sg.congr _ _ _ _ _ _ hg (fun i _ _ => by rw [o4 32 (by decide) (by decide), o4 33 (by decide) (by decide), o4 34 (by decide) (by decide)]; exact ⟨rfl, rfl, rfl⟩) (fun i _ h2 => kr (441 + i) (by omega) (by omega))
              obtain ⟨d1, d2, d3, d4, d5, d6, d7⟩ := sp_doAll hO hI.2.2.2.1 hn (by omega) (by rw [o4 31 (by decide) (by decide)]; exact r5) hdr k45 k46 k40 hg'
              have eM : M_X10_work (nI N) ν = MgoM 0 (nI s) (muX10_work_19 (nI N) ν) := by
                unfold M_X10_work
                rw [if_pos g2, if_pos (n39 ν hν'), if_neg (not_not_intro S5), if_pos S5]
                unfold muX10_work_20
                rw [b30]
              refine ⟨⟨d1, d6⟩, ⟨g1, ⟨fun _ => ⟨fun _ => ⟨g4, fun j hj9 => hj j (by rw [ekN] at hj9; exact hj9), fun z => absurd S5 z, fun _ => ⟨fun _ => ⟨fun _ => ⟨kv, kcp, by rw [b30]; exact d2⟩, fun z => absurd S5 z⟩, fun z => absurd S24 (Int32.not_le.mpr z)⟩⟩, fun z => absurd z (n39 ν hν')⟩, fun z => absurd g2 z⟩⟩, muX10_work_19 (nI N) ν, _, eM, ?_, d3, d4, d5, d7, b57, ?_, ?_, k3, k39, br, fun j hj' => ?_⟩
              · unfold F_X10_work
                rw [if_pos g2, if_pos (n39 ν hν'), if_neg (not_not_intro S5), if_pos S5]
                unfold muX10_work_20
                rw [b30]
              · rw [k57 0 (by decide) (by decide) (by decide) (by decide) (by decide), wm.1 0 (by decide) (by decide) (by decide), c0]
              · rw [k57 1 (by decide) (by decide) (by decide) (by decide) (by decide), wm.1 1 (by decide) (by decide) (by decide), c1]
              · rw [kw, cut_lt hj', sr 521 (by decide) (by decide), hν' 521 (by decide) (by decide)]
            · exact absurd hz hf
          have eM9 : M_X9_work (nI N) μ = upm (M_X6_doAll (muX9_work_4 (nI N) μ)) 0 11 (M_X6_doAll (muX9_work_4 (nI N) μ) 31 7) := by
            unfold M_X9_work
            rw [if_pos k0, if_pos fl, if_pos hf]
            rfl
          have eF9 : F_X9_work (nI N) μ = F_X6_doAll (muX9_work_4 (nI N) μ) := by
            unfold F_X9_work
            rw [if_pos fl, if_pos hf]
          obtain ⟨⟨pd, xc⟩, -⟩ := both μ (fun _ _ _ => rfl)
          refine ⟨fun _ => ⟨fun _ => ⟨rdP, fun _ => ⟨kc1, pd⟩, fun _ => trivial⟩, fun _ => trivial⟩, fun ν eν => ?_⟩
          rw [eM9, eF9] at eν
          rw [eF9]
          have hν0 : ∀ r, r ≠ 0 → r ≠ 548 → ν r = M_X6_doAll (muX9_work_4 (nI N) μ) r := fun r h1 h2 => by rw [eν, upm_other h2, upm_other h1]
          have hν1 : ∀ r, r ≠ 0 → r ≠ 548 → r ≠ 24 → r ≠ 25 → r ≠ 31 → r ≠ 36 → (r < 44 ∨ 47 < r) → ν r = muX9_work_4 (nI N) μ r := fun r h0 h1 h2 h3 h4 h5 h6 => by rw [hν0 r h0 h1, xc.1 r h2 h3 h4 h5 h6]
          have hν' : ∀ r, 57 ≤ r → r ≠ 548 → ν r = μ r := fun r h1 h2 => by rw [hν1 r (by omega) h2 (by omega) (by omega) (by omega) (by omega) (by omega), o4r r (by omega) (by omega) (by omega) (by omega)]
          have v0 : ∀ k, k ≠ 11 → ν 0 k = μ 0 k := fun k hk => by rw [eν, upm_other (by decide), upm_rr, if_neg hk, xc.1 0 (by decide) (by decide) (by decide) (by decide) (by decide), o4r 0 (by decide) (by decide) (by decide) (by decide)]
          obtain ⟨-, P10, B19, G, eM, eF, fF, f7, dr, xm, b57, b0, b1, b3, b39, br, bw⟩ := both ν hν'
          rw [eM]
          have gr : ∀ r, r ≠ 57 → r ≠ 521 → r ≠ 438 → r ≠ 439 → (r < 523 ∨ 525 < r) → r ≠ 527 + w → (r < 441 ∨ 520 < r) → G r = ν r := fun r h1 h2 h3 h4 h5 h6 h7 => by rw [xm.2 r h1 h2 h3 h4 h5, br r h1 h6 h7]
          have g57 : ∀ k, k ≠ 40 → k ≠ 45 → k ≠ 46 → G 57 k = B19 57 k := xm.1
          refine ⟨P10, by rw [eF, fF], by rw [g57 0 (by decide) (by decide) (by decide), b0], ?_, E, L, ?_⟩
          · rw [gr 548 (by decide) (by decide) (by decide) (by decide) (by decide) (by omega) (by decide), eν, upm_rr, if_pos rfl]
          · have n1' : ∀ k, G 1 k = muX9_work_3 (nI N) μ 1 k := fun k => by rw [gr 1 (by decide) (by decide) (by decide) (by decide) (by decide) (by omega) (by decide), hν1 1 (by decide) (by decide) (by decide) (by decide) (by decide) (by decide) (by decide), o4 1 (by decide) (by decide)]
            have gm : ∀ h, (2 ≤ h ∧ h ≤ 23 ∨ 26 ≤ h ∧ h ≤ 30 ∨ 37 ≤ h ∧ h ≤ 38 ∨ 40 ≤ h ∧ h ≤ 43 ∨ 58 ≤ h ∧ h ≤ 437) → G h = μ h := fun h hh => by
              rw [gr h (by omega) (by omega) (by omega) (by omega) (by omega) (by omega) (by omega), hν1 h (by omega) (by omega) (by omega) (by omega) (by omega) (by omega) (by omega), o4r h (by omega) (by omega) (by omega) (by omega)]
            have f41 : muX9_work_3 (nI N) μ 1 1 = 0 := by rw [z3.1 1 (by decide) (by decide) (by decide), z21, a2]
            have g4x : ∀ r, 48 ≤ r → r ≤ 50 → G r = muX9_work_4 (nI N) μ r := fun r h1 h2 => by rw [gr r (by omega) (by omega) (by omega) (by omega) (by omega) (by omega) (by omega), hν1 r (by omega) (by omega) (by omega) (by omega) (by omega) (by omega) (by omega)]
            refine hI.wk (fun h hh _ => gm h hh) (fun k h9 h30 h39 h40 h45 h46 => by rw [g57 k h40 h45 h46, b57 k h9 h30 h39 h40 h45 h46]) ⟨?_, ⟨0, by omega, ?_⟩, fun k hk => ?_, ?_⟩ (PsR.push (w := w) hO hP hS q3 hw16 ?_ ?_ ?_ ?_ (fun k => ?_) ?_ (fun k hk => ?_) (fun r h1 h2 h3 => ?_)) ?_ ⟨?_, ?_, ?_⟩
            · rw [g57 1 (by decide) (by decide) (by decide), b1, n1', f41]
            · rw [n1', f41]
              rfl
            · rw [gm 58 (by decide), gm 2 (by decide)]
              exact hT.2.2.1 k hk
            · rw [g57 3 (by decide) (by decide) (by decide), b3, n1', z3.1 7 (by decide) (by decide) (by decide), z21, a4]
            · rw [g4x 48 (by decide) (by decide), kc2, upm_rr, if_pos rfl]
            · rw [g4x 48 (by decide) (by decide), kc2, upm_rr, if_neg (by decide), upr_other (by decide), z3r 48 (by decide) (by decide)]
            · rw [g57 39 (by decide) (by decide) (by decide), b39]
            · rw [g57 41 (by decide) (by decide) (by decide), b57 41 (by decide) (by decide) (by decide) (by decide) (by decide) (by decide)]
            · rw [g4x 49 (by decide) (by decide), kc2, upm_other (by decide), upr_same, z3r 44 (by decide) (by decide), z3r 49 (by decide) (by decide)]
              unfold va_cpy
              by_cases y : 69 * w ≤ k ∧ k < 69 * w + 69
              · rw [if_pos y, if_pos y, Nat.zero_add]
              · rw [if_neg y, if_neg y]
            · rw [g4x 50 (by decide) (by decide), kc2, upm_other (by decide), upr_other (by decide), z3r 50 (by decide) (by decide)]
            · rw [xm.2 (527 + w) (by omega) (by omega) (by omega) (by omega) (by omega)]
              exact bw k hk
            · rw [gr r (by omega) (by omega) (by omega) (by omega) (by omega) h3 (by omega), hν' r (by omega) (by omega)]
            · have e44 : G 44 = M_X6_doAll (muX9_work_4 (nI N) μ) 44 := by rw [gr 44 (by decide) (by decide) (by decide) (by decide) (by decide) (by omega) (by decide), hν0 44 (by decide) (by decide)]
              unfold StR
              rw [e44]
              exact dr.2.2.2.2.2.2
            · rw [gr 0 (by decide) (by decide) (by decide) (by decide) (by decide) (by omega) (by decide), eν, upm_other (by decide), upm_rr, if_pos rfl, f7]
            · rw [gr 0 (by decide) (by decide) (by decide) (by decide) (by decide) (by omega) (by decide), v0 12 (by decide), gm 59 (by decide)]
              exact hCn.2.1
            · rw [gr 0 (by decide) (by decide) (by decide) (by decide) (by decide) (by omega) (by decide), v0 13 (by decide), gm 59 (by decide)]
              exact hCn.2.2
        · have hf0 : F_X6_read (muX9_work_2 (nI N) μ) = 0 := Decidable.not_not.mp hf
          have eM9 : M_X9_work (nI N) μ = muX9_work_3 (nI N) μ := by
            unfold M_X9_work
            rw [if_pos k0, if_pos fl, if_neg hf]
          have eF9 : F_X9_work (nI N) μ = muX9_work_3 (nI N) μ 1 6 - 10 := by
            unfold F_X9_work
            rw [if_pos fl, if_neg hf]
            rfl
          have z3 : WCx (muX6_read_2 (muX9_work_2 (nI N) μ)) (muX9_work_3 (nI N) μ) := by
            obtain ⟨-, k, -, -, h4, -⟩ := rd μ (fun _ _ _ => rfl)
            exact h4
          have z3r : ∀ r, r ≠ 1 → (r < 31 ∨ 35 < r) → muX9_work_3 (nI N) μ r = μ r := fun r h1 h2 => by rw [z3.2.2 r h1 h2, z2 r h1 (by omega)]
          refine ⟨fun _ => ⟨fun _ => ⟨rdP, fun z => absurd z hf, fun _ => trivial⟩, fun _ => trivial⟩, fun ν eν => ?_⟩
          rw [eM9, eF9] at eν
          have hν : ∀ r, r ≠ 1 → (r < 31 ∨ 35 < r) → r ≠ 548 → ν r = μ r := fun r h1 h2 h3 => by rw [eν, upm_other h3, z3r r h1 h2]
          have hν' : ∀ r, 57 ≤ r → r ≠ 548 → ν r = μ r := fun r h1 h2 => hν r (by omega) (by omega) h2
          obtain ⟨g1, g2, g3, g4, g5, ⟨c5, c8, c30, c1, c0⟩, c57, c9⟩ := st ν hν'
          obtain ⟨-, k, ek, hj, -, wm, hcase⟩ := rd ν hν'
          rcases hcase with ⟨hz, -⟩ | ⟨-, k', a, k0', m1, m2, m3, m4⟩
          · exact absurd (hz.symm.trans hf0) (by decide)
          · have eS : SX10_work_72 (nI N) ν = fo k (g_X10_work_72 (nI N)) (muX10_work_5 (nI N) ν) := by
              unfold SX10_work_72
              rw [show NX10_work_72 (nI N) ν = k from ek]
            rw [← eS] at m3 m4 wm
            have ekN : NX10_work_72 (nI N) ν = k := ek
            have nz : SX10_work_72 (nI N) ν 57 5 ≠ 0 := by rw [m3]; exact k0'
            have nz' : ¬ SX10_work_72 (nI N) ν 57 5 = 0 := nz
            have eM : M_X10_work (nI N) ν = upm (SX10_work_72 (nI N) ν) 57 3 a := by
              unfold M_X10_work
              rw [if_pos g2, if_pos (n39 ν hν'), if_pos nz, if_neg nz']
              unfold muX10_work_13 M_X10_ends muX10_ends_1
              rw [m4]
            have oM : ∀ r, r ≠ 57 → (r < 441 ∨ 520 < r) → M_X10_work (nI N) ν r = ν r := fun r h1 h2 => by rw [eM, upm_other h1, wm.2 r h1 h2, c9 r h1]
            have m57 : ∀ j, j ≠ 3 → j ≠ 4 → j ≠ 5 → j ≠ 6 → j ≠ 8 → j ≠ 30 → M_X10_work (nI N) ν 57 j = muX10_work_5 (nI N) ν 57 j := fun j h3 h4 h5 h6 h8 h30 => by rw [eM, upm_rr, if_neg h3, wm.1 j h4 h5 h6 h8 h30]
            have n1' : ∀ j, M_X10_work (nI N) ν 1 j = muX9_work_3 (nI N) μ 1 j := fun j => by rw [oM 1 (by decide) (by decide), eν, upm_other (by decide)]
            have f41 : muX9_work_3 (nI N) μ 1 1 = 0 := by rw [z3.1 1 (by decide) (by decide) (by decide) (by decide) (by decide), z21, a2]
            rw [eF9]
            refine ⟨⟨g1, ⟨fun _ => ⟨fun _ => ⟨g4, fun j hj9 => hj j (by rw [ekN] at hj9; exact hj9), fun _ => ⟨fun z => absurd z nz, fun _ => trivial⟩, fun z => absurd z nz⟩, fun z => absurd z (n39 ν hν')⟩, fun z => absurd g2 z⟩⟩, ?_, ?_, ?_, E, L, ?_⟩
            · unfold F_X10_work F_X10_ends muX10_ends_1
              rw [if_pos g2, if_pos (n39 ν hν'), if_pos nz, if_neg nz', upm_rr, if_neg (by decide), m3, ← m1]
              rfl
            · rw [m57 0 (by decide) (by decide) (by decide) (by decide) (by decide) (by decide), c0]
            · rw [oM 548 (by decide) (by decide), eν, upm_rr, if_pos rfl]
            · refine hI.wk (fun h hh _ => by rw [oM h (by omega) (by omega), hν h (by omega) (by omega) (by omega)]) (fun j h9 h30 h39 h40 h45 h46 => by rw [m57 j (by omega) (by omega) (by omega) (by omega) (by omega) h30, c57 j h9 h30]) ⟨?_, ⟨0, by omega, ?_⟩, fun k hk => ?_, ?_⟩ (hP.same (fun r hr => by rw [oM r (by omega) (by omega), hν r (by omega) (by omega) (by omega)]) ?_ ?_) ?_ ⟨?_, ?_, ?_⟩
              · rw [m57 1 (by decide) (by decide) (by decide) (by decide) (by decide) (by decide), c1, n1', f41]
              · rw [n1', f41]
                rfl
              · rw [oM 58 (by decide) (by decide), oM 2 (by decide) (by decide), hν 58 (by decide) (by decide) (by decide), hν 2 (by decide) (by decide) (by decide)]
                exact hT.2.2.1 k hk
              · rw [n1', e3, m2, eM, upm_rr, if_pos rfl]
              · rw [m57 39 (by decide) (by decide) (by decide) (by decide) (by decide) (by decide), c57 39 (by decide) (by decide)]
              · rw [m57 41 (by decide) (by decide) (by decide) (by decide) (by decide) (by decide), c57 41 (by decide) (by decide)]
              · unfold StR at hS ⊢
                rw [oM 44 (by decide) (by decide), oM 521 (by decide) (by decide), hν 44 (by decide) (by decide) (by decide), hν 521 (by decide) (by decide) (by decide)]
                exact hS
              · rw [oM 0 (by decide) (by decide), hν 0 (by decide) (by decide) (by decide), m57 40 (by decide) (by decide) (by decide) (by decide) (by decide) (by decide), c57 40 (by decide) (by decide)]
                exact hCn.1
              · rw [oM 0 (by decide) (by decide), hν 0 (by decide) (by decide) (by decide), oM 59 (by decide) (by decide), hν 59 (by decide) (by decide) (by decide)]
                exact hCn.2.1
              · rw [oM 0 (by decide) (by decide), hν 0 (by decide) (by decide) (by decide), oM 59 (by decide) (by decide), hν 59 (by decide) (by decide) (by decide)]
                exact hCn.2.2
  have h := wrapT (K_X9_work p1 μ) (F_X9_work p1 μ) (M_X9_work p1 μ) (P_X9_work p1 μ) (F_X10_work p1) (M_X10_work p1) (P_X10_work p1) hI key
  unfold P_W_3 M_W_3 muL_law_c3_2 muL_law_c3_1 M_L_work W_L_work F_X10_thrown
  exact h
