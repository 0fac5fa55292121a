/-! questions: rent -/

theorem q_rent {E : EV} {L : LW} {μ : Mem} (hI : Inv E L μ) (p1 p2 : Int32) : Q w1 jI μ (K_X9_rent p1 p2 μ) (F_X9_rent p1 p2 μ) (M_X9_rent p1 p2 μ) (P_X9_rent p1 p2 μ) (F_X10_rent p1 p2) (M_X10_rent p1 p2) (P_X10_rent p1 p2) := by
  rcases gate_rent hI p1 p2 with ⟨h1, h2, hK, ⟨s1, s2⟩, hg⟩ | h
  · have hO := hI.1
    have hE := hI.E
    have hS := hI.S
    obtain ⟨a, ha, e521, e44⟩ := hI.row
    have hd := hO.1
    obtain ⟨n, hn, rfl⟩ := inR_n (n := 24) h2 (Int32.le_refl 0) (by decide)
    obtain ⟨f1, -, f3⟩ := sp_leastRent (L := L) (n := n) (x := p1) hE hO hI.LO hI.LC hS.1 hS.2.1 hS.2.2 (by omega) (by omega) e521
    refine Or.inl ⟨hK, ?_, ?_, fun ν hν => ?_⟩
    · unfold P_X9_rent
      rw [s2]
      exact fun _ _ => f1
    · have h2 : KQ μ (muX9_rent_3 p1 (nI n) μ) := by
        unfold muX9_rent_3
        rw [s2]
        exact KQ.ahead f3
      unfold M_X9_rent
      rw [s1, s2]
      repeat' split
      all_goals first | exact h2 | exact KQ.rfl μ
    · obtain ⟨bp2, bf2, m3⟩ := hg ν hν
      have m1 : muX10_rent_1 p1 (nI n) ν = upm ν 57 0 0 := rfl
      obtain ⟨hI0, hk0⟩ := nu_of hI hν
      have r521 := hk0.at 521 (by omega)
      have hM := hI0.M
      generalize hn0 : upm ν 57 0 0 = ν0 at *
      obtain ⟨-, -, -, -, -, ck⟩ := sp_tri hI0
      have ek : ∀ k, k < 63 → cutR (ν0 521) (ν0 522) k = μ 521 k := fun k hk => by rw [cut_lt hk, r521]
      have c44 : RC0 E (μ 44) (cutR (ν0 521) (ν0 522)) := hS.1.congr hO ek
      have cP : RCP (μ 44) (cutR (ν0 521) (ν0 522)) := hS.2.1.congr ek
      have cr : RowOK E 500 (cutR (ν0 521) (ν0 522)) := hS.2.2.congr hO ek
      have c62 : cutR (ν0 521) (ν0 522) 62 = nI a := by rw [ek 62 (by omega), e521]
      obtain ⟨-, f2, -⟩ := sp_leastRent (L := L) (n := n) (x := p1) hE hO hI.LO hI.LC c44 cP cr (by omega) (by omega) c62
      have r44 : RCP (μ 44) (μ 521) := hS.2.1
      have key := fo_all (fun i (s : Int32 × Int32 × Mem) => i ≤ 41 ∧ s.1 = (fo i (fun k t => if pdR E L (cutR (ν0 521) (ν0 522)) n (nI (40 - k)) ≤ p1 then nI (40 - k) else t) (-1)) ∧ s.2.1 = nI (41 - i) - 1 ∧ (∀ k, 63 ≤ k → s.2.2 522 k = ν0 522 k) ∧ (∀ k, k ≠ 44 → s.2.2 57 k = ν0 57 k) ∧ ∀ h, h ≠ 57 → h ≠ 522 → h ≠ 438 → h ≠ 439 → h ≠ 523 → h ≠ 524 → h ≠ 525 → s.2.2 h = ν0 h)
        (Pb_X10_rent_48 p1 (nI n)) 41 (g_X10_rent_48 p1 (nI n)) (-1, 40, ν0) ⟨by omega, rfl, rfl, fun _ _ => rfl, fun _ _ => rfl, fun _ _ _ _ _ _ _ _ => rfl⟩ (fun i hi s hs => by
        obtain ⟨_, i1, i2, i3, i4, i5⟩ := hs
        have er : s.2.1 = nI (40 - i) := by rw [i2, show 41 - i = (40 - i) + 1 by omega, nI_pred]
        obtain ⟨p, e⟩ := sp_copies (μ := upm s.2.2 57 44 s.2.1) (fr := 521) (to := 522) (by decide)
        have e522 : M_X10_copies 521 522 (upm s.2.2 57 44 s.2.1) 522 = cutR (ν0 521) (ν0 522) := by
          rw [e, upr_same, upm_other (by decide), upm_other (by decide), i5 521 (by decide) (by decide) (by decide) (by decide) (by decide) (by decide) (by decide)]
          funext k
          by_cases q : k < 63
          · rw [cut_lt q, cut_lt q]
          · rw [cut_ge (by omega), cut_ge (by omega), i3 k (by omega)]
        have eo : ∀ h, h ≠ 57 → h ≠ 522 → h ≠ 438 → h ≠ 439 → h ≠ 523 → h ≠ 524 → h ≠ 525 → M_X10_copies 521 522 (upm s.2.2 57 44 s.2.1) h = ν0 h := fun h a1 a2 a3 a4 a5 a6 a7 => by rw [e, upr_other a2, upm_other a1, i5 h a1 a2 a3 a4 a5 a6 a7]
        have e57 : ∀ k, k ≠ 44 → M_X10_copies 521 522 (upm s.2.2 57 44 s.2.1) 57 k = ν0 57 k := fun k hk => by rw [e, upr_other (by decide), upm_rr, if_neg hk, i4 k hk]
        have e44 : M_X10_copies 521 522 (upm s.2.2 57 44 s.2.1) 57 44 = nI (40 - i) := by rw [e, upr_other (by decide), upm_rr, if_pos rfl, er]
        have cM : EvM E (M_X10_copies 521 522 (upm s.2.2 57 44 s.2.1)) := hM.mono (fun h hh => eo h (by omega) (by omega) (by omega) (by omega) (by omega) (by omega) (by omega)) hO
        have cR : LwR L (M_X10_copies 521 522 (upm s.2.2 57 44 s.2.1)) := hI0.LM.mono hI.LO (e57 21 (by decide)) fun q _ _ => eo q (by omega) (by omega) (by omega) (by omega) (by omega) (by omega) (by omega)
        obtain ⟨t1, t2, t3⟩ := sp_goesOn (n := n) cM hO hI.LO cR (by rw [e522]; exact cr) (by rw [e57 43 (by decide)]; exact hI0.wd) (by omega) (show a < 10000 by omega) (by rw [e522]; exact c62)
        rw [e44, e522] at t2
        have hMe : EvM E (M_X10_goesOn (nI n) (M_X10_copies 521 522 (upm s.2.2 57 44 s.2.1))) := cM.mono (fun h hh => t3 h (by omega) (by omega) (by omega) (by omega) (by omega) (by omega)) hO
        obtain ⟨gp1, gp2⟩ := sp_paidM (row := 522) hMe hO
        obtain ⟨gq1, gq2⟩ := sp_paidM (row := 521) hMe hO
        have z521 : M_X10_goesOn (nI n) (M_X10_copies 521 522 (upm s.2.2 57 44 s.2.1)) 521 = ν0 521 := by rw [t3 521 (by decide) (by decide) (by decide) (by decide) (by decide) (by decide), eo 521 (by decide) (by decide) (by decide) (by decide) (by decide) (by decide) (by decide)]
        have zp : paidR E (ν0 521) = paidR E (cutR (ν0 521) (ν0 522)) := fo_congr _ _ _ _ fun h hl t => by rw [ek (56 + h) (by omega), r521]
        rw [t2] at gp2
        rw [z521, zp] at gq2
        refine ⟨⟨fun q => ?_, fun _ => ⟨p, t1, gp1, gq1⟩⟩, by omega, ?_, ?_, fun k hk => ?_, fun k hk => ?_, fun h a1 a2 a3 a4 a5 a6 a7 => ?_⟩
        · rw [er] at q
          exact nI_pos (by omega) q
        · show VX10_rent_48_4 p1 (nI n) i s = if pdR E L (cutR (ν0 521) (ν0 522)) n (nI (40 - i)) ≤ p1 then nI (40 - i) else _
          unfold VX10_rent_48_4 muX10_rent_48_3 muX10_rent_48_2 muX10_rent_48_1
          rw [gp2, gq2, er, i1]
          show (if p1 < pdR E L (cutR (ν0 521) (ν0 522)) n (nI (40 - i)) then _ else _) = _
          by_cases q : pdR E L (cutR (ν0 521) (ν0 522)) n (nI (40 - i)) ≤ p1
          · rw [if_neg (Int32.not_lt.mpr q), if_pos q]
          · rw [if_pos (Int32.not_le.mp q), if_neg q]
            rfl
        · show s.2.1 + (-1) = nI (41 - (i + 1)) - 1
          rw [er, show 41 - (i + 1) = 40 - i by omega]
          exact (Int32.sub_eq_add_neg _ _).symm
        · show M_X10_goesOn (nI n) (M_X10_copies 521 522 (upm s.2.2 57 44 s.2.1)) 522 k = _
          rw [t2, sea_hi n hk, cut_ge hk]
        · show M_X10_goesOn (nI n) (M_X10_copies 521 522 (upm s.2.2 57 44 s.2.1)) 57 k = _
          rw [t3 57 (by decide) (by decide) (by decide) (by decide) (by decide) (by decide), e57 k hk]
        · show M_X10_goesOn (nI n) (M_X10_copies 521 522 (upm s.2.2 57 44 s.2.1)) h = _
          rw [t3 h a2 a3 a4 a5 a6 a7, eo h a1 a2 a3 a4 a5 a6 a7])
      obtain ⟨ky0, _, ky1, ky2, ky3, ky4, ky5⟩ := key
      have hS' : SX10_rent_48 p1 (nI n) ν = fo 41 (g_X10_rent_48 p1 (nI n)) (-1, 40, ν0) := by
        unfold SX10_rent_48
        rw [m3]
        rfl
      have hN : NX10_rent_48 p1 (nI n) ν = 41 := rfl
      rw [← hS'] at ky1 ky2 ky3 ky4 ky5
      have hfd := rn_least (E := E) (L := L) (r := cutR (ν0 521) (ν0 522)) (n := n) (x := p1) (fun i => fo i (fun k t => if pdR E L (cutR (ν0 521) (ν0 522)) n (nI (40 - k)) ≤ p1 then nI (40 - k) else t) (-1)) rfl (fun i _ => rfl)
      obtain ⟨km1, km2, km3⟩ : KQ ν (M_X10_rent p1 (nI n) ν) ∧ M_X10_rent p1 (nI n) ν 57 0 = 0 ∧ M_X10_rent p1 (nI n) ν 548 0 = ν 548 0 := by
        unfold M_X10_rent muX10_rent_4
        rw [m1, if_pos bf2]
        have hkm : KM ν0 (upm (SX10_rent_48 p1 (nI n) ν).2.2 57 44 ((SX10_rent_48 p1 (nI n) ν).2.2 61 4)) := by
          have e61 : (SX10_rent_48 p1 (nI n) ν).2.2 61 4 = ν0 57 44 := by
            rw [ky5 61 (by decide) (by decide) (by decide) (by decide) (by decide) (by decide) (by decide), hI0.rn]
            exact hM.2.2.2.2.1
          have e57 : ∀ k, upm (SX10_rent_48 p1 (nI n) ν).2.2 57 44 ((SX10_rent_48 p1 (nI n) ν).2.2 61 4) 57 k = ν0 57 k := fun k => by
            rw [upm_rr]
            by_cases q : k = 44
            · rw [if_pos q, e61, q]
            · rw [if_neg q, ky4 k q]
          refine ⟨⟨fun q q1 q2 q3 q4 q5 q6 q7 q8 q9 q10 q11 => ?_, fun k _ _ _ => e57 k⟩, e57 0, ?_⟩
          · rw [upm_other q6, ky5 q q6 (by omega) q7 q8 (by omega) (by omega) (by omega)]
          · rw [upm_other (by decide), ky5 548 (by decide) (by decide) (by decide) (by decide) (by decide) (by decide) (by decide)]
        rw [← hn0] at hkm
        exact km hkm
      refine ⟨?_, ?_, km1, km2, km3⟩
      · unfold P_X10_rent
        rw [m1, m3, hN]
        refine ⟨bp2, fun _ => ⟨ky0, fun _ => trivial, fun q => ?_⟩, fun _ => trivial⟩
        rw [ky2] at q
        exact absurd q (by decide)
      · unfold F_X10_rent F_X9_rent
        rw [m1, if_pos bf2, s2, f2, ky1]
        exact hfd
  · exact Or.inr h
theorem case_rent {E : EV} {L : LW} {μ : Mem} (hI : Inv E L μ) (p1 p2 : Int32) : P_W_18 p1 p2 μ ∧ Inv E L (M_W_18 p1 p2 μ) := by
  have h := wrapI (K_X9_rent p1 p2 μ) (F_X9_rent p1 p2 μ) (M_X9_rent p1 p2 μ) (P_X9_rent p1 p2 μ) (F_X10_rent p1 p2) (M_X10_rent p1 p2) (P_X10_rent p1 p2) hI (q_rent hI p1 p2)
  unfold P_W_18 M_W_18 muL_law_c18_2 muL_law_c18_1 M_L_rent W_L_rent F_X10_thrown
  exact h
