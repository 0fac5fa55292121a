/-! questions: due, pays, comes, spring, rent, soaked, snaps -/

theorem q_due {E : EV} {L : LW} {μ : Mem} (hI : Inv E L μ) (p1 : Int32) : Q w1 jN μ (K_X9_due p1 μ) (F_X9_due p1 μ) (M_X9_due p1 μ) (P_X9_due p1 μ) (F_X10_due p1) (M_X10_due p1) (P_X10_due p1) := by
  rcases gate_due hI p1 with ⟨h1, hK, s1, hg⟩ | h
  · have hO := hI.1
    have hE := hI.E
    have hS := hI.S
    obtain ⟨a, ha, e521, e44⟩ := hI.row
    have hd := hO.1
    obtain ⟨h, hl, rfl⟩ := inR_el (by omega) h1
    obtain ⟨g1, g2, g3, g4⟩ := sp_goAhead (n := 1) (rn := eR E) hE hO hI.LO hI.LC hS.1 hS.2.1 hS.2.2 (by omega) (by omega) e521
    have k1 := (K_X9_needHouse (nI h) μ)
    have g1' : P_X0_goAhead 1 (eR E) μ := g1
    refine Or.inl ⟨hK, ?_, ?_, fun ν hν => ?_⟩
    · unfold P_X9_due P_X0_paidAhead
      rw [s1, hE.2.2.2.2.1]
      exact fun _ => g1'
    · have h2 : KQ μ (muX9_due_2 (nI h) μ) := by
        unfold muX9_due_2 M_X0_paidAhead muX0_paidAhead_1
        rw [s1, hE.2.2.2.2.1]
        exact KQ.ahead g4
      unfold M_X9_due
      rw [s1]
      split
      · exact h2
      · exact KQ.rfl μ
    · obtain ⟨bp2, bf2, m3⟩ := hg ν hν
      have m1 : muX10_due_1 (nI h) ν = upm ν 57 0 0 := rfl
      obtain ⟨hI0, hk0⟩ := nu_of hI hν
      have r521 := hk0.at 521 (by omega)
      have hM := hI0.M
      obtain ⟨c1, c2, c3⟩ := sp_counts (row := 521) (Or.inl rfl) hM hO (by rw [r521]; exact hS.2.2) (show a < 2 ^ 31 by omega) (by rw [r521, e521])
      obtain ⟨z1, z2, z3⟩ := c2 h hl
      rw [hI0.wd, r521] at z1 z2 z3
      have hR' : LwR L (M_X10_counts 521 (upm ν 57 0 0)) := hI0.LM.mono hI.LO (by rw [c3 57 (by decide) (by decide) (by decide)]) fun q _ _ => c3 q (by omega) (by omega) (by omega)
      obtain ⟨d1, d2, d3⟩ := sp_dueOf (row := 521) (r := μ 521) hO hI.LO hR' hl z1 z2 z3 (by rw [c3 521 (by decide) (by decide) (by decide), r521])
      rw [c3 57 (by decide) (by decide) (by decide), hI0.rn] at d2
      obtain ⟨km1, km2, km3⟩ : KQ ν (M_X10_due (nI h) ν) ∧ M_X10_due (nI h) ν 57 0 = 0 ∧ M_X10_due (nI h) ν 548 0 = ν 548 0 := by
        unfold M_X10_due muX10_due_5 muX10_due_4
        rw [m1, m3, if_pos bf2]
        exact km (KM.off fun q q1 q2 q3 _ => by rw [d3 q q1 q2, c3 q (by omega) (by omega) (by omega)])
      refine ⟨?_, ?_, km1, km2, km3⟩
      · unfold P_X10_due muX10_due_4
        rw [m3]
        exact ⟨bp2, fun _ => ⟨c1, d1⟩, fun _ => trivial⟩
      · unfold F_X10_due F_X9_due muX10_due_4 F_X0_paidAhead muX0_paidAhead_1
        rw [m1, m3, if_pos bf2, s1, hE.2.2.2.2.1, d2, of62 (by omega), of62 (by omega)]
        have e1 : M_X0_goAhead 1 (eR E) μ 53 (62 + h) = _ := g3 h (by omega)
        have e2 : M_X0_goAhead 1 (eR E) μ 44 = μ 44 := g4 44 (by decide) (by decide) (by decide) (by decide) (by decide) (by decide)
        rw [e1, e2, hS.2.1 h (by omega)]
        show _ = tide1 E L 0 (eR E) (μ 521) (56 + h) - μ 521 (56 + h)
        unfold tide1
        rw [tide56 hO hl, i_sub_self, e521, nI_ix (by omega)]
  · exact Or.inr h
theorem case_due {E : EV} {L : LW} {μ : Mem} (hI : Inv E L μ) (p1 : Int32) : P_W_12 p1 μ ∧ Inv E L (M_W_12 p1 μ) := by
  have h := wrapN (K_X9_due p1 μ) (F_X9_due p1 μ) (M_X9_due p1 μ) (P_X9_due p1 μ) (F_X10_due p1) (M_X10_due p1) (P_X10_due p1) hI (q_due hI p1)
  unfold P_W_12 M_W_12 muL_law_c12_2 muL_law_c12_1 M_L_due W_L_due F_X10_thrown
  exact h

theorem q_pays {E : EV} {L : LW} {μ : Mem} (hI : Inv E L μ) (p1 p2 : Int32) : Q w2 jB μ (K_X9_pays p1 p2 μ) (F_X9_pays p1 p2 μ) (M_X9_pays p1 p2 μ) (P_X9_pays p1 p2 μ) (F_X10_pays p1 p2) (M_X10_pays p1 p2) (P_X10_pays p1 p2) := by
  rcases gate_pays hI p1 p2 with ⟨h1, h2, hK, ⟨s1, s2⟩, hg⟩ | h
  · have hO := hI.1
    have hE := hI.E
    have hS := hI.S
    obtain ⟨a, ha, e521, e44⟩ := hI.row
    have hd := hO.1
    obtain ⟨h, hl, rfl⟩ := inR_el (by omega) h1
    obtain ⟨n, hn, rfl⟩ := inR_n (n := 60) h2 (Int32.le_refl 0) (by decide)
    obtain ⟨g1, -, -, g4⟩ := sp_goAhead (n := n) (rn := eR E) hE hO hI.LO hI.LC hS.1 hS.2.1 hS.2.2 (by omega) (by omega) e521
    refine Or.inl ⟨hK, ?_, ?_, fun ν hν => ?_⟩
    · unfold P_X9_pays P_X0_paidAhead
      rw [s2, hE.2.2.2.2.1]
      exact fun _ _ => g1
    · have h2 : KQ μ (muX9_pays_3 (nI h) (nI n) μ) := by
        unfold muX9_pays_3 M_X0_paidAhead muX0_paidAhead_1
        rw [s2, hE.2.2.2.2.1]
        exact KQ.ahead g4
      unfold M_X9_pays
      rw [s1, s2]
      repeat' split
      all_goals first | exact h2 | exact KQ.rfl μ
    · obtain ⟨⟨bp2, bf2, m3⟩, ⟨bp4, bf4, m5⟩⟩ := hg ν hν
      have m1 : muX10_pays_1 (nI h) (nI n) ν = upm ν 57 0 0 := rfl
      obtain ⟨hI0, hk0⟩ := nu_of hI hν
      have r521 := hk0.at 521 (by omega)
      have hM := hI0.M
      obtain ⟨cp, cM, cR, cr, co, ck⟩ := sp_tri hI0
      have c44 : RC0 E (μ 44) (M_X10_copies 521 522 (upm ν 57 0 0) 522) := hS.1.congr hO fun k hk => by rw [ck k hk, r521]
      have cP : RCP (μ 44) (M_X10_copies 521 522 (upm ν 57 0 0) 522) := hS.2.1.congr fun k hk => by rw [ck k hk, r521]
      have c62 : M_X10_copies 521 522 (upm ν 57 0 0) 522 62 = nI a := by rw [ck 62 (by omega), r521, e521]
      have cw : M_X10_copies 521 522 (upm ν 57 0 0) 57 43 = 0 := by rw [co 57 (by decide)]; exact hI0.wd
      have cn : M_X10_copies 521 522 (upm ν 57 0 0) 57 44 = eR E := by rw [co 57 (by decide)]; exact hI0.rn

      obtain ⟨t1, t2, t3⟩ := sp_goesOn (n := n) cM hO hI.LO cR cr cw (by omega) (by omega) c62
      obtain ⟨-, -, g3, -⟩ := sp_goAhead (n := n) (rn := eR E) hE hO hI.LO hI.LC c44 cP cr (by omega) (by omega) c62
      have i56 : ix (56 + nI h) = 56 + h := by rw [c56, nI_ix (by omega)]
      have u56 : vp_in (56 + nI h) 63 := by rw [c56]; exact vp_in_nI (by omega) (by omega)
      obtain ⟨km1, km2, km3⟩ : KQ ν (M_X10_pays (nI h) (nI n) ν) ∧ M_X10_pays (nI h) (nI n) ν 57 0 = 0 ∧ M_X10_pays (nI h) (nI n) ν 548 0 = ν 548 0 := by
        unfold M_X10_pays muX10_pays_7 muX10_pays_6
        rw [m1, m3, m5, if_neg (not_not_intro bf2), if_pos bf4]
        exact km (KM.tri hI0 t3)
      refine ⟨?_, ?_, km1, km2, km3⟩
      · unfold P_X10_pays muX10_pays_6
        rw [m3, m5]
        exact ⟨bp2, fun _ => trivial, fun _ => ⟨bp4, fun _ => ⟨cp, t1, u56, u56⟩, fun _ => trivial⟩⟩
      · unfold F_X10_pays F_X9_pays muX10_pays_7 muX10_pays_6 F_X0_paidAhead muX0_paidAhead_1
        rw [m1, m3, m5, if_neg (not_not_intro bf2), if_pos bf4, s2, hE.2.2.2.2.1, of62 (by omega), of62 (by omega), i56, t2, cn, t3 521 (by decide) (by decide) (by decide) (by decide) (by decide) (by decide), co 521 (by decide), r521]
        rw [g3 h (by omega), g4 44 (by decide) (by decide) (by decide) (by decide) (by decide) (by decide), hS.2.1 h (by omega)]
  · exact Or.inr h
theorem case_pays {E : EV} {L : LW} {μ : Mem} (hI : Inv E L μ) (p1 p2 : Int32) : P_W_30 p1 p2 μ ∧ Inv E L (M_W_30 p1 p2 μ) := by
  have h := wrapB (K_X9_pays p1 p2 μ) (F_X9_pays p1 p2 μ) (M_X9_pays p1 p2 μ) (P_X9_pays p1 p2 μ) (F_X10_pays p1 p2) (M_X10_pays p1 p2) (P_X10_pays p1 p2) hI (q_pays hI p1 p2)
  unfold P_W_30 M_W_30 muL_law_c30_2 muL_law_c30_1 M_L_pays W_L_pays F_X10_thrown
  exact h
