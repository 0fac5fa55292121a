/-! questions: drift, whence, ahead -/

theorem q_drift {E : EV} {L : LW} {μ : Mem} (hI : Inv E L μ) (p1 p2 p3 : Int32) : Q w2 jB μ (K_X9_drift p1 p2 p3 μ) (F_X9_drift p1 p2 p3 μ) (M_X9_drift p1 p2 p3 μ) (P_X9_drift p1 p2 p3 μ) (F_X10_drift p1 p2 p3) (M_X10_drift p1 p2 p3) (P_X10_drift p1 p2 p3) := by
  rcases gate_drift hI p1 p2 p3 with ⟨h1, h2, h3, hK, ⟨s1, s2, s3⟩, hg⟩ | h
  · have hO := hI.1
    have hE := hI.E
    have hS := hI.S
    obtain ⟨a, ha, e521, e44⟩ := hI.row
    have hd := hO.1
    obtain ⟨h, hl, rfl⟩ := inR_el (by omega) h1
    obtain ⟨n, hn, rfl⟩ := inR_n (n := 24) h3 (Int32.le_refl 0) (by decide)
    obtain ⟨f1, f2⟩ := sp_driftFrom (f := p2) hE hO hS.1 e521 hl (by omega) hn
    refine Or.inl ⟨hK, ?_, ?_, fun ν hν => ?_⟩
    · unfold P_X9_drift
      rw [s3]
      exact fun _ _ _ => f1
    · unfold M_X9_drift
      rw [s1, s2, s3, ite_self, ite_self]
      exact KQ.rfl μ
    · obtain ⟨⟨bp2, bf2, m3⟩, ⟨bp4, bf4, m5⟩⟩ := hg ν hν
      have m1 : muX10_drift_1 (nI h) p2 (nI n) ν = upm ν 57 0 0 := rfl
      obtain ⟨hI0, hk0⟩ := nu_of hI hν
      have r521 := hk0.at 521 (by omega)
      have hM := hI0.M
      obtain ⟨d1, d2⟩ := sp_driftOf (f := p2) hM hO r521 e521 hl (by omega) hn
      obtain ⟨km1, km2, km3⟩ : KQ ν (M_X10_drift (nI h) p2 (nI n) ν) ∧ M_X10_drift (nI h) p2 (nI n) ν 57 0 = 0 ∧ M_X10_drift (nI h) p2 (nI n) ν 548 0 = ν 548 0 := by
        unfold M_X10_drift
        rw [m1, m3, m5, ite_self]
        exact km (KM.rfl _)
      refine ⟨?_, ?_, km1, km2, km3⟩
      · unfold P_X10_drift
        rw [m3, m5]
        exact ⟨bp2, fun _ => trivial, fun _ => ⟨bp4, fun _ => d1, fun _ => trivial⟩⟩
      · unfold F_X10_drift F_X9_drift
        rw [m1, m3, m5, if_neg (not_not_intro bf2), if_pos bf4, s3, f2, d2]
  · exact Or.inr h
theorem case_drift {E : EV} {L : LW} {μ : Mem} (hI : Inv E L μ) (p1 p2 p3 : Int32) : P_W_23 p1 p2 p3 μ ∧ Inv E L (M_W_23 p1 p2 p3 μ) := by
  have h := wrapB (K_X9_drift p1 p2 p3 μ) (F_X9_drift p1 p2 p3 μ) (M_X9_drift p1 p2 p3 μ) (P_X9_drift p1 p2 p3 μ) (F_X10_drift p1 p2 p3) (M_X10_drift p1 p2 p3) (P_X10_drift p1 p2 p3) hI (q_drift hI p1 p2 p3)
  unfold P_W_23 M_W_23 muL_law_c23_2 muL_law_c23_1 M_L_drift W_L_drift F_X10_thrown
  exact h

theorem q_whence {E : EV} {L : LW} {μ : Mem} (hI : Inv E L μ) (p1 p2 p3 : Int32) : Q w2 jB μ (K_X9_whence p1 p2 p3 μ) (F_X9_whence p1 p2 p3 μ) (M_X9_whence p1 p2 p3 μ) (P_X9_whence p1 p2 p3 μ) (F_X10_whence p1 p2 p3) (M_X10_whence p1 p2 p3) (P_X10_whence p1 p2 p3) := by
  rcases gate_whence hI p1 p2 p3 with ⟨h1, h2, h3, hK, ⟨s1, s2, s3⟩, hg⟩ | h
  · have hO := hI.1
    have hE := hI.E
    have hS := hI.S
    obtain ⟨a, ha, e521, e44⟩ := hI.row
    have hd := hO.1
    obtain ⟨h, hl, rfl⟩ := inR_el (by omega) h1
    obtain ⟨n, hn, rfl⟩ := inR_n (n := 24) h2 (Int32.le_refl 0) (by decide)
    obtain ⟨f1, f2⟩ := sp_driftsTo (v := nI h) (w := p3) hE hO hS.1 e521 (by omega) hn
    refine Or.inl ⟨hK, ?_, ?_, fun ν hν => ?_⟩
    · unfold P_X9_whence
      rw [s3]
      exact fun _ _ _ => f1
    · unfold M_X9_whence
      rw [s1, s2, s3, ite_self, ite_self]
      exact KQ.rfl μ
    · obtain ⟨⟨bp2, bf2, m3⟩, ⟨bp4, bf4, m5⟩⟩ := hg ν hν
      have m1 : muX10_whence_1 (nI h) (nI n) p3 ν = upm ν 57 0 0 := rfl
      obtain ⟨hI0, hk0⟩ := nu_of hI hν
      have r521 := hk0.at 521 (by omega)
      have hM := hI0.M
      have hin : ∀ (f : Int32) (s : Int32 × Int32 × Int32), (∀ j, j < eH E → Pb_X10_whence_83 (nI h) (nI n) p3 f (upm ν 57 0 0) j (fo j (g_X10_whence_83 (nI h) (nI n) p3 f (upm ν 57 0 0)) s)) ∧ fo (eH E) (g_X10_whence_83 (nI h) (nI n) p3 f (upm ν 57 0 0)) s = whI E (μ 521) a n (nI h) f s := by
        intro f s
        refine ⟨fun j hj => ?_, fo_congr _ _ _ _ fun i hi t => ?_⟩
        · unfold Pb_X10_whence_83
          rw [hM.1]
          exact ⟨fun q => nI_ge hj (by omega) q, fun _ => (sp_driftOf hM hO r521 e521 hj (by omega) hn).1⟩
        · unfold g_X10_whence_83 VX10_whence_83_1 VX10_whence_83_2 VX10_whence_83_3
          rw [(sp_driftOf hM hO r521 e521 hi (by omega) hn).2]
          by_cases q : dV E (μ 521) a f i n = nI h
          · rw [if_pos q, if_pos q, if_pos q, if_pos q]
          · rw [if_neg q, if_neg q, if_neg q, if_neg q]
      have hNi : ∀ i s, NX10_whence_75_83 (nI h) (nI n) p3 (upm ν 57 0 0) i s = eH E := fun i s => by
        unfold NX10_whence_75_83
        rw [hM.1, nI_ix (by omega)]
      have key := fo_all (fun i (s : Int32 × Int32 × Int32 × Int32) => i ≤ 20 ∧ s = whO E (μ 521) a n (nI h) i) (Pb_X10_whence_75 (nI h) (nI n) p3 (upm ν 57 0 0)) 20 (g_X10_whence_75 (nI h) (nI n) p3 (upm ν 57 0 0)) (0, 0, -1, 20) ⟨by omega, rfl⟩ (fun i hi s hs => by
        obtain ⟨_, hs⟩ := hs
        subst hs
        have h4 := whO_4 E (μ 521) a n (nI h) i (by omega)
        obtain ⟨i1, i2⟩ := hin (whO E (μ 521) a n (nI h) i).2.2.2 ((whO E (μ 521) a n (nI h) i).1, (whO E (μ 521) a n (nI h) i).2.1, (whO E (μ 521) a n (nI h) i).2.2.1)
        refine ⟨⟨fun q => ?_, fun _ => ⟨?_, fun _ => trivial, fun q => ?_⟩⟩, by omega, ?_⟩
        · rw [h4] at q
          exact nI_ge (a := 0) (b := 20 - i) (by omega) (by omega) q
        · rw [hNi]
          exact i1
        · rw [hNi, hM.1] at q
          exact absurd q n_lt
        · unfold g_X10_whence_75 SX10_whence_75_83
          rw [hNi, i2]
          rfl)
      have hS' : SX10_whence_75 (nI h) (nI n) p3 ν = whO E (μ 521) a n (nI h) 20 := by
        unfold SX10_whence_75
        rw [m5]
        exact key.2.2
      have hN : NX10_whence_75 (nI h) (nI n) p3 ν = 20 := rfl
      obtain ⟨km1, km2, km3⟩ : KQ ν (M_X10_whence (nI h) (nI n) p3 ν) ∧ M_X10_whence (nI h) (nI n) p3 ν 57 0 = 0 ∧ M_X10_whence (nI h) (nI n) p3 ν 548 0 = ν 548 0 := by
        unfold M_X10_whence
        rw [m1, m3, m5, ite_self]
        exact km (KM.rfl _)
      refine ⟨?_, ?_, km1, km2, km3⟩
      · unfold P_X10_whence
        rw [m3, m5, hN, hS', whO_4 E (μ 521) a n (nI h) 20 (by omega)]
        exact ⟨bp2, fun _ => trivial, fun _ => ⟨bp4, fun _ => ⟨key.1, fun _ => trivial, fun q => absurd q (by decide)⟩, fun _ => trivial⟩⟩
      · unfold F_X10_whence F_X9_whence
        rw [m1, m3, if_neg (not_not_intro bf2), if_pos bf4, s3, f2, hS']
        rfl
  · exact Or.inr h
theorem case_whence {E : EV} {L : LW} {μ : Mem} (hI : Inv E L μ) (p1 p2 p3 : Int32) : P_W_24 p1 p2 p3 μ ∧ Inv E L (M_W_24 p1 p2 p3 μ) := by
  have h := wrapB (K_X9_whence p1 p2 p3 μ) (F_X9_whence p1 p2 p3 μ) (M_X9_whence p1 p2 p3 μ) (P_X9_whence p1 p2 p3 μ) (F_X10_whence p1 p2 p3) (M_X10_whence p1 p2 p3) (P_X10_whence p1 p2 p3) hI (q_whence hI p1 p2 p3)
  unfold P_W_24 M_W_24 muL_law_c24_2 muL_law_c24_1 M_L_whence W_L_whence F_X10_thrown
  exact h

theorem q_ahead {E : EV} {L : LW} {μ : Mem} (hI : Inv E L μ) (p1 p2 : Int32) : Q w1 jI μ (K_X9_ahead p1 p2 μ) (F_X9_ahead p1 p2 μ) (M_X9_ahead p1 p2 μ) (P_X9_ahead p1 p2 μ) (F_X10_ahead p1 p2) (M_X10_ahead p1 p2) (P_X10_ahead p1 p2) := by
  rcases gate_ahead hI p1 p2 with ⟨h1, h2, hK, ⟨s1, s2⟩, hg⟩ | h
  · have hO := hI.1
    have hE := hI.E
    have hS := hI.S
    obtain ⟨a, ha, e521, e44⟩ := hI.row
    have hd := hO.1
    obtain ⟨n, hn, rfl⟩ := inR_n (n := 60) h1 (Int32.le_refl 0) (by decide)
    obtain ⟨f1, -, f3⟩ := sp_standAhead (n := n) (w := p2) hE hO hI.LO hI.LC hS.1 hS.2.1 hS.2.2 (by omega) (by omega) e521
    have hp2 : p2 = 0 ∨ p2 = 1 ∨ p2 = 2 ∨ p2 = 3 := by
      obtain ⟨j, hj, rfl⟩ := inR_n (n := 3) h2 (Int32.le_refl 0) (by decide)
      have : j = 0 ∨ j = 1 ∨ j = 2 ∨ j = 3 := by omega
      rcases this with rfl | rfl | rfl | rfl
      · exact Or.inl rfl
      · exact Or.inr (Or.inl rfl)
      · exact Or.inr (Or.inr (Or.inl rfl))
      · exact Or.inr (Or.inr (Or.inr rfl))
    refine Or.inl ⟨hK, ?_, ?_, fun ν hν => ?_⟩
    · unfold P_X9_ahead
      rw [s2]
      exact fun _ _ => f1
    · have h2 : KQ μ (muX9_ahead_3 (nI n) p2 μ) := by
        unfold muX9_ahead_3
        rw [s2]
        exact KQ.ahead f3
      unfold M_X9_ahead
      rw [s1, s2]
      repeat' split
      all_goals first | exact h2 | exact KQ.rfl μ
    · obtain ⟨bp2, bf2, m3⟩ := hg ν hν
      have m1 : muX10_ahead_1 (nI n) p2 ν = upm ν 57 0 0 := rfl
      obtain ⟨hI0, hk0⟩ := nu_of hI hν
      have r521 := hk0.at 521 (by omega)
      have hM := hI0.M
      obtain ⟨cp, cM, cR, cr, co, ck⟩ := sp_tri hI0
      have c44 : RC0 E (μ 44) (M_X10_copies 521 522 (upm ν 57 0 0) 522) := hS.1.congr hO fun k hk => by rw [ck k hk, r521]
      have cP : RCP (μ 44) (M_X10_copies 521 522 (upm ν 57 0 0) 522) := hS.2.1.congr fun k hk => by rw [ck k hk, r521]
      have c62 : M_X10_copies 521 522 (upm ν 57 0 0) 522 62 = nI a := by rw [ck 62 (by omega), r521, e521]
      have cw : M_X10_copies 521 522 (upm ν 57 0 0) 57 43 = 0 := by rw [co 57 (by decide)]; exact hI0.wd
      have cn : M_X10_copies 521 522 (upm ν 57 0 0) 57 44 = eR E := by rw [co 57 (by decide)]; exact hI0.rn

      obtain ⟨-, f2, -⟩ := sp_standAhead (n := n) (w := p2) hE hO hI.LO hI.LC c44 cP cr (by omega) (by omega) c62
      generalize hC : M_X10_copies 521 522 (upm ν 57 0 0) = ν1 at *
      have hs4 : muX10_ahead_4 (nI n) p2 ν = ν1 := by
        unfold muX10_ahead_4
        rw [m3, hC]
      have hN : NX10_ahead_56 (nI n) p2 ν = n := nI_ix (by omega)
      have key := fo_all (fun i (s : Int32 × Mem) => s.1 = smI i (fun k => smI (eH E) (fun h => inW E (ν1 522) a k h)) ∧ s.2 522 = seaR E L (eR E) i (ν1 522) ∧ ∀ h, h ≠ 522 → h ≠ 438 → h ≠ 439 → h ≠ 523 → h ≠ 524 → h ≠ 525 → s.2 h = ν1 h)
        (Pb_X10_ahead_56 (nI n) p2) n (g_X10_ahead_56 (nI n) p2) (0, ν1) ⟨rfl, rfl, fun _ _ _ _ _ _ _ => rfl⟩ (fun i hi s hs => by
        obtain ⟨i1, i2, i3⟩ := hs
        have e57 : s.2 57 = ν1 57 := i3 57 (by omega) (by omega) (by omega) (by omega) (by omega) (by omega)
        have hE' : EvM E s.2 := cM.mono (fun h hh => i3 h (by omega) (by omega) (by omega) (by omega) (by omega) (by omega)) hO
        have hr' : RowOK E (500 + i) (s.2 522) := by rw [i2]; exact sea_ok hO cr i
        have e62 : s.2 522 62 = nI (a + i) := by rw [i2]; exact sea62 i c62
        have hR' : LwR L s.2 := cR.mono hI.LO (by rw [e57]) fun q _ _ => i3 q (by omega) (by omega) (by omega) (by omega) (by omega) (by omega)
        obtain ⟨x1, x2, x3⟩ := sp_tideComes (row := 522) (Or.inr rfl) hE' hO hI.LO hR' hr' (show a + i < 2 ^ 30 by omega) e62
        have hwi : ∀ h, h < eH E → P_X10_waterIn 522 (nI h) s.2 ∧ F_X10_waterIn 522 (nI h) s.2 = wat E (ν1 522) (hgt E (a + i)) h := fun h hl => by
          have := sp_waterIn (row := 522) hE' hO hl (show a + i < 2 ^ 31 by omega) e62
          rw [e57, cw, Int32.add_zero, i2, wat_sea i (by omega)] at this
          exact this
        have hNi : NX10_ahead_56_65 (nI n) p2 i s = eH E := by
          unfold NX10_ahead_56_65
          rw [hE'.1, nI_ix (by omega)]
        refine ⟨⟨fun q => absurd q (nI_ge hi (by omega)), fun _ => ⟨fun h hl => ?_, fun _ => x1, fun q => ?_⟩⟩, ?_, ?_, fun h a1 a2 a3 a4 a5 a6 => ?_⟩
        · rw [hNi] at hl
          unfold Pb_X10_ahead_65
          rw [hE'.1]
          exact ⟨fun q => nI_ge hl (by omega) q, fun _ => (hwi h hl).1⟩
        · rw [hNi, hE'.1] at q
          exact absurd q n_lt
        · show SX10_ahead_56_65 (nI n) p2 i s = smI i _ + smI (eH E) (fun h => inW E (ν1 522) a i h)
          unfold SX10_ahead_56_65
          rw [hNi, i1, ← fo_sm]
          refine fo_congr _ _ _ _ fun h hl t => ?_
          unfold g_X10_ahead_65 VX10_ahead_65_1 inW
          rw [(hwi h hl).2]
        · show M_X10_tideComes 522 s.2 522 = _
          rw [x2, sea_s, e57, cw, cn, i2]
          unfold tide1
          rw [sea62 i c62, nI_ix (by omega)]
        · show M_X10_tideComes 522 s.2 h = _
          rw [x3 h a1 a2 a3 a4 a5 a6, i3 h a1 a2 a3 a4 a5 a6])
      have hS' : SX10_ahead_56 (nI n) p2 ν = fo n (g_X10_ahead_56 (nI n) p2) (0, ν1) := by
        unfold SX10_ahead_56
        rw [hN, hs4]
      obtain ⟨ky1, ky2, ky3, ky4⟩ := key
      rw [← hS'] at ky2 ky3 ky4
      have hMe : EvM E (SX10_ahead_56 (nI n) p2 ν).2 := cM.mono (fun h hh => ky4 h (by omega) (by omega) (by omega) (by omega) (by omega) (by omega)) hO
      obtain ⟨gw1, gw2⟩ := sp_worthM (row := 522) hMe hO
      obtain ⟨gg1, gg2⟩ := sp_goneM (row := 522) hMe hO
      obtain ⟨gp1, gp2⟩ := sp_paidM (row := 522) hMe hO
      obtain ⟨gq1, gq2⟩ := sp_paidM (row := 521) hMe hO
      have z521 : (SX10_ahead_56 (nI n) p2 ν).2 521 = μ 521 := by rw [ky4 521 (by decide) (by decide) (by decide) (by decide) (by decide) (by decide), co 521 (by decide), r521]
      have zp : paidR E (ν1 522) = paidR E (μ 521) := fo_congr _ _ _ _ fun h hl t => by rw [ck (56 + h) (by omega), r521]
      obtain ⟨km1, km2, km3⟩ : KQ ν (M_X10_ahead (nI n) p2 ν) ∧ M_X10_ahead (nI n) p2 ν 57 0 = 0 ∧ M_X10_ahead (nI n) p2 ν 548 0 = ν 548 0 := by
        unfold M_X10_ahead
        rw [m1, if_pos bf2]
        refine km (KM.tri hI0 fun q a1 a2 a3 a4 a5 a6 => ?_)
        rw [hC]
        exact ky4 q a1 a2 a3 a4 a5 a6
      refine ⟨?_, ?_, km1, km2, km3⟩
      · unfold P_X10_ahead
        rw [m3, hs4, hN]
        exact ⟨bp2, fun _ => ⟨cp, ky1, fun _ => ⟨fun _ => gw1, fun _ => gg1, fun _ => ⟨gp1, gq1⟩, fun _ => trivial⟩, fun q => absurd q n_lt⟩, fun _ => trivial⟩
      · unfold F_X10_ahead F_X9_ahead
        rw [m1, if_pos bf2, s2, f2, gw2, gg2, gp2, gq2, ky2, ky3, z521, zp]
        rcases hp2 with rfl | rfl | rfl | rfl
        · rfl
        · rfl
        · rfl
        · rw [if_neg (by decide), if_neg (by decide), if_neg (by decide), if_neg (by decide), if_neg (by decide), if_pos (by decide), smI_swap]
  · exact Or.inr h
theorem case_ahead {E : EV} {L : LW} {μ : Mem} (hI : Inv E L μ) (p1 p2 : Int32) : P_W_14 p1 p2 μ ∧ Inv E L (M_W_14 p1 p2 μ) := by
  have h := wrapI (K_X9_ahead p1 p2 μ) (F_X9_ahead p1 p2 μ) (M_X9_ahead p1 p2 μ) (P_X9_ahead p1 p2 μ) (F_X10_ahead p1 p2) (M_X10_ahead p1 p2) (P_X10_ahead p1 p2) hI (q_ahead hI p1 p2)
  unfold P_W_14 M_W_14 muL_law_c14_2 muL_law_c14_1 M_L_ahead W_L_ahead F_X10_thrown
  exact h
