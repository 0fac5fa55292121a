/-! questions: year, span -/
theorem sp_yearByC {E : EV} {L : LW} {μ : Mem} {r : Nat → Int32} {n a b : Nat} {seed q k w : Int32} (hE : EvC E μ) (hO : EvOK E) (hL : LwOK L) (hR : LwC L μ) (hc : RC0 E (μ 44) r) (hp : RCP (μ 44) r) (hr : RowOK E b r) (hn : n < 1000) (ha : a < 10000) (ht : r 62 = nI a) :
    P_X0_yearBy seed (nI n) q k w μ ∧ F_X0_yearBy seed (nI n) q k w μ = (if w = 0 then worthR E (yrR E L (eR E) seed q k n r) else if w = 1 then paidR E (yrR E L (eR E) seed q k n r) - paidR E r else if w = 2 then goneR E (yrR E L (eR E) seed q k n r) else wnN seed q n) ∧ ∀ h, h ≠ 24 → h ≠ 25 → h ≠ 53 → h ≠ 54 → h ≠ 55 → h ≠ 56 → M_X0_yearBy seed (nI n) q k w μ h = μ h := by
  obtain ⟨g1, g2, g3, g4, g5⟩ := sp_goWindy (seed := seed) (q := q) (k := k) (n := n) (Or.inr rfl) hE hO hL hR hc hp hr hn ha ht
  have hE' : EvC E (M_X0_goWindy seed (nI n) q k 1 μ) := hE.mono fun h hl => g5 h (by omega) (by omega) (by omega) (by omega) (by omega) (by omega)
  have e44 : M_X0_goWindy seed (nI n) q k 1 μ 44 = μ 44 := g5 44 (by omega) (by omega) (by omega) (by omega) (by omega) (by omega)
  obtain ⟨w1, w2⟩ := sp_worthC (th := 52) hE' hO g3
  obtain ⟨v1, v2⟩ := sp_goneC (th := 52) hE' hO g3
  obtain ⟨p1, p2⟩ := sp_paidC (th := 52) hE' hO (g4 rfl)
  obtain ⟨q1, q2⟩ := sp_paidC (r := r) (th := 43) hE' hO (by rw [e44]; exact hp)
  unfold P_X0_yearBy F_X0_yearBy M_X0_yearBy muX0_yearBy_1 P_X0_paidThen P_X0_goneThen F_X0_paidThen F_X0_goneThen
  rw [w2, v2, p2, q2, g2]
  exact ⟨⟨g1, fun _ => w1, fun _ => ⟨p1, q1⟩, fun _ => v1, fun _ => trivial⟩, rfl, g5⟩

theorem q_year {E : EV} {L : LW} {μ : Mem} (hI : Inv E L μ) (p1 p2 p3 p4 p5 : Int32) : Q w1 jI μ (K_X9_year p1 p2 p3 p4 p5 μ) (F_X9_year p1 p2 p3 p4 p5 μ) (M_X9_year p1 p2 p3 p4 p5 μ) (P_X9_year p1 p2 p3 p4 p5 μ) (F_X10_year p1 p2 p3 p4 p5) (M_X10_year p1 p2 p3 p4 p5) (P_X10_year p1 p2 p3 p4 p5) := by
  rcases gate_year hI p1 p2 p3 p4 p5 with ⟨h1, h2, h3, h4, hK, ⟨s1, s2⟩, hg⟩ | h
  · have hO := hI.1
    have hE := hI.E
    have hS := hI.S
    obtain ⟨a, ha, e521, e44⟩ := hI.row
    have hd := hO.1
    obtain ⟨n, hn, rfl⟩ := inR_n (n := 96) h1 (by decide) (by decide)
    obtain ⟨f1, -, f3⟩ := sp_yearByC (n := n) (seed := p1) (q := p3) (k := p4) (w := p5) hE hO hI.LO hI.LC hS.1 hS.2.1 hS.2.2 (by omega) (by omega) e521
    refine Or.inl ⟨hK, ?_, ?_, fun ν hν => ?_⟩
    · unfold P_X9_year
      rw [s2]
      exact fun _ _ => f1
    · have h2 : KQ μ (muX9_year_3 p1 (nI n) p3 p4 p5 μ) := by
        unfold muX9_year_3
        rw [s2]
        exact KQ.ahead f3
      unfold M_X9_year
      rw [s1, s2]
      repeat' split
      all_goals first | exact h2 | exact KQ.rfl μ
    · obtain ⟨bp2, bf2, m3⟩ := hg ν hν
      have m1 : muX10_year_1 p1 (nI n) p3 p4 p5 ν = upm ν 57 0 0 := rfl
      obtain ⟨hI0, hk0⟩ := nu_of hI hν
      have r521 := hk0.at 521 (by omega)
      have hM := hI0.M
      have ek : ∀ k, k < 63 → cutR (upm ν 57 0 0 521) (upm ν 57 0 0 522) k = μ 521 k := fun k hk => by rw [cut_lt hk, r521]
      have c44 : RC0 E (μ 44) (cutR (upm ν 57 0 0 521) (upm ν 57 0 0 522)) := hS.1.congr hO ek
      have cP : RCP (μ 44) (cutR (upm ν 57 0 0 521) (upm ν 57 0 0 522)) := hS.2.1.congr ek
      have cr : RowOK E 500 (cutR (upm ν 57 0 0 521) (upm ν 57 0 0 522)) := hS.2.2.congr hO ek
      have c62 : cutR (upm ν 57 0 0 521) (upm ν 57 0 0 522) 62 = nI a := by rw [ek 62 (by omega), e521]

      obtain ⟨-, f2, -⟩ := sp_yearByC (n := n) (seed := p1) (q := p3) (k := p4) (w := p5) hE hO hI.LO hI.LC c44 cP cr (by omega) (by omega) c62
      obtain ⟨y1, y2, y3, y4, y5, y6⟩ := sp_yearByM (n := n) (seed := p1) (q := p3) (k := p4) hM hO hI.LO hI0.LM (by rw [r521]; exact hS.2.2) (by omega) (show a < 10000 by omega) (by rw [r521, e521]) hI0.rn
      have e4 : muX10_year_4 p1 (nI n) p3 p4 p5 ν = M_X10_yearBy p1 (nI n) p3 p4 (upm ν 57 0 0) := by
        unfold muX10_year_4
        rw [m3]
      have hMe : EvM E (M_X10_yearBy p1 (nI n) p3 p4 (upm ν 57 0 0)) := hM.mono (fun h hh => y6 h (by omega) (by omega) (by omega) (by omega) (by omega) (by omega) (by omega)) hO
      obtain ⟨gw1, gw2⟩ := sp_worthM (row := 522) hMe hO
      obtain ⟨gg1, gg2⟩ := sp_goneM (row := 522) hMe hO
      obtain ⟨gp1, gp2⟩ := sp_paidM (row := 522) hMe hO
      obtain ⟨gq1, gq2⟩ := sp_paidM (row := 521) hMe hO
      have z521 : M_X10_yearBy p1 (nI n) p3 p4 (upm ν 57 0 0) 521 = μ 521 := by rw [y6 521 (by decide) (by decide) (by decide) (by decide) (by decide) (by decide) (by decide), r521]
      have zp : paidR E (cutR (upm ν 57 0 0 521) (upm ν 57 0 0 522)) = paidR E (μ 521) := fo_congr _ _ _ _ fun h hl t => by rw [ek (56 + h) (by omega)]
      obtain ⟨km1, km2, km3⟩ : KQ ν (M_X10_year p1 (nI n) p3 p4 p5 ν) ∧ M_X10_year p1 (nI n) p3 p4 p5 ν 57 0 = 0 ∧ M_X10_year p1 (nI n) p3 p4 p5 ν 548 0 = ν 548 0 := by
        unfold M_X10_year
        rw [m1, if_pos bf2, e4]
        refine km ⟨⟨fun q q1 q2 q3 q4 q5 q6 q7 q8 q9 q10 q11 => y6 q q6 (by omega) q7 q8 (by omega) (by omega) (by omega), fun k k1 k2 k3 => ?_⟩, y5 0 (by decide) (by decide) (by decide), ?_⟩
        · by_cases z : k = 43
          · rw [z, y4, hI0.wd]
          · exact y5 k z k2 k3
        · rw [y6 548 (by decide) (by decide) (by decide) (by decide) (by decide) (by decide) (by decide)]
      refine ⟨?_, ?_, km1, km2, km3⟩
      · unfold P_X10_year
        rw [m3, e4]
        exact ⟨bp2, fun _ => ⟨y1, fun _ => gw1, fun _ => ⟨gp1, gq1⟩, fun _ => gg1, fun _ => trivial⟩, fun _ => trivial⟩
      · unfold F_X10_year F_X9_year
        rw [m1, if_pos bf2, s2, f2, e4, gw2, gg2, gp2, gq2, y2, y3, z521, zp]
  · exact Or.inr h
theorem case_year {E : EV} {L : LW} {μ : Mem} (hI : Inv E L μ) (p1 p2 p3 p4 p5 : Int32) : P_W_35 p1 p2 p3 p4 p5 μ ∧ Inv E L (M_W_35 p1 p2 p3 p4 p5 μ) := by
  have h := wrapI (K_X9_year p1 p2 p3 p4 p5 μ) (F_X9_year p1 p2 p3 p4 p5 μ) (M_X9_year p1 p2 p3 p4 p5 μ) (P_X9_year p1 p2 p3 p4 p5 μ) (F_X10_year p1 p2 p3 p4 p5) (M_X10_year p1 p2 p3 p4 p5) (P_X10_year p1 p2 p3 p4 p5) hI (q_year hI p1 p2 p3 p4 p5)
  unfold P_W_35 M_W_35 muL_law_c35_2 muL_law_c35_1 M_L_year W_L_year F_X10_thrown
  exact h

theorem q_span {E : EV} {L : LW} {μ : Mem} (hI : Inv E L μ) (p1 p2 p3 p4 p5 p6 p7 : Int32) : Q w1 jI μ (K_X9_span p1 p2 p3 p4 p5 p6 p7 μ) (F_X9_span p1 p2 p3 p4 p5 p6 p7 μ) (M_X9_span p1 p2 p3 p4 p5 p6 p7 μ) (P_X9_span p1 p2 p3 p4 p5 p6 p7 μ) (F_X10_span p1 p2 p3 p4 p5 p6 p7) (M_X10_span p1 p2 p3 p4 p5 p6 p7) (P_X10_span p1 p2 p3 p4 p5 p6 p7) := by
  rcases gate_span hI p1 p2 p3 p4 p5 p6 p7 with ⟨h1, h2, h3, h4, h5, h6, hK, ⟨s1, s2, s3, s4⟩, hg⟩ | h
  · have hO := hI.1
    have hE := hI.E
    have hS := hI.S
    obtain ⟨a, ha, e521, e44⟩ := hI.row
    have hd := hO.1
    obtain ⟨m, hm, rfl⟩ := inR_n (n := 20) h1 (by decide) (by decide)
    have hm1 : 1 ≤ m := by
      have := (inR_t h1).1
      have := (nI_leI (a := 1) (b := m) (by omega) (by omega)).mp this
      exact this
    obtain ⟨n, hn, rfl⟩ := inR_n (n := 96) h2 (by decide) (by decide)
    obtain ⟨t, ht, rfl⟩ := inR_el (by omega) h6
    have hN9 : NX9_span_54 p1 (nI m) (nI n) p4 p5 p6 (nI t) μ = m := nI_ix (by omega)
    have main : ∀ r, RC0 E (μ 44) r → RCP (μ 44) r → RowOK E 500 r → r 62 = nI a → (∀ j, j < m → Pb_X9_span_54 p1 (nI m) (nI n) p4 p5 p6 (nI t) j (fo j (g_X9_span_54 p1 (nI m) (nI n) p4 p5 p6 (nI t)) (10, 0, 0, μ))) ∧ ∀ i, i ≤ m → (∀ h, h ≠ 24 → h ≠ 25 → h ≠ 53 → h ≠ 54 → h ≠ 55 → h ≠ 56 → (fo i (g_X9_span_54 p1 (nI m) (nI n) p4 p5 p6 (nI t)) (10, 0, 0, μ)).2.2.2 h = μ h) ∧
        (fo i (g_X9_span_54 p1 (nI m) (nI n) p4 p5 p6 (nI t)) (10, 0, 0, μ)).1 = fo i (fun k s => imin s (goneR E (yrR E L (eR E) (p1 + nI k) p4 p5 n r))) 10 ∧
        (fo i (g_X9_span_54 p1 (nI m) (nI n) p4 p5 p6 (nI t)) (10, 0, 0, μ)).2.1 = fo i (fun k s => imax s (goneR E (yrR E L (eR E) (p1 + nI k) p4 p5 n r))) 0 ∧
        (fo i (g_X9_span_54 p1 (nI m) (nI n) p4 p5 p6 (nI t)) (10, 0, 0, μ)).2.2.1 = fo i (fun k s => s + if yrR E L (eR E) (p1 + nI k) p4 p5 n r t = -1 then 0 else 1) 0 := by
      intro r r1 r2 r3 r4
      have stp : ∀ i (s : Int32 × Int32 × Int32 × Mem), (∀ h, h ≠ 24 → h ≠ 25 → h ≠ 53 → h ≠ 54 → h ≠ 55 → h ≠ 56 → s.2.2.2 h = μ h) → P_X0_goYear (p1 + nI i) (nI n) p4 p5 s.2.2.2 ∧ P_X0_goneThen (M_X0_goYear (p1 + nI i) (nI n) p4 p5 s.2.2.2) ∧ F_X0_goneThen (M_X0_goYear (p1 + nI i) (nI n) p4 p5 s.2.2.2) = goneR E (yrR E L (eR E) (p1 + nI i) p4 p5 n r) ∧ F_X0_isGoneThen (nI t) (M_X0_goYear (p1 + nI i) (nI n) p4 p5 s.2.2.2) = (if yrR E L (eR E) (p1 + nI i) p4 p5 n r t = -1 then 1 else 0) ∧ ∀ h, h ≠ 24 → h ≠ 25 → h ≠ 53 → h ≠ 54 → h ≠ 55 → h ≠ 56 → M_X0_goYear (p1 + nI i) (nI n) p4 p5 s.2.2.2 h = μ h := by
        intro i s hs
        have hE' : EvC E s.2.2.2 := hE.mono fun h hl => hs h (by omega) (by omega) (by omega) (by omega) (by omega) (by omega)
        have hR' : LwC L s.2.2.2 := hI.LC.mono (by rw [hs 21 (by omega) (by omega) (by omega) (by omega) (by omega) (by omega)]) (hs 22 (by omega) (by omega) (by omega) (by omega) (by omega) (by omega)) (hs 23 (by omega) (by omega) (by omega) (by omega) (by omega) (by omega))
        have e44 := hs 44 (by omega) (by omega) (by omega) (by omega) (by omega) (by omega)
        obtain ⟨g1, -, g3, -, g5⟩ := sp_goWindy (seed := p1 + nI i) (q := p4) (k := p5) (n := n) (Or.inl rfl) hE' hO hI.LO hR' (by rw [e44]; exact r1) (by rw [e44]; exact r2) r3 (by omega) (show a < 10000 by omega) r4
        have hE2 : EvC E (M_X0_goWindy (p1 + nI i) (nI n) p4 p5 0 s.2.2.2) := hE'.mono fun h hl => g5 h (by omega) (by omega) (by omega) (by omega) (by omega) (by omega)
        obtain ⟨v1, v2⟩ := sp_goneC (th := 52) hE2 hO g3
        refine ⟨g1, v1, v2, ?_, fun h a1 a2 a3 a4 a5 a6 => ?_⟩
        · show F_X5_isGone 52 (nI t) (M_X0_goWindy (p1 + nI i) (nI n) p4 p5 0 s.2.2.2) = _
          unfold F_X5_isGone
          rw [of0 (by omega), g3.1 t (by omega)]
          by_cases z : yrR E L (eR E) (p1 + nI i) p4 p5 n r t = -1
          · rw [if_neg (not_not_intro z), if_pos z]
          · rw [if_pos z, if_neg z]
        · show M_X0_goWindy (p1 + nI i) (nI n) p4 p5 0 s.2.2.2 h = μ h
          rw [g5 h a1 a2 a3 a4 a5 a6, hs h a1 a2 a3 a4 a5 a6]
      have inv : ∀ i, (∀ h, h ≠ 24 → h ≠ 25 → h ≠ 53 → h ≠ 54 → h ≠ 55 → h ≠ 56 → (fo i (g_X9_span_54 p1 (nI m) (nI n) p4 p5 p6 (nI t)) (10, 0, 0, μ)).2.2.2 h = μ h) ∧
          (fo i (g_X9_span_54 p1 (nI m) (nI n) p4 p5 p6 (nI t)) (10, 0, 0, μ)).1 = fo i (fun k s => imin s (goneR E (yrR E L (eR E) (p1 + nI k) p4 p5 n r))) 10 ∧
          (fo i (g_X9_span_54 p1 (nI m) (nI n) p4 p5 p6 (nI t)) (10, 0, 0, μ)).2.1 = fo i (fun k s => imax s (goneR E (yrR E L (eR E) (p1 + nI k) p4 p5 n r))) 0 ∧
          (fo i (g_X9_span_54 p1 (nI m) (nI n) p4 p5 p6 (nI t)) (10, 0, 0, μ)).2.2.1 = fo i (fun k s => s + if yrR E L (eR E) (p1 + nI k) p4 p5 n r t = -1 then 0 else 1) 0 := by
        intro i
        induction i with
        | zero => exact ⟨fun _ _ _ _ _ _ _ => rfl, rfl, rfl, rfl⟩
        | succ i ih =>
          obtain ⟨i1, i2, i3, i4⟩ := ih
          obtain ⟨t1, t2, t3, t4, t5⟩ := stp i _ i1
          refine ⟨t5, ?_, ?_, ?_⟩
          · show imin (fo i (g_X9_span_54 p1 (nI m) (nI n) p4 p5 p6 (nI t)) (10, 0, 0, μ)).1 (F_X0_goneThen (M_X0_goYear (p1 + nI i) (nI n) p4 p5 (fo i (g_X9_span_54 p1 (nI m) (nI n) p4 p5 p6 (nI t)) (10, 0, 0, μ)).2.2.2)) = imin _ _
            rw [t3, i2]
            rfl
          · show imax (fo i (g_X9_span_54 p1 (nI m) (nI n) p4 p5 p6 (nI t)) (10, 0, 0, μ)).2.1 (F_X0_goneThen (M_X0_goYear (p1 + nI i) (nI n) p4 p5 (fo i (g_X9_span_54 p1 (nI m) (nI n) p4 p5 p6 (nI t)) (10, 0, 0, μ)).2.2.2)) = imax _ _
            rw [t3, i3]
            rfl
          · show (fo i (g_X9_span_54 p1 (nI m) (nI n) p4 p5 p6 (nI t)) (10, 0, 0, μ)).2.2.1 + VX9_span_54_2 p1 (nI m) (nI n) p4 p5 p6 (nI t) i (fo i (g_X9_span_54 p1 (nI m) (nI n) p4 p5 p6 (nI t)) (10, 0, 0, μ)) = fo (i+1) (fun k s => s + if yrR E L (eR E) (p1 + nI k) p4 p5 n r t = -1 then 0 else 1) 0
            rw [fo_succ]
            unfold VX9_span_54_2 muX9_span_54_1
            rw [t4, i4]
            by_cases z : yrR E L (eR E) (p1 + nI i) p4 p5 n r t = -1
            · rw [if_pos z, if_pos z, if_neg (by decide)]
            · rw [if_neg z, if_neg z, if_pos rfl]
      refine ⟨fun j hj => ?_, fun i _ => inv i⟩
      obtain ⟨t1, t2, -⟩ := stp j _ (inv j).1
      unfold Pb_X9_span_54
      exact ⟨fun z => absurd z (nI_ge hj (by omega)), fun _ => ⟨t1, t2, t2⟩⟩
    have hS9 : SX9_span_54 p1 (nI m) (nI n) p4 p5 p6 (nI t) μ = fo m (g_X9_span_54 p1 (nI m) (nI n) p4 p5 p6 (nI t)) (10, 0, 0, μ) := by
      unfold SX9_span_54
      rw [hN9, s4]
    obtain ⟨f1, f3⟩ := main (μ 521) hS.1 hS.2.1 hS.2.2 e521
    refine Or.inl ⟨hK, ?_, ?_, fun ν hν => ?_⟩
    · unfold P_X9_span
      rw [s4, hN9, hS9]
      exact fun _ _ _ _ => ⟨f1, fun _ => trivial, fun z => absurd z n_lt⟩
    · have h2 : KQ μ (SX9_span_54 p1 (nI m) (nI n) p4 p5 p6 (nI t) μ).2.2.2 := by
        rw [hS9]
        exact KQ.ahead (f3 m (Nat.le_refl _)).1
      unfold M_X9_span
      rw [s4, s3, s2, s1]
      repeat' split
      all_goals first | exact h2 | exact KQ.rfl μ
    · obtain ⟨bp2, bf2, m3⟩ := hg ν hν
      have m1 : muX10_span_1 p1 (nI m) (nI n) p4 p5 p6 (nI t) ν = upm ν 57 0 0 := rfl
      obtain ⟨hI0, hk0⟩ := nu_of hI hν
      have r521 := hk0.at 521 (by omega)
      have hM := hI0.M
      have ek : ∀ k, k < 63 → cutR (upm ν 57 0 0 521) (upm ν 57 0 0 522) k = μ 521 k := fun k hk => by rw [cut_lt hk, r521]
      have c44 : RC0 E (μ 44) (cutR (upm ν 57 0 0 521) (upm ν 57 0 0 522)) := hS.1.congr hO ek
      have cP : RCP (μ 44) (cutR (upm ν 57 0 0 521) (upm ν 57 0 0 522)) := hS.2.1.congr ek
      have cr : RowOK E 500 (cutR (upm ν 57 0 0 521) (upm ν 57 0 0 522)) := hS.2.2.congr hO ek
      have c62 : cutR (upm ν 57 0 0 521) (upm ν 57 0 0 522) 62 = nI a := by rw [ek 62 (by omega), e521]

      obtain ⟨-, fm⟩ := main _ c44 cP cr c62
      have hN : NX10_span_73 p1 (nI m) (nI n) p4 p5 p6 (nI t) ν = m := nI_ix (by omega)
      have stp : ∀ i (s : Int32 × Int32 × Int32 × Mem), (∀ k, 63 ≤ k → s.2.2.2 522 k = upm ν 57 0 0 522 k) → (∀ j, j ≠ 48 → j ≠ 49 → s.2.2.2 57 j = upm ν 57 0 0 57 j) → (∀ h, h ≠ 57 → h ≠ 522 → h ≠ 438 → h ≠ 439 → h ≠ 523 → h ≠ 524 → h ≠ 525 → s.2.2.2 h = upm ν 57 0 0 h) →
          P_X10_yearBy (p1 + nI i) (nI n) p4 p5 s.2.2.2 ∧ P_X10_goneIn 522 (M_X10_yearBy (p1 + nI i) (nI n) p4 p5 s.2.2.2) ∧ F_X10_goneIn 522 (M_X10_yearBy (p1 + nI i) (nI n) p4 p5 s.2.2.2) = goneR E (yrR E L (eR E) (p1 + nI i) p4 p5 n (cutR (upm ν 57 0 0 521) (upm ν 57 0 0 522))) ∧
          M_X10_yearBy (p1 + nI i) (nI n) p4 p5 s.2.2.2 522 = yrR E L (eR E) (p1 + nI i) p4 p5 n (cutR (upm ν 57 0 0 521) (upm ν 57 0 0 522)) ∧ (∀ j, j ≠ 48 → j ≠ 49 → M_X10_yearBy (p1 + nI i) (nI n) p4 p5 s.2.2.2 57 j = upm ν 57 0 0 57 j) ∧ (∀ h, h ≠ 57 → h ≠ 522 → h ≠ 438 → h ≠ 439 → h ≠ 523 → h ≠ 524 → h ≠ 525 → M_X10_yearBy (p1 + nI i) (nI n) p4 p5 s.2.2.2 h = upm ν 57 0 0 h) := by
        intro i s i1 i2 i3
        have hM' : EvM E s.2.2.2 := hM.mono (fun h hh => i3 h (by omega) (by omega) (by omega) (by omega) (by omega) (by omega) (by omega)) hO
        have hR' : LwR L s.2.2.2 := hI0.LM.mono hI.LO (i2 21 (by decide) (by decide)) fun z _ _ => i3 z (by omega) (by omega) (by omega) (by omega) (by omega) (by omega) (by omega)
        have e5 := i3 521 (by decide) (by decide) (by decide) (by decide) (by decide) (by decide) (by decide)
        obtain ⟨y1, y2, y3, y4, y5, y6⟩ := sp_yearByM (n := n) (seed := p1 + nI i) (q := p4) (k := p5) hM' hO hI.LO hR' (by rw [e5, r521]; exact hS.2.2) (by omega) (show a < 10000 by omega) (by rw [e5, r521, e521]) (by rw [i2 44 (by decide) (by decide)]; exact hI0.rn)
        have ec : cutR (s.2.2.2 521) (s.2.2.2 522) = cutR (upm ν 57 0 0 521) (upm ν 57 0 0 522) := by
          rw [e5]
          funext k
          by_cases z : k < 63
          · rw [cut_lt z, cut_lt z]
          · rw [cut_ge (by omega), cut_ge (by omega), i1 k (by omega)]
        rw [ec] at y2
        have hMe : EvM E (M_X10_yearBy (p1 + nI i) (nI n) p4 p5 s.2.2.2) := hM'.mono (fun h hh => y6 h (by omega) (by omega) (by omega) (by omega) (by omega) (by omega) (by omega)) hO
        obtain ⟨gg1, gg2⟩ := sp_goneM (row := 522) hMe hO
        rw [y2] at gg2
        refine ⟨y1, gg1, gg2, y2, fun j j1 j2 => ?_, fun h a1 a2 a3 a4 a5 a6 a7 => by rw [y6 h a1 a2 a3 a4 a5 a6 a7, i3 h a1 a2 a3 a4 a5 a6 a7]⟩
        by_cases z : j = 43
        · rw [z, y4, hI0.wd]
        · rw [y5 j z j1 j2, i2 j j1 j2]
      have i0 : ix (0 + nI t) = t := by rw [c0, nI_ix (by omega)]
      have key := fo_all (fun i (s : Int32 × Int32 × Int32 × Mem) => s.1 = (if i = 0 then -1 else fo i (fun k s => imin s (goneR E (yrR E L (eR E) (p1 + nI k) p4 p5 n (cutR (upm ν 57 0 0 521) (upm ν 57 0 0 522))))) 10) ∧ s.2.1 = fo i (fun k s => imax s (goneR E (yrR E L (eR E) (p1 + nI k) p4 p5 n (cutR (upm ν 57 0 0 521) (upm ν 57 0 0 522))))) 0 ∧ s.2.2.1 = fo i (fun k s => s + if yrR E L (eR E) (p1 + nI k) p4 p5 n (cutR (upm ν 57 0 0 521) (upm ν 57 0 0 522)) t = -1 then 0 else 1) 0 ∧ (∃ g, g ≤ 10 ∧ fo i (fun k s => imin s (goneR E (yrR E L (eR E) (p1 + nI k) p4 p5 n (cutR (upm ν 57 0 0 521) (upm ν 57 0 0 522))))) 10 = nI g) ∧ (∀ k, 63 ≤ k → s.2.2.2 522 k = upm ν 57 0 0 522 k) ∧ (∀ j, j ≠ 48 → j ≠ 49 → s.2.2.2 57 j = upm ν 57 0 0 57 j) ∧ (∀ h, h ≠ 57 → h ≠ 522 → h ≠ 438 → h ≠ 439 → h ≠ 523 → h ≠ 524 → h ≠ 525 → s.2.2.2 h = upm ν 57 0 0 h))
        (Pb_X10_span_73 p1 (nI m) (nI n) p4 p5 p6 (nI t)) m (g_X10_span_73 p1 (nI m) (nI n) p4 p5 p6 (nI t)) (-1, 0, 0, upm ν 57 0 0) ⟨rfl, rfl, rfl, ⟨10, by omega, rfl⟩, fun _ _ => rfl, fun _ _ _ => rfl, fun _ _ _ _ _ _ _ _ => rfl⟩ (fun i hi s hs => by
        obtain ⟨i1, i2, i3, ⟨g, hg, ig⟩, i4, i5, i6⟩ := hs
        obtain ⟨t1, t2, t3, t4, t5, t6⟩ := stp i s i4 i5 i6
        obtain ⟨g', hg', ig'⟩ := gone_nat hO (yrR E L (eR E) (p1 + nI i) p4 p5 n (cutR (upm ν 57 0 0 521) (upm ν 57 0 0 522)))
        refine ⟨⟨fun z => absurd z (nI_ge hi (by omega)), fun _ => ⟨t1, t2, by rw [c0]; exact vp_in_nI (by omega) (by omega)⟩⟩, ?_, ?_, ?_, ⟨min g g', by omega, ?_⟩, fun k hk => ?_, t5, t6⟩
        · show VX10_span_73_2 p1 (nI m) (nI n) p4 p5 p6 (nI t) i s = _
          unfold VX10_span_73_2 muX10_span_73_1
          rw [t3, i1, if_neg (Nat.succ_ne_zero i), fo_succ, ig, ig', less_eq]
          by_cases z : i = 0
          · subst z
            have eg : g = 10 := by
              have h10 : (10 : Int32) = nI g := ig
              have := (nI_eq (a := 10) (by omega) (by omega)).mp h10
              omega
            rw [if_pos rfl, if_neg (not_not_intro rfl), eg, imin_nI (by omega) (by omega), Nat.min_eq_right hg']
          · rw [if_neg z, if_pos (nI_m1 (by omega))]
        · show F_X10_more s.2.1 (F_X10_goneIn 522 (M_X10_yearBy (p1 + nI i) (nI n) p4 p5 s.2.2.2)) (M_X10_yearBy (p1 + nI i) (nI n) p4 p5 s.2.2.2) = imax _ _
          rw [more_eq, t3, i2]
          rfl
        · show s.2.2.1 + VX10_span_73_3 p1 (nI m) (nI n) p4 p5 p6 (nI t) i s = fo (i+1) (fun k s => s + if yrR E L (eR E) (p1 + nI k) p4 p5 n (cutR (upm ν 57 0 0 521) (upm ν 57 0 0 522)) t = -1 then 0 else 1) 0
          rw [fo_succ]
          unfold VX10_span_73_3 muX10_span_73_1
          rw [t4, i0, i3]
        · rw [fo_succ, ig, ig', imin_nI (by omega) (by omega)]
        · show M_X10_yearBy (p1 + nI i) (nI n) p4 p5 s.2.2.2 522 k = _
          rw [t4, yr_hi n hk, cut_ge hk])
      have hS' : SX10_span_73 p1 (nI m) (nI n) p4 p5 p6 (nI t) ν = fo m (g_X10_span_73 p1 (nI m) (nI n) p4 p5 p6 (nI t)) (-1, 0, 0, upm ν 57 0 0) := by
        unfold SX10_span_73
        rw [hN, m3]
      obtain ⟨ky0, ky1, ky2, ky3, -, ky5, ky6, ky7⟩ := key
      rw [← hS'] at ky1 ky2 ky3 ky5 ky6 ky7
      obtain ⟨-, fm1, fm2, fm3⟩ := fm m (Nat.le_refl _)
      obtain ⟨km1, km2, km3⟩ : KQ ν (M_X10_span p1 (nI m) (nI n) p4 p5 p6 (nI t) ν) ∧ M_X10_span p1 (nI m) (nI n) p4 p5 p6 (nI t) ν 57 0 = 0 ∧ M_X10_span p1 (nI m) (nI n) p4 p5 p6 (nI t) ν 548 0 = ν 548 0 := by
        unfold M_X10_span
        rw [m1, if_pos bf2]
        exact km ⟨⟨fun q q1 q2 q3 q4 q5 q6 q7 q8 q9 q10 q11 => ky7 q q6 (by omega) q7 q8 (by omega) (by omega) (by omega), fun k k1 k2 k3 => ky6 k k2 k3⟩, ky6 0 (by decide) (by decide), ky7 548 (by decide) (by decide) (by decide) (by decide) (by decide) (by decide) (by decide) ▸ rfl⟩
      refine ⟨?_, ?_, km1, km2, km3⟩
      · unfold P_X10_span
        rw [m3, hN]
        exact ⟨bp2, fun _ => ⟨ky0, fun _ => trivial, fun z => absurd z n_lt⟩, fun _ => trivial⟩
      · unfold F_X10_span F_X9_span
        rw [m1, if_pos bf2, hS9, fm1, fm2, fm3, ky1, ky2, ky3, if_neg (show ¬ m = 0 by omega)]
  · exact Or.inr h
theorem case_span {E : EV} {L : LW} {μ : Mem} (hI : Inv E L μ) (p1 p2 p3 p4 p5 p6 p7 : Int32) : P_W_36 p1 p2 p3 p4 p5 p6 p7 μ ∧ Inv E L (M_W_36 p1 p2 p3 p4 p5 p6 p7 μ) := by
  have h := wrapI (K_X9_span p1 p2 p3 p4 p5 p6 p7 μ) (F_X9_span p1 p2 p3 p4 p5 p6 p7 μ) (M_X9_span p1 p2 p3 p4 p5 p6 p7 μ) (P_X9_span p1 p2 p3 p4 p5 p6 p7 μ) (F_X10_span p1 p2 p3 p4 p5 p6 p7) (M_X10_span p1 p2 p3 p4 p5 p6 p7) (P_X10_span p1 p2 p3 p4 p5 p6 p7) hI (q_span hI p1 p2 p3 p4 p5 p6 p7)
  unfold P_W_36 M_W_36 muL_law_c36_2 muL_law_c36_1 M_L_span W_L_span F_X10_thrown
  exact h
