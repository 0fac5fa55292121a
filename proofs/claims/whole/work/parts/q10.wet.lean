/-! questions: soaked, snaps -/

theorem q_soaked {E : EV} {L : LW} {μ : Mem} (hI : Inv E L μ) (p1 p2 : Int32) : Q w2 jB μ (K_X9_soaked p1 p2 μ) (F_X9_soaked p1 p2 μ) (M_X9_soaked p1 p2 μ) (P_X9_soaked p1 p2 μ) (F_X10_soaked p1 p2) (M_X10_soaked p1 p2) (P_X10_soaked p1 p2) := by
  rcases gate_soaked hI p1 p2 with ⟨h1, h2, hK, ⟨s1, s2⟩, hg⟩ | h
  · have hO := hI.1
    have hE := hI.E
    have hS := hI.S
    obtain ⟨a, ha, e521, e44⟩ := hI.row
    have hd := hO.1
    obtain ⟨t, ht, rfl⟩ := inR_el (by omega) h1
    obtain ⟨n, hn, rfl⟩ := inR_n (n := 60) h2 (Int32.le_refl 0) (by decide)
    obtain ⟨f1, -, f3⟩ := sp_timesWet (L := L) (n := n) hE hO hS.1 hS.2.2 e521 ht (by omega) (by omega)
    refine Or.inl ⟨hK, ?_, ?_, fun ν hν => ?_⟩
    · unfold P_X9_soaked
      rw [s2]
      exact fun _ _ => f1
    · have h2 : KQ μ (muX9_soaked_3 (nI t) (nI n) μ) := by
        unfold muX9_soaked_3
        rw [s2]
        exact KQ.ahead fun q _ _ q3 q4 q5 q6 => f3 q q3 q4 q5 q6
      unfold M_X9_soaked
      rw [s1, s2]
      repeat' split
      all_goals first | exact h2 | exact KQ.rfl μ
    · obtain ⟨⟨bp2, bf2, m3⟩, ⟨bp4, bf4, m5⟩⟩ := hg ν hν
      have m1 : muX10_soaked_1 (nI t) (nI n) ν = upm ν 57 0 0 := rfl
      obtain ⟨hI0, hk0⟩ := nu_of hI hν
      have r521 := hk0.at 521 (by omega)
      have hM := hI0.M
      obtain ⟨cp, cM, cR, cr, co, ck⟩ := sp_tri hI0
      have c44 : RC0 E (μ 44) (M_X10_copies 521 522 (upm ν 57 0 0) 522) := hS.1.congr hO fun k hk => by rw [ck k hk, r521]
      have cP : RCP (μ 44) (M_X10_copies 521 522 (upm ν 57 0 0) 522) := hS.2.1.congr fun k hk => by rw [ck k hk, r521]
      have c62 : M_X10_copies 521 522 (upm ν 57 0 0) 522 62 = nI a := by rw [ck 62 (by omega), r521, e521]
      have cw : M_X10_copies 521 522 (upm ν 57 0 0) 57 43 = 0 := by rw [co 57 (by decide)]; exact hI0.wd
      have cn : M_X10_copies 521 522 (upm ν 57 0 0) 57 44 = eR E := by rw [co 57 (by decide)]; exact hI0.rn

      obtain ⟨-, f2, -⟩ := sp_timesWet (L := L) (n := n) hE hO c44 cr c62 ht (by omega) (by omega)
      have hN : NX10_soaked_69 (nI t) (nI n) ν = n := nI_ix (by omega)
      have key := fo_all (fun i (s : Int32 × Mem) => s.1 = stC E L (M_X10_copies 521 522 (upm ν 57 0 0) 522) a i t ∧ s.2 522 = seaR E L (eR E) i (M_X10_copies 521 522 (upm ν 57 0 0) 522) ∧ ∀ h, h ≠ 522 → h ≠ 438 → h ≠ 439 → h ≠ 523 → h ≠ 524 → h ≠ 525 → s.2 h = M_X10_copies 521 522 (upm ν 57 0 0) h)
        (Pb_X10_soaked_69 (nI t) (nI n)) n (g_X10_soaked_69 (nI t) (nI n)) (0, M_X10_copies 521 522 (upm ν 57 0 0)) ⟨rfl, rfl, fun _ _ _ _ _ _ _ => rfl⟩ (fun i hi s hs => by
        obtain ⟨i1, i2, i3⟩ := hs
        have e57 : s.2 57 = M_X10_copies 521 522 (upm ν 57 0 0) 57 := i3 57 (by omega) (by omega) (by omega) (by omega) (by omega) (by omega)
        have hE' : EvM E s.2 := cM.mono (fun h hh => i3 h (by omega) (by omega) (by omega) (by omega) (by omega) (by omega)) hO
        have hr' : RowOK E (500 + i) (s.2 522) := by rw [i2]; exact sea_ok hO cr i
        have e62 : s.2 522 62 = nI (a + i) := by rw [i2]; exact sea62 i c62
        obtain ⟨q1, q2, q3⟩ := sp_counts (row := 522) (Or.inr rfl) hE' hO hr' (show a + i < 2 ^ 31 by omega) e62
        have hE'' : EvM E (M_X10_counts 522 s.2) := hE'.mono (fun h hh => q3 h (by omega) (by omega) (by omega)) hO
        have hR'' : LwR L (M_X10_counts 522 s.2) := cR.mono hI.LO (by rw [q3 57 (by decide) (by decide) (by decide), e57]) fun q _ _ => by rw [q3 q (by omega) (by omega) (by omega), i3 q (by omega) (by omega) (by omega) (by omega) (by omega) (by omega)]
        have e522 : M_X10_counts 522 s.2 522 = s.2 522 := q3 522 (by decide) (by decide) (by decide)
        have e57' : M_X10_counts 522 s.2 57 = s.2 57 := q3 57 (by decide) (by decide) (by decide)
        obtain ⟨y1, y2⟩ := sp_isWet (μ := M_X10_counts 522 s.2) (row := 522) (t := t) (r := s.2 522) (hh := hgt E (a + i) + s.2 57 43) hO (by omega) (by rw [e522]) (by rw [e522]) (hr'.1 t ht) (fun h hl => (q2 h hl).1)
        rw [e57, cw, Int32.add_zero] at y2
        obtain ⟨x1, x2, x3⟩ := sp_tideComes (row := 522) (Or.inr rfl) hE'' hO hI.LO hR'' (by rw [e522]; exact hr') (show a + i < 2 ^ 30 by omega) (by rw [e522]; exact e62)
        refine ⟨⟨fun q => absurd q (nI_ge hi (by omega)), fun _ => ⟨q1, y1, x1⟩⟩, ?_, ?_, fun h a1 a2 a3 a4 a5 a6 => ?_⟩
        · show s.1 + VX10_soaked_69_2 (nI t) (nI n) i s = stC E L _ a i t + if isW E (seaR E L (eR E) i _) (hgt E (a + i)) t = true then 1 else 0
          unfold VX10_soaked_69_2 muX10_soaked_69_1
          rw [y2, i1, i2]
          by_cases z : isW E (seaR E L (eR E) i (M_X10_copies 521 522 (upm ν 57 0 0) 522)) (hgt E (a + i)) t = true
          · rw [if_pos z, if_neg (by decide)]
          · rw [if_neg z, if_pos rfl]
        · show M_X10_tideComes 522 (M_X10_counts 522 s.2) 522 = _
          rw [x2, sea_s, e522, e57', e57, cw, cn, i2]
          unfold tide1
          rw [sea62 i c62, nI_ix (by omega)]
        · show M_X10_tideComes 522 (M_X10_counts 522 s.2) h = _
          rw [x3 h a1 a2 a3 a4 a5 a6, q3 h a4 a5 a6, i3 h a1 a2 a3 a4 a5 a6])
      have hS' : SX10_soaked_69 (nI t) (nI n) ν = fo n (g_X10_soaked_69 (nI t) (nI n)) (0, M_X10_copies 521 522 (upm ν 57 0 0)) := by
        unfold SX10_soaked_69 muX10_soaked_6
        rw [hN, m5]
      obtain ⟨km1, km2, km3⟩ : KQ ν (M_X10_soaked (nI t) (nI n) ν) ∧ M_X10_soaked (nI t) (nI n) ν 57 0 = 0 ∧ M_X10_soaked (nI t) (nI n) ν 548 0 = ν 548 0 := by
        unfold M_X10_soaked
        rw [m1, m3, m5, if_neg (not_not_intro bf2), if_pos bf4, hS']
        exact km (KM.tri hI0 key.2.2.2)
      refine ⟨?_, ?_, km1, km2, km3⟩
      · unfold P_X10_soaked muX10_soaked_6
        rw [m3, m5, hN]
        exact ⟨bp2, fun _ => trivial, fun _ => ⟨bp4, fun _ => ⟨cp, key.1, fun _ => trivial, fun q => absurd q n_lt⟩, fun _ => trivial⟩⟩
      · unfold F_X10_soaked F_X9_soaked
        rw [m1, m3, if_neg (not_not_intro bf2), if_pos bf4, hS', s2, f2]
        exact key.2.1
  · exact Or.inr h
theorem case_soaked {E : EV} {L : LW} {μ : Mem} (hI : Inv E L μ) (p1 p2 : Int32) : P_W_27 p1 p2 μ ∧ Inv E L (M_W_27 p1 p2 μ) := by
  have h := wrapB (K_X9_soaked p1 p2 μ) (F_X9_soaked p1 p2 μ) (M_X9_soaked p1 p2 μ) (P_X9_soaked p1 p2 μ) (F_X10_soaked p1 p2) (M_X10_soaked p1 p2) (P_X10_soaked p1 p2) hI (q_soaked hI p1 p2)
  unfold P_W_27 M_W_27 muL_law_c27_2 muL_law_c27_1 M_L_soaked W_L_soaked F_X10_thrown
  exact h

theorem q_snaps {E : EV} {L : LW} {μ : Mem} (hI : Inv E L μ) (p1 : Int32) : Q w1 jN μ (K_X9_snaps p1 μ) (F_X9_snaps p1 μ) (M_X9_snaps p1 μ) (P_X9_snaps p1 μ) (F_X10_snaps p1) (M_X10_snaps p1) (P_X10_snaps p1) := by
  rcases gate_snaps hI p1 with ⟨h1, hK, s1, hg⟩ | h
  · have hO := hI.1
    have hE := hI.E
    have hS := hI.S
    obtain ⟨a, ha, e521, e44⟩ := hI.row
    have hd := hO.1
    obtain ⟨t, ht, rfl⟩ := inR_el (by omega) h1
    obtain ⟨f1, -, f3⟩ := sp_breakOf (L := L) hE hO hS.1 hS.2.2 e521 ht (by omega)
    refine Or.inl ⟨hK, ?_, ?_, fun ν hν => ?_⟩
    · unfold P_X9_snaps
      rw [s1]
      exact fun _ => f1
    · have h2 : KQ μ (muX9_snaps_2 (nI t) μ) := by
        unfold muX9_snaps_2
        rw [s1]
        exact KQ.ahead fun q _ _ q3 q4 q5 q6 => f3 q q3 q4 q5 q6
      unfold M_X9_snaps
      rw [s1]
      repeat' split
      all_goals first | exact h2 | exact KQ.rfl μ
    · obtain ⟨bp2, bf2, m3⟩ := hg ν hν
      have m1 : muX10_snaps_1 (nI t) ν = upm ν 57 0 0 := rfl
      obtain ⟨hI0, hk0⟩ := nu_of hI hν
      have r521 := hk0.at 521 (by omega)
      have hM := hI0.M
      obtain ⟨cp, cM, cR, cr, co, ck⟩ := sp_tri hI0
      have c44 : RC0 E (μ 44) (M_X10_copies 521 522 (upm ν 57 0 0) 522) := hS.1.congr hO fun k hk => by rw [ck k hk, r521]
      have cP : RCP (μ 44) (M_X10_copies 521 522 (upm ν 57 0 0) 522) := hS.2.1.congr fun k hk => by rw [ck k hk, r521]
      have c62 : M_X10_copies 521 522 (upm ν 57 0 0) 522 62 = nI a := by rw [ck 62 (by omega), r521, e521]
      have cw : M_X10_copies 521 522 (upm ν 57 0 0) 57 43 = 0 := by rw [co 57 (by decide)]; exact hI0.wd
      have cn : M_X10_copies 521 522 (upm ν 57 0 0) 57 44 = eR E := by rw [co 57 (by decide)]; exact hI0.rn

      obtain ⟨-, f2, -⟩ := sp_breakOf (L := L) hE hO c44 cr c62 ht (by omega)
      generalize hC : M_X10_copies 521 522 (upm ν 57 0 0) = ν1 at *
      have hs4 : muX10_snaps_4 (nI t) ν = ν1 := by
        unfold muX10_snaps_4
        rw [m3, hC]
      have inv : ∀ j, j ≤ 61 → fo j (g_X10_snaps_42 (nI t)) ν1 522 = seaR E L (eR E) j (ν1 522) ∧ ∀ h, h ≠ 522 → h ≠ 438 → h ≠ 439 → h ≠ 523 → h ≠ 524 → h ≠ 525 → fo j (g_X10_snaps_42 (nI t)) ν1 h = ν1 h := by
        intro j hj
        have := sp_goesOn (n := j) cM hO hI.LO cR cr cw (by omega) (by omega) c62
        rw [cn] at this
        have e : fo j (g_X10_snaps_42 (nI t)) ν1 = M_X10_goesOn (nI j) ν1 := by
          unfold M_X10_goesOn SX10_goesOn_2 NX10_goesOn_2
          rw [nI_ix (by omega)]
          exact fo_congr _ _ _ _ fun _ _ _ => rfl
        rw [e]
        exact this.2
      have nxt : ∀ j, j ≤ 60 → P_X10_tideComes 522 (fo j (g_X10_snaps_42 (nI t)) ν1) ∧ M_X10_tideComes 522 (fo j (g_X10_snaps_42 (nI t)) ν1) 522 = seaR E L (eR E) (j + 1) (ν1 522) ∧ ∀ h, h ≠ 522 → h ≠ 438 → h ≠ 439 → h ≠ 523 → h ≠ 524 → h ≠ 525 → M_X10_tideComes 522 (fo j (g_X10_snaps_42 (nI t)) ν1) h = ν1 h := by
        intro j hj
        have hp := (sp_goesOn (n := j + 1) cM hO hI.LO cR cr cw (by omega) (by omega) c62).1
        have hp2 := hp.1 j (by rw [show NX10_goesOn_2 (nI (j + 1)) ν1 = j + 1 from nI_ix (by omega)]; omega)
        have hp3 := hp2.2 (nI_lt (by omega) (by omega))
        have e : fo j (g_X10_goesOn_2 (nI (j + 1))) ν1 = fo j (g_X10_snaps_42 (nI t)) ν1 := fo_congr _ _ _ _ fun _ _ _ => rfl
        rw [e] at hp3
        exact ⟨hp3, (inv (j + 1) (by omega)).1, (inv (j + 1) (by omega)).2⟩
      have i20 : ix (20 + nI t) = 20 + t := by rw [c20, nI_ix (by omega)]
      have u20 : vp_in (20 + nI t) 63 := by rw [c20]; exact vp_in_nI (by omega) (by omega)
      have hN : NX10_snaps_42 (nI t) ν = fst 61 (brk E L (ν1 522) t) := by
        unfold NX10_snaps_42
        refine fst_congr fun j hj => ?_
        obtain ⟨n1, n2, -⟩ := nxt j (by omega)
        unfold Cb_X10_snaps_42 muX10_snaps_42_1 brk
        rw [hs4, i20, n2, (inv j (by omega)).1]
        by_cases k1 : 60 ≤ j
        · rw [if_pos ((e60 (by omega)).mpr k1), decide_eq_true (Or.inl k1)]
          rfl
        · rw [if_neg (fun q => k1 ((e60 (by omega)).mp q))]
          by_cases k2 : seaR E L (eR E) j (ν1 522) (20 + t) ≠ 1
          · rw [if_pos k2, decide_eq_true (Or.inr (Or.inl k2))]
            rfl
          · rw [if_neg k2]
            by_cases k3 : seaR E L (eR E) (j + 1) (ν1 522) (20 + t) ≠ 0
            · rw [if_pos k3, decide_eq_false (fun q => q.elim k1 fun q => q.elim k2 k3)]
              rfl
            · rw [if_neg k3, decide_eq_true (Or.inr (Or.inr (Decidable.not_not.mp k3)))]
              rfl
      have h60 : fst 61 (brk E L (ν1 522) t) ≤ 60 := fst_lt (by omega) (decide_eq_true (Or.inl (Nat.le_refl 60)))
      have hmin : ∀ j, j < fst 61 (brk E L (ν1 522) t) → ¬ (60 ≤ j ∨ seaR E L (eR E) j (ν1 522) (20 + t) ≠ 1 ∨ seaR E L (eR E) (j + 1) (ν1 522) (20 + t) = 0) := fun j hj => of_decide_eq_false (fst_min hj)
      have hhit := of_decide_eq_true (fst_hit (n := 61) (c := brk E L (ν1 522) t) (by omega))
      have hS' : SX10_snaps_42 (nI t) ν = fo (fst 61 (brk E L (ν1 522) t)) (g_X10_snaps_42 (nI t)) ν1 := by
        unfold SX10_snaps_42
        rw [hN, hs4]
      have hbV : brkV E L (ν1 522) t = if 60 ≤ fst 61 (brk E L (ν1 522) t) then -1 else if seaR E L (eR E) (fst 61 (brk E L (ν1 522) t)) (ν1 522) (20 + t) ≠ 1 then -1 else nI (fst 61 (brk E L (ν1 522) t)) := rfl
      obtain ⟨n1, n2, n3⟩ := nxt _ h60
      obtain ⟨j1, j2⟩ := inv _ (show fst 61 (brk E L (ν1 522) t) ≤ 61 by omega)
      obtain ⟨km1, km2, km3⟩ : KQ ν (M_X10_snaps (nI t) ν) ∧ M_X10_snaps (nI t) ν 57 0 = 0 ∧ M_X10_snaps (nI t) ν 548 0 = ν 548 0 := by
        unfold M_X10_snaps muX10_snaps_5
        rw [m1, if_pos bf2, hS']
        refine km (KM.tri hI0 fun q a1 a2 a3 a4 a5 a6 => ?_)
        rw [hC]
        split
        · exact j2 q a1 a2 a3 a4 a5 a6
        · split
          · exact j2 q a1 a2 a3 a4 a5 a6
          · exact n3 q a1 a2 a3 a4 a5 a6
      refine ⟨?_, ?_, km1, km2, km3⟩
      · unfold P_X10_snaps muX10_snaps_5
        rw [m3, hs4, hN, hS', i20, n2, j1]
        generalize fst 61 (brk E L (ν1 522) t) = N at *
        refine ⟨bp2, fun _ => ⟨cp, fun j hj => ?_, fun _ => trivial, fun q => ⟨u20, fun _ => trivial, fun q2 => ⟨n1, u20, fun z => ?_, fun _ => trivial⟩⟩⟩, fun _ => trivial⟩
        · have hm := hmin j hj
          obtain ⟨m1, m2, -⟩ := nxt j (by omega)
          unfold Pb_X10_snaps_42 muX10_snaps_42_1
          rw [i20, m2, (inv j (by omega)).1]
          exact ⟨fun q => hm (Or.inl ((e60 (by omega)).mp q)), fun _ => ⟨u20, fun q => hm (Or.inr (Or.inl q)), fun _ => ⟨m1, u20, fun _ => trivial, fun q => hm (Or.inr (Or.inr q))⟩⟩⟩
        · rcases hhit with k | k | k
          · have := (l60 (by omega)).mp q
            omega
          · exact k q2
          · exact z k
      · unfold F_X10_snaps F_X9_snaps
        rw [m1, if_pos bf2, hS', hN, s1, f2, i20, j1, hbV]
        generalize fst 61 (brk E L (ν1 522) t) = N at *
        by_cases k : 60 ≤ N
        · rw [if_pos ((e60 (by omega)).mpr k), if_pos k]
        · rw [if_neg (fun q => k ((e60 (by omega)).mp q)), if_neg k]
  · exact Or.inr h
theorem case_snaps {E : EV} {L : LW} {μ : Mem} (hI : Inv E L μ) (p1 : Int32) : P_W_28 p1 μ ∧ Inv E L (M_W_28 p1 μ) := by
  have h := wrapN (K_X9_snaps p1 μ) (F_X9_snaps p1 μ) (M_X9_snaps p1 μ) (P_X9_snaps p1 μ) (F_X10_snaps p1) (M_X10_snaps p1) (P_X10_snaps p1) hI (q_snaps hI p1)
  unfold P_W_28 M_W_28 muL_law_c28_2 muL_law_c28_1 M_L_snaps W_L_snaps F_X10_thrown
  exact h
