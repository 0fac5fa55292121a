/-! questions: house, thing, height, find, would, due -/

theorem q_house {E : EV} {L : LW} {μ : Mem} (hI : Inv E L μ) (p1 p2 : Int32) : Q w2 jB μ (K_X9_house p1 p2 μ) (F_X9_house p1 p2 μ) (M_X9_house p1 p2 μ) (P_X9_house p1 p2 μ) (F_X10_house p1 p2) (M_X10_house p1 p2) (P_X10_house p1 p2) := by
  rcases gate_house hI p1 p2 with ⟨h1, h2, hK, ⟨s1, s2⟩, hg⟩ | h
  · have hO := hI.1
    have hE := hI.E
    have hS := hI.S
    obtain ⟨a, ha, e521, e44⟩ := hI.row
    have hd := hO.1
    obtain ⟨h, hl, rfl⟩ := inR_el (by omega) h1
    have eTT : F_X5_tideToCome 43 μ = nI a := by rw [ofT, e44]
    obtain ⟨c1, c2⟩ := sp_heightOf (a := a) hE hO (by omega)
    obtain ⟨t1, t2⟩ := sp_thingsIn (th := 43) (h := nI h) hE hO hS.1
    have hw := sp_waterC (th := 43) (hh := hgt E a) hO hl (hS.1.2.1 h hl)
    refine Or.inl ⟨hK, ?_, ?_, fun ν hν => ?_⟩
    · unfold P_X9_house
      rw [s2, eTT]
      exact fun _ _ => ⟨fun _ => trivial, fun _ => trivial, fun _ => c1, fun _ => t1, fun _ => trivial⟩
    · unfold M_X9_house
      rw [s2, s1, ite_self]
      exact KQ.rfl μ
    · obtain ⟨⟨bp2, bf2, m3⟩, ⟨bp4, bf4, m5⟩⟩ := hg ν hν
      have m1 : muX10_house_1 (nI h) p2 ν = upm ν 57 0 0 := rfl
      obtain ⟨hI0, hk0⟩ := nu_of hI hν
      have r521 := hk0.at 521 (by omega)
      have hM := hI0.M
      obtain ⟨w1, w2⟩ := sp_waterIn (row := 521) hM hO hl (show a < 2 ^ 31 by omega) (by rw [r521, e521])
      obtain ⟨v1, v2⟩ := sp_sillOf (row := 521) hM hO hl
      rw [hI0.wd, Int32.add_zero, r521] at w2
      rw [r521] at v2
      have i50 : ix (50 + nI h) = 50 + h := by rw [c50, nI_ix (by omega)]
      have i56 : ix (56 + nI h) = 56 + h := by rw [c56, nI_ix (by omega)]
      have u50 : vp_in (50 + nI h) 63 := by rw [c50]; exact vp_in_nI (by omega) (by omega)
      have u56 : vp_in (56 + nI h) 63 := by rw [c56]; exact vp_in_nI (by omega) (by omega)
      have hN : NX10_house_57 (nI h) p2 ν = eT E := by
        unfold NX10_house_57
        rw [m5, hM.2.1, nI_ix (by omega)]
      have hB : SX10_house_57 (nI h) p2 ν = bitsR E (μ 521) (nI h) := by
        unfold SX10_house_57 bitsR
        rw [hN, m5]
        refine fo_congr _ _ _ _ fun i hi s => ?_
        unfold g_X10_house_57 VX10_house_57_1
        rw [c0, nI_ix (by omega), r521]
        by_cases q : μ 521 i = nI h
        · rw [if_neg (not_not_intro q), if_pos q]
        · rw [if_pos q, if_neg q, Int32.or_zero]
      obtain ⟨km1, km2, km3⟩ : KQ ν (M_X10_house (nI h) p2 ν) ∧ M_X10_house (nI h) p2 ν 57 0 = 0 ∧ M_X10_house (nI h) p2 ν 548 0 = ν 548 0 := by
        unfold M_X10_house
        rw [m3, m5, ite_self]
        exact km (KM.rfl _)
      refine ⟨?_, ?_, km1, km2, km3⟩
      · unfold P_X10_house
        rw [m3, m5, hN, hM.2.1]
        refine ⟨bp2, fun _ => trivial, fun _ => ⟨bp4, fun _ => ⟨fun j hj => ?_, fun _ => ⟨fun _ => v1, fun _ => u50, fun _ => w1, fun _ => trivial, fun _ => u56⟩, fun q => absurd q n_lt⟩, fun _ => trivial⟩⟩
        unfold Pb_X10_house_57
        rw [hM.2.1, c0]
        exact ⟨fun q => absurd q (nI_ge hj (by omega)), fun _ => vp_in_nI (by omega) (by omega)⟩
      · unfold F_X10_house F_X9_house
        rw [m1, m3, m5, s2, if_neg (not_not_intro bf2), if_pos bf4, hB, i50, i56, r521, v2, w2, eTT, c2, hw, t2, of50 (by omega), of56 (by omega), of62 (by omega), hS.1.2.1 h hl, hS.1.2.2.1 h (by omega), hS.2.1 h (by omega)]
  · exact Or.inr h
theorem case_house {E : EV} {L : LW} {μ : Mem} (hI : Inv E L μ) (p1 p2 : Int32) : P_W_8 p1 p2 μ ∧ Inv E L (M_W_8 p1 p2 μ) := by
  have h := wrapB (K_X9_house p1 p2 μ) (F_X9_house p1 p2 μ) (M_X9_house p1 p2 μ) (P_X9_house p1 p2 μ) (F_X10_house p1 p2) (M_X10_house p1 p2) (P_X10_house p1 p2) hI (q_house hI p1 p2)
  unfold P_W_8 M_W_8 muL_law_c8_2 muL_law_c8_1 M_L_house W_L_house F_X10_thrown
  exact h

theorem q_thing {E : EV} {L : LW} {μ : Mem} (hI : Inv E L μ) (p1 p2 : Int32) : Q w2 jB μ (K_X9_thing p1 p2 μ) (F_X9_thing p1 p2 μ) (M_X9_thing p1 p2 μ) True (F_X10_thing p1 p2) (M_X10_thing p1 p2) (P_X10_thing p1 p2) := by
  rcases gate_thing hI p1 p2 with ⟨h1, h2, hK, ⟨s1, s2⟩, hg⟩ | h
  · have hO := hI.1
    have hE := hI.E
    have hS := hI.S
    obtain ⟨a, ha, e521, e44⟩ := hI.row
    have hd := hO.1
    obtain ⟨t, ht, rfl⟩ := inR_el (by omega) h1
    refine Or.inl ⟨hK, ?_, ?_, fun ν hν => ?_⟩
    · trivial
    · unfold M_X9_thing
      rw [s2, s1, ite_self]
      exact KQ.rfl μ
    · obtain ⟨⟨bp2, bf2, m3⟩, ⟨bp4, bf4, m5⟩⟩ := hg ν hν
      have m1 : muX10_thing_1 (nI t) p2 ν = upm ν 57 0 0 := rfl
      obtain ⟨hI0, hk0⟩ := nu_of hI hν
      have r521 := hk0.at 521 (by omega)
      have hM := hI0.M
      have i0 : ix (0 + nI t) = t := by rw [c0, nI_ix (by omega)]
      have i10 : ix (10 + nI t) = 10 + t := by rw [c10, nI_ix (by omega)]
      have i20 : ix (20 + nI t) = 20 + t := by rw [c20, nI_ix (by omega)]
      have i30 : ix (30 + nI t) = 30 + t := by rw [c30, nI_ix (by omega)]
      have i40 : ix (40 + nI t) = 40 + t := by rw [c40, nI_ix (by omega)]
      have u0 : vp_in (0 + nI t) 63 := by rw [c0]; exact vp_in_nI (by omega) (by omega)
      have u10 : vp_in (10 + nI t) 63 := by rw [c10]; exact vp_in_nI (by omega) (by omega)
      have u20 : vp_in (20 + nI t) 63 := by rw [c20]; exact vp_in_nI (by omega) (by omega)
      have u30 : vp_in (30 + nI t) 63 := by rw [c30]; exact vp_in_nI (by omega) (by omega)
      have u40 : vp_in (40 + nI t) 63 := by rw [c40]; exact vp_in_nI (by omega) (by omega)
      have ut : vp_in (nI t) 10 := vp_in_nI (by omega) (by omega)
      obtain ⟨km1, km2, km3⟩ : KQ ν (M_X10_thing (nI t) p2 ν) ∧ M_X10_thing (nI t) p2 ν 57 0 = 0 ∧ M_X10_thing (nI t) p2 ν 548 0 = ν 548 0 := by
        unfold M_X10_thing
        rw [m3, m5, ite_self]
        exact km (KM.rfl _)
      refine ⟨?_, ?_, km1, km2, km3⟩
      · unfold P_X10_thing
        rw [m3]
        exact ⟨bp2, fun _ => trivial, fun _ => ⟨bp4, fun _ => ⟨fun q => ⟨ut, by rw [q]; exact vp_of (by decide) (by decide)⟩, fun q => ⟨ut, by rw [q]; exact vp_of (by decide) (by decide)⟩, fun _ => u40, fun _ => u0, fun _ => u10, fun _ => u20, fun _ => u30⟩, fun _ => trivial⟩⟩
      · unfold F_X10_thing F_X9_thing
        rw [m1, m3, m5, s2, if_neg (not_not_intro bf2), if_pos bf4, i0, i10, i20, i30, i40, r521, at_k (by omega) (by omega), at_k (by omega) (by omega), of40 (by omega), of0 (by omega), of10 (by omega), of20 (by omega), of30 (by omega), hS.1.1 _ (by omega), hS.1.1 _ (by omega), hS.1.1 _ (by omega), hS.1.1 _ (by omega), hS.1.1 _ (by omega), nI_ix (by omega)]
        by_cases q0 : p2 = 0
        · subst q0
          rw [if_pos rfl, if_pos rfl]
          exact (hM.2.2.2.2.2.2.2.2.1 t ht 1 (by omega)).trans (hE.2.2.2.2.2.2.2.2.1 t ht).2.1.symm
        · rw [if_neg q0, if_neg q0]
          by_cases q1 : p2 = 1
          · subst q1
            rw [if_pos rfl, if_pos rfl]
            exact (hM.2.2.2.2.2.2.2.2.1 t ht 2 (by omega)).trans (hE.2.2.2.2.2.2.2.2.1 t ht).2.2.1.symm
          · rw [if_neg q1, if_neg q1]
  · exact Or.inr h
theorem case_thing {E : EV} {L : LW} {μ : Mem} (hI : Inv E L μ) (p1 p2 : Int32) : P_W_9 p1 p2 μ ∧ Inv E L (M_W_9 p1 p2 μ) := by
  have h := wrapBn (K_X9_thing p1 p2 μ) (F_X9_thing p1 p2 μ) (M_X9_thing p1 p2 μ) (F_X10_thing p1 p2) (M_X10_thing p1 p2) (P_X10_thing p1 p2) hI (q_thing hI p1 p2)
  unfold P_W_9 M_W_9 muL_law_c9_2 muL_law_c9_1 M_L_thing W_L_thing F_X10_thrown
  exact h

theorem q_height {E : EV} {L : LW} {μ : Mem} (hI : Inv E L μ) (p1 : Int32) : Q w1 jI μ (K_X9_height p1 μ) (F_X9_height p1 μ) (M_X9_height p1 μ) (P_X9_height p1 μ) (F_X10_height p1) (M_X10_height p1) (P_X10_height p1) := by
  rcases gate_height hI p1 with ⟨h1, hK, s1, hg⟩ | h
  · have hO := hI.1
    have hE := hI.E
    have hS := hI.S
    obtain ⟨a, ha, e521, e44⟩ := hI.row
    have hd := hO.1
    obtain ⟨n, hn, rfl⟩ := inR_n (n := 99) h1 (Int32.le_refl 0) (by decide)
    have eTT : F_X5_tideToCome 43 μ = nI a := by rw [ofT, e44]
    obtain ⟨c1, c2⟩ := sp_heightOf (a := a + n) hE hO (by omega)
    refine Or.inl ⟨hK, ?_, ?_, fun ν hν => ?_⟩
    · unfold P_X9_height
      rw [s1, eTT, nI_add]
      exact fun _ => c1
    · unfold M_X9_height
      rw [s1]
      exact KQ.rfl μ
    · obtain ⟨bp2, bf2, m3⟩ := hg ν hν
      have m1 : muX10_height_1 (nI n) ν = upm ν 57 0 0 := rfl
      obtain ⟨hI0, hk0⟩ := nu_of hI hν
      have r521 := hk0.at 521 (by omega)
      have hM := hI0.M
      obtain ⟨d1, d2⟩ := sp_heightIn (a := a + n) hM hO (by omega)
      have e62 : upm ν 57 0 0 521 62 = nI a := by rw [r521, e521]
      obtain ⟨km1, km2, km3⟩ : KQ ν (M_X10_height (nI n) ν) ∧ M_X10_height (nI n) ν 57 0 = 0 ∧ M_X10_height (nI n) ν 548 0 = ν 548 0 := by
        unfold M_X10_height
        rw [m3]
        exact km (KM.rfl _)
      refine ⟨?_, ?_, km1, km2, km3⟩
      · unfold P_X10_height
        rw [m3, e62, nI_add]
        exact ⟨bp2, fun _ => d1, fun _ => trivial⟩
      · unfold F_X10_height F_X9_height
        rw [m1, m3, s1, if_pos bf2, e62, eTT, nI_add, c2, d2]
  · exact Or.inr h
theorem case_height {E : EV} {L : LW} {μ : Mem} (hI : Inv E L μ) (p1 : Int32) : P_W_10 p1 μ ∧ Inv E L (M_W_10 p1 μ) := by
  have h := wrapI (K_X9_height p1 μ) (F_X9_height p1 μ) (M_X9_height p1 μ) (P_X9_height p1 μ) (F_X10_height p1) (M_X10_height p1) (P_X10_height p1) hI (q_height hI p1)
  unfold P_W_10 M_W_10 muL_law_c10_2 muL_law_c10_1 M_L_height W_L_height F_X10_thrown
  exact h

theorem q_find {E : EV} {L : LW} {μ : Mem} (hI : Inv E L μ) (p1 p2 : Int32) : Q w2 jB μ (K_X9_find p1 p2 μ) (F_X9_find p1 p2 μ) (M_X9_find p1 p2 μ) True (F_X10_find p1 p2) (M_X10_find p1 p2) (P_X10_find p1 p2) := by
  rcases gate_find hI p1 p2 with ⟨h1, h2, hK, ⟨s1, s2⟩, hg⟩ | h
  · have hO := hI.1
    have hE := hI.E
    have hS := hI.S
    obtain ⟨a, ha, e521, e44⟩ := hI.row
    have hd := hO.1
    obtain ⟨f, hf, rfl⟩ := inR_el (by omega) h1
    obtain ⟨w, hw, rfl⟩ := inR_n (n := 1) h2 (Int32.le_refl 0) (by decide)
    refine Or.inl ⟨hK, ?_, ?_, fun ν hν => ?_⟩
    · trivial
    · unfold M_X9_find
      rw [s2, s1, ite_self]
      exact KQ.rfl μ
    · obtain ⟨⟨bp2, bf2, m3⟩, ⟨bp4, bf4, m5⟩⟩ := hg ν hν
      have m1 : muX10_find_1 (nI f) (nI w) ν = upm ν 57 0 0 := rfl
      obtain ⟨hI0, hk0⟩ := nu_of hI hν
      have r521 := hk0.at 521 (by omega)
      have hM := hI0.M
      obtain ⟨km1, km2, km3⟩ : KQ ν (M_X10_find (nI f) (nI w) ν) ∧ M_X10_find (nI f) (nI w) ν 57 0 = 0 ∧ M_X10_find (nI f) (nI w) ν 548 0 = ν 548 0 := by
        unfold M_X10_find
        rw [m3, m5, ite_self]
        exact km (KM.rfl _)
      refine ⟨?_, ?_, km1, km2, km3⟩
      · unfold P_X10_find
        rw [m3]
        exact ⟨bp2, fun _ => trivial, fun _ => ⟨bp4, fun _ => ⟨vp_in_nI (by omega) (by omega), vp_in_nI (by omega) (by omega)⟩, fun _ => trivial⟩⟩
      · unfold F_X10_find F_X9_find
        rw [m1, m3, m5, s2, if_neg (not_not_intro bf2), if_pos bf4, at_k (by omega) (by omega), at_k (by omega) (by omega), nI_ix (by omega), nI_ix (by omega)]
        rw [hM.2.2.2.2.2.2.2.2.2 f hf w (by omega), (hE.2.2.2.2.2.2.2.2.2 f hf).1, (hE.2.2.2.2.2.2.2.2.2 f hf).2]
        have : w = 0 ∨ w = 1 := by omega
        rcases this with rfl | rfl
        · rw [if_neg (by decide)]
        · rw [if_pos (by decide)]
  · exact Or.inr h
theorem case_find {E : EV} {L : LW} {μ : Mem} (hI : Inv E L μ) (p1 p2 : Int32) : P_W_11 p1 p2 μ ∧ Inv E L (M_W_11 p1 p2 μ) := by
  have h := wrapBn (K_X9_find p1 p2 μ) (F_X9_find p1 p2 μ) (M_X9_find p1 p2 μ) (F_X10_find p1 p2) (M_X10_find p1 p2) (P_X10_find p1 p2) hI (q_find hI p1 p2)
  unfold P_W_11 M_W_11 muL_law_c11_2 muL_law_c11_1 M_L_find W_L_find F_X10_thrown
  exact h

theorem q_would {E : EV} {L : LW} {μ : Mem} (hI : Inv E L μ) (p1 p2 p3 p4 p5 p6 : Int32) : Q w1 jI μ (K_X9_would p1 p2 p3 p4 p5 p6 μ) (F_X9_would p1 p2 p3 p4 p5 p6 μ) (M_X9_would p1 p2 p3 p4 p5 p6 μ) (P_X9_would p1 p2 p3 p4 p5 p6 μ) (F_X10_would p1 p2 p3 p4 p5 p6) (M_X10_would p1 p2 p3 p4 p5 p6) (P_X10_would p1 p2 p3 p4 p5 p6) := by
  rcases gate_would hI p1 p2 p3 p4 p5 p6 with ⟨h1, h2, h3, h4, h5, h6, hK, ⟨s1, s2, s3, s4, s5, s6⟩, hg⟩ | h
  · have hO := hI.1
    have hE := hI.E
    have hS := hI.S
    obtain ⟨a, ha, e521, e44⟩ := hI.row
    have hd := hO.1
    obtain ⟨w1, w2, w3⟩ := sp_dueByC (d := p1) (l := p2) (w := p3) (t := p4) (r := p5) (h := p6) hI.LO hI.LC
    refine Or.inl ⟨hK, ?_, ?_, fun ν hν => ?_⟩
    · unfold P_X9_would
      rw [s6]
      exact fun _ _ _ _ _ _ => w1
    · have h7 : KQ μ (muX9_would_7 p1 p2 p3 p4 p5 p6 μ) := by
        unfold muX9_would_7
        rw [s6]
        exact KQ.offC fun q q1 q2 _ _ _ => w3 q q1 q2
      unfold M_X9_would
      rw [s1, s2, s3, s4, s5, s6]
      repeat' split
      all_goals first | exact h7 | exact KQ.rfl μ
    · obtain ⟨bp2, bf2, m3⟩ := hg ν hν
      have m1 : muX10_would_1 p1 p2 p3 p4 p5 p6 ν = upm ν 57 0 0 := rfl
      obtain ⟨hI0, hk0⟩ := nu_of hI hν
      have r521 := hk0.at 521 (by omega)
      have hM := hI0.M
      obtain ⟨d1, d2, d3⟩ := sp_dueBy (d := p1) (l := p2) (w := p3) (t := p4) (r := p5) (h := p6) hI.LO hI0.LM
      obtain ⟨km1, km2, km3⟩ : KQ ν (M_X10_would p1 p2 p3 p4 p5 p6 ν) ∧ M_X10_would p1 p2 p3 p4 p5 p6 ν 57 0 = 0 ∧ M_X10_would p1 p2 p3 p4 p5 p6 ν 548 0 = ν 548 0 := by
        unfold M_X10_would muX10_would_4
        rw [m1, m3, if_pos bf2]
        exact km (KM.off fun q q1 q2 _ _ => d3 q q1 q2)
      refine ⟨?_, ?_, km1, km2, km3⟩
      · unfold P_X10_would
        rw [m3]
        exact ⟨bp2, fun _ => d1, fun _ => trivial⟩
      · unfold F_X10_would F_X9_would
        rw [m1, m3, s6, if_pos bf2, d2, w2]
  · exact Or.inr h
theorem case_would {E : EV} {L : LW} {μ : Mem} (hI : Inv E L μ) (p1 p2 p3 p4 p5 p6 : Int32) : P_W_13 p1 p2 p3 p4 p5 p6 μ ∧ Inv E L (M_W_13 p1 p2 p3 p4 p5 p6 μ) := by
  have h := wrapI (K_X9_would p1 p2 p3 p4 p5 p6 μ) (F_X9_would p1 p2 p3 p4 p5 p6 μ) (M_X9_would p1 p2 p3 p4 p5 p6 μ) (P_X9_would p1 p2 p3 p4 p5 p6 μ) (F_X10_would p1 p2 p3 p4 p5 p6) (M_X10_would p1 p2 p3 p4 p5 p6) (P_X10_would p1 p2 p3 p4 p5 p6) hI (q_would hI p1 p2 p3 p4 p5 p6)
  unfold P_W_13 M_W_13 muL_law_c13_2 muL_law_c13_1 M_L_would W_L_would F_X10_thrown
  exact h
