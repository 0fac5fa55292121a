/-! questions: neap, dry, fullest, loads, dearest -/

theorem q_neap {E : EV} {L : LW} {μ : Mem} (hI : Inv E L μ) (p1 : Int32) : Q w1 jI μ (K_X9_neap p1 μ) (F_X9_neap p1 μ) (M_X9_neap p1 μ) (P_X9_neap p1 μ) (F_X10_neap p1) (M_X10_neap p1) (P_X10_neap p1) := by
  rcases gate_neap hI p1 with ⟨h1, hK, s1, hg⟩ | h
  · have hO := hI.1
    have hE := hI.E
    have hS := hI.S
    obtain ⟨a, ha, e521, e44⟩ := hI.row
    have hd := hO.1
    obtain ⟨f1, f2⟩ := sp_longest (w := p1) hE hO hS.1 e521 (by omega)
    refine Or.inl ⟨hK, ?_, ?_, fun ν hν => ?_⟩
    · unfold P_X9_neap
      rw [s1]
      exact fun _ => f1
    · unfold M_X9_neap
      rw [s1]
      exact KQ.rfl μ
    · obtain ⟨bp2, bf2, m3⟩ := hg ν hν
      have m1 : muX10_neap_1 p1 ν = upm ν 57 0 0 := rfl
      obtain ⟨hI0, hk0⟩ := nu_of hI hν
      have r521 := hk0.at 521 (by omega)
      have hM := hI0.M
      have hS' : SX10_neap_40 p1 ν = nrO E (μ 521) a 60 := by
        unfold SX10_neap_40
        rw [m3]
        refine fo_congr _ _ _ _ fun i hi s => ?_
        have hi60 : i < 60 := hi
        unfold g_X10_neap_40 VX10_neap_40_2 VX10_neap_40_3 VX10_neap_40_1
        rw [(sp_inAny hM hO r521 e521 (by omega) (by omega)).2]
        dsimp only
        generalize (if anyI E (μ 521) a i (-1) = 0 then s.2.2 + 1 else 0) = w
        by_cases q : w ≤ s.1
        · rw [if_neg (Int32.not_lt.mpr q), if_neg (Int32.not_lt.mpr q), if_pos q, if_pos q]
        · rw [if_pos (Int32.not_le.mp q), if_pos (Int32.not_le.mp q), if_neg q, if_neg q]
          have : nI i - w + 1 = nI i + 1 - w := by grind
          rw [this]
      have hN : NX10_neap_40 p1 ν = 60 := rfl
      obtain ⟨km1, km2, km3⟩ : KQ ν (M_X10_neap p1 ν) ∧ M_X10_neap p1 ν 57 0 = 0 ∧ M_X10_neap p1 ν 548 0 = ν 548 0 := by
        unfold M_X10_neap
        rw [m3]
        exact km (KM.rfl _)
      refine ⟨?_, ?_, km1, km2, km3⟩
      · unfold P_X10_neap
        rw [m3, hN]
        refine ⟨bp2, fun _ => ⟨fun j hj => ?_, fun _ => trivial, fun q => absurd q (by decide)⟩, fun _ => trivial⟩
        unfold Pb_X10_neap_40
        exact ⟨fun q => nI_ge (b := 60) hj (by omega) q, fun _ => (sp_inAny hM hO r521 e521 (by omega) (by omega)).1⟩
      · unfold F_X10_neap F_X9_neap
        rw [m1, if_pos bf2, s1, f2, hS']
  · exact Or.inr h
theorem case_neap {E : EV} {L : LW} {μ : Mem} (hI : Inv E L μ) (p1 : Int32) : P_W_31 p1 μ ∧ Inv E L (M_W_31 p1 μ) := by
  have h := wrapI (K_X9_neap p1 μ) (F_X9_neap p1 μ) (M_X9_neap p1 μ) (P_X9_neap p1 μ) (F_X10_neap p1) (M_X10_neap p1) (P_X10_neap p1) hI (q_neap hI p1)
  unfold P_W_31 M_W_31 muL_law_c31_2 muL_law_c31_1 M_L_neap W_L_neap F_X10_thrown
  exact h

theorem q_dry {E : EV} {L : LW} {μ : Mem} (hI : Inv E L μ) (p1 p2 : Int32) : Q w1 jI μ (K_X9_dry p1 p2 μ) (F_X9_dry p1 p2 μ) (M_X9_dry p1 p2 μ) (P_X9_dry p1 p2 μ) (F_X10_dry p1 p2) (M_X10_dry p1 p2) (P_X10_dry p1 p2) := by
  rcases gate_dry hI p1 p2 with ⟨h1, h2, hK, ⟨s1, s2⟩, hg⟩ | h
  · have hO := hI.1
    have hE := hI.E
    have hS := hI.S
    obtain ⟨a, ha, e521, e44⟩ := hI.row
    have hd := hO.1
    obtain ⟨n, hn, rfl⟩ := inR_n (n := 60) h2 (Int32.le_refl 0) (by decide)
    have hN9 : NX9_dry_18 p1 (nI n) μ = n := nI_ix (by omega)
    have hw : ∀ i, i < 100 → P_X0_comesIntoAny p1 (nI i) μ ∧ F_X0_comesIntoAny p1 (nI i) μ = anyI E (μ 521) a i p1 := fun i hi => sp_intoAny hE hO hS.1 e521 (by omega) hi
    have hS9 : SX9_dry_18 p1 (nI n) μ = dryV E (μ 521) a p1 n := by
      unfold SX9_dry_18
      rw [hN9, s2]
      refine fo_congr _ _ _ _ fun i hi s => ?_
      unfold g_X9_dry_18 VX9_dry_18_1
      rw [(hw i (by omega)).2]
    refine Or.inl ⟨hK, ?_, ?_, fun ν hν => ?_⟩
    · unfold P_X9_dry
      rw [s2, hN9]
      refine fun _ _ => ⟨fun j hj => ?_, fun _ => trivial, fun q => absurd q n_lt⟩
      unfold Pb_X9_dry_18
      exact ⟨fun q => nI_ge hj (by omega) q, fun _ => (hw j (by omega)).1⟩
    · unfold M_X9_dry
      rw [s1, s2, ite_self]
      exact KQ.rfl μ
    · obtain ⟨bp2, bf2, m3⟩ := hg ν hν
      have m1 : muX10_dry_1 p1 (nI n) ν = upm ν 57 0 0 := rfl
      obtain ⟨hI0, hk0⟩ := nu_of hI hν
      have r521 := hk0.at 521 (by omega)
      have hM := hI0.M
      have hN : NX10_dry_44 p1 (nI n) ν = n := nI_ix (by omega)
      have hNi : ∀ i s, NX10_dry_44_56 p1 (nI n) (upm ν 57 0 0) i s = eH E := fun i s => by
        unfold NX10_dry_44_56
        rw [hM.1, nI_ix (by omega)]
      have hS' : SX10_dry_44 p1 (nI n) ν = dryV E (μ 521) a p1 n := by
        unfold SX10_dry_44
        rw [hN, m3]
        refine fo_congr _ _ _ _ fun i hi s => ?_
        unfold g_X10_dry_44 VX10_dry_44_1 SX10_dry_44_56
        rw [hNi, (sp_dryIn hM hO r521 e521 (by omega) (by omega)).2]
        by_cases q : anyI E (μ 521) a i p1 ≠ 0
        · rw [if_pos q, if_pos q, if_pos rfl, Int32.add_zero]
        · rw [if_neg q, if_neg q, if_neg (by decide)]
      obtain ⟨km1, km2, km3⟩ : KQ ν (M_X10_dry p1 (nI n) ν) ∧ M_X10_dry p1 (nI n) ν 57 0 = 0 ∧ M_X10_dry p1 (nI n) ν 548 0 = ν 548 0 := by
        unfold M_X10_dry
        rw [m3]
        exact km (KM.rfl _)
      refine ⟨?_, ?_, km1, km2, km3⟩
      · unfold P_X10_dry
        rw [m3, hN]
        refine ⟨bp2, fun _ => ⟨fun j hj => ?_, fun _ => trivial, fun q => absurd q n_lt⟩, fun _ => trivial⟩
        unfold Pb_X10_dry_44
        rw [hNi, hM.1]
        exact ⟨fun q => nI_ge hj (by omega) q, fun _ => ⟨(sp_dryIn hM hO r521 e521 (by omega) (by omega)).1, fun _ => trivial, fun q => absurd q n_lt⟩⟩
      · unfold F_X10_dry F_X9_dry
        rw [m1, if_pos bf2, hS9, hS']
  · exact Or.inr h
theorem case_dry {E : EV} {L : LW} {μ : Mem} (hI : Inv E L μ) (p1 p2 : Int32) : P_W_34 p1 p2 μ ∧ Inv E L (M_W_34 p1 p2 μ) := by
  have h := wrapI (K_X9_dry p1 p2 μ) (F_X9_dry p1 p2 μ) (M_X9_dry p1 p2 μ) (P_X9_dry p1 p2 μ) (F_X10_dry p1 p2) (M_X10_dry p1 p2) (P_X10_dry p1 p2) hI (q_dry hI p1 p2)
  unfold P_W_34 M_W_34 muL_law_c34_2 muL_law_c34_1 M_L_dry W_L_dry F_X10_thrown
  exact h

theorem q_fullest {E : EV} {L : LW} {μ : Mem} (hI : Inv E L μ) (p1 : Int32) : Q w1 jI μ (K_X9_fullest p1 μ) (F_X9_fullest p1 μ) (M_X9_fullest p1 μ) (P_X9_fullest p1 μ) (F_X10_fullest p1) (M_X10_fullest p1) (P_X10_fullest p1) := by
  rcases gate_fullest hI p1 with ⟨h1, hK, s1, hg⟩ | h
  · have hO := hI.1
    have hE := hI.E
    have hS := hI.S
    obtain ⟨a, ha, e521, e44⟩ := hI.row
    have hd := hO.1
    have hN9 : NX9_fullest_14 p1 μ = eH E := by
      unfold NX9_fullest_14
      rw [s1, hE.1, nI_ix (by omega)]
    refine Or.inl ⟨hK, ?_, ?_, fun ν hν => ?_⟩
    · unfold P_X9_fullest
      rw [s1, hN9, hE.1]
      refine fun _ => ⟨fun j hj => ?_, fun _ => trivial, fun q => absurd q n_lt⟩
      unfold Pb_X9_fullest_14
      rw [hE.1]
      exact ⟨fun q => nI_ge hj (by omega) q, fun _ => (sp_thingsIn (th := 43) hE hO hS.1).1⟩
    · unfold M_X9_fullest
      rw [s1]
      exact KQ.rfl μ
    · obtain ⟨bp2, bf2, m3⟩ := hg ν hν
      have m1 : muX10_fullest_1 p1 ν = upm ν 57 0 0 := rfl
      obtain ⟨hI0, hk0⟩ := nu_of hI hν
      have r521 := hk0.at 521 (by omega)
      have hM := hI0.M
      have hN : NX10_fullest_37 p1 ν = eH E := by
        unfold NX10_fullest_37
        rw [m3, hM.1, nI_ix (by omega)]
      have ht : ∀ x, P_X10_thingsIn x (upm ν 57 0 0) ∧ F_X10_thingsIn x (upm ν 57 0 0) = fo (eT E) (fun t s => s + if μ 521 t = x then (1 : Int32) else 0) 0 := fun x => by
        have hNt : NX10_thingsIn_4 x (upm ν 57 0 0) = eT E := by
          unfold NX10_thingsIn_4
          rw [hM.2.1, nI_ix (by omega)]
        unfold P_X10_thingsIn F_X10_thingsIn SX10_thingsIn_4
        rw [hNt, hM.2.1]
        refine ⟨⟨fun j hj => ?_, fun _ => trivial, fun q => absurd q n_lt⟩, fo_congr _ _ _ _ fun i hi s => ?_⟩
        · unfold Pb_X10_thingsIn_4
          rw [hM.2.1, c0]
          exact ⟨fun q => nI_ge hj (by omega) q, fun _ => vp_in_nI (by omega) (by omega)⟩
        · unfold g_X10_thingsIn_4 VX10_thingsIn_4_1
          rw [c0, nI_ix (by omega), r521]
          by_cases q : μ 521 i = x
          · rw [if_neg (not_not_intro q), if_pos q]
          · rw [if_pos q, if_neg q]
      have hS' : SX10_fullest_37 p1 ν = SX9_fullest_14 p1 μ := by
        unfold SX10_fullest_37 SX9_fullest_14
        rw [hN, hN9, m3, s1]
        refine fo_congr _ _ _ _ fun i hi s => ?_
        unfold g_X10_fullest_37 VX10_fullest_37_1 VX10_fullest_37_2 g_X9_fullest_14 VX9_fullest_14_1 VX9_fullest_14_2
        rw [(sp_thingsIn (th := 43) hE hO hS.1).2, bc_bits hO, (ht _).2]
        by_cases q : fo (eT E) (fun t s => s + if μ 521 t = nI i then (1 : Int32) else 0) 0 ≤ s.2
        · rw [if_neg (Int32.not_lt.mpr q), if_neg (Int32.not_lt.mpr q), if_pos q, if_pos q]
        · rw [if_pos (Int32.not_le.mp q), if_pos (Int32.not_le.mp q), if_neg q, if_neg q]
      obtain ⟨km1, km2, km3⟩ : KQ ν (M_X10_fullest p1 ν) ∧ M_X10_fullest p1 ν 57 0 = 0 ∧ M_X10_fullest p1 ν 548 0 = ν 548 0 := by
        unfold M_X10_fullest
        rw [m3]
        exact km (KM.rfl _)
      refine ⟨?_, ?_, km1, km2, km3⟩
      · unfold P_X10_fullest
        rw [m3, hN, hM.1]
        refine ⟨bp2, fun _ => ⟨fun j hj => ?_, fun _ => trivial, fun q => absurd q n_lt⟩, fun _ => trivial⟩
        unfold Pb_X10_fullest_37
        rw [hM.1]
        exact ⟨fun q => nI_ge hj (by omega) q, fun _ => ⟨(ht _).1, fun _ => (ht _).1, fun _ => trivial⟩⟩
      · unfold F_X10_fullest F_X9_fullest
        rw [m1, if_pos bf2, hS']
  · exact Or.inr h
theorem case_fullest {E : EV} {L : LW} {μ : Mem} (hI : Inv E L μ) (p1 : Int32) : P_W_29 p1 μ ∧ Inv E L (M_W_29 p1 μ) := by
  have h := wrapI (K_X9_fullest p1 μ) (F_X9_fullest p1 μ) (M_X9_fullest p1 μ) (P_X9_fullest p1 μ) (F_X10_fullest p1) (M_X10_fullest p1) (P_X10_fullest p1) hI (q_fullest hI p1)
  unfold P_W_29 M_W_29 muL_law_c29_2 muL_law_c29_1 M_L_fullest W_L_fullest F_X10_thrown
  exact h

theorem q_loads {E : EV} {L : LW} {μ : Mem} (hI : Inv E L μ) (p1 p2 : Int32) : Q w2 jB μ (K_X9_loads p1 p2 μ) (F_X9_loads p1 p2 μ) (M_X9_loads p1 p2 μ) (P_X9_loads p1 p2 μ) (F_X10_loads p1 p2) (M_X10_loads p1 p2) (P_X10_loads p1 p2) := by
  rcases gate_loads hI p1 p2 with ⟨h1, h2, hK, ⟨s1, s2⟩, hg⟩ | h
  · have hO := hI.1
    have hE := hI.E
    have hS := hI.S
    obtain ⟨a, ha, e521, e44⟩ := hI.row
    have hd := hO.1
    have hN9 : NX9_loads_17 p1 p2 μ = eT E := by
      unfold NX9_loads_17
      rw [s2, hE.2.1, nI_ix (by omega)]
    refine Or.inl ⟨hK, ?_, ?_, fun ν hν => ?_⟩
    · unfold P_X9_loads
      rw [s2, hN9, hE.2.1]
      refine fun _ _ => ⟨fun j hj => ?_, fun _ => trivial, fun q => absurd q n_lt⟩
      unfold Pb_X9_loads_17
      rw [hE.2.1]
      exact ⟨fun q => nI_ge hj (by omega) q, fun _ => trivial⟩
    · unfold M_X9_loads
      rw [s1, s2, ite_self]
      exact KQ.rfl μ
    · obtain ⟨⟨bp2, bf2, m3⟩, ⟨bp4, bf4, m5⟩⟩ := hg ν hν
      have m1 : muX10_loads_1 p1 p2 ν = upm ν 57 0 0 := rfl
      obtain ⟨hI0, hk0⟩ := nu_of hI hν
      have r521 := hk0.at 521 (by omega)
      have hM := hI0.M
      have hN : NX10_loads_57 p1 p2 ν = eT E := by
        unfold NX10_loads_57
        rw [m5, hM.2.1, nI_ix (by omega)]
      have hS' : SX10_loads_57 p1 p2 ν = SX9_loads_17 p1 p2 μ := by
        unfold SX10_loads_57 SX9_loads_17
        rw [hN, hN9, m5, s2]
        refine fo_congr _ _ _ _ fun i hi s => ?_
        unfold g_X10_loads_57 VX10_loads_57_1 g_X9_loads_17 VX9_loads_17_1
        rw [c0, c10, nI_ix (by omega), nI_ix (by omega), of0 (by omega), of10 (by omega), at_k (by omega) (by omega), hS.1.1 i (by omega), hS.1.1 (10 + i) (by omega), r521, (hE.2.2.2.2.2.2.2.2.1 i hi).2.1, hM.2.2.2.2.2.2.2.2.1 i hi 1 (by omega)]
        by_cases q : μ 521 i = p1
        · rw [if_neg (not_not_intro q), if_neg (not_not_intro q)]
          by_cases z : μ 521 (10 + i) = p2
          · rw [if_neg (not_not_intro z), if_neg (not_not_intro z)]
          · rw [if_pos z, if_pos z, Int32.add_zero]
        · rw [if_pos q, if_pos q, Int32.add_zero]
      obtain ⟨km1, km2, km3⟩ : KQ ν (M_X10_loads p1 p2 ν) ∧ M_X10_loads p1 p2 ν 57 0 = 0 ∧ M_X10_loads p1 p2 ν 548 0 = ν 548 0 := by
        unfold M_X10_loads
        rw [m3, m5, ite_self]
        exact km (KM.rfl _)
      refine ⟨?_, ?_, km1, km2, km3⟩
      · unfold P_X10_loads
        rw [m3, m5, hN, hM.2.1]
        refine ⟨bp2, fun _ => trivial, fun _ => ⟨bp4, fun _ => ⟨fun j hj => ?_, fun _ => trivial, fun q => absurd q n_lt⟩, fun _ => trivial⟩⟩
        unfold Pb_X10_loads_57
        rw [hM.2.1, c0, c10]
        exact ⟨fun q => nI_ge hj (by omega) q, fun _ => ⟨vp_in_nI (by omega) (by omega), fun _ => trivial, fun _ => ⟨vp_in_nI (by omega) (by omega), fun _ => trivial, fun _ => vp_in_nI (by omega) (by omega)⟩⟩⟩
      · unfold F_X10_loads F_X9_loads
        rw [m1, m3, if_neg (not_not_intro bf2), if_pos bf4, hS']
  · exact Or.inr h
theorem case_loads {E : EV} {L : LW} {μ : Mem} (hI : Inv E L μ) (p1 p2 : Int32) : P_W_32 p1 p2 μ ∧ Inv E L (M_W_32 p1 p2 μ) := by
  have h := wrapB (K_X9_loads p1 p2 μ) (F_X9_loads p1 p2 μ) (M_X9_loads p1 p2 μ) (P_X9_loads p1 p2 μ) (F_X10_loads p1 p2) (M_X10_loads p1 p2) (P_X10_loads p1 p2) hI (q_loads hI p1 p2)
  unfold P_W_32 M_W_32 muL_law_c32_2 muL_law_c32_1 M_L_loads W_L_loads F_X10_thrown
  exact h

theorem q_dearest {E : EV} {L : LW} {μ : Mem} (hI : Inv E L μ) (p1 : Int32) : Q w1 jI μ (K_X9_dearest p1 μ) (F_X9_dearest p1 μ) (M_X9_dearest p1 μ) (P_X9_dearest p1 μ) (F_X10_dearest p1) (M_X10_dearest p1) (P_X10_dearest p1) := by
  rcases gate_dearest hI p1 with ⟨h1, hK, s1, hg⟩ | h
  · have hO := hI.1
    have hE := hI.E
    have hS := hI.S
    obtain ⟨a, ha, e521, e44⟩ := hI.row
    have hd := hO.1
    have hN9 : NX9_dearest_14 p1 μ = eH E := by
      unfold NX9_dearest_14
      rw [s1, hE.1, nI_ix (by omega)]
    refine Or.inl ⟨hK, ?_, ?_, fun ν hν => ?_⟩
    · unfold P_X9_dearest
      rw [s1, hN9, hE.1]
      refine fun _ => ⟨fun j hj => ?_, fun _ => trivial, fun q => absurd q n_lt⟩
      unfold Pb_X9_dearest_14
      rw [hE.1]
      exact ⟨fun q => nI_ge hj (by omega) q, fun _ => trivial⟩
    · unfold M_X9_dearest
      rw [s1]
      exact KQ.rfl μ
    · obtain ⟨bp2, bf2, m3⟩ := hg ν hν
      have m1 : muX10_dearest_1 p1 ν = upm ν 57 0 0 := rfl
      obtain ⟨hI0, hk0⟩ := nu_of hI hν
      have r521 := hk0.at 521 (by omega)
      have hM := hI0.M
      have hN : NX10_dearest_37 p1 ν = eH E := by
        unfold NX10_dearest_37
        rw [m3, hM.1, nI_ix (by omega)]
      have hS' : SX10_dearest_37 p1 ν = SX9_dearest_14 p1 μ := by
        unfold SX10_dearest_37 SX9_dearest_14
        rw [hN, hN9, m3, s1]
        refine fo_congr _ _ _ _ fun i hi s => ?_
        unfold g_X10_dearest_37 VX10_dearest_37_1 VX10_dearest_37_2 g_X9_dearest_14 VX9_dearest_14_1 VX9_dearest_14_2
        rw [c56, nI_ix (by omega), of62 (by omega), hS.2.1 i (by omega), r521]
        by_cases q : μ 521 (56 + i) ≤ s.2
        · rw [if_neg (Int32.not_lt.mpr q), if_neg (Int32.not_lt.mpr q), if_pos q, if_pos q]
        · rw [if_pos (Int32.not_le.mp q), if_pos (Int32.not_le.mp q), if_neg q, if_neg q]
      obtain ⟨km1, km2, km3⟩ : KQ ν (M_X10_dearest p1 ν) ∧ M_X10_dearest p1 ν 57 0 = 0 ∧ M_X10_dearest p1 ν 548 0 = ν 548 0 := by
        unfold M_X10_dearest
        rw [m3]
        exact km (KM.rfl _)
      refine ⟨?_, ?_, km1, km2, km3⟩
      · unfold P_X10_dearest
        rw [m3, hN, hM.1]
        refine ⟨bp2, fun _ => ⟨fun j hj => ?_, fun _ => trivial, fun q => absurd q n_lt⟩, fun _ => trivial⟩
        unfold Pb_X10_dearest_37
        rw [hM.1, c56]
        exact ⟨fun q => nI_ge hj (by omega) q, fun _ => ⟨vp_in_nI (by omega) (by omega), fun _ => vp_in_nI (by omega) (by omega), fun _ => trivial⟩⟩
      · unfold F_X10_dearest F_X9_dearest
        rw [m1, if_pos bf2, hS']
  · exact Or.inr h
theorem case_dearest {E : EV} {L : LW} {μ : Mem} (hI : Inv E L μ) (p1 : Int32) : P_W_33 p1 μ ∧ Inv E L (M_W_33 p1 μ) := by
  have h := wrapI (K_X9_dearest p1 μ) (F_X9_dearest p1 μ) (M_X9_dearest p1 μ) (P_X9_dearest p1 μ) (F_X10_dearest p1) (M_X10_dearest p1) (P_X10_dearest p1) hI (q_dearest hI p1)
  unfold P_W_33 M_W_33 muL_law_c33_2 muL_law_c33_1 M_L_dearest W_L_dearest F_X10_thrown
  exact h
