/-! questions: bags -/

theorem q_bags {E : EV} {L : LW} {μ : Mem} (hI : Inv E L μ) (p1 p2 : Int32) : Q w1 jI μ (K_X9_bags p1 p2 μ) (F_X9_bags p1 p2 μ) (M_X9_bags p1 p2 μ) (P_X9_bags p1 p2 μ) (F_X10_bags p1 p2) (M_X10_bags p1 p2) (P_X10_bags p1 p2) := by
  rcases gate_bags hI p1 p2 with ⟨h1, h2, hK, ⟨s1, s2⟩, hg⟩ | h
  · have hO := hI.1
    have hE := hI.E
    have hS := hI.S
    obtain ⟨a, ha, e521, e44⟩ := hI.row
    have hd := hO.1
    obtain ⟨n, hn, rfl⟩ := inR_n (n := 24) h2 (Int32.le_refl 0) (by decide)
    obtain ⟨f1, f2⟩ := sp_fewest (n := n) (v := p1) hE hO hS.1 e521 (by omega) (by omega)
    refine Or.inl ⟨hK, ?_, ?_, fun ν hν => ?_⟩
    · unfold P_X9_bags
      rw [s2]
      exact fun _ _ => f1
    · unfold M_X9_bags
      rw [s1, s2, ite_self]
      exact KQ.rfl μ
    · obtain ⟨bp2, bf2, m3⟩ := hg ν hν
      have m1 : muX10_bags_1 p1 (nI n) ν = upm ν 57 0 0 := rfl
      obtain ⟨hI0, hk0⟩ := nu_of hI hν
      have r521 := hk0.at 521 (by omega)
      have hM := hI0.M
      have hh : ∀ i, i < 100 → P_X10_heightIn (upm ν 57 0 0 521 62 + nI i) (upm ν 57 0 0) ∧ F_X10_heightIn (upm ν 57 0 0 521 62 + nI i) (upm ν 57 0 0) = hgt E (a + i) := fun i hi => by
        rw [r521, e521, nI_add]
        exact sp_heightIn hM hO (by omega)
      have hN5 : NX10_bags_47 p1 (nI n) ν = n := nI_ix (by omega)
      have hS5 : SX10_bags_47 p1 (nI n) ν = hiM E a n := by
        unfold SX10_bags_47
        rw [hN5, m3]
        refine fo_congr _ _ _ _ fun i hi s => ?_
        unfold g_X10_bags_47
        rw [(hh i (by omega)).2, more_eq]
      have hw : ∀ h, h < eH E → P_X10_waterBy 521 (nI h) (hiM E a n) (upm ν 57 0 0) ∧ F_X10_waterBy 521 (nI h) (hiM E a n) (upm ν 57 0 0) = wat E (μ 521) (hiM E a n) h := fun h hl => by
        have := sp_waterBy (row := 521) (hh := hiM E a n) hM hO hl
        rw [r521] at this
        exact this
      have hN : NX10_bags_83 p1 (nI n) ν = fst 7 (bgB E (μ 521) (hiM E a n) p1) := by
        unfold NX10_bags_83
        rw [hS5, m3]
        refine fst_congr fun j hj => ?_
        unfold Cb_X10_bags_83 bgB
        rw [hM.1]
        by_cases k1 : eH E ≤ j
        · rw [if_pos (nI_le k1 (by omega)), decide_eq_true (Or.inl k1)]
          rfl
        · rw [if_neg (nI_ge (by omega) (by omega)), has_eq, c50, nI_ix (by omega), r521, (hw j (by omega)).2]
          by_cases k2 : bitI p1 j = true
          · rw [if_pos k2, if_pos (by decide)]
            by_cases k3 : μ 521 (50 + j) + (wat E (μ 521) (hiM E a n) j + 1) / 2 ≤ 9
            · rw [if_pos k3, decide_eq_false (fun q => q.elim k1 fun z => Int32.not_lt.mpr k3 z.2)]
              rfl
            · rw [if_neg k3, decide_eq_true (Or.inr ⟨k2, Int32.not_le.mp k3⟩)]
              rfl
          · rw [if_neg k2, if_neg (by decide), decide_eq_false (fun q => q.elim k1 fun z => k2 z.1)]
            rfl
      obtain ⟨b1, b2, b3⟩ := bg_facts (r := μ 521) (hi := hiM E a n) (v := p1) hO
      have hS' : SX10_bags_83 p1 (nI n) ν = bgS E (μ 521) (hiM E a n) p1 (fst 7 (bgB E (μ 521) (hiM E a n) p1)) := by
        unfold SX10_bags_83
        rw [hN, hS5, m3]
        refine fo_congr _ _ _ _ fun i hi s => ?_
        unfold g_X10_bags_83
        rw [has_eq, (hw i (by omega)).2]
        by_cases k2 : bitI p1 i = true
        · rw [if_pos k2, if_pos (by decide), if_pos k2]
          rfl
        · rw [if_neg k2, if_neg (by decide), if_neg k2]
      obtain ⟨km1, km2, km3⟩ : KQ ν (M_X10_bags p1 (nI n) ν) ∧ M_X10_bags p1 (nI n) ν 57 0 = 0 ∧ M_X10_bags p1 (nI n) ν 548 0 = ν 548 0 := by
        unfold M_X10_bags
        rw [m3]
        exact km (KM.rfl _)
      refine ⟨?_, ?_, km1, km2, km3⟩
      · unfold P_X10_bags
        rw [m3, hS5, hN5, hN, hM.1]
        generalize fst 7 (bgB E (μ 521) (hiM E a n) p1) = N at *
        refine ⟨bp2, fun _ => ⟨fun j hj => ?_, fun _ => ⟨fun j hj => ?_, fun _ => trivial, fun q => ?_⟩, fun q => absurd q n_lt⟩, fun _ => trivial⟩
        · unfold Pb_X10_bags_47
          exact ⟨fun q => nI_ge hj (by omega) q, fun _ => (hh j (by omega)).1⟩
        · obtain ⟨y1, y2⟩ := b3 j hj
          unfold Pb_X10_bags_83
          rw [hM.1, has_eq, c50, nI_ix (by omega), r521, (hw j y1).2]
          refine ⟨fun q => nI_ge y1 (by omega) q, fun _ => ⟨fun z => ⟨(hw j y1).1, vp_in_nI (by omega) (by omega), fun _ => trivial, fun y => y2 ⟨?_, y⟩⟩, fun _ => trivial⟩⟩
          by_cases k2 : bitI p1 j = true
          · exact k2
          · rw [if_neg k2] at z
            exact absurd rfl z
        · rw [nI_ltI (by omega) (by omega)] at q
          rcases b2 with x | x
          · omega
          · rw [has_eq, if_pos x.1, c50, nI_ix (by omega), r521, (hw N q).2]
            exact ⟨fun _ => ⟨(hw N q).1, vp_in_nI (by omega) (by omega), fun y => absurd x.2 (Int32.not_lt.mpr y), fun _ => trivial⟩, fun y => absurd y (by decide)⟩
      · unfold F_X10_bags F_X9_bags
        rw [m1, m3, if_pos bf2, s2, f2, hN, hS', hM.1]
        unfold bgV
        generalize fst 7 (bgB E (μ 521) (hiM E a n) p1) = N at *
        by_cases q : eH E ≤ N
        · rw [if_pos (nI_le q (by omega)), if_pos q]
        · rw [if_neg (nI_ge (by omega) (by omega)), if_neg q]
  · exact Or.inr h
theorem case_bags {E : EV} {L : LW} {μ : Mem} (hI : Inv E L μ) (p1 p2 : Int32) : P_W_19 p1 p2 μ ∧ Inv E L (M_W_19 p1 p2 μ) := by
  have h := wrapI (K_X9_bags p1 p2 μ) (F_X9_bags p1 p2 μ) (M_X9_bags p1 p2 μ) (P_X9_bags p1 p2 μ) (F_X10_bags p1 p2) (M_X10_bags p1 p2) (P_X10_bags p1 p2) hI (q_bags hI p1 p2)
  unfold P_W_19 M_W_19 muL_law_c19_2 muL_law_c19_1 M_L_bags W_L_bags F_X10_thrown
  exact h
