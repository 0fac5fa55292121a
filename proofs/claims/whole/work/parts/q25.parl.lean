/-! questions: parlour -/

theorem q_parlour {E : EV} {L : LW} {μ : Mem} (hI : Inv E L μ) (p1 p2 p3 : Int32) : Q w1 jI μ (K_X9_parlour p1 p2 p3 μ) (F_X9_parlour p1 p2 p3 μ) (M_X9_parlour p1 p2 p3 μ) (P_X9_parlour p1 p2 p3 μ) (F_X10_parlour p1 p2 p3) (M_X10_parlour p1 p2 p3) (P_X10_parlour p1 p2 p3) := by
  rcases gate_parlour hI p1 p2 p3 with ⟨h1, h2, h3, hK, ⟨s1, s2, s3⟩, hg⟩ | h
  · have hO := hI.1
    have hE := hI.E
    have hS := hI.S
    obtain ⟨a, ha, e521, e44⟩ := hI.row
    have hd := hO.1
    obtain ⟨K, hK9, rfl⟩ := inR_n (n := 12) h1 (Int32.le_refl 0) (by decide)
    obtain ⟨f1, f2⟩ := sp_rests (q := p2) (w := p3) hK9 μ
    refine Or.inl ⟨hK, ?_, ?_, fun ν hν => ?_⟩
    · unfold P_X9_parlour
      rw [s3]
      exact fun _ _ _ => f1
    · unfold M_X9_parlour
      rw [s1, s2, s3, ite_self, ite_self]
      exact KQ.rfl μ
    · obtain ⟨bp2, bf2, m3⟩ := hg ν hν
      have m1 : muX10_parlour_1 (nI K) p2 p3 ν = upm ν 57 0 0 := rfl
      obtain ⟨hI0, hk0⟩ := nu_of hI hν
      have r521 := hk0.at 521 (by omega)
      have hM := hI0.M
      have eK : ix (nI K) = K := nI_ix (by omega)
      have hNi : ∀ i s, NX10_parlour_62_71 (nI K) p2 p3 (upm ν 57 0 0) i s = K + 1 := fun i s => by unfold NX10_parlour_62_71; rw [eK]
      have hN : NX10_parlour_62 (nI K) p2 p3 ν = K + 1 := by unfold NX10_parlour_62; rw [eK]
      have hS' : SX10_parlour_62 (nI K) p2 p3 ν = prS K p2 := by
        unfold SX10_parlour_62 prS
        rw [hN, m3]
        refine fo_congr _ _ _ _ fun i hi s => ?_
        unfold g_X10_parlour_62 SX10_parlour_62_71
        rw [hNi]
        have e : fo (K + 1) (g_X10_parlour_71 (nI K) p2 p3 (nI i) (upm ν 57 0 0)) (s.1, s.2.1, s.2.2) = fo (K + 1) (fun b t => if F_X10_isRest (nI i) (nI b) (nI K) p2 (fun _ _ => 0) ≠ 0 then (t.1 + 1, if t.1 ≠ 0 then t.2.1 else 100 * nI i + nI b, if t.1 ≠ 0 then t.2.2 else F_X10_seaHas (nI i) (nI b) (nI K) p2 (fun _ _ => 0) + F_X10_houseHas (nI i) (nI b) (nI K) p2 (fun _ _ => 0)) else t) (s.1, s.2.1, s.2.2) := by
          refine fo_congr _ _ _ _ fun b hb t => ?_
          show (if F_X10_isRest (nI i) (nI b) (nI K) p2 (fun _ _ => 0) ≠ 0 then t.1 + 1 else t.1, if F_X10_isRest (nI i) (nI b) (nI K) p2 (fun _ _ => 0) ≠ 0 then (if t.1 ≠ 0 then t.2.1 else 100 * nI i + nI b) else t.2.1, if F_X10_isRest (nI i) (nI b) (nI K) p2 (fun _ _ => 0) ≠ 0 then (if t.1 ≠ 0 then t.2.2 else F_X10_seaHas (nI i) (nI b) (nI K) p2 (fun _ _ => 0) + F_X10_houseHas (nI i) (nI b) (nI K) p2 (fun _ _ => 0)) else t.2.2) = _
          by_cases z : F_X10_isRest (nI i) (nI b) (nI K) p2 (fun _ _ => 0) ≠ 0
          · rw [if_pos z, if_pos z, if_pos z, if_pos z]
          · rw [if_neg z, if_neg z, if_neg z, if_neg z]
        rw [e]
      obtain ⟨km1, km2, km3⟩ : KQ ν (M_X10_parlour (nI K) p2 p3 ν) ∧ M_X10_parlour (nI K) p2 p3 ν 57 0 = 0 ∧ M_X10_parlour (nI K) p2 p3 ν 548 0 = ν 548 0 := by
        unfold M_X10_parlour
        rw [m3]
        exact km (KM.rfl _)
      refine ⟨?_, ?_, km1, km2, km3⟩
      · unfold P_X10_parlour
        rw [m3, hN]
        refine ⟨bp2, fun _ => ⟨fun j hj => ?_, fun _ => trivial, fun z => absurd z (nI_ge (by omega) (by omega))⟩, fun _ => trivial⟩
        unfold Pb_X10_parlour_62
        refine ⟨fun z => nI_nlt (a := K) (b := j) (by omega) (by omega) z, fun _ => ⟨fun i hi => ?_, fun _ => trivial, fun z => ?_⟩⟩
        · rw [hNi] at hi
          unfold Pb_X10_parlour_71
          exact ⟨fun z => nI_nlt (a := K) (b := i) (by omega) (by omega) z, fun _ => restP hK9 p2 _ _ _⟩
        · rw [hNi] at z
          exact absurd z (nI_ge (by omega) (by omega))
      · unfold F_X10_parlour F_X9_parlour
        rw [m1, if_pos bf2, s3, f2, hS']
  · exact Or.inr h
theorem case_parlour {E : EV} {L : LW} {μ : Mem} (hI : Inv E L μ) (p1 p2 p3 : Int32) : P_W_20 p1 p2 p3 μ ∧ Inv E L (M_W_20 p1 p2 p3 μ) := by
  have h := wrapI (K_X9_parlour p1 p2 p3 μ) (F_X9_parlour p1 p2 p3 μ) (M_X9_parlour p1 p2 p3 μ) (P_X9_parlour p1 p2 p3 μ) (F_X10_parlour p1 p2 p3) (M_X10_parlour p1 p2 p3) (P_X10_parlour p1 p2 p3) hI (q_parlour hI p1 p2 p3)
  unfold P_W_20 M_W_20 muL_law_c20_2 muL_law_c20_1 M_L_parlour W_L_parlour F_X10_thrown
  exact h
