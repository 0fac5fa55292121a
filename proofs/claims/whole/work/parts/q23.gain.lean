/-! questions: gain -/

theorem q_gain {E : EV} {L : LW} {μ : Mem} (hI : Inv E L μ) (p1 p2 p3 : Int32) : Q w2 jB μ (K_X9_gain p1 p2 p3 μ) (F_X9_gain p1 p2 p3 μ) (M_X9_gain p1 p2 p3 μ) (P_X9_gain p1 p2 p3 μ) (F_X10_gain p1 p2 p3) (M_X10_gain p1 p2 p3) (P_X10_gain p1 p2 p3) := by
  rcases gate_gain hI p1 p2 p3 with ⟨h1, h2, h3, hK, ⟨s1, s2, s3⟩, hg⟩ | h
  · have hO := hI.1
    have hE := hI.E
    have hS := hI.S
    obtain ⟨a, ha, e521, e44⟩ := hI.row
    have hd := hO.1
    obtain ⟨h, hl, rfl⟩ := inR_el (by omega) h1
    obtain ⟨n, hn, rfl⟩ := inR_n (n := 60) h2 (Int32.le_refl 0) (by decide)
    obtain ⟨w, hw, ew⟩ := fw_nat hO
    obtain ⟨t, ht, et⟩ := tm_nat E (μ 521) a h n
    have hwt : w * t ≤ 3840 * 60 := Nat.mul_le_mul hw (by omega)
    have hx : fwN E (eF E) * smI n (fun i => inW E (μ 521) a i h) = nI (w * t) := by rw [ew, et, pk_mul]
    obtain ⟨f1, f2⟩ := sp_meanFound (w := p3) hE hO hS.1 e521 (by omega) hl (by omega) hx (by omega)
    refine Or.inl ⟨hK, ?_, ?_, fun ν hν => ?_⟩
    · unfold P_X9_gain
      rw [s3]
      exact fun _ _ _ => f1
    · unfold M_X9_gain
      rw [s1, s2, s3, ite_self, ite_self]
      exact KQ.rfl μ
    · obtain ⟨⟨bp2, bf2, m3⟩, ⟨bp4, bf4, m5⟩⟩ := hg ν hν
      have m1 : muX10_gain_1 (nI h) (nI n) p3 ν = upm ν 57 0 0 := rfl
      obtain ⟨hI0, hk0⟩ := nu_of hI hν
      have r521 := hk0.at 521 (by omega)
      have hM := hI0.M
      have hh : ∀ i, i < 100 → P_X10_heightIn (upm ν 57 0 0 521 62 + nI i) (upm ν 57 0 0) ∧ F_X10_heightIn (upm ν 57 0 0 521 62 + nI i) (upm ν 57 0 0) = hgt E (a + i) := fun i hi => by
        rw [r521, e521, nI_add]
        exact sp_heightIn hM hO (by omega)
      have hwb : ∀ i, P_X10_waterBy 521 (nI h) (hgt E (a + i)) (upm ν 57 0 0) ∧ F_X10_waterBy 521 (nI h) (hgt E (a + i)) (upm ν 57 0 0) = wat E (μ 521) (hgt E (a + i)) h := fun i => by
        have := sp_waterBy (row := 521) (hh := hgt E (a + i)) hM hO hl
        rw [r521] at this
        exact this
      have hN7 : NX10_gain_71 (nI h) (nI n) p3 ν = n := nI_ix (by omega)
      have hS7 : SX10_gain_71 (nI h) (nI n) p3 ν = nI t := by
        rw [← et]
        unfold SX10_gain_71
        rw [hN7, m5]
        refine fo_congr _ _ _ _ fun i hi s => ?_
        unfold g_X10_gain_71 VX10_gain_71_1 inW
        rw [(hh i (by omega)).2, (hwb i).2]
      have hN12 : NX10_gain_122 (nI h) (nI n) p3 ν = eF E := by
        unfold NX10_gain_122
        rw [m5, hM.2.2.2.1, nI_ix (by omega)]
      have hS12 : SX10_gain_122 (nI h) (nI n) p3 ν = nI w := by
        rw [← ew]
        unfold SX10_gain_122
        rw [hN12, m5]
        refine fo_congr _ _ _ _ fun i hi s => ?_
        unfold g_X10_gain_122
        rw [nI_ix (by omega), hM.2.2.2.2.2.2.2.2.2 i hi 0 (by omega), hM.2.2.2.2.2.2.2.2.2 i hi 1 (by omega)]
      have hprod : nI t * nI w = nI (w * t) := by rw [pk_mul, Nat.mul_comm]
      obtain ⟨N, hN9, u1, u2, u3⟩ := eu_all (w * t)
      have hst : ∀ i, i ≤ N → fo i (g_X10_gain_174 (nI h) (nI n) p3 (nI t) (nI w) (upm ν 57 0 0)) (16, nI (w * t)) = (nI (eu (w * t) i).1, nI (eu (w * t) i).2) := by
        intro i
        induction i with
        | zero => intro _; rfl
        | succ i ih =>
          intro hi
          obtain ⟨v1, v2, v3⟩ := u3 i (by omega)
          rw [fo_succ, ih (by omega), eu_s]
          show (nI (eu (w * t) i).2, nI (eu (w * t) i).1 - nI (eu (w * t) i).1 / nI (eu (w * t) i).2 * nI (eu (w * t) i).2) = _
          rw [pk_rem (by omega) (Nat.pos_of_ne_zero v1) (by omega)]
      have hNg : NX10_gain_174 (nI h) (nI n) p3 ν = N := by
        unfold NX10_gain_174
        rw [hS7, hS12, m5, hprod]
        refine fst_eq (by omega) ?_ fun j hj => ?_
        · rw [hst N (Nat.le_refl _)]
          unfold Cb_X10_gain_174
          dsimp only
          rw [u1, if_pos nI_0]
          rfl
        · obtain ⟨v1, v2, v3⟩ := u3 j hj
          rw [hst j (by omega)]
          unfold Cb_X10_gain_174
          dsimp only
          rw [if_neg (nI_ne0 (Nat.pos_of_ne_zero v1) (by omega))]
          rfl
      have hSg : SX10_gain_174 (nI h) (nI n) p3 ν = (nI (2 ^ hvK (w * t)), nI 0) := by
        unfold SX10_gain_174
        rw [hNg, hS7, hS12, m5, hprod, hst N (Nat.le_refl _), u1, u2]
      have hk4 := (hvK_facts (w * t)).1
      have hp16 : 2 ^ hvK (w * t) ≤ 16 := Nat.pow_le_pow_right (by omega) hk4
      have hp0 : 0 < 2 ^ hvK (w * t) := Nat.pow_pos (by omega)
      obtain ⟨km1, km2, km3⟩ : KQ ν (M_X10_gain (nI h) (nI n) p3 ν) ∧ M_X10_gain (nI h) (nI n) p3 ν 57 0 = 0 ∧ M_X10_gain (nI h) (nI n) p3 ν 548 0 = ν 548 0 := by
        unfold M_X10_gain
        rw [m1, m3, m5, ite_self]
        exact km (KM.rfl _)
      refine ⟨?_, ?_, km1, km2, km3⟩
      · unfold P_X10_gain
        rw [m3, m5, hN7, hN12, hNg, hSg, hS7, hS12, hprod, hM.2.2.2.1]
        refine ⟨bp2, fun _ => trivial, fun _ => ⟨bp4, fun _ => ⟨fun j hj => ?_, fun _ => ⟨fun j hj => ?_, fun _ => ⟨fun j hj => ?_, fun _ => ⟨fun _ => nI_ne0 hp0 (by omega), fun _ => nI_ne0 hp0 (by omega)⟩, fun q => absurd nI_0 q⟩, fun q => absurd q n_lt⟩, fun q => absurd q n_lt⟩, fun _ => trivial⟩⟩
        · unfold Pb_X10_gain_71
          rw [(hh j (by omega)).2]
          exact ⟨fun q => nI_ge hj (by omega) q, fun _ => ⟨(hh j (by omega)).1, (hwb j).1⟩⟩
        · unfold Pb_X10_gain_122
          rw [hM.2.2.2.1]
          exact ⟨fun q => nI_ge hj (by omega) q, fun _ => ⟨vp_in_nI (by omega) (by omega), vp_in_nI (by omega) (by omega)⟩⟩
        · obtain ⟨v1, v2, v3⟩ := u3 j hj
          rw [hst j (by omega)]
          unfold Pb_X10_gain_174
          exact ⟨fun q => nI_ne0 (Nat.pos_of_ne_zero v1) (by omega) q, fun q => q⟩
      · unfold F_X10_gain F_X9_gain
        rw [m1, m3, if_neg (not_not_intro bf2), if_pos bf4, s3, f2, hSg, hS7, hS12, hprod]
        dsimp only
        have e16 : (16 : Int32) / nI (2 ^ hvK (w * t)) = nI (16 / 2 ^ hvK (w * t)) := pk_div (a := 16) (by omega) hp0 (by omega)
        rw [e16, pk_div (by omega) hp0 (by omega)]
  · exact Or.inr h
theorem case_gain {E : EV} {L : LW} {μ : Mem} (hI : Inv E L μ) (p1 p2 p3 : Int32) : P_W_25 p1 p2 p3 μ ∧ Inv E L (M_W_25 p1 p2 p3 μ) := by
  have h := wrapB (K_X9_gain p1 p2 p3 μ) (F_X9_gain p1 p2 p3 μ) (M_X9_gain p1 p2 p3 μ) (P_X9_gain p1 p2 p3 μ) (F_X10_gain p1 p2 p3) (M_X10_gain p1 p2 p3) (P_X10_gain p1 p2 p3) hI (q_gain hI p1 p2 p3)
  unfold P_W_25 M_W_25 muL_law_c25_2 muL_law_c25_1 M_L_gain W_L_gain F_X10_thrown
  exact h
