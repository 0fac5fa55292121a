/-! questions, both sides: gates -/
theorem zero57 {ν : Mem} : KQ ν (upm ν 57 0 0) := ⟨fun h _ _ _ _ _ q _ _ _ _ _ => upm_other q, fun k q _ _ => by rw [upm_rr, if_neg q]⟩
theorem z57 {ν : Mem} : upm ν 57 0 0 57 0 = 0 := by rw [upm_rr, if_pos rfl]
theorem z548 {ν : Mem} : upm ν 57 0 0 548 0 = ν 548 0 := by rw [upm_other (by decide)]
/-- the reference's gate, shut -/
theorem bad_no {c w b : Int32} {ν : Mem} (hc : c = 1) (hw : w ≠ 0) (hb : b = 0 ∨ b = 1) : P_X10_bad c w b (upm ν 57 0 0) ∧ ¬ F_X10_bad c w b (upm ν 57 0 0) = 0 ∧ M_X10_bad c w b (upm ν 57 0 0) = thr w (ix b) ν := by
  rw [hc, bad1F hw, bad1M]
  exact ⟨badP hb, by decide, rfl⟩
/-- .. and open -/
theorem bad_ok {c w b : Int32} {ν : Mem} (hc : c = 0) (hb : b = 0 ∨ b = 1) : P_X10_bad c w b (upm ν 57 0 0) ∧ F_X10_bad c w b (upm ν 57 0 0) = 0 ∧ M_X10_bad c w b (upm ν 57 0 0) = upm ν 57 0 0 := by
  rw [hc, bad0M]
  exact ⟨badP hb, bad0F z57, rfl⟩
theorem Inv.row {E : EV} {L : LW} {μ : Mem} (hI : Inv E L μ) : ∃ a, a ≤ 500 ∧ μ 521 62 = nI a ∧ μ 44 68 = nI a := by
  obtain ⟨h1, h2, h3⟩ := hI.2.2.2.2.2.2.2.2.2.1
  obtain ⟨a, ha, e⟩ := h3.2.2.2.2.2.2
  exact ⟨a, ha, e, by rw [h1.2.2.2, e]⟩
theorem q_told {E : EV} {L : LW} {μ : Mem} (hI : Inv E L μ) (a : Int32) : Q w1 jI μ (K_X9_told a μ) (F_X9_told a μ) (M_X9_told a μ) (P_X9_told a μ) (F_X10_told a) (M_X10_told a) (P_X10_told a) := by
  have hE := hI.2.2.1
  have hO := hI.1
  cases h : inR a 0 11 with
  | false =>
    refine Or.inr ⟨1, rfl, ?_, ?_, ?_, fun ν hν => ?_⟩
    · unfold K_X9_told
      rw [nrK, h]
      rfl
    · unfold P_X9_told
      rw [nrK, h]
      exact fun q => absurd q (by decide)
    · unfold M_X9_told muX9_told_1
      rw [nrM, h]
      rfl
    · obtain ⟨b1, b2, b3⟩ := bad_no (ν := ν) (c := VX10_told_2 a ν) (w := 1) (b := 1) (by unfold VX10_told_2; rw [isIn_eq, h]; rfl) (by decide) (Or.inr rfl)
      exact ⟨⟨b1, fun q => absurd q b2, fun _ => trivial⟩, b3⟩
  | true =>
    have hn : muX9_told_1 a μ = μ := by
      unfold muX9_told_1
      rw [nrM, h]
      rfl
    obtain ⟨r, hr, e521, e44⟩ := hI.row
    have hS := hI.2.2.2.2.2.2.2.2.2.1
    have eT : F_X5_tideToCome 43 μ = nI r := by rw [ofT, e44]
    obtain ⟨c1, c2⟩ := sp_heightOf (a := r) hE hO (by omega)
    obtain ⟨g1, g2⟩ := sp_goneC (th := 43) hE hO hS.1
    obtain ⟨g3, g4⟩ := sp_worthC (th := 43) hE hO hS.1
    obtain ⟨g5, g6⟩ := sp_paidC (th := 43) hE hO hS.2.1
    refine Or.inl ⟨?_, ?_, ?_, fun ν hν => ?_⟩
    · unfold K_X9_told
      rw [nrK, h]
      rfl
    · unfold P_X9_told
      rw [hn, eT]
      exact fun _ => ⟨fun _ => trivial, fun _ => trivial, fun _ => trivial, fun _ => trivial, fun _ => trivial, fun _ => c1, fun _ => trivial, fun _ => trivial, fun _ => trivial, fun _ => g1, fun _ => g3, fun _ => g5⟩
    · unfold M_X9_told
      rw [hn]
      exact KQ.rfl μ
    · have hI' : Inv E L (upm ν 57 0 0) := hI.keep (hν.trans zero57)
      obtain ⟨b1, b2, b3⟩ := bad_ok (ν := ν) (c := VX10_told_2 a ν) (w := 1) (b := 1) (by unfold VX10_told_2; rw [isIn_eq, h]; rfl) (Or.inr rfl)
      have b3' : muX10_told_3 a ν = upm ν 57 0 0 := b3
      have hM := hI'.2.1
      have e521' : upm ν 57 0 0 521 = μ 521 := by rw [upm_other (by decide), hν.1 521 (by decide) (by decide) (by decide) (by decide) (by decide) (by decide) (by decide) (by decide) (by decide) (by decide) (by decide)]
      have h62 : upm ν 57 0 0 521 62 = nI r := by rw [e521', e521]
      obtain ⟨d1, d2⟩ := sp_heightIn (a := r) hM hO (by omega)
      obtain ⟨k1, k2⟩ := sp_goneM (row := 521) hM hO
      obtain ⟨k3, k4⟩ := sp_worthM (row := 521) hM hO
      obtain ⟨k5, k6⟩ := sp_paidM (row := 521) hM hO
      rw [e521'] at k2 k4 k6
      have v : ∀ x : Int32, x = 0 ∨ x = 1 ∨ x = 2 ∨ x = 3 → vp_in x 6 := by
        intro x hx
        rcases hx with rfl | rfl | rfl | rfl <;> exact vp_of (by decide) (by decide)
      refine ⟨?_, ?_, ?_, ?_, ?_⟩
      · unfold P_X10_told
        rw [b3', h62]
        exact ⟨b1, fun _ => ⟨fun q => v a (Or.inl q), fun q => v a (Or.inr (Or.inl q)), fun q => v a (Or.inr (Or.inr (Or.inl q))), fun q => v a (Or.inr (Or.inr (Or.inr q))), fun _ => trivial, fun _ => d1, fun _ => trivial, fun _ => trivial, fun _ => trivial, fun _ => k1, fun _ => k3, fun _ => k5⟩, fun _ => trivial⟩
      · have b2' : F_X10_bad (VX10_told_2 a ν) 1 1 (muX10_told_1 a ν) = 0 := b2
        unfold F_X10_told F_X9_told
        rw [if_pos b2', b3', h62, hn, eT, c2, d2, g2, g4, g6, k2, k4, k6]
        have f57 : ∀ k, k ≠ 0 → k ≠ 48 → k ≠ 49 → upm ν 57 0 0 57 k = μ 57 k := (hν.trans zero57).2
        rw [f57 38 (by decide) (by decide) (by decide), f57 40 (by decide) (by decide) (by decide), hM.2.2.2.2.1, hE.1, hE.2.1, hE.2.2.1, hE.2.2.2.1, hE.2.2.2.2.1]
        obtain ⟨n, -, m1, m2, -⟩ := hI.2.2.2.2.2.2.2.1
        rw [m1, m2, hI.2.2.2.2.2.2.2.2.2.2.1.1]
        by_cases q0 : a = 0
        · subst q0
          rw [if_pos rfl, if_pos rfl]
          exact hM.1
        · rw [if_neg q0, if_neg q0]
          by_cases q1 : a = 1
          · subst q1
            rw [if_pos rfl, if_pos rfl]
            exact hM.2.1
          · rw [if_neg q1, if_neg q1]
            by_cases q2 : a = 2
            · subst q2
              rw [if_pos rfl, if_pos rfl]
              exact hM.2.2.1
            · rw [if_neg q2, if_neg q2]
              by_cases q3 : a = 3
              · subst q3
                rw [if_pos rfl, if_pos rfl]
                exact hM.2.2.2.1
              · rw [if_neg q3, if_neg q3]
      · unfold M_X10_told
        rw [b3']
        exact zero57
      · unfold M_X10_told
        rw [b3']
        exact z57
      · unfold M_X10_told
        rw [b3']
        exact z548
theorem case_told {E : EV} {L : LW} {μ : Mem} (hI : Inv E L μ) (a : Int32) : P_W_7 a μ ∧ Inv E L (M_W_7 a μ) :=
  wrapI (K_X9_told a μ) (F_X9_told a μ) (M_X9_told a μ) (P_X9_told a μ) (F_X10_told a) (M_X10_told a) (P_X10_told a) hI (q_told hI a)
