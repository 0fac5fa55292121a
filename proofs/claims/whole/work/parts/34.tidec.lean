/-! a LAW's worth by the class -/
theorem outO_eq {c x y : Int32} {μ : Mem} : F_X1_outOf c x y μ = outO c x y ∧ P_X1_outOf c x y μ := by
  constructor
  · unfold F_X1_outOf outO
    by_cases h : y = 0
    · rw [if_neg (not_not_intro h), if_pos h]
    · rw [if_pos h, if_neg h]
  · unfold P_X1_outOf
    exact ⟨fun _ => trivial, fun _ => trivial, fun _ => trivial, fun _ => ⟨fun q => q, fun _ => trivial⟩, fun _ => trivial, fun _ => trivial⟩
theorem sp_dueByC {L : LW} {d l w t r h : Int32} {μ : Mem} (hL : LwOK L) (hR : LwC L μ) :
    P_X1_dueBy d l w t r h μ ∧ F_X1_dueBy d l w t r h μ = dueL L d l w t r h ∧ ∀ q, q ≠ 24 → q ≠ 25 → M_X1_dueBy d l w t r h μ q = μ q := by
  obtain ⟨hL0, hL1, hLc, hLd⟩ := hL
  obtain ⟨hn, hcd, hvl⟩ := hR
  have p0 : ∀ x (ν : Mem), M_X9_put 24 7 0 x ν = upm ν 24 0 x := fun x ν => put_k (k := 0) (by omega) (by omega)
  have p1 : ∀ x (ν : Mem), M_X9_put 24 7 1 x ν = upm ν 24 1 x := fun x ν => put_k (k := 1) (by omega) (by omega)
  have p2 : ∀ x (ν : Mem), M_X9_put 24 7 2 x ν = upm ν 24 2 x := fun x ν => put_k (k := 2) (by omega) (by omega)
  have p3 : ∀ x (ν : Mem), M_X9_put 24 7 3 x ν = upm ν 24 3 x := fun x ν => put_k (k := 3) (by omega) (by omega)
  have p4 : ∀ x (ν : Mem), M_X9_put 24 7 4 x ν = upm ν 24 4 x := fun x ν => put_k (k := 4) (by omega) (by omega)
  have p5 : ∀ x (ν : Mem), M_X9_put 24 7 5 x ν = upm ν 24 5 x := fun x ν => put_k (k := 5) (by omega) (by omega)
  have p6 : ∀ x (ν : Mem), M_X9_put 24 7 6 x ν = upm ν 24 6 x := fun x ν => put_k (k := 6) (by omega) (by omega)
  have e7 : muX1_dueBy_7 d l w t r h μ = upm (upm (upm (upm (upm (upm (upm μ 24 0 d) 24 1 l) 24 2 w) 24 3 t) 24 4 (t - t / 8 * 8)) 24 5 r) 24 6 h := by
    unfold muX1_dueBy_7 muX1_dueBy_6 muX1_dueBy_5 muX1_dueBy_4 muX1_dueBy_3 muX1_dueBy_2 muX1_dueBy_1
    rw [p0, p1, p2, p3, p4, p5, p6]
  have ho : ∀ q, q ≠ 24 → muX1_dueBy_7 d l w t r h μ q = μ q := by
    intro q hq
    rw [e7, upm_other hq, upm_other hq, upm_other hq, upm_other hq, upm_other hq, upm_other hq, upm_other hq]
  have hg : ∀ k, k < 7 → muX1_dueBy_7 d l w t r h μ 24 k = gvO d l w t r h k := by
    intro k hk
    rw [e7]
    unfold gvO
    match k, hk with
    | 0, _ => simp [upm_ap]
    | 1, _ => simp [upm_ap]
    | 2, _ => simp [upm_ap]
    | 3, _ => simp [upm_ap]
    | 4, _ => simp [upm_ap]
    | 5, _ => simp [upm_ap]
    | 6, _ => simp [upm_ap]
  have hN : NX1_dueBy_77 d l w t r h μ = lwN L := by
    unfold NX1_dueBy_77
    rw [ho 21 (by decide), hn, nI_ix (by omega)]
  generalize hgv : gvO d l w t r h = gv at hg
  have key := fo_all (fun i (s : Int32 × Mem) => s.1 = nI (lwD L i) - 1 ∧ (∀ k, k < lwD L i → s.2 25 k = (fo i (stp L gv) (0, fun _ => 0)).2 k) ∧ (∀ k, k < 7 → s.2 24 k = gv k) ∧ ∀ q, q ≠ 24 → q ≠ 25 → s.2 q = μ q)
      (Pb_X1_dueBy_77 d l w t r h) (lwN L) (g_X1_dueBy_77 d l w t r h) (-1, muX1_dueBy_7 d l w t r h μ) ⟨rfl, fun k hk => absurd hk (Nat.not_lt_zero k), hg, fun q q1 _ => ho q q1⟩ ?_
  · obtain ⟨k1, k2, k3, k4, k5⟩ := key
    have hS : SX1_dueBy_77 d l w t r h μ = fo (lwN L) (g_X1_dueBy_77 d l w t r h) (-1, muX1_dueBy_7 d l w t r h μ) := by
      unfold SX1_dueBy_77
      rw [hN]
    rw [← hS] at k3 k5
    refine ⟨?_, ?_, ?_⟩
    · unfold P_X1_dueBy
      rw [hN, k5 21 (by decide) (by decide), hn]
      exact ⟨k1, fun _ => trivial, fun q => absurd q (Int32.not_lt.mpr (Int32.le_refl _))⟩
    · unfold F_X1_dueBy dueL
      have e0 : F_X9_at 25 150 0 (SX1_dueBy_77 d l w t r h μ).2 = (SX1_dueBy_77 d l w t r h μ).2 25 0 := at_k (k := 0) (by omega) (by omega)
      rw [e0, k3 0 hLd, hgv]
    · exact fun q q1 q2 => k5 q q1 q2
  · intro i hi s ⟨h1, h2, h3, h4⟩
    obtain ⟨c1, c2, c3⟩ := hLc i hi
    have hd := lwD_le L i
    have ec : F_X9_at 22 150 (nI i) s.2 = lwC L i := by
      rw [at_k (by omega) (by omega), h4 22 (by decide) (by decide), hcd i hi]
    have hp : (fo i (stp L gv) (0, fun _ => 0)).1 = lwD L i := stp_d L gv _ i
    by_cases hc : lwC L i ≤ 7
    · have em : s.1 + 1 = nI (lwD L i) := by rw [h1, Int32.sub_add_cancel]
      have hv : VX1_dueBy_77_2 d l w t r h i s = if lwC L i = 7 then lwV L i else gv (ix (lwC L i)) := by
        unfold VX1_dueBy_77_2
        rw [ec]
        by_cases h7 : lwC L i = 7
        · rw [if_neg (not_not_intro h7), if_pos h7, at_k (by omega) (by omega), h4 23 (by decide) (by decide), hvl i hi h7]
        · rw [if_pos h7, if_neg h7]
          have hlt : lwC L i < 7 := by grind
          have hin := vp_ix (vpI 7 c1 hlt (by omega))
          rw [← nI_ixi c1, at_k hin (by omega), nI_ix (by omega)]
          exact h3 _ hin
      have hg1 : g_X1_dueBy_77 d l w t r h i s = (nI (lwD L i), upm s.2 25 (lwD L i) (if lwC L i = 7 then lwV L i else gv (ix (lwC L i)))) := by
        unfold g_X1_dueBy_77 VX1_dueBy_77_4 VX1_dueBy_77_5 muX1_dueBy_77_3
        rw [ec, if_neg (Int32.not_lt.mpr hc), if_neg (Int32.not_lt.mpr hc), hv, em, put_k (by omega) (by omega)]
      refine ⟨?_, ?_, ?_, ?_, ?_⟩
      · unfold Pb_X1_dueBy_77
        rw [ec, h4 21 (by decide) (by decide), hn]
        exact ⟨fun q => absurd q (nI_ge hi (by omega)), fun _ => ⟨fun _ => outO_eq.2, fun _ => trivial⟩⟩
      · rw [hg1, lwD_s, if_pos hc, nI_pred]
      · intro k hk
        rw [lwD_s, if_pos hc] at hk
        rw [hg1, fo_succ, stp_lo hc, hp]
        dsimp only
        rw [upm_row]
        unfold upd
        by_cases hkd : k = lwD L i
        · rw [if_pos hkd, if_pos hkd]
        · rw [if_neg hkd, if_neg hkd]
          exact h2 k (by omega)
      · intro k hk
        rw [hg1]
        dsimp only
        rw [upm_other (by decide)]
        exact h3 k hk
      · intro q q1 q2
        rw [hg1]
        dsimp only
        rw [upm_other q2]
        exact h4 q q1 q2
    · obtain ⟨d', hd2⟩ : ∃ d', lwD L i = d' + 2 := ⟨lwD L i - 2, by have := c3 hc; omega⟩
      have em : s.1 + -1 = nI d' := by rw [h1, hd2, nI_pred]; exact pk_m1 d'
      have em1 : s.1 + -1 + 1 = nI (d' + 1) := by rw [em, nI_1]
      have hg1 : g_X1_dueBy_77 d l w t r h i s = (nI d', upm s.2 25 d' (outO (lwC L i) (s.2 25 d') (s.2 25 (d' + 1)))) := by
        unfold g_X1_dueBy_77 VX1_dueBy_77_4 VX1_dueBy_77_5 muX1_dueBy_77_1
        rw [ec, if_pos (Int32.not_le.mp hc), if_pos (Int32.not_le.mp hc), em1, em, at_k (by omega) (by omega), at_k (by omega) (by omega), put_k (by omega) (by omega), outO_eq.1]
      refine ⟨?_, ?_, ?_, ?_, ?_⟩
      · unfold Pb_X1_dueBy_77
        rw [ec, h4 21 (by decide) (by decide), hn]
        exact ⟨fun q => absurd q (nI_ge hi (by omega)), fun _ => ⟨fun _ => outO_eq.2, fun _ => trivial⟩⟩
      · rw [hg1, lwD_s, if_neg hc, hd2, show d' + 2 - 1 = d' + 1 by omega, nI_pred]
      · intro k hk
        rw [lwD_s, if_neg hc, hd2] at hk
        rw [hg1, fo_succ, stp_hi hc, hp, hd2]
        dsimp only
        rw [upm_row]
        unfold upd
        have z1 : d' + 2 - 2 = d' := by omega
        have z2 : d' + 2 - 1 = d' + 1 := by omega
        rw [z1, z2, h2 d' (by omega), h2 (d' + 1) (by omega)]
        by_cases hkd : k = d'
        · rw [if_pos hkd, if_pos hkd]
        · rw [if_neg hkd, if_neg hkd]
          exact h2 k (by omega)
      · intro k hk
        rw [hg1]
        dsimp only
        rw [upm_other (by decide)]
        exact h3 k hk
      · intro q q1 q2
        rw [hg1]
        dsimp only
        rw [upm_other q2]
        exact h4 q q1 q2
/-! a TIDE by the class -/
def RC0 (E : EV) (c r : Nat → Int32) : Prop := (∀ k, k < 50 → c k = r k) ∧ (∀ h, h < eH E → c (50 + h) = eS E h + 2 * r (50 + h)) ∧ (∀ h, h < 6 → c (56 + h) = r (50 + h)) ∧ c 68 = r 62
def RCP (c r : Nat → Int32) : Prop := ∀ h, h < 6 → c (62 + h) = r (56 + h)
theorem sp_heightOf {E : EV} {μ : Mem} {a : Nat} (hE : EvC E μ) (hO : EvOK E) (ha : a < 2 ^ 31) : P_X7_heightOf (nI a) μ ∧ F_X7_heightOf (nI a) μ = hgt E a := by
  obtain ⟨-, -, e2, -, -, -, -, e7, -⟩ := hE
  have hd := hO.1.2.2.1
  unfold P_X7_heightOf F_X7_heightOf hgt
  rw [e2]
  by_cases h0 : eD E = 0
  · rw [h0, nI_0, if_pos (Int32.le_refl _), if_pos rfl]
    exact ⟨⟨fun _ => trivial, fun q => absurd q (by decide)⟩, rfl⟩
  · have hm : a % eD E < eD E := Nat.mod_lt _ (Nat.pos_of_ne_zero h0)
    have hn : nI (eD E) ≠ 0 := nI_ne0 (Nat.pos_of_ne_zero h0) (by omega)
    rw [pk_rem ha (Nat.pos_of_ne_zero h0) (by omega), if_neg (nI_nle (Nat.pos_of_ne_zero h0) (by omega)), if_neg (nI_pos ha), if_neg h0, at_k (by omega) (by omega), e7 _ hm]
    exact ⟨⟨fun _ => trivial, fun _ => ⟨fun _ => trivial, fun _ => hn⟩⟩, rfl⟩
theorem sp_waterC {E : EV} {μ : Mem} {r : Nat → Int32} {th h : Nat} {hh : Int32} (hO : EvOK E) (hl : h < eH E) (hc : μ (th + 1) (50 + h) = eS E h + 2 * r (50 + h)) : F_X5_waterIn th (nI h) hh μ = wat E r hh h := by
  have := hO.1.1
  unfold F_X5_waterIn wat
  rw [of50 (by omega), hc]
theorem passC2 {E : EV} {μ : Mem} {r : Nat → Int32} {th : Nat} {hh : Int32} (hth : th = 43 ∨ th = 52) (hE : EvC E μ) (hO : EvOK E) (hc : RC0 E (μ (th + 1)) r) :
    (∀ j, j < eH E → Pb_X5_pass_2 th hh j (fo j (g_X5_pass_2 th hh) μ)) ∧ (∀ h, h < eH E → SX5_pass_2 th hh μ (th + 2) h = wat E r hh h ∧ SX5_pass_2 th hh μ (th + 3) h = 0 ∧ SX5_pass_2 th hh μ (th + 4) h = 0) ∧ ∀ h, h ≠ th + 2 → h ≠ th + 3 → h ≠ th + 4 → SX5_pass_2 th hh μ h = μ h := by
  have hd := hO.1.1
  have e0 := hE.1
  have hN : NX5_pass_2 th hh μ = eH E := by
    unfold NX5_pass_2
    rw [e0, nI_ix (by omega)]
  unfold SX5_pass_2
  rw [hN]
  refine fo_all (fun i (s : Mem) => (∀ h, h < i → s (th + 2) h = wat E r hh h ∧ s (th + 3) h = 0 ∧ s (th + 4) h = 0) ∧ ∀ h, h ≠ th + 2 → h ≠ th + 3 → h ≠ th + 4 → s h = μ h)
    (Pb_X5_pass_2 th hh) (eH E) (g_X5_pass_2 th hh) μ ⟨fun h hh => absurd hh (Nat.not_lt_zero h), fun h _ _ _ => rfl⟩ ?_
  intro i hi s ⟨h1, h2⟩
  have er : s (th + 1) = μ (th + 1) := h2 (th + 1) (by omega) (by omega) (by omega)
  have hw := sp_waterC (μ := s) (th := th) (hh := hh) hO hi (by rw [er]; exact hc.2.1 i hi)
  refine ⟨?_, ?_, ?_⟩
  · unfold Pb_X5_pass_2
    rw [h2 3 (by omega) (by omega) (by omega), e0]
    exact ⟨fun q => absurd q (nI_ge hi (by omega)), fun _ => trivial⟩
  · intro h hlt
    unfold g_X5_pass_2 muX5_pass_2_3 muX5_pass_2_2 muX5_pass_2_1
    rw [hw, put_k (by omega) (by omega), put_k (by omega) (by omega), put_k (by omega) (by omega)]
    by_cases q : h = i
    · subst q
      refine ⟨?_, ?_, ?_⟩
      · rw [upm_other (by omega), upm_other (by omega), upm_rr, if_pos rfl]
      · rw [upm_other (by omega), upm_rr, if_pos rfl]
      · rw [upm_rr, if_pos rfl]
    · obtain ⟨q1, q2, q3⟩ := h1 h (by omega)
      refine ⟨?_, ?_, ?_⟩
      · rw [upm_other (by omega), upm_other (by omega), upm_rr, if_neg q, q1]
      · rw [upm_other (by omega), upm_rr, if_neg q, upm_other (by omega), q2]
      · rw [upm_rr, if_neg q, upm_other (by omega), upm_other (by omega), q3]
  · intro h a1 a2 a3
    unfold g_X5_pass_2 muX5_pass_2_3 muX5_pass_2_2 muX5_pass_2_1
    rw [put_k (by omega) (by omega), put_k (by omega) (by omega), put_k (by omega) (by omega), upm_other a3, upm_other a2, upm_other a1]
    exact h2 h a1 a2 a3
