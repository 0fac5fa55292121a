/-! a LAW's worth by the reference -/
theorem c_cases {c : Int32} (h1 : ¬ c ≤ 7) (h2 : c ≤ 13) : c = 8 ∨ c = 9 ∨ c = 10 ∨ c = 11 ∨ c = 12 ∨ c = 13 := by
  rw [Int32.le_iff_toInt_le] at h1 h2
  have e7 : (7 : Int32).toInt = 7 := by decide
  have e13 : (13 : Int32).toInt = 13 := by decide
  have : c.toInt = 8 ∨ c.toInt = 9 ∨ c.toInt = 10 ∨ c.toInt = 11 ∨ c.toInt = 12 ∨ c.toInt = 13 := by omega
  rcases this with h | h | h | h | h | h
  · exact Or.inl (Int32.toInt_inj.mp h)
  · exact Or.inr (Or.inl (Int32.toInt_inj.mp h))
  · exact Or.inr (Or.inr (Or.inl (Int32.toInt_inj.mp h)))
  · exact Or.inr (Or.inr (Or.inr (Or.inl (Int32.toInt_inj.mp h))))
  · exact Or.inr (Or.inr (Or.inr (Or.inr (Or.inl (Int32.toInt_inj.mp h)))))
  · exact Or.inr (Or.inr (Or.inr (Or.inr (Or.inr (Int32.toInt_inj.mp h)))))
theorem div_m1 (x : Int32) : x / (-1) = -x := by
  apply Int32.toInt_inj.mp
  have e : (-1 : Int32).toInt = -1 := by decide
  rw [Int32.toInt_div, e, Int.tdiv_neg, Int.tdiv_one, Int32.toInt_neg]
theorem byO {c x y : Int32} {μ : Mem} (h1 : ¬ c ≤ 7) (h2 : c ≤ 13) : F_X10_by (c - 6) x y μ = outO c x y ∧ P_X10_by (c - 6) x y μ ∧ 2 ≤ c - 6 := by
  have hP : ∀ k, P_X10_by k x y μ := by
    intro k
    unfold P_X10_by
    exact ⟨fun _ => trivial, fun _ => trivial, fun _ => trivial, fun _ => ⟨fun q => ⟨fun _ => q, fun _ => trivial⟩, fun _ => trivial⟩, fun _ => trivial, fun _ => trivial⟩
  refine ⟨?_, hP _, ?_⟩
  · unfold F_X10_by outO
    rw [less_eq, more_eq]
    rcases c_cases h1 h2 with h | h | h | h | h | h <;> subst h
    · rfl
    · rfl
    · rfl
    · show (if y ≠ 0 then (if y ≠ -1 then x / y else -x) else 0) = if y = 0 then 0 else x / y
      by_cases h0 : y = 0
      · rw [if_neg (not_not_intro h0), if_pos h0]
      · rw [if_pos h0, if_neg h0]
        by_cases h1 : y = -1
        · rw [if_neg (not_not_intro h1), h1, div_m1]
        · rw [if_pos h1]
    · rfl
    · rfl
  · rcases c_cases h1 h2 with h | h | h | h | h | h <;> subst h <;> decide
theorem lwD_s (L : LW) (i : Nat) : lwD L (i + 1) = if lwC L i ≤ 7 then lwD L i + 1 else lwD L i - 1 := rfl
theorem lwD_le (L : LW) (i : Nat) : lwD L i ≤ i := by
  induction i with
  | zero => exact Nat.le_refl 0
  | succ i ih =>
    rw [lwD_s]
    split <;> omega
theorem stp_d (L : LW) (gv : Nat → Int32) (f : Nat → Int32) (i : Nat) : (fo i (stp L gv) (0, f)).1 = lwD L i := by
  induction i with
  | zero => rfl
  | succ i ih =>
    rw [fo_succ, lwD_s, ← ih]
    unfold stp
    split <;> rfl
theorem stp_lo {L : LW} {gv : Nat → Int32} {i : Nat} {s : Nat × (Nat → Int32)} (h : lwC L i ≤ 7) : stp L gv i s = (s.1 + 1, upd s.2 s.1 (if lwC L i = 7 then lwV L i else gv (ix (lwC L i)))) := if_pos h
theorem stp_hi {L : LW} {gv : Nat → Int32} {i : Nat} {s : Nat × (Nat → Int32)} (h : ¬ lwC L i ≤ 7) : stp L gv i s = (s.1 - 1, upd s.2 (s.1 - 2) (outO (lwC L i) (s.2 (s.1 - 2)) (s.2 (s.1 - 1)))) := if_neg h
theorem clamp99 (x : Int32) : imin 99 (imax 0 x) = imax 0 (imin 99 x) := by
  have d1 : (0 : Int32) < 99 := by decide
  unfold imin imax
  by_cases h1 : 0 < x
  · rw [if_pos h1]
    by_cases h2 : x < 99
    · rw [if_pos h2, if_pos h1]
    · rw [if_neg h2, if_pos d1]
  · rw [if_neg h1, if_pos d1]
    have h2 : x < 99 := by grind
    rw [if_pos h2, if_neg h1]
theorem dueZ (gv : Nat → Int32) (f : Nat → Int32) : (fo 9 (stp lwZ gv) (0, f)).2 0 = gv 0 / 4 + 3 * gv 1 - gv 5 := by
  have i0 : ix 0 = 0 := rfl
  have i1 : ix 1 = 1 := rfl
  have i5 : ix 5 = 5 := rfl
  simp [fo_succ, fo_zero, stp, lwC, lwV, lwZ, upd, outO, i0, i1, i5, Int32.mul_comm]
theorem lwZ_ok : LwOK lwZ := by
  unfold LwOK
  refine ⟨by decide, by decide, ?_, by decide⟩
  intro i hi
  have hi : i < 9 := hi
  have : ∀ i, i < 9 → 0 ≤ lwC lwZ i ∧ lwC lwZ i ≤ 13 ∧ (¬ lwC lwZ i ≤ 7 → 2 ≤ lwD lwZ i) := by decide
  exact this i hi
theorem sp_byLaw {L : LW} {gv : Nat → Int32} {μ : Mem} (hL : LwOK L) (hR : LwR L μ) (hg : ∀ k, k < 7 → μ 439 k = gv k) :
    P_X10_byLaw μ ∧ F_X10_byLaw μ = imax 0 (imin 99 ((fo (lwN L) (stp L gv) (0, fun _ => 0)).2 0)) ∧ ∀ h, h ≠ 438 → M_X10_byLaw μ h = μ h := by
  have hF : F_X10_byLaw μ = imax 0 (imin 99 ((SX10_byLaw_34 μ).2 438 0)) := by
    unfold F_X10_byLaw
    rw [less_eq, more_eq, clamp99]
  rcases hR with ⟨rfl, h0⟩ | hR
  · have hN : NX10_byLaw_34 μ = 0 := by
      unfold NX10_byLaw_34 muX10_byLaw_1
      rw [upm_ap, if_neg (by decide), h0]
      rfl
    have hS : SX10_byLaw_34 μ = (0, muX10_byLaw_1 μ) := by
      unfold SX10_byLaw_34
      rw [hN, fo_zero]
    have h57 : (SX10_byLaw_34 μ).2 57 21 = 0 := by
      rw [hS]
      unfold muX10_byLaw_1
      dsimp only
      rw [upm_ap, if_neg (by decide), h0]
    refine ⟨?_, ?_, ?_⟩
    · unfold P_X10_byLaw
      rw [hN, h57]
      refine ⟨fun j hj => absurd hj (Nat.not_lt_zero j), fun _ => trivial, fun q => absurd q (by decide)⟩
    · rw [hF]
      have e : lwN lwZ = 9 := rfl
      rw [e, dueZ, hS]
      unfold muX10_byLaw_1
      dsimp only
      rw [upm_ap, if_pos ⟨rfl, rfl⟩, hg 0 (by omega), hg 1 (by omega), hg 5 (by omega)]
    · intro h hh
      unfold M_X10_byLaw
      rw [hS]
      unfold muX10_byLaw_1
      exact upm_other hh
  · obtain ⟨hn, hrow⟩ := hR
    obtain ⟨hL0, hL1, hLc, hLd⟩ := hL
    have hN : NX10_byLaw_34 μ = lwN L := by
      unfold NX10_byLaw_34 muX10_byLaw_1
      rw [upm_ap, if_neg (by decide), hn, nI_ix (by omega)]
    have key := fo_all (fun i (s : Int32 × Mem) => s.1 = nI (lwD L i) ∧ (∀ k, k < lwD L i → s.2 438 k = (fo i (stp L gv) (0, fun _ => 0)).2 k) ∧ ∀ h, h ≠ 438 → s.2 h = μ h)
      Pb_X10_byLaw_34 (lwN L) g_X10_byLaw_34 (0, muX10_byLaw_1 μ) ⟨rfl, fun k hk => absurd hk (Nat.not_lt_zero k), fun h hh => upm_other hh⟩ ?_
    · obtain ⟨k1, k2, k3, k4⟩ := key
      have hS : SX10_byLaw_34 μ = fo (lwN L) g_X10_byLaw_34 (0, muX10_byLaw_1 μ) := by
        unfold SX10_byLaw_34
        rw [hN]
      rw [← hS] at k3 k4
      refine ⟨?_, ?_, ?_⟩
      · unfold P_X10_byLaw
        rw [hN, k4 57 (by decide), hn]
        exact ⟨k1, fun _ => trivial, fun q => absurd q (Int32.not_lt.mpr (Int32.le_refl _))⟩
      · rw [hF, k3 0 hLd]
      · exact k4
    · intro i hi s ⟨h1, h2, h3⟩
      obtain ⟨c1, c2, c3⟩ := hLc i hi
      have hd := lwD_le L i
      have e57 : s.2 57 21 = nI (lwN L) := by rw [h3 57 (by decide), hn]
      have erow : s.2 (103 + i) = μ (103 + i) := h3 _ (by omega)
      have eix : ix (nI i) = i := nI_ix (by omega)
      have eg : s.2 439 = μ 439 := h3 439 (by decide)
      have hp : (fo i (stp L gv) (0, fun _ => 0)).1 = lwD L i := stp_d L gv _ i
      have v160 : vp_in (nI i) 160 := vp_in_nI (by omega) (by omega)
      by_cases hc : lwC L i ≤ 7
      · have hk : ∃ x, (s.2 (103 + i) 0 = 0 ∧ s.2 (103 + i) 1 = x ∨ s.2 (103 + i) 0 = 1 ∧ s.2 (103 + i) 1 = lwC L i ∧ vp_in (lwC L i) 7 ∧ x = gv (ix (lwC L i))) ∧ x = (if lwC L i = 7 then lwV L i else gv (ix (lwC L i))) := by
          by_cases h7 : lwC L i = 7
          · refine ⟨lwV L i, Or.inl ?_, by rw [if_pos h7]⟩
            rw [erow]
            exact (hrow i hi).2.1 h7
          · refine ⟨gv (ix (lwC L i)), Or.inr ?_, by rw [if_neg h7]⟩
            have hlt : lwC L i < 7 := by grind
            rw [erow]
            obtain ⟨r1, r2⟩ := (hrow i hi).1 hlt
            exact ⟨r1, r2, vpI 7 c1 hlt (by omega), rfl⟩
        obtain ⟨x, hx, ex⟩ := hk
        have hn2 : ¬ 2 ≤ s.2 (103 + i) 0 := by
          rcases hx with ⟨q, -⟩ | ⟨q, -⟩ <;> rw [q] <;> decide
        have hlt2 : s.2 (103 + i) 0 < 2 := by
          rcases hx with ⟨q, -⟩ | ⟨q, -⟩ <;> rw [q] <;> decide
        have hv : VX10_byLaw_34_2 i s = x := by
          unfold VX10_byLaw_34_2
          rw [eix]
          rcases hx with ⟨q, q2⟩ | ⟨q, q2, q3, q4⟩
          · rw [q, if_neg (by decide), q2]
          · rw [q, if_pos (by decide), q2, eg, q4]
            exact hg _ (vp_ix q3)
        have hg1 : g_X10_byLaw_34 i s = (nI (lwD L i + 1), upm s.2 438 (lwD L i) x) := by
          unfold g_X10_byLaw_34 VX10_byLaw_34_4 VX10_byLaw_34_5 muX10_byLaw_34_3
          rw [eix, if_neg hn2, if_neg hn2, hv, h1, nI_ix (by omega), nI_1]
        refine ⟨?_, ?_, ?_, ?_⟩
        · unfold Pb_X10_byLaw_34
          rw [e57, eix]
          refine ⟨fun q => absurd q (nI_ge hi (by omega)), fun _ => ⟨v160, fun q => absurd q hn2, fun _ => ⟨v160, ⟨fun q => ⟨v160, ?_⟩, fun _ => v160⟩, ?_⟩⟩⟩
          · rcases hx with ⟨q0, -⟩ | ⟨q0, q2, q3, -⟩
            · exact absurd q0 q
            · rw [q2]
              exact q3
          · rw [h1]
            exact vp_in_nI (by omega) (by omega)
        · rw [hg1, lwD_s, if_pos hc]
        · intro k hk
          rw [lwD_s, if_pos hc] at hk
          rw [hg1, fo_succ, stp_lo hc, hp, ← ex]
          dsimp only
          rw [upm_row]
          unfold upd
          by_cases hkd : k = lwD L i
          · rw [if_pos hkd, if_pos hkd]
          · rw [if_neg hkd, if_neg hkd]
            exact h2 k (by omega)
        · intro h hh
          rw [hg1]
          dsimp only
          rw [upm_other hh]
          exact h3 h hh
      · obtain ⟨d, hd2⟩ : ∃ d, lwD L i = d + 2 := ⟨lwD L i - 2, by have := c3 hc; omega⟩
        have hk0 : s.2 (103 + i) 0 = lwC L i - 6 := by
          rw [erow]
          exact (hrow i hi).2.2 (by grind)
        obtain ⟨b1, b2, b3⟩ := byO (x := s.2 438 d) (y := s.2 438 (d + 1)) (μ := s.2) hc c2
        have em1 : s.1 + -1 = nI (d + 1) := by rw [h1, hd2]; exact pk_m1 (d + 1)
        have em2 : s.1 + -1 - 1 = nI d := by rw [em1, nI_pred]
        have e1 : ix (nI (d + 1)) = d + 1 := nI_ix (by omega)
        have e2 : ix (nI d) = d := nI_ix (by omega)
        have hg1 : g_X10_byLaw_34 i s = (nI (d + 1), upm s.2 438 d (outO (lwC L i) (s.2 438 d) (s.2 438 (d + 1)))) := by
          unfold g_X10_byLaw_34 VX10_byLaw_34_4 VX10_byLaw_34_5 muX10_byLaw_34_1
          rw [eix, hk0, if_pos b3, if_pos b3, em2, em1, e1, e2, b1]
        refine ⟨?_, ?_, ?_, ?_⟩
        · unfold Pb_X10_byLaw_34
          rw [e57, eix, hk0, em2, em1, e1, e2]
          refine ⟨fun q => absurd q (nI_ge hi (by omega)), fun _ => ⟨v160, fun _ => ⟨v160, vp_in_nI (by omega) (by omega), vp_in_nI (by omega) (by omega), b2, vp_in_nI (by omega) (by omega)⟩, fun q => absurd b3 (Int32.not_le.mpr q)⟩⟩
        · rw [hg1, lwD_s, if_neg hc, hd2]
          rfl
        · intro k hk
          rw [lwD_s, if_neg hc, hd2] at hk
          rw [hg1, fo_succ, stp_hi hc, hp, hd2]
          dsimp only
          rw [upm_row]
          unfold upd
          have z1 : d + 2 - 2 = d := by omega
          have z2 : d + 2 - 1 = d + 1 := by omega
          rw [z1, z2, h2 d (by omega), h2 (d + 1) (by omega)]
          by_cases hkd : k = d
          · rw [if_pos hkd, if_pos hkd]
          · rw [if_neg hkd, if_neg hkd]
            exact h2 k (by omega)
        · intro h hh
          rw [hg1]
          dsimp only
          rw [upm_other hh]
          exact h3 h hh
/-- the worth of a law for given numbers, by the reference -/
theorem sp_dueBy {L : LW} {d l w t r h : Int32} {μ : Mem} (hL : LwOK L) (hR : LwR L μ) :
    P_X10_dueBy d l w t r h μ ∧ F_X10_dueBy d l w t r h μ = dueL L d l w t r h ∧ ∀ q, q ≠ 438 → q ≠ 439 → M_X10_dueBy d l w t r h μ q = μ q := by
  have ho : ∀ q, q ≠ 439 → muX10_dueBy_7 d l w t r h μ q = μ q := by
    intro q hq
    unfold muX10_dueBy_7 muX10_dueBy_6 muX10_dueBy_5 muX10_dueBy_4 muX10_dueBy_3 muX10_dueBy_2 muX10_dueBy_1
    rw [upm_other hq, upm_other hq, upm_other hq, upm_other hq, upm_other hq, upm_other hq, upm_other hq]
  have hg : ∀ k, k < 7 → muX10_dueBy_7 d l w t r h μ 439 k = gvO d l w t r h k := by
    intro k hk
    unfold muX10_dueBy_7 muX10_dueBy_6 muX10_dueBy_5 muX10_dueBy_4 muX10_dueBy_3 muX10_dueBy_2 muX10_dueBy_1 gvO
    match k, hk with
    | 0, _ => simp [upm_ap]
    | 1, _ => simp [upm_ap]
    | 2, _ => simp [upm_ap]
    | 3, _ => simp [upm_ap]
    | 4, _ => simp [upm_ap]
    | 5, _ => simp [upm_ap]
    | 6, _ => simp [upm_ap]
  have hR' : LwR L (muX10_dueBy_7 d l w t r h μ) := by
    have hLn := hL.2.1
    rcases hR with ⟨e, h0⟩ | ⟨h1, h2⟩
    · exact Or.inl ⟨e, by rw [ho 57 (by decide)]; exact h0⟩
    · refine Or.inr ⟨by rw [ho 57 (by decide)]; exact h1, fun i hi => ?_⟩
      rw [ho (103 + i) (by omega)]
      exact h2 i hi
  obtain ⟨k1, k2, k3⟩ := sp_byLaw hL hR' hg
  unfold P_X10_dueBy F_X10_dueBy M_X10_dueBy muX10_dueBy_8
  refine ⟨k1, k2, fun q h1 h2 => ?_⟩
  rw [k3 q h1, ho q h2]
