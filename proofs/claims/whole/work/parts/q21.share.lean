/-! questions: share -/
theorem gvN_eq {E : EV} {r : Nat → Int32} {v : Int32} {B C : Nat} (n : Nat) (h : ∀ h, h < n → bitI v h = true → ix (r (56 + h)) ≤ B ∧ ix (r (56 + h)) ≤ C) : gvN E r v n B = gvN E r v n C := by
  induction n with
  | zero => rfl
  | succ n ih =>
    rw [gvN_s, gvN_s, ih fun k hk => h k (by omega)]
    by_cases q : bitI v n = true
    · obtain ⟨a, b⟩ := h n (by omega) q
      rw [if_pos q, if_pos q]
      omega
    · rw [if_neg q, if_neg q]
def pdN (E : EV) (r : Nat → Int32) (n : Nat) : Nat := fo n (fun h s => s + ix (r (56 + h))) 0
theorem pdN_s (E : EV) (r : Nat → Int32) (n : Nat) : pdN E r (n + 1) = pdN E r n + ix (r (56 + n)) := rfl
theorem pdN_ge {E : EV} {r : Nat → Int32} {n h : Nat} (hh : h < n) : ix (r (56 + h)) ≤ pdN E r n := by
  induction n with
  | zero => omega
  | succ n ih =>
    rw [pdN_s]
    by_cases q : h = n
    · subst q
      omega
    · have := ih (by omega)
      omega
theorem pdN_le {E : EV} {r : Nat → Int32} (hr : RowOK E 500 r) (n : Nat) (hn : n ≤ eH E) : pdN E r n ≤ n * 49500 := by
  induction n with
  | zero => exact Nat.le_refl 0
  | succ n ih =>
    have := ih (by omega)
    have := (pay_nat hr (show n < eH E by omega)).2
    rw [pdN_s, Nat.succ_mul]
    omega
theorem paid_nat {E : EV} {r : Nat → Int32} (hr : RowOK E 500 r) : paidR E r = nI (pdN E r (eH E)) := by
  unfold paidR
  have : ∀ n, n ≤ eH E → fo n (fun h s => s + r (56 + h)) 0 = nI (pdN E r n) := by
    intro n
    induction n with
    | zero => intro _; rfl
    | succ n ih =>
      intro hn
      rw [fo_succ, ih (by omega), pdN_s, ← nI_add, ← (pay_nat hr (show n < eH E by omega)).1]
  exact this _ (Nat.le_refl _)

theorem q_share {E : EV} {L : LW} {μ : Mem} (hI : Inv E L μ) (p1 p2 p3 : Int32) : Q w2 jB μ (K_X9_share p1 p2 p3 μ) (F_X9_share p1 p2 p3 μ) (M_X9_share p1 p2 p3 μ) (P_X9_share p1 p2 p3 μ) (F_X10_share p1 p2 p3) (M_X10_share p1 p2 p3) (P_X10_share p1 p2 p3) := by
  rcases gate_share hI p1 p2 p3 with ⟨h1, h2, h3, hK, ⟨s1, s2, s3⟩, hg⟩ | h
  · have hO := hI.1
    have hE := hI.E
    have hS := hI.S
    obtain ⟨a, ha, e521, e44⟩ := hI.row
    have hd := hO.1
    obtain ⟨h, hl, rfl⟩ := inR_el (by omega) h1
    obtain ⟨n, hn, rfl⟩ := inR_n (n := 999) h3 (Int32.le_refl 0) (by decide)
    obtain ⟨f1, b, hb, f2, b1, b2⟩ := sp_greatest (v := p2) (n := n) hE hO hS.2.1 hS.2.2 hn
    obtain ⟨pn1, pn2⟩ := pay_nat hS.2.2 hl
    have gle : ∀ B, gvN E (μ 521) p2 (eH E) B ≤ 300000 := fun B => Nat.le_trans (gvN_le (p := 49500) (eH E) fun h hh => (pay_nat hS.2.2 hh).2) (by have := Nat.mul_le_mul_right 49500 hd.1; omega)
    refine Or.inl ⟨hK, ?_, ?_, fun ν hν => ?_⟩
    · unfold P_X9_share
      rw [s3]
      exact fun _ _ _ => ⟨fun _ => f1, fun _ => trivial⟩
    · unfold M_X9_share
      rw [s1, s2, s3, ite_self, ite_self]
      exact KQ.rfl μ
    · obtain ⟨⟨bp2, bf2, m3⟩, ⟨bp4, bf4, m5⟩⟩ := hg ν hν
      have m1 : muX10_share_1 (nI h) p2 (nI n) ν = upm ν 57 0 0 := rfl
      obtain ⟨hI0, hk0⟩ := nu_of hI hν
      have r521 := hk0.at 521 (by omega)
      have hM := hI0.M
      obtain ⟨q1, q2⟩ := sp_paidM (row := 521) hM hO
      rw [r521, paid_nat hS.2.2] at q2
      have hP := pdN_le (E := E) hS.2.2 (eH E) (Nat.le_refl _)
      have hPg := pdN_ge (E := E) (r := μ 521) hl
      have hP3 : pdN E (μ 521) (eH E) ≤ 300000 := by have := Nat.mul_le_mul_right 49500 hd.1; omega
      have hg : ∀ B, B < 1000000 → P_X10_givenBy p2 (nI B) (upm ν 57 0 0) ∧ F_X10_givenBy p2 (nI B) (upm ν 57 0 0) = nI (gvN E (μ 521) p2 (eH E) B) := fun B hB => sp_givenM hM hO r521 hS.2.2 hB
      have i56 : ix (56 + nI h) = 56 + h := by rw [c56, nI_ix (by omega)]
      have u56 : vp_in (56 + nI h) 63 := by rw [c56]; exact vp_in_nI (by omega) (by omega)
      have hN : NX10_share_102 (nI h) p2 (nI n) ν = fst 1001 (fun i => decide (n < gvN E (μ 521) p2 (eH E) (i + 1))) := by
        unfold NX10_share_102
        refine fst_congr fun j hj => ?_
        unfold Cb_X10_share_102
        rw [m5, nI_1, (hg (j + 1) (by omega)).2]
        by_cases z : n < gvN E (μ 521) p2 (eH E) (j + 1)
        · rw [if_pos (nI_lt z (by have := gle (j + 1); omega)), decide_eq_true z]
          rfl
        · rw [if_neg (nI_nlt (by omega) (by omega)), decide_eq_false z]
          rfl
      obtain ⟨km1, km2, km3⟩ : KQ ν (M_X10_share (nI h) p2 (nI n) ν) ∧ M_X10_share (nI h) p2 (nI n) ν 57 0 = 0 ∧ M_X10_share (nI h) p2 (nI n) ν 548 0 = ν 548 0 := by
        unfold M_X10_share
        rw [m1, m3, m5, ite_self]
        exact km (KM.rfl _)
      refine ⟨?_, ?_, km1, km2, km3⟩
      · unfold P_X10_share
        rw [m3, m5, q2, hN, has_eq, (hg _ (by omega)).2]
        refine ⟨bp2, fun _ => trivial, fun _ => ⟨bp4, fun _ => ⟨fun hb => ⟨q1, (hg _ (by omega)).1, fun z => ?_, fun _ => u56⟩, fun _ => trivial⟩, fun _ => trivial⟩⟩
        rw [nI_ltI (by omega) (by have := gle (pdN E (μ 521) (eH E)); omega)] at z
        have hlt : fst 1001 (fun i => decide (n < gvN E (μ 521) p2 (eH E) (i + 1))) ≤ 999 := by
          refine fst_lt (by omega) (decide_eq_true (Nat.lt_of_not_le fun y => ?_))
          replace y : gvN E (μ 521) p2 (eH E) 1000 ≤ n := y
          have : gvN E (μ 521) p2 (eH E) 1000 = gvN E (μ 521) p2 (eH E) (pdN E (μ 521) (eH E)) := gvN_eq _ fun k hk hb => ⟨by
            have := gvN_term (E := E) (r := μ 521) (B := 1000) hk hb
            omega, pdN_ge hk⟩
          omega
        have hhit : n < gvN E (μ 521) p2 (eH E) (fst 1001 (fun i => decide (n < gvN E (μ 521) p2 (eH E) (i + 1))) + 1) := of_decide_eq_true (fst_hit (n := 1001) (c := fun i => decide (n < gvN E (μ 521) p2 (eH E) (i + 1))) (by omega))
        have hmin : ∀ j, j < fst 1001 (fun i => decide (n < gvN E (μ 521) p2 (eH E) (i + 1))) → ¬ n < gvN E (μ 521) p2 (eH E) (j + 1) := fun j hj => of_decide_eq_false (fst_min (n := 1001) (c := fun i => decide (n < gvN E (μ 521) p2 (eH E) (i + 1))) hj)
        generalize fst 1001 (fun i => decide (n < gvN E (μ 521) p2 (eH E) (i + 1))) = N at *
        rw [nI_1, (hg _ (by omega)).2]
        refine ⟨fun j hj => ?_, (hg _ (by omega)).1, fun _ => u56, fun y => nI_ge hhit (by have := gle (N + 1); omega) y⟩
        unfold Pb_X10_share_102
        rw [nI_1, (hg (j + 1) (by omega)).2]
        exact ⟨(hg (j + 1) (by omega)).1, fun y => hmin j hj ((nI_ltI (by omega) (by have := gle (j + 1); omega)).mp y), fun _ => trivial⟩
      · unfold F_X10_share F_X9_share
        rw [m1, m3, m5, if_neg (not_not_intro bf2), if_pos bf4, q2, hN, has_eq, (hg _ (by omega)).2, s3, f2, of62 (by omega), hS.2.1 h (by omega), i56, r521]
        by_cases hb' : bitI p2 h = true
        · have q' : ((p2 >>> ((nI h) &&& 31)) &&& 1) = 1 := of_decide_eq_true hb'
          rw [if_pos hb', if_pos (show (1 : Int32) ≠ 0 by decide), q', if_pos (show (1 : Int32) ≠ 0 by decide)]
          by_cases z : n < gvN E (μ 521) p2 (eH E) (pdN E (μ 521) (eH E))
          · rw [if_pos (nI_lt z (by have := gle (pdN E (μ 521) (eH E)); omega))]
            have hlt : fst 1001 (fun i => decide (n < gvN E (μ 521) p2 (eH E) (i + 1))) ≤ 999 := by
              refine fst_lt (by omega) (decide_eq_true (Nat.lt_of_not_le fun y => ?_))
              replace y : gvN E (μ 521) p2 (eH E) 1000 ≤ n := y
              have : gvN E (μ 521) p2 (eH E) 1000 = gvN E (μ 521) p2 (eH E) (pdN E (μ 521) (eH E)) := gvN_eq _ fun k hk hb => ⟨by
                have := gvN_term (E := E) (r := μ 521) (B := 1000) hk hb
                omega, pdN_ge hk⟩
              omega
            have hhit : n < gvN E (μ 521) p2 (eH E) (fst 1001 (fun i => decide (n < gvN E (μ 521) p2 (eH E) (i + 1))) + 1) := of_decide_eq_true (fst_hit (n := 1001) (c := fun i => decide (n < gvN E (μ 521) p2 (eH E) (i + 1))) (by omega))
            have hmin : ∀ j, j < fst 1001 (fun i => decide (n < gvN E (μ 521) p2 (eH E) (i + 1))) → ¬ n < gvN E (μ 521) p2 (eH E) (j + 1) := fun j hj => of_decide_eq_false (fst_min (n := 1001) (c := fun i => decide (n < gvN E (μ 521) p2 (eH E) (i + 1))) hj)
            generalize fst 1001 (fun i => decide (n < gvN E (μ 521) p2 (eH E) (i + 1))) = N at *
            have hN1 : gvN E (μ 521) p2 (eH E) N ≤ n := by
              cases N with
              | zero => rw [gvN_0]; omega
              | succ k => exact Nat.le_of_not_lt (hmin k (by omega))
            rw [less_eq, pn1, imin_nI (by omega) (by omega), imin_nI (by omega) (by omega), share_eq hl hb' hb b1 b2 hN1 (Or.inl hhit)]
          · rw [if_neg (nI_nlt (by omega) (by omega)), pn1, imin_nI (by omega) (by omega), share_eq hl hb' hb b1 b2 (show gvN E (μ 521) p2 (eH E) (pdN E (μ 521) (eH E)) ≤ n by omega) (Or.inr hPg), Nat.min_eq_right hPg]
        · have q0 : ((p2 >>> ((nI h) &&& 31)) &&& 1) = 0 := by
            obtain ⟨j, hj, e⟩ := pk_andE (p2 >>> ((nI h) &&& 31)) (m := 1) 1 (by decide)
            have : j = 0 ∨ j = 1 := by omega
            rcases this with rfl | rfl
            · exact e
            · exact absurd (decide_eq_true e) hb'
          rw [if_neg hb', if_neg (show ¬ (0 : Int32) ≠ 0 by decide), q0, if_neg (show ¬ (0 : Int32) ≠ 0 by decide)]
  · exact Or.inr h
theorem case_share {E : EV} {L : LW} {μ : Mem} (hI : Inv E L μ) (p1 p2 p3 : Int32) : P_W_26 p1 p2 p3 μ ∧ Inv E L (M_W_26 p1 p2 p3 μ) := by
  have h := wrapB (K_X9_share p1 p2 p3 μ) (F_X9_share p1 p2 p3 μ) (M_X9_share p1 p2 p3 μ) (P_X9_share p1 p2 p3 μ) (F_X10_share p1 p2 p3) (M_X10_share p1 p2 p3) (P_X10_share p1 p2 p3) hI (q_share hI p1 p2 p3)
  unfold P_W_26 M_W_26 muL_law_c26_2 muL_law_c26_1 M_L_share W_L_share F_X10_thrown
  exact h
