/-! one STEP is done, both sides -/
def DR (E : EV) (L : LW) (μc μm : Mem) : Prop := EvC E μc ∧ LwC L μc ∧ EvM E μm ∧ LwR L μm ∧ μm 57 43 = 0 ∧ μm 57 44 = eR E ∧ RC0 E (μc 44) (μm 521) ∧ RCP (μc 44) (μm 521) ∧ RowOK E 500 (μm 521)
def FDc (μ μ' : Mem) : Prop := ∀ r, r ≠ 24 → r ≠ 25 → (r < 44 ∨ 47 < r) → μ' r = μ r
def FDm (μ μ' : Mem) : Prop := ∀ r, r ≠ 521 → r ≠ 438 → r ≠ 439 → (r < 523 ∨ 525 < r) → μ' r = μ r
theorem DR.to {E : EV} {L : LW} {μc μm μc' μm' : Mem} (hO : EvOK E) (hL : LwOK L) (h : DR E L μc μm) (fc : FDc μc μc') (fm : FDm μm μm') (h0 : RC0 E (μc' 44) (μm' 521)) (hp : RCP (μc' 44) (μm' 521)) (hr : RowOK E 500 (μm' 521)) : DR E L μc' μm' := by
  obtain ⟨a1, a2, a3, a4, a5, a6, -, -, -⟩ := h
  refine ⟨a1.mono (fun r hr => fc r (by omega) (by omega) (by omega)), a2.mono (by rw [fc 21 (by omega) (by omega) (by omega)]) (fc 22 (by omega) (by omega) (by omega)) (fc 23 (by omega) (by omega) (by omega)), a3.mono (fun r hr => fm r (by omega) (by omega) (by omega) (by omega)) hO, a4.mono hL (by rw [fm 57 (by omega) (by omega) (by omega) (by omega)]) (fun q h1 h2 => fm q (by omega) (by omega) (by omega) (by omega)), ?_, ?_, h0, hp, hr⟩
  · rw [fm 57 (by omega) (by omega) (by omega) (by omega)]
    exact a5
  · rw [fm 57 (by omega) (by omega) (by omega) (by omega)]
    exact a6
theorem RowOK.of {E : EV} {b : Nat} {r r' : Nat → Int32} (hO : EvOK E) (h : RowOK E b r) (e : ∀ k, (k < 10 ∨ 40 ≤ k) → k < 63 → r' k = r k) (e1 : ∀ t, t < eT E → r' (10 + t) = 0 ∨ r' (10 + t) = 1) (e2 : ∀ t, t < eT E → r' (20 + t) = 0 ∨ r' (20 + t) = 1) (e3 : ∀ t, t < eT E → r' (20 + t) = 0 → r' (30 + t) = 0) : RowOK E b r' := by
  have hd := hO.1.1
  have hd1 := hO.1.2.1
  obtain ⟨r1, r2, r3, r4, r5, r6, r7⟩ := h
  refine ⟨fun t ht => ?_, e1, e2, fun t ht => ?_, fun h hl => ?_, ⟨fun h hl => ?_, e3⟩, ?_⟩
  · rw [e _ (by omega) (by omega)]
    exact r1 t ht
  · rw [e _ (by omega) (by omega)]
    exact r4 t ht
  · rw [e _ (by omega) (by omega)]
    exact r5 h hl
  · obtain ⟨p, a, ⟨hp, ha, ea⟩, e2⟩ := r6.1 h hl
    exact ⟨p, a, ⟨hp, ha, (e 62 (by omega) (by omega)).trans ea⟩, (e _ (by omega) (by omega)).trans e2⟩
  · rw [e _ (by omega) (by omega)]
    exact r7
/-- a tide fewer than the bound -/
theorem RowOK.dn {E : EV} {a b c : Nat} {r : Nat → Int32} (h : RowOK E b r) (ha : r 62 = nI a) (hab : a ≤ c) (hb : b < 2 ^ 31) (hc : c < 2 ^ 31) : RowOK E c r := by
  obtain ⟨r1, r2, r3, r4, r5, r6, r7⟩ := h
  refine ⟨r1, r2, r3, r4, r5, ⟨fun h hl => ?_, r6.2⟩, a, hab, ha⟩
  obtain ⟨p, a', ⟨hp, ha', ea⟩, e⟩ := r6.1 h hl
  have : a = a' := (nI_eq (by omega) (by omega)).mp (ha.symm.trans ea)
  exact ⟨p, a', ⟨hp, by omega, ea⟩, e⟩
theorem RC0.of {E : EV} {c c' r r' : Nat → Int32} (h : RC0 E c r) (e : ∀ k, k < 50 → c' k = r' k) (ec : ∀ k, 50 ≤ k → c' k = c k) (er : ∀ k, 50 ≤ k → r' k = r k) : RC0 E c' r' :=
  ⟨e, fun h' hl => by rw [ec _ (by omega), er _ (by omega)]; exact h.2.1 h' hl, fun h' hl => by rw [ec _ (by omega), er _ (by omega)]; exact h.2.2.1 h' hl, by rw [ec _ (by omega), er _ (by omega)]; exact h.2.2.2⟩
theorem RCP.of {c c' r r' : Nat → Int32} (h : RCP c r) (ec : ∀ k, 50 ≤ k → c' k = c k) (er : ∀ k, 50 ≤ k → r' k = r k) : RCP c' r' := fun h' hl => by
  rw [ec _ (by omega), er _ (by omega)]
  exact h h' hl
/-- what one step comes to -/
def DO (E : EV) (L : LW) (μc μm : Mem) (F9 : Int32) (M9 : Mem) (F10 : Int32) (M10 : Mem) : Prop := ((F9 = 0 ∧ F10 = 0) ∨ (F9 = 1 ∧ F10 = 1)) ∧ DR E L M9 M10 ∧ FDc μc M9 ∧ FDm μm M10
theorem DO.same {E : EV} {L : LW} {μc μm : Mem} (h : DR E L μc μm) : DO E L μc μm 0 μc 0 μm := ⟨Or.inl ⟨rfl, rfl⟩, h, fun _ _ _ _ => rfl, fun _ _ _ _ _ => rfl⟩
/-- a thing's mark is set alike -/
theorem DO.set {E : EV} {L : LW} {μc μm : Mem} {j : Nat} {x F : Int32} (hO : EvOK E) (hL : LwOK L) (h : DR E L μc μm) (hj : 10 ≤ j ∧ j < 20) (hx : x = 0 ∨ x = 1) (hF : F = 0 ∨ F = 1) : DO E L μc μm F (upm μc 44 j x) F (upm μm 521 j x) := by
  have fc : FDc μc (upm μc 44 j x) := fun r _ _ z => upm_other (by omega)
  have fm : FDm μm (upm μm 521 j x) := fun r z _ _ _ => upm_other z
  refine ⟨hF.elim (fun z => Or.inl ⟨z, z⟩) (fun z => Or.inr ⟨z, z⟩), ?_, fc, fm⟩
  obtain ⟨-, -, -, -, -, -, h0, hp, hr⟩ := id h
  have hd1 := hO.1.2.1
  refine h.to hO hL fc fm (h0.of (fun k hk => ?_) (fun k hk => ?_) (fun k hk => ?_)) (hp.of (fun k hk => ?_) (fun k hk => ?_)) (hr.of hO (fun k hk _ => ?_) (fun t ht => ?_) (fun t ht => ?_) (fun t ht => ?_))
  · rw [upm_rr, upm_rr]
    by_cases z : k = j
    · rw [if_pos z, if_pos z]
    · rw [if_neg z, if_neg z, h0.1 k hk]
  · rw [upm_rr, if_neg (by omega)]
  · rw [upm_rr, if_neg (by omega)]
  · rw [upm_rr, if_neg (by omega)]
  · rw [upm_rr, if_neg (by omega)]
  · rw [upm_rr, if_neg (by omega)]
  · rw [upm_rr]
    by_cases z : 10 + t = j
    · rw [if_pos z]
      exact hx
    · rw [if_neg z]
      exact hr.2.1 t ht
  · rw [upm_rr, if_neg (by omega)]
    exact hr.2.2.1 t ht
  · rw [upm_rr, upm_rr, if_neg (by omega), if_neg (by omega)]
    exact hr.2.2.2.2.2.1.2 t ht
theorem DO.rope {E : EV} {L : LW} {μc μm μm' : Mem} {j : Nat} {x F : Int32} (hO : EvOK E) (hL : LwOK L) (h : DR E L μc μm) (hj : j < eT E) (hx : x = 0 ∨ x = 1) (hF : F = 0 ∨ F = 1) (fm : FDm μm μm') (e20 : μm' 521 (20 + j) = x) (e30 : μm' 521 (30 + j) = 0) (eo : ∀ k, k ≠ 20 + j → k ≠ 30 + j → μm' 521 k = μm 521 k) : DO E L μc μm F (upm (upm μc 44 (20 + j) x) 44 (30 + j) 0) F μm' := by
  have fc : FDc μc (upm (upm μc 44 (20 + j) x) 44 (30 + j) 0) := fun r _ _ z => by rw [upm_other (by omega), upm_other (by omega)]
  refine ⟨hF.elim (fun z => Or.inl ⟨z, z⟩) (fun z => Or.inr ⟨z, z⟩), ?_, fc, fm⟩
  obtain ⟨-, -, -, -, -, -, h0, hp, hr⟩ := id h
  have hd1 := hO.1.2.1
  refine h.to hO hL fc fm (h0.of (fun k hk => ?_) (fun k hk => ?_) (fun k hk => ?_)) (hp.of (fun k hk => ?_) (fun k hk => ?_)) (hr.of hO (fun k hk _ => ?_) (fun t ht => ?_) (fun t ht => ?_) (fun t ht => ?_))
  · rw [upm_rr, upm_rr]
    by_cases z : k = 30 + j
    · rw [if_pos z, z, e30]
    · rw [if_neg z]
      by_cases y : k = 20 + j
      · rw [if_pos y, y, e20]
      · rw [if_neg y, eo k y z, h0.1 k hk]
  · rw [upm_rr, if_neg (by omega), upm_rr, if_neg (by omega)]
  · exact eo k (by omega) (by omega)
  · rw [upm_rr, if_neg (by omega), upm_rr, if_neg (by omega)]
  · exact eo k (by omega) (by omega)
  · exact eo k (by omega) (by omega)
  · rw [eo _ (by omega) (by omega)]
    exact hr.2.1 t ht
  · by_cases z : t = j
    · rw [z, e20]
      exact hx
    · rw [eo _ (by omega) (by omega)]
      exact hr.2.2.1 t ht
  · by_cases z : t = j
    · rw [z, e30]
      exact fun _ => rfl
    · rw [eo _ (by omega) (by omega), eo _ (by omega) (by omega)]
      exact hr.2.2.2.2.2.1.2 t ht
theorem upm_id {μ : Mem} {h i : Nat} {x : Int32} (e : μ h i = x) : upm μ h i x = μ := by
  funext r k
  rw [upm_ap]
  by_cases z : r = h ∧ k = i
  · rw [if_pos z, z.1, z.2, e]
  · rw [if_neg z]
section DOES
variable {E : EV} {L : LW} {μc μm : Mem} {sp j k : Nat}
theorem does_v (hk : k < 4) (h0 : μm sp 0 = nI k) (h1 : μm sp 1 = nI j) (hj : j < 10) :
    VX10_does_3 521 sp μm = (if μm 521 (10 + j) = 1 then 1 else 0) ∧ VX10_does_2 521 sp μm = (if μm 521 (20 + j) = 1 then 1 else 0) ∧ VX10_does_1 521 sp μm = (if μm 521 j = -1 then 0 else 1) := by
  have n4 : ¬ (4 : Int32) ≤ μm sp 0 := by rw [h0]; exact nI_ge (b := 4) hk (by omega)
  have n3 : ¬ (3 : Int32) < μm sp 0 := by rw [h0]; exact Int32.not_lt.mpr (nI_le (b := 3) (by omega) (by omega))
  refine ⟨?_, ?_, ?_⟩
  · unfold VX10_does_3
    rw [if_neg n4, h1, c10, nI_ix (by omega)]
    by_cases z : μm 521 (10 + j) = 1
    · rw [if_neg (not_not_intro z), if_pos z]
    · rw [if_pos z, if_neg z]
  · unfold VX10_does_2
    rw [if_neg n4, h1, c20, nI_ix (by omega)]
    by_cases z : μm 521 (20 + j) = 1
    · rw [if_neg (not_not_intro z), if_pos z]
    · rw [if_pos z, if_neg z]
  · unfold VX10_does_1
    rw [if_neg n3, h1, c0, nI_ix (by omega)]
theorem does_P (hk : k = 0 ∨ k = 1 ∨ k = 2 ∨ k = 3) (h0 : μm sp 0 = nI k) (h1 : μm sp 1 = nI j) (hj : j < 10) : P_X10_does 521 sp μm := by
  have v0 : vp_in (0 + μm sp 1) 63 := by rw [h1, c0]; exact vp_in_nI (by omega) (by decide)
  have v1 : vp_in (10 + μm sp 1) 63 := by rw [h1, c10]; exact vp_in_nI (by omega) (by decide)
  have v2 : vp_in (20 + μm sp 1) 63 := by rw [h1, c20]; exact vp_in_nI (by omega) (by decide)
  have v3 : vp_in (30 + μm sp 1) 63 := by rw [h1, c30]; exact vp_in_nI (by omega) (by decide)
  have n4 : μm sp 0 ≠ 4 := by
    rw [h0]
    exact fun z => absurd ((nI_eq (b := 4) (by omega) (by omega)).mp z) (by omega)
  refine ⟨⟨fun _ => trivial, fun _ => v0⟩, ⟨fun _ => trivial, fun _ => v2⟩, ⟨fun _ => trivial, fun _ => v1⟩, fun _ => ⟨fun _ => trivial, fun _ => ⟨fun _ => trivial, fun _ => ⟨fun _ => v1, fun _ => trivial⟩⟩⟩, fun _ => v1, fun _ => ⟨fun _ => trivial, fun _ => ⟨fun _ => trivial, fun _ => ⟨fun _ => v2, fun _ => trivial⟩⟩⟩, fun _ => ⟨v2, v3⟩, fun z => absurd z n4, fun z => ?_⟩
  rcases hk with hk | hk | hk | hk
  · exact absurd (by rw [h0, hk]; rfl) z.1
  · exact absurd (by rw [h0, hk]; rfl) z.2.1
  · exact absurd (by rw [h0, hk]; rfl) z.2.2.1
  · exact absurd (by rw [h0, hk]; rfl) z.2.2.2.1
theorem down_C (h : DR E L μc μm) (hj : j < 10) : F_X5_isDown 43 (nI j) μc = (if μm 521 j = -1 then 0 else (if μm 521 (10 + j) ≠ 0 then 0 else 1)) := by
  have h0 := h.2.2.2.2.2.2.1.1
  unfold F_X5_isDown
  rw [of0 (by omega), of10 (by omega), h0 j (by omega), h0 (10 + j) (by omega)]
theorem do_lift (hO : EvOK E) (hL : LwOK L) (h : DR E L μc μm) (h0 : μm sp 0 = 0) (h1 : μm sp 1 = nI j) (hj : j < eT E) : DO E L μc μm (F_X5_lift 43 (nI j) μc) (M_X5_lift 43 (nI j) μc) (F_X10_does 521 sp μm) (M_X10_does 521 sp μm) := by
  have hd1 := hO.1.2.1
  obtain ⟨v3, v2, v1⟩ := does_v (k := 0) (by decide) h0 h1 (show j < 10 by omega)
  have hr := h.2.2.2.2.2.2.2.2
  have e20 : F_X5_of 43 20 (nI j) μc = μm 521 (20 + j) := by rw [of20 (by omega), h.2.2.2.2.2.2.1.1 _ (by omega)]
  unfold F_X5_lift M_X5_lift F_X10_does M_X10_does
  rw [down_C h (by omega), e20, v3, v2, v1, if_pos h0, if_pos h0]
  by_cases a : μm 521 j = -1
  · rw [if_pos a, if_pos a, if_pos (show (0 : Int32) = 0 from rfl), if_pos (show (0 : Int32) = 0 from rfl), if_neg (show ¬ (0 : Int32) ≠ 0 from not_not_intro rfl), ite_self, ite_self, if_neg (show ¬ (0 : Int32) ≠ 0 from not_not_intro rfl), ite_self, ite_self]
    exact DO.same h
  rw [if_neg a, if_neg a, if_pos (show (1 : Int32) ≠ 0 by decide), if_pos (show (1 : Int32) ≠ 0 by decide)]
  rcases hr.2.1 j hj with b | b
  · rw [b, if_neg (show ¬ (0 : Int32) ≠ 0 from not_not_intro rfl), if_neg (show ¬ (1 : Int32) = 0 by decide), if_neg (show ¬ (1 : Int32) = 0 by decide), if_neg (show ¬ (0 : Int32) = 1 by decide), if_neg (show ¬ (0 : Int32) ≠ 0 from not_not_intro rfl), if_neg (show ¬ (0 : Int32) ≠ 0 from not_not_intro rfl)]
    rcases hr.2.2.1 j hj with d | d
    · rw [d, if_neg (show ¬ (0 : Int32) = 1 by decide), if_pos (show (0 : Int32) ≠ 1 by decide), if_pos (show (0 : Int32) ≠ 1 by decide), if_neg (show ¬ (0 : Int32) ≠ 0 from not_not_intro rfl), if_neg (show ¬ (0 : Int32) ≠ 0 from not_not_intro rfl)]
      have e9 : muX5_lift_1 43 (nI j) μc = upm μc 44 (10 + j) 1 := set10 (by omega)
      have e10 : muX10_does_4 521 sp μm = upm μm 521 (10 + j) 1 := by
        unfold muX10_does_4
        rw [h1, c10, nI_ix (by omega)]
      rw [e9, e10]
      exact DO.set hO hL h (by omega) (Or.inr rfl) (Or.inr rfl)
    · rw [d, if_pos (show (1 : Int32) = 1 from rfl), if_neg (show ¬ (1 : Int32) ≠ 1 from not_not_intro rfl), if_neg (show ¬ (1 : Int32) ≠ 1 from not_not_intro rfl), if_pos (show (1 : Int32) ≠ 0 by decide), if_pos (show (1 : Int32) ≠ 0 by decide)]
      exact DO.same h
  · rw [b, if_pos (show (1 : Int32) ≠ 0 by decide), if_pos (show (0 : Int32) = 0 from rfl), if_pos (show (0 : Int32) = 0 from rfl), if_pos (show (1 : Int32) = 1 from rfl), if_pos (show (1 : Int32) ≠ 0 by decide), if_pos (show (1 : Int32) ≠ 0 by decide)]
    exact DO.same h
theorem do_lower (hO : EvOK E) (hL : LwOK L) (h : DR E L μc μm) (h0 : μm sp 0 = 1) (h1 : μm sp 1 = nI j) (hj : j < eT E) : DO E L μc μm (F_X5_lower 43 (nI j) μc) (M_X5_lower 43 (nI j) μc) (F_X10_does 521 sp μm) (M_X10_does 521 sp μm) := by
  have hd1 := hO.1.2.1
  obtain ⟨v3, v2, v1⟩ := does_v (k := 1) (by decide) h0 h1 (show j < 10 by omega)
  have hr := h.2.2.2.2.2.2.2.2
  have hc := h.2.2.2.2.2.2.1.1
  have e1 : F_X5_of 43 10 (nI j) μc = μm 521 (10 + j) := by rw [of10 (by omega), hc _ (by omega)]
  have n0 : ¬ μm sp 0 = 0 := by rw [h0]; decide
  have e10 : muX10_does_5 521 sp μm = upm μm 521 (10 + j) 0 := by
    unfold muX10_does_5
    rw [h1, c10, nI_ix (by omega)]
  have e9 : muX5_lower_1 43 (nI j) μc = upm μc 44 (10 + j) 0 := set10 (by omega)
  unfold F_X5_lower M_X5_lower F_X10_does M_X10_does
  rw [e1, v3, if_neg n0, if_neg n0, if_pos h0, if_pos h0, e10, e9]
  rcases hr.2.1 j hj with b | b
  · have e0 : upm μc 44 (10 + j) 0 = μc := upm_id (by rw [hc _ (by omega), b])
    rw [b, if_neg (show ¬ (0 : Int32) ≠ 0 from not_not_intro rfl), if_neg (show ¬ (0 : Int32) ≠ 0 from not_not_intro rfl), if_neg (show ¬ (0 : Int32) = 1 by decide)]
    have q := DO.set (j := 10 + j) (F := 0) hO hL h (by omega) (Or.inl rfl) (Or.inl rfl)
    rw [e0] at q
    exact q
  · rw [b, if_pos (show (1 : Int32) ≠ 0 by decide), if_pos (show (1 : Int32) ≠ 0 by decide), if_pos (show (1 : Int32) = 1 from rfl)]
    exact DO.set hO hL h (by omega) (Or.inl rfl) (Or.inr rfl)
theorem do_tie (hO : EvOK E) (hL : LwOK L) (h : DR E L μc μm) (h0 : μm sp 0 = 2) (h1 : μm sp 1 = nI j) (hj : j < eT E) : DO E L μc μm (F_X5_tie 43 (nI j) μc) (M_X5_tie 43 (nI j) μc) (F_X10_does 521 sp μm) (M_X10_does 521 sp μm) := by
  have hd1 := hO.1.2.1
  obtain ⟨v3, v2, v1⟩ := does_v (k := 2) (by decide) h0 h1 (show j < 10 by omega)
  have hr := h.2.2.2.2.2.2.2.2
  have e20 : F_X5_of 43 20 (nI j) μc = μm 521 (20 + j) := by rw [of20 (by omega), h.2.2.2.2.2.2.1.1 _ (by omega)]
  have n0 : ¬ μm sp 0 = 0 := by rw [h0]; decide
  have n1 : ¬ μm sp 0 = 1 := by rw [h0]; decide
  unfold F_X5_tie M_X5_tie F_X10_does M_X10_does
  rw [down_C h (by omega), e20, v3, v2, v1, if_neg n0, if_neg n0, if_neg n1, if_neg n1, if_pos h0, if_pos h0]
  by_cases a : μm 521 j = -1
  · rw [if_pos a, if_pos a, if_pos (show (0 : Int32) = 0 from rfl), if_pos (show (0 : Int32) = 0 from rfl), if_neg (show ¬ (0 : Int32) ≠ 0 from not_not_intro rfl), ite_self, ite_self, if_neg (show ¬ (0 : Int32) ≠ 0 from not_not_intro rfl), ite_self, ite_self]
    exact DO.same h
  rw [if_neg a, if_neg a, if_pos (show (1 : Int32) ≠ 0 by decide), if_pos (show (1 : Int32) ≠ 0 by decide)]
  rcases hr.2.1 j hj with b | b
  · rw [b, if_neg (show ¬ (0 : Int32) ≠ 0 from not_not_intro rfl), if_neg (show ¬ (1 : Int32) = 0 by decide), if_neg (show ¬ (1 : Int32) = 0 by decide), if_neg (show ¬ (0 : Int32) = 1 by decide), if_neg (show ¬ (0 : Int32) ≠ 0 from not_not_intro rfl), if_neg (show ¬ (0 : Int32) ≠ 0 from not_not_intro rfl)]
    rcases hr.2.2.1 j hj with d | d
    · rw [d, if_neg (show ¬ (0 : Int32) = 1 by decide), if_pos (show (0 : Int32) ≠ 1 by decide), if_pos (show (0 : Int32) ≠ 1 by decide), if_neg (show ¬ (0 : Int32) ≠ 0 from not_not_intro rfl), if_neg (show ¬ (0 : Int32) ≠ 0 from not_not_intro rfl)]
      have e9 : muX5_tie_2 43 (nI j) μc = upm (upm μc 44 (20 + j) 1) 44 (30 + j) 0 := by
        have q : muX5_tie_1 43 (nI j) μc = upm μc 44 (20 + j) 1 := set20 (by omega)
        unfold muX5_tie_2
        rw [q]
        exact set30 (by omega)
      have e10 : muX10_does_6 521 sp μm = upm μm 521 (20 + j) 1 := by
        unfold muX10_does_6
        rw [h1, c20, nI_ix (by omega)]
      rw [e9, e10]
      exact DO.rope hO hL h hj (Or.inr rfl) (Or.inr rfl) (fun r z _ _ _ => upm_other z) (by rw [upm_rr, if_pos rfl]) (by rw [upm_rr, if_neg (by omega)]; exact hr.2.2.2.2.2.1.2 j hj d) (fun k y _ => by rw [upm_rr, if_neg y])
    · rw [d, if_pos (show (1 : Int32) = 1 from rfl), if_neg (show ¬ (1 : Int32) ≠ 1 from not_not_intro rfl), if_neg (show ¬ (1 : Int32) ≠ 1 from not_not_intro rfl), if_pos (show (1 : Int32) ≠ 0 by decide), if_pos (show (1 : Int32) ≠ 0 by decide)]
      exact DO.same h
  · rw [b, if_pos (show (1 : Int32) ≠ 0 by decide), if_pos (show (0 : Int32) = 0 from rfl), if_pos (show (0 : Int32) = 0 from rfl), if_pos (show (1 : Int32) = 1 from rfl), if_pos (show (1 : Int32) ≠ 0 by decide), if_pos (show (1 : Int32) ≠ 0 by decide)]
    exact DO.same h
theorem do_untie (hO : EvOK E) (hL : LwOK L) (h : DR E L μc μm) (h0 : μm sp 0 = 3) (h1 : μm sp 1 = nI j) (hj : j < eT E) : DO E L μc μm (F_X5_untie 43 (nI j) μc) (M_X5_untie 43 (nI j) μc) (F_X10_does 521 sp μm) (M_X10_does 521 sp μm) := by
  have hd1 := hO.1.2.1
  obtain ⟨v3, v2, v1⟩ := does_v (k := 3) (by decide) h0 h1 (show j < 10 by omega)
  have hr := h.2.2.2.2.2.2.2.2
  have hc := h.2.2.2.2.2.2.1.1
  have e20 : F_X5_of 43 20 (nI j) μc = μm 521 (20 + j) := by rw [of20 (by omega), hc _ (by omega)]
  have n0 : ¬ μm sp 0 = 0 := by rw [h0]; decide
  have n1 : ¬ μm sp 0 = 1 := by rw [h0]; decide
  have n2 : ¬ μm sp 0 = 2 := by rw [h0]; decide
  have e9 : muX5_untie_2 43 (nI j) μc = upm (upm μc 44 (20 + j) 0) 44 (30 + j) 0 := by
    have q : muX5_untie_1 43 (nI j) μc = upm μc 44 (20 + j) 0 := set20 (by omega)
    unfold muX5_untie_2
    rw [q]
    exact set30 (by omega)
  have e7 : muX10_does_7 521 sp μm = upm μm 521 (20 + j) 0 := by
    unfold muX10_does_7
    rw [h1, c20, nI_ix (by omega)]
  have e8 : muX10_does_8 521 sp μm = upm (upm μm 521 (20 + j) 0) 521 (30 + j) 0 := by
    unfold muX10_does_8
    rw [e7, h1, c30, nI_ix (by omega)]
  have key : ∀ F : Int32, F = 0 ∨ F = 1 → DO E L μc μm F (upm (upm μc 44 (20 + j) 0) 44 (30 + j) 0) F (upm (upm μm 521 (20 + j) 0) 521 (30 + j) 0) := fun F hF =>
    DO.rope hO hL h hj (Or.inl rfl) hF (fun r z _ _ _ => by rw [upm_other z, upm_other z]) (by rw [upm_rr, if_neg (by omega), upm_rr, if_pos rfl]) (by rw [upm_rr, if_pos rfl]) (fun k y z => by rw [upm_rr, if_neg z, upm_rr, if_neg y])
  unfold F_X5_untie M_X5_untie F_X10_does M_X10_does
  rw [e20, v2, if_neg n0, if_neg n0, if_neg n1, if_neg n1, if_neg n2, if_neg n2, if_pos h0, if_pos h0, e8, e9]
  rcases hr.2.2.1 j hj with d | d
  · rw [d, if_neg (show ¬ (0 : Int32) ≠ 0 from not_not_intro rfl), if_neg (show ¬ (0 : Int32) ≠ 0 from not_not_intro rfl), if_neg (show ¬ (0 : Int32) = 1 by decide)]
    have q := key 0 (Or.inl rfl)
    have i1 : upm μc 44 (20 + j) 0 = μc := upm_id (by rw [hc _ (by omega), d])
    have i2 : upm μc 44 (30 + j) 0 = μc := upm_id (by rw [hc _ (by omega), hr.2.2.2.2.2.1.2 j hj d])
    rw [i1, i2] at q
    exact q
  · rw [d, if_pos (show (1 : Int32) ≠ 0 by decide), if_pos (show (1 : Int32) ≠ 0 by decide), if_pos (show (1 : Int32) = 1 from rfl)]
    exact key 1 (Or.inr rfl)
theorem do_bag (hO : EvOK E) (hL : LwOK L) (h : DR E L μc μm) (h0 : μm sp 0 = 4) (h1 : μm sp 1 = nI j) (hj : j < eH E) : P_X10_does 521 sp μm ∧ DO E L μc μm (F_X5_addBag 43 (nI j) μc) (M_X5_addBag 43 (nI j) μc) (F_X10_does 521 sp μm) (M_X10_does 521 sp μm) := by
  have hd := hO.1.1
  have hd1 := hO.1.2.1
  obtain ⟨-, -, -, -, -, -, hc, hp, hr⟩ := id h
  have n0 : ¬ μm sp 0 = 0 := by rw [h0]; decide
  have n1 : ¬ μm sp 0 = 1 := by rw [h0]; decide
  have n2 : ¬ μm sp 0 = 2 := by rw [h0]; decide
  have n3 : ¬ μm sp 0 = 3 := by rw [h0]; decide
  have ge4 : (4 : Int32) ≤ μm sp 0 := by rw [h0]; decide
  have gt3 : (3 : Int32) < μm sp 0 := by rw [h0]; decide
  have e5 : ix (50 + μm sp 1) = 50 + j := by rw [h1, c50, nI_ix (by omega)]
  have v5 : vp_in (50 + μm sp 1) 63 := by rw [h1, c50]; exact vp_in_nI (by omega) (by decide)
  refine ⟨⟨⟨fun _ => trivial, fun z => absurd gt3 (Int32.not_lt.mpr z)⟩, ⟨fun _ => trivial, fun z => absurd z (Int32.not_lt.mpr ge4)⟩, ⟨fun _ => trivial, fun z => absurd z (Int32.not_lt.mpr ge4)⟩, fun z => absurd z n0, fun z => absurd z n1, fun z => absurd z n2, fun z => absurd z n3, fun _ => ⟨v5, fun _ => ⟨v5, v5⟩, fun _ => trivial⟩, fun z => absurd h0 z.2.2.2.2⟩, ?_⟩
  obtain ⟨w, hw, ew⟩ := inR_n (lo := 0) (hi := 9) (n := 9) (decide_eq_true (hr.2.2.2.2.1 j hj)) (by decide) (by decide)
  have c56' : F_X5_of 43 56 (nI j) μc = nI w := by rw [of56 (by omega), hc.2.2.1 j (by omega), ew]
  unfold F_X5_addBag M_X5_addBag F_X10_does M_X10_does
  rw [c56', if_neg n0, if_neg n0, if_neg n1, if_neg n1, if_neg n2, if_neg n2, if_neg n3, if_neg n3, if_pos h0, if_pos h0, e5, ew]
  by_cases z : w < 9
  · have a1 : nI w < 9 := nI_lt (b := 9) z (by omega)
    have a2 : nI w ≠ 9 := fun y => absurd ((nI_eq (b := 9) (by omega) (by omega)).mp y) (by omega)
    rw [if_pos a1, if_pos a1, if_pos a2, if_pos a2]
    have m1 : muX5_addBag_1 43 (nI j) μc = upm μc 44 (56 + j) (nI (w + 1)) := by
      unfold muX5_addBag_1
      rw [c56', ← nI_succ]
      exact set56 (by omega)
    have m2 : muX5_addBag_2 43 (nI j) μc = upm (upm μc 44 (56 + j) (nI (w + 1))) 44 (50 + j) (μc 44 (50 + j) + 2) := by
      unfold muX5_addBag_2
      rw [m1]
      refine (set50 (by omega)).trans ?_
      rw [of50 (by omega), upm_rr, if_neg (by omega)]
    have m9 : muX10_does_9 521 sp μm = upm μm 521 (50 + j) (nI (w + 1)) := by
      unfold muX10_does_9
      rw [e5, ew, nI_succ]
    rw [m2, m9]
    have fc : FDc μc (upm (upm μc 44 (56 + j) (nI (w + 1))) 44 (50 + j) (μc 44 (50 + j) + 2)) := fun r _ _ z => by rw [upm_other (by omega), upm_other (by omega)]
    have fm : FDm μm (upm μm 521 (50 + j) (nI (w + 1))) := fun r z _ _ _ => upm_other z
    refine ⟨Or.inr ⟨rfl, rfl⟩, h.to hO hL fc fm ⟨fun k hk => ?_, fun h' hl => ?_, fun h' hl => ?_, ?_⟩ (fun h' hl => ?_) ?_, fc, fm⟩
    · rw [upm_rr, if_neg (by omega), upm_rr, if_neg (by omega), upm_rr, if_neg (by omega), hc.1 k hk]
    · rw [upm_rr, upm_rr, upm_rr]
      by_cases y : h' = j
      · rw [if_pos (by omega), if_pos (by omega), hc.2.1 j hj, ew, nI_succ]
        grind
      · rw [if_neg (by omega), if_neg (by omega), if_neg (by omega)]
        exact hc.2.1 h' hl
    · rw [upm_rr, upm_rr, upm_rr, if_neg (by omega)]
      by_cases y : h' = j
      · rw [if_pos (by omega), if_pos (by omega)]
      · rw [if_neg (by omega), if_neg (by omega)]
        exact hc.2.2.1 h' hl
    · rw [upm_rr, if_neg (by omega), upm_rr, if_neg (by omega), upm_rr, if_neg (by omega)]
      exact hc.2.2.2
    · rw [upm_rr, if_neg (by omega), upm_rr, if_neg (by omega), upm_rr, if_neg (by omega)]
      exact hp h' hl
    · obtain ⟨r1, r2, r3, r4, r5, r6, r7⟩ := hr
      have o : ∀ k, k ≠ 50 + j → upm μm 521 (50 + j) (nI (w + 1)) 521 k = μm 521 k := fun k hk => by rw [upm_rr, if_neg hk]
      refine ⟨fun t ht => ?_, fun t ht => ?_, fun t ht => ?_, fun t ht => ?_, fun h' hl => ?_, ⟨fun h' hl => ?_, fun t ht y => ?_⟩, ?_⟩
      · rw [o _ (by omega)]
        exact r1 t ht
      · rw [o _ (by omega)]
        exact r2 t ht
      · rw [o _ (by omega)]
        exact r3 t ht
      · rw [o _ (by omega)]
        exact r4 t ht
      · by_cases y : h' = j
        · rw [y, upm_rr, if_pos rfl]
          exact ⟨(nI_leI (a := 0) (by omega) (by omega)).mpr (Nat.zero_le _), nI_le (b := 9) (by omega) (by omega)⟩
        · rw [o _ (by omega)]
          exact r5 h' hl
      · rw [o 62 (by omega), o _ (by omega)]
        exact r6.1 h' hl
      · rw [o _ (by omega)] at y ⊢
        exact r6.2 t ht y
      · rw [o _ (by omega)]
        exact r7
  · have w9 : w = 9 := by omega
    have a1 : ¬ nI w < 9 := by rw [w9]; decide
    have a2 : ¬ nI w ≠ 9 := by rw [w9]; exact not_not_intro rfl
    rw [if_neg a1, if_neg a1, if_neg a2, if_neg a2]
    exact DO.same h
theorem do_tide (hO : EvOK E) (hL : LwOK L) (h : DR E L μc μm) (h0 : μm sp 0 = 5) : P_X5_comeIn 43 μc ∧ P_X10_does 521 sp μm ∧ DO E L μc μm (F_X5_comeIn 43 μc) (M_X5_comeIn 43 μc) (F_X10_does 521 sp μm) (M_X10_does 521 sp μm) := by
  have hd := hO.1.1
  obtain ⟨q1, q2, q3, q4, q5, q6, hc, hp, hr⟩ := id h
  have n0 : ¬ μm sp 0 = 0 := by rw [h0]; decide
  have n1 : ¬ μm sp 0 = 1 := by rw [h0]; decide
  have n2 : ¬ μm sp 0 = 2 := by rw [h0]; decide
  have n3 : ¬ μm sp 0 = 3 := by rw [h0]; decide
  have n4 : ¬ μm sp 0 = 4 := by rw [h0]; decide
  have ge4 : (4 : Int32) ≤ μm sp 0 := by rw [h0]; decide
  have gt3 : (3 : Int32) < μm sp 0 := by rw [h0]; decide
  obtain ⟨a, ha, ea⟩ := hr.2.2.2.2.2.2
  have eT : F_X5_tideToCome 43 μc = nI a := by rw [ofT, hc.2.2.2, ea]
  have PP : (μm 521 62 < 500 → P_X10_tideComes 521 μm) → P_X10_does 521 sp μm := fun g => ⟨⟨fun _ => trivial, fun z => absurd gt3 (Int32.not_lt.mpr z)⟩, ⟨fun _ => trivial, fun z => absurd z (Int32.not_lt.mpr ge4)⟩, ⟨fun _ => trivial, fun z => absurd z (Int32.not_lt.mpr ge4)⟩, fun z => absurd z n0, fun z => absurd z n1, fun z => absurd z n2, fun z => absurd z n3, fun z => absurd z n4, fun _ => ⟨g, fun _ => trivial⟩⟩
  have eF10 : F_X10_does 521 sp μm = if nI a < 500 then 1 else 0 := by
    unfold F_X10_does
    rw [if_neg n0, if_neg n1, if_neg n2, if_neg n3, if_neg n4, ea]
  have eM10 : M_X10_does 521 sp μm = if nI a < 500 then M_X10_tideComes 521 μm else μm := by
    unfold M_X10_does muX10_does_10
    rw [if_neg n0, if_neg n1, if_neg n2, if_neg n3, if_neg n4, ea]
  have eF9 : F_X5_comeIn 43 μc = if nI a < 500 then 1 else 0 := by
    unfold F_X5_comeIn
    rw [eT]
  by_cases z : a < 500
  · have a1 : nI a < 500 := nI_lt (b := 500) z (by omega)
    obtain ⟨g1, g2⟩ := sp_heightOf (a := a) q1 hO (by omega)
    obtain ⟨b1, b2, b3, b4, b5⟩ := sp_tideC (L := L) (hh := hgt E a) (rn := eR E) (Or.inl rfl) q1 hO hL q2 hc hp hr
    obtain ⟨d1, d2, d3⟩ := sp_tideComes (row := 521) (Or.inl rfl) q3 hO hL q4 hr (show a < 2 ^ 30 by omega) ea
    rw [q5, q6, show hgt E a + 0 = hgt E a by grind] at d2
    have e1 : muX5_comeIn_1 43 μc = M_X5_pass 43 (hgt E a) μc := by
      unfold muX5_comeIn_1
      rw [eT, g2]
    have o3 : muX5_comeIn_1 43 μc 3 12 = eR E := by
      rw [e1, (sp_pass (hh := hgt E a) (Or.inl rfl) q1 hO hc hr).2.2.2.2 3 (by omega) (by omega) (by omega) (by omega)]
      exact q1.2.2.2.2.1
    have e2 : M_X5_comeIn 43 μc = M_X5_payDues 43 (eR E) (M_X5_pass 43 (hgt E a) μc) := by
      unfold M_X5_comeIn muX5_comeIn_2
      rw [eT, if_pos a1, o3, e1]
    have fc : FDc μc (M_X5_comeIn 43 μc) := fun r u v w => by rw [e2, b5 r u v (by omega) (by omega) (by omega) (by omega)]
    have fm : FDm μm (M_X10_tideComes 521 μm) := fun r u v w x => d3 r u v w (by omega) (by omega) (by omega)
    refine ⟨⟨fun _ => ⟨by rw [eT]; exact g1, by rw [eT, g2]; exact b1, by rw [o3, e1]; exact b2⟩, fun _ => trivial⟩, PP fun _ => d1, ?_⟩
    rw [eF9, eF10, eM10, if_pos a1, if_pos a1]
    refine ⟨Or.inr ⟨rfl, rfl⟩, h.to hO hL fc fm ?_ ?_ ?_, fc, fm⟩
    · rw [e2, d2]
      exact b3
    · rw [e2, d2]
      exact b4
    · rw [d2]
      exact (tide_ok hO hr).dn (a := a + 1) (by rw [tide62, ea, nI_1]) (by omega) (by omega) (by omega)
  · have a1 : ¬ nI a < 500 := nI_nlt (a := a) (b := 500) (by omega) (by omega)
    refine ⟨⟨fun w => absurd w (by rw [eT]; exact a1), fun _ => trivial⟩, PP fun w => absurd w (by rw [ea]; exact a1), ?_⟩
    rw [eF9, eF10, eM10, if_neg a1, if_neg a1]
    unfold M_X5_comeIn
    rw [eT, if_neg a1]
    exact DO.same h
/-- a step, whatever its kind -/
theorem step_do {k : Nat} {v : Int32} (hO : EvOK E) (hL : LwOK L) (h : DR E L μc μm) (hk : k < 6) (h0 : μm sp 0 = nI k) (hv : k ≠ 5 → ∃ v', v = nI v' ∧ μm sp 1 = nI v' ∧ (k = 4 → v' < eH E) ∧ (k ≠ 4 → v' < eT E)) :
    P_X6_doStep (nI k) v μc ∧ P_X10_does 521 sp μm ∧ DO E L μc μm (F_X6_doStep (nI k) v μc) (M_X6_doStep (nI k) v μc) (F_X10_does 521 sp μm) (M_X10_does 521 sp μm) := by
  have hd1 := hO.1.2.1
  have PS : (k = 5 → P_X5_comeIn 43 μc) → P_X6_doStep (nI k) v μc := fun g => ⟨fun _ => trivial, fun _ => trivial, fun _ => trivial, fun _ => trivial, fun _ => trivial, fun z => g (by
    have c : k = 0 ∨ k = 1 ∨ k = 2 ∨ k = 3 ∨ k = 4 ∨ k = 5 := by omega
    rcases c with c | c | c | c | c | c
    · exact absurd (by rw [c]; rfl) z.1
    · exact absurd (by rw [c]; rfl) z.2.1
    · exact absurd (by rw [c]; rfl) z.2.2.1
    · exact absurd (by rw [c]; rfl) z.2.2.2.1
    · exact absurd (by rw [c]; rfl) z.2.2.2.2
    · exact c)⟩
  have c : k = 0 ∨ k = 1 ∨ k = 2 ∨ k = 3 ∨ k = 4 ∨ k = 5 := by omega
  rcases c with c | c | c | c | c | c
  · subst c
    obtain ⟨j, rfl, e1, -, e2⟩ := hv (by decide)
    exact ⟨PS fun z => absurd z (by decide), does_P (Or.inl rfl) h0 e1 (by have := e2 (by decide); omega), do_lift hO hL h h0 e1 (e2 (by decide))⟩
  · subst c
    obtain ⟨j, rfl, e1, -, e2⟩ := hv (by decide)
    exact ⟨PS fun z => absurd z (by decide), does_P (Or.inr (Or.inl rfl)) h0 e1 (by have := e2 (by decide); omega), do_lower hO hL h h0 e1 (e2 (by decide))⟩
  · subst c
    obtain ⟨j, rfl, e1, -, e2⟩ := hv (by decide)
    exact ⟨PS fun z => absurd z (by decide), does_P (Or.inr (Or.inr (Or.inl rfl))) h0 e1 (by have := e2 (by decide); omega), do_tie hO hL h h0 e1 (e2 (by decide))⟩
  · subst c
    obtain ⟨j, rfl, e1, -, e2⟩ := hv (by decide)
    exact ⟨PS fun z => absurd z (by decide), does_P (Or.inr (Or.inr (Or.inr rfl))) h0 e1 (by have := e2 (by decide); omega), do_untie hO hL h h0 e1 (e2 (by decide))⟩
  · subst c
    obtain ⟨j, rfl, e1, e2, -⟩ := hv (by decide)
    obtain ⟨a1, a2⟩ := do_bag hO hL h h0 e1 (e2 rfl)
    exact ⟨PS fun z => absurd z (by decide), a1, a2⟩
  · subst c
    obtain ⟨a1, a2, a3⟩ := do_tide hO hL h h0
    exact ⟨PS fun _ => a1, a2, a3⟩
end DOES
