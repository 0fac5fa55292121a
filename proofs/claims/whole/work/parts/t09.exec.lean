/-! WORK's STEPS are done, both sides -/
def CM (x0 : Int32 × Int32 × Int32 × Int32 × Mem) (i : Nat) (x : Int32 × Int32 × Int32 × Int32 × Mem) : Prop := (∀ j, j < i → Cb_X6_doAll_20 j (fo j g_X6_doAll_20 x0) = true ∧ Pb_X6_doAll_20 j (fo j g_X6_doAll_20 x0)) ∧ x = fo i g_X6_doAll_20 x0
theorem CM.next {x0 x y : Int32 × Int32 × Int32 × Int32 × Mem} {i : Nat} (h : CM x0 i x) (hb : Cb_X6_doAll_20 i x = true ∧ Pb_X6_doAll_20 i x ∧ g_X6_doAll_20 i x = y) : CM x0 (i + 1) y := by
  refine ⟨fun j hj => ?_, ?_⟩
  · by_cases z : j = i
    · rw [z, ← h.2]
      exact ⟨hb.1, hb.2.1⟩
    · exact h.1 j (by omega)
  · rw [fo_succ, ← h.2, hb.2.2]
def XC (A μ : Mem) : Prop := (∀ r, r ≠ 24 → r ≠ 25 → r ≠ 31 → r ≠ 36 → (r < 44 ∨ 47 < r) → μ r = A r) ∧ ∀ k, k ≠ 7 → μ 31 k = A 31 k
def XM (B μ : Mem) : Prop := (∀ k, k ≠ 40 → k ≠ 45 → k ≠ 46 → μ 57 k = B 57 k) ∧ ∀ r, r ≠ 57 → r ≠ 521 → r ≠ 438 → r ≠ 439 → (r < 523 ∨ 525 < r) → μ r = B r
def XR (E : EV) (L : LW) (A B : Mem) (dp bg c : Nat) (x : Int32 × Int32 × Int32 × Int32 × Mem) (μm : Mem) : Prop :=
  DR E L x.2.2.2.2 μm ∧ (x.1 = μm 57 46 ∧ x.2.2.2.2 31 7 = μm 57 40) ∧ (x.2.1 = nI bg ∧ μm 57 45 = nI bg ∧ bg ≤ 200) ∧ (x.2.2.1 = nI dp ∧ x.2.2.2.1 = nI c) ∧ XC A x.2.2.2.2 ∧ XM B μm
theorem DR.keep {E : EV} {L : LW} {μc μm μc' μm' : Mem} (hO : EvOK E) (hL : LwOK L) (h : DR E L μc μm) (fc : ∀ r, r ≠ 31 → r ≠ 36 → μc' r = μc r) (fm : ∀ r, r ≠ 57 → μm' r = μm r) (f57 : ∀ k, k ≠ 40 → k ≠ 45 → k ≠ 46 → μm' 57 k = μm 57 k) : DR E L μc' μm' := by
  obtain ⟨a1, a2, a3, a4, a5, a6, a7, a8, a9⟩ := h
  refine ⟨a1.mono (fun r hr => fc r (by omega) (by omega)), a2.mono (by rw [fc 21 (by omega) (by omega)]) (fc 22 (by omega) (by omega)) (fc 23 (by omega) (by omega)), a3.mono (fun r hr => fm r (by omega)) hO, a4.mono hL (f57 21 (by omega) (by omega) (by omega)) (fun q h1 h2 => fm q (by omega)), ?_, ?_, ?_, ?_, ?_⟩
  · rw [f57 43 (by omega) (by omega) (by omega)]
    exact a5
  · rw [f57 44 (by omega) (by omega) (by omega)]
    exact a6
  · rw [fc 44 (by omega) (by omega), fm 521 (by omega)]
    exact a7
  · rw [fc 44 (by omega) (by omega), fm 521 (by omega)]
    exact a8
  · rw [fm 521 (by omega)]
    exact a9
section EXEC
variable {E : EV} {L : LW} {A B : Mem} {n dp bg c s i i2 : Nat} {x : Int32 × Int32 × Int32 × Int32 × Mem} {μm : Mem} {rM : Int32 → Int32 → Mem → Mem} {rP : Int32 → Int32 → Mem → Prop} {v1 v2 : Int32}
theorem XR.r32 (h : XR E L A B dp bg c x μm) : x.2.2.2.2 32 = A 32 ∧ x.2.2.2.2 33 = A 33 ∧ x.2.2.2.2 34 = A 34 ∧ x.2.2.2.2 31 5 = A 31 5 := ⟨h.2.2.2.2.1.1 32 (by decide) (by decide) (by decide) (by decide) (by decide), h.2.2.2.2.1.1 33 (by decide) (by decide) (by decide) (by decide) (by decide), h.2.2.2.2.1.1 34 (by decide) (by decide) (by decide) (by decide) (by decide), h.2.2.2.2.1.2 5 (by decide)⟩
theorem XR.rT (h : XR E L A B dp bg c x μm) {y : Nat} (hy : y < 80) : μm (441 + y) = B (441 + y) := h.2.2.2.2.2.2 _ (by omega) (by omega) (by omega) (by omega) (by omega)
theorem go_1 (hx : XR E L A B dp bg c x μm) : muX10_goes_2_1 rM rP v1 v2 i2 (nI s, μm) = upm μm 57 45 (nI (bg + 1)) := by
  show upm μm 57 45 (μm 57 45 + 1) = _
  rw [hx.2.2.1.2.1, nI_succ]
/-- one step -/
theorem xr_step (hO : EvOK E) (hL : LwOK L) (hx : XR E L A B dp bg c x μm) (hbg : bg < 200) (hn : n ≤ 150) (h5 : A 31 5 = nI n) (hc : c < n) (hs : s < 80) (hi : i < 10000) (hS : Sm E (A 32) (A 33) (fun y => B (441 + y)) c s) :
    Cb_X6_doAll_20 i x = true ∧ Pb_X6_doAll_20 i x ∧ XR E L A B dp (bg + 1) (c + 1) (g_X6_doAll_20 i x) (muX10_goes_2_6 rM rP v1 v2 i2 (nI s, μm)) ∧ (∀ j, (g_X6_doAll_20 i x).2.2.2.2 36 j = x.2.2.2.2 36 j) ∧
    P_X10_does 521 (441 + s) (muX10_goes_2_1 rM rP v1 v2 i2 (nI s, μm)) ∧ muX10_goes_2_1 rM rP v1 v2 i2 (nI s, μm) (441 + s) 0 ≠ 6 ∧ muX10_goes_2_6 rM rP v1 v2 i2 (nI s, μm) (441 + s) 2 = nI (s + 1) := by
  obtain ⟨k, hk, k1, k2, k3, k4⟩ := hS
  obtain ⟨r32, r33, r34, r5⟩ := hx.r32
  have e1 := go_1 (rM := rM) (rP := rP) (v1 := v1) (v2 := v2) (i2 := i2) (s := s) hx
  have rT : ∀ y, y < 80 → muX10_goes_2_1 rM rP v1 v2 i2 (nI s, μm) (441 + y) = B (441 + y) := fun y hy => by
    rw [e1, upm_other (by omega), hx.rT hy]
  have m10 : muX10_goes_2_1 rM rP v1 v2 i2 (nI s, μm) (441 + s) 0 = nI k := by rw [rT s hs]; exact k2
  have dr1 : DR E L x.2.2.2.2 (muX10_goes_2_1 rM rP v1 v2 i2 (nI s, μm)) := hx.1.keep hO hL (fun _ _ _ => rfl) (fun r hr => by rw [e1, upm_other hr]) (fun j _ a _ => by rw [e1, upm_rr, if_neg a])
  obtain ⟨p1, p2, p3⟩ := step_do (sp := 441 + s) (k := k) (v := A 33 c) hO hL dr1 hk m10 (fun z => by
    obtain ⟨v', q1, q2, q3⟩ := k4 z
    exact ⟨v', q1, by rw [rT s hs]; exact q2, q3⟩)
  obtain ⟨g1, g2, g3⟩ := mv_step (x := x) hi hn (by rw [r5, h5]) hc hx.2.2.2.1.2 hx.2.2.1.1 hbg (by rw [r32]; exact k1) hk (by rw [r33]) p1
  have ix_s : ix (nI s) = s := nI_ix (by omega)
  have e2 : muX10_goes_2_2 rM rP v1 v2 i2 (nI s, μm) = M_X10_does 521 (441 + s) (muX10_goes_2_1 rM rP v1 v2 i2 (nI s, μm)) := by
    unfold muX10_goes_2_2
    rw [ix_s]
  have eV3 : VX10_goes_2_3 rM rP v1 v2 i2 (nI s, μm) = if F_X10_does 521 (441 + s) (muX10_goes_2_1 rM rP v1 v2 i2 (nI s, μm)) = 0 then 0 else 1 := by
    unfold VX10_goes_2_3
    rw [ix_s]
  have eV5 : VX10_goes_2_5 rM rP v1 v2 i2 (nI s, μm) = if F_X10_does 521 (441 + s) (muX10_goes_2_1 rM rP v1 v2 i2 (nI s, μm)) = 0 then 1 else 0 := by
    unfold VX10_goes_2_5
    rw [ix_s]
  obtain ⟨hF, dr2, fc, fm⟩ := p3
  have h57 : M_X10_does 521 (441 + s) (muX10_goes_2_1 rM rP v1 v2 i2 (nI s, μm)) 57 = muX10_goes_2_1 rM rP v1 v2 i2 (nI s, μm) 57 := fm 57 (by decide) (by decide) (by decide) (by decide)
  have e6 : muX10_goes_2_6 rM rP v1 v2 i2 (nI s, μm) = upm (upm (M_X10_does 521 (441 + s) (muX10_goes_2_1 rM rP v1 v2 i2 (nI s, μm))) 57 46 (μm 57 46 + VX10_goes_2_3 rM rP v1 v2 i2 (nI s, μm))) 57 40 (μm 57 40 + VX10_goes_2_5 rM rP v1 v2 i2 (nI s, μm)) := by
    unfold muX10_goes_2_6 muX10_goes_2_4
    rw [e2, upm_rr, if_neg (by decide), h57, e1, upm_rr, if_neg (by decide), upm_rr, if_neg (by decide)]
  generalize muX10_goes_2_1 rM rP v1 v2 i2 (nI s, μm) = m1 at *
  generalize M_X10_does 521 (441 + s) m1 = m2 at *
  generalize muX10_goes_2_6 rM rP v1 v2 i2 (nI s, μm) = m6 at *
  generalize M_X6_doStep (nI k) (A 33 c) x.2.2.2.2 = M9 at *
  have o6 : ∀ r, r ≠ 57 → m6 r = m2 r := fun r hr => by rw [e6, upm_other hr, upm_other hr]
  have c31 : M9 31 = x.2.2.2.2 31 := fc 31 (by decide) (by decide) (by decide)
  refine ⟨g1, g2, ?_, ?_, p2, by rw [m10]; exact fun z => absurd ((nI_eq (b := 6) (by omega) (by omega)).mp z) (by omega), ?_⟩
  · rw [g3]
    have xc9 : XC A M9 := ⟨fun r a b c' d e => (fc r a b e).trans (hx.2.2.2.2.1.1 r a b c' d e), fun j hj => by rw [c31]; exact hx.2.2.2.2.1.2 j hj⟩
    have xm6 : XM B m6 := by
      refine ⟨fun j a b d => ?_, fun r a b d e f => ?_⟩
      · rw [e6, upm_rr, if_neg a, upm_rr, if_neg d, h57, e1, upm_rr, if_neg b]
        exact hx.2.2.2.2.2.1 j a b d
      · rw [o6 r a, fm r b d e f, e1, upm_other a]
        exact hx.2.2.2.2.2.2 r a b d e f
    have b6 : m6 57 45 = nI (bg + 1) := by rw [e6, upm_rr, if_neg (by decide), upm_rr, if_neg (by decide), h57, e1, upm_rr, if_pos rfl]
    have q46 : m6 57 46 = μm 57 46 + VX10_goes_2_3 rM rP v1 v2 i2 (nI s, μm) := by rw [e6, upm_rr, if_neg (by decide), upm_rr, if_pos rfl]
    have q40 : m6 57 40 = μm 57 40 + VX10_goes_2_5 rM rP v1 v2 i2 (nI s, μm) := by rw [e6, upm_rr, if_pos rfl]
    have drk : ∀ M' : Mem, (∀ r, r ≠ 31 → M' r = M9 r) → DR E L M' m6 := fun M' hM => dr2.keep hO hL (fun r a _ => hM r a) o6 (fun j a b d => by rw [e6, upm_rr, if_neg a, upm_rr, if_neg d])
    rcases hF with ⟨f9, f10⟩ | ⟨f9, f10⟩
    · rw [if_pos f9, if_pos f9]
      rw [eV3, if_pos f10] at q46
      rw [eV5, if_pos f10] at q40
      refine ⟨drk _ (fun r a => upm_other a), ⟨?_, ?_⟩, ⟨rfl, b6, by omega⟩, ⟨hx.2.2.2.1.1, rfl⟩, ⟨fun r a b c' d e => ?_, fun j hj => ?_⟩, xm6⟩
      · show x.1 = m6 57 46
        rw [q46, hx.2.1.1]
        grind
      · show upm M9 31 7 (M9 31 7 + 1) 31 7 = m6 57 40
        rw [upm_rr, if_pos rfl, q40, c31, hx.2.1.2]
      · show upm M9 31 7 (M9 31 7 + 1) r = A r
        rw [upm_other c']
        exact xc9.1 r a b c' d e
      · show upm M9 31 7 (M9 31 7 + 1) 31 j = A 31 j
        rw [upm_rr, if_neg hj]
        exact xc9.2 j hj
    · have n9 : ¬ F_X6_doStep (nI k) (A 33 c) x.2.2.2.2 = 0 := by rw [f9]; decide
      have n10 : ¬ F_X10_does 521 (441 + s) m1 = 0 := by rw [f10]; decide
      rw [if_neg n9, if_neg n9]
      rw [eV3, if_neg n10] at q46
      rw [eV5, if_neg n10] at q40
      refine ⟨drk _ (fun r a => rfl), ⟨?_, ?_⟩, ⟨rfl, b6, by omega⟩, ⟨hx.2.2.2.1.1, rfl⟩, xc9, xm6⟩
      · show x.1 + 1 = m6 57 46
        rw [q46, hx.2.1.1]
      · show M9 31 7 = m6 57 40
        rw [q40, c31, hx.2.1.2]
        grind
  · intro j
    rw [g3]
    have c36 : M9 36 = x.2.2.2.2 36 := fc 36 (by decide) (by decide) (by decide)
    by_cases z : F_X6_doStep (nI k) (A 33 c) x.2.2.2.2 = 0
    · rw [if_pos z, if_pos z]
      show upm M9 31 7 (M9 31 7 + 1) 36 j = _
      rw [upm_other (by decide), c36]
    · rw [if_neg z, if_neg z]
      show M9 36 j = _
      rw [c36]
  · rw [o6 _ (by omega), fm _ (by omega) (by omega) (by omega) (by omega), rT s hs]
    exact k3
end EXEC
