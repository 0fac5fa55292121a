/-! the reference's recursion, beside the class's moves -/
section GOES
variable {E : EV} {L : LW} {A B : Mem} {n d : Nat} {x0 : Int32 × Int32 × Int32 × Int32 × Mem} {rM : Int32 → Int32 → Mem → Mem} {rP : Int32 → Int32 → Mem → Prop}
/-- one item of a row of steps -/
theorem item_ok {f c cb s sb dp bg i i2 : Nat} {x : Int32 × Int32 × Int32 × Int32 × Mem} {μm : Mem} {v1 v2 : Int32} (hO : EvOK E) (hL : LwOK L) (hn : n ≤ 150) (h5 : A 31 5 = nI n) (ih : ∀ e, d = e + 1 → EXD E L A B x0 n e rM rP) (hd : dp + d = 6) (hcb : cb ≤ n) (hsb : sb ≤ 80) (hg : Sg E (A 32) (A 33) (A 34) (fun y => B (441 + y)) f d c cb s sb) (hne : ¬ (c = cb ∧ s = sb)) (hm : CM x0 i x) (hi : i ≤ 21 * bg) (hx : XR E L A B dp bg c x μm) (hbg : bg < 200) (hv2 : v2 = nI sb) :
    Cb_X10_goes_2 rM rP v1 v2 i2 (nI s, μm) = true ∧ Pb_X10_goes_2 rM rP v1 v2 i2 (nI s, μm) ∧ ∃ i' x' bg', CM x0 i' x' ∧ bg + 1 ≤ bg' ∧ i' + 21 * bg ≤ i + 21 * bg' ∧
      ((∃ f' c' s', (g_X10_goes_2 rM rP v1 v2 i2 (nI s, μm)).1 = nI s' ∧ Sg E (A 32) (A 33) (A 34) (fun y => B (441 + y)) f' d c' cb s' sb ∧ XR E L A B dp bg' c' x' (g_X10_goes_2 rM rP v1 v2 i2 (nI s, μm)).2 ∧ ∀ j, j < dp → x'.2.2.2.2 36 j = x.2.2.2.2 36 j) ∨
       (bg' = 200 ∧ Cb_X6_doAll_20 i' x' = false ∧ ∃ c' dp', XR E L A B dp' 200 c' x' (g_X10_goes_2 rM rP v1 v2 i2 (nI s, μm)).2)) := by
  have nb : ¬ (200 : Int32) ≤ μm 57 45 := by
    rw [hx.bg_eq]
    exact nI_ge (b := 200) hbg (by omega)
  have nb' : ¬ (200 : Int32) ≤ ((nI s, μm) : Int32 × Mem).2 57 45 := nb
  cases f with
  | zero => exact absurd hg hne
  | succ f =>
    rcases hg with hg | ⟨hS, hg⟩ | ⟨ce, z, v, e, g1, g2, g3, g4, g5, g6, g7, g8, g9, g10, gi, hg⟩
    · exact absurd hg hne
    · have gl := Sg.le _ _ _ _ _ _ hg
      have nle : ¬ v2 ≤ ((nI s, μm) : Int32 × Mem).1 := by
        rw [hv2]
        exact nI_ge (by omega) (by omega)
      have vi : vp_in ((nI s, μm) : Int32 × Mem).1 80 := vp_in_nI (show s < 80 by omega) (by decide)
      have ix_s : ix ((nI s, μm) : Int32 × Mem).1 = s := nI_ix (by omega)
      obtain ⟨a1, a2, a3, a4, a5, a6, a7⟩ := xr_step (i := i) (rM := rM) (rP := rP) (v1 := v1) (v2 := v2) (i2 := i2) hO hL hx hbg hn h5 (show c < n by omega) (show s < 80 by omega) (by omega) hS
      have n6 : muX10_goes_2_1 rM rP v1 v2 i2 (nI s, μm) (441 + ix ((nI s, μm) : Int32 × Mem).1) 0 ≠ 6 := by
        rw [ix_s]
        exact a6
      have eg : g_X10_goes_2 rM rP v1 v2 i2 (nI s, μm) = (nI (s + 1), muX10_goes_2_6 rM rP v1 v2 i2 (nI s, μm)) := by
        unfold g_X10_goes_2
        rw [if_pos n6, ix_s, a7]
      refine ⟨?_, ?_, i + 1, g_X6_doAll_20 i x, bg + 1, hm.next ⟨a1, a2, rfl⟩, by omega, by omega, Or.inl ⟨f, c + 1, s + 1, ?_, hg, ?_, fun j _ => a4 j⟩⟩
      · unfold Cb_X10_goes_2
        rw [if_neg nle, if_neg nb', if_pos n6]
      · exact ⟨fun w => absurd w nle, fun _ => ⟨fun w => absurd w nb', fun _ => ⟨vi, fun _ => ⟨vi, by rw [ix_s]; exact a5, vi⟩, fun w => absurd w n6⟩⟩⟩
      · rw [eg]
      · rw [eg]
        exact a3
    · have gl1 := Sg.le _ _ _ _ _ _ gi
      have gl := Sg.le _ _ _ _ _ _ hg
      have nle : ¬ v2 ≤ ((nI s, μm) : Int32 × Mem).1 := by
        rw [hv2]
        exact nI_ge (by omega) (by omega)
      have vi : vp_in ((nI s, μm) : Int32 × Mem).1 80 := vp_in_nI (show s < 80 by omega) (by decide)
      have ix_s : ix ((nI s, μm) : Int32 × Mem).1 = s := nI_ix (by omega)
      have e1 := go_1 (rM := rM) (rP := rP) (v1 := v1) (v2 := v2) (i2 := i2) (s := s) hx
      have t0 : muX10_goes_2_1 rM rP v1 v2 i2 (nI s, μm) (441 + s) = B (441 + s) := by rw [e1, upm_other (by omega), hx.rT (by omega)]
      have z6 : muX10_goes_2_1 rM rP v1 v2 i2 (nI s, μm) (441 + ix ((nI s, μm) : Int32 × Mem).1) 0 = 6 := by
        rw [ix_s, t0]
        exact g8
      have n6 : ¬ muX10_goes_2_1 rM rP v1 v2 i2 (nI s, μm) (441 + ix ((nI s, μm) : Int32 × Mem).1) 0 ≠ 6 := not_not_intro z6
      obtain ⟨r32, r33, r34, r5⟩ := hx.r32
      -- from the rounds on
      have fin : ∀ k : Nat, NX10_goes_2_43 rM rP v1 v2 i2 (nI s, μm) = k → (∀ j, j < k → Pb_X10_goes_43 rM rP v1 v2 (nI s) j (fo j (g_X10_goes_43 rM rP v1 v2 (nI s)) (muX10_goes_2_1 rM rP v1 v2 i2 (nI s, μm)))) → (SX10_goes_2_43 rM rP v1 v2 i2 (nI s, μm) (441 + s) 1 ≤ nI k ∨ 200 ≤ SX10_goes_2_43 rM rP v1 v2 i2 (nI s, μm) 57 45) →
          Cb_X10_goes_2 rM rP v1 v2 i2 (nI s, μm) = true ∧ Pb_X10_goes_2 rM rP v1 v2 i2 (nI s, μm) := by
        intro k ek hj hor
        refine ⟨?_, ⟨fun w => absurd w nle, fun _ => ⟨fun w => absurd w nb', fun _ => ⟨vi, fun w => absurd w n6, fun _ => ⟨fun j hj9 => hj j (by rw [ek] at hj9; exact hj9), vi, fun _ => vi, fun w => ⟨fun _ => vi, fun u => ?_⟩⟩⟩⟩⟩⟩
        · unfold Cb_X10_goes_2
          rw [if_neg nle, if_neg nb', if_neg n6, ix_s, ek]
          rcases hor with w | w
          · rw [if_pos w]
          · rw [if_pos w, ite_self]
        · rw [ix_s, ek] at w
          rcases hor with y | y
          · exact absurd w (Int32.not_lt.mpr y)
          · exact absurd u (Int32.not_lt.mpr y)
      have eg : g_X10_goes_2 rM rP v1 v2 i2 (nI s, μm) = (SX10_goes_2_43 rM rP v1 v2 i2 (nI s, μm) (441 + s) 2, SX10_goes_2_43 rM rP v1 v2 i2 (nI s, μm)) := by
        unfold g_X10_goes_2
        rw [if_neg n6, ix_s]
      have xr1 : ∀ {dp' c' : Nat} {y : Int32 × Int32 × Int32 × Int32 × Mem}, XR E L A B dp' bg c' y μm → XR E L A B dp' (bg + 1) c' (y.1, nI (bg + 1), y.2.2.1, y.2.2.2.1, y.2.2.2.2) (muX10_goes_2_1 rM rP v1 v2 i2 (nI s, μm)) := fun h => by
        rw [e1]
        exact ⟨h.1.keep hO hL (fun _ _ _ => rfl) (fun r hr => upm_other hr) (fun j _ a _ => by rw [upm_rr, if_neg a]), ⟨by rw [upm_rr, if_neg (by decide)]; exact h.2.1.1, by rw [upm_rr, if_neg (by decide)]; exact h.2.1.2⟩, ⟨rfl, by rw [upm_rr, if_pos rfl], by omega⟩, h.2.2.2.1, h.2.2.2.2.1,
          ⟨fun j a b c => by rw [upm_rr, if_neg b]; exact h.2.2.2.2.2.1 j a b c, fun r a b c d e => by rw [upm_other a]; exact h.2.2.2.2.2.2 r a b c d e⟩⟩
      by_cases v0 : v = 0
      · subst v0
        have q := mv_skip (x := x) (i := i) (by omega) hn (by rw [r5, h5]) (show c < n by omega) hx.2.2.2.1.2 hx.2.2.1.1 hbg (by rw [r32]; exact g3) (by rw [r33]; exact g4) (by rw [r34]; exact g5)
        have N0 : NX10_goes_2_43 rM rP v1 v2 i2 (nI s, μm) = 0 := by
          unfold NX10_goes_2_43
          refine fst_eq (by decide) ?_ (fun j hj => absurd hj (Nat.not_lt_zero _))
          rw [fo_z]
          unfold Cb_X10_goes_43
          rw [ix_s, t0, if_pos (show B (441 + s) 1 ≤ nI 0 by rw [show B (441 + s) 1 = nI 0 from g9]; exact Int32.le_refl _)]
          rfl
        have S0 : SX10_goes_2_43 rM rP v1 v2 i2 (nI s, μm) = muX10_goes_2_1 rM rP v1 v2 i2 (nI s, μm) := by
          unfold SX10_goes_2_43
          rw [N0, fo_z]
        obtain ⟨f1, f2⟩ := fin 0 N0 (fun j hj => absurd hj (Nat.not_lt_zero _)) (Or.inl (by rw [S0, t0, show B (441 + s) 1 = nI 0 from g9]; exact Int32.le_refl _))
        refine ⟨f1, f2, i + 1, _, bg + 1, hm.next q, by omega, by omega, Or.inl ⟨f, ce + 1, z, ?_, hg, ?_, fun j _ => rfl⟩⟩
        · rw [eg, S0, t0]
          exact g10
        · rw [eg, S0]
          have h1 := xr1 hx
          exact ⟨h1.1, h1.2.1, h1.2.2.1, ⟨h1.2.2.2.1.1, rfl⟩, h1.2.2.2.2⟩
      · have q := mv_open (x := x) (i := i) (v := v) (dp := dp) (by omega) hn (by rw [r5, h5]) (show c < n by omega) hx.2.2.2.1.2 hx.2.2.1.1 hbg hx.2.2.2.1.1 (by omega) (by rw [r32]; exact g3) (by rw [r33]; exact g4) v0 g2
        have h1 : XR E L A B (dp + 1) (bg + 1) (c + 1) (x.1, nI (bg + 1), nI (dp + 1), nI (c + 1), upm x.2.2.2.2 36 dp (nI v)) (muX10_goes_2_1 rM rP v1 v2 i2 (nI s, μm)) := xr1 (hx.up36 (dp' := dp + 1) (c' := c + 1) (j := dp) (w := nI v) hO hL)
        obtain ⟨k, ek, hj, hor, i', x', bg', o1, o2, o3, o4⟩ := rounds_ok (v1 := v1) (v2 := v2) hO hL hn h5 (ih e g1) (by omega) (show s < 80 by omega) (show z ≤ 80 by omega) (show c < n by omega) (show ce < n by omega) g6 g7 g9 g10 g2 v0 gi (hm.next q) (by omega) h1 (by
          show upm x.2.2.2.2 36 dp (nI v) 36 dp = _
          rw [upm_rr, if_pos rfl])
        have eS : SX10_goes_2_43 rM rP v1 v2 i2 (nI s, μm) = fo k (g_X10_goes_43 rM rP v1 v2 (nI s)) (muX10_goes_2_1 rM rP v1 v2 i2 (nI s, μm)) := by
          unfold SX10_goes_2_43
          rw [show NX10_goes_2_43 rM rP v1 v2 i2 (nI s, μm) = k from ek]
        rw [← eS] at hor o4
        obtain ⟨f1, f2⟩ := fin k ek hj hor
        have h36 : ∀ j, j < dp → upm x.2.2.2.2 36 dp (nI v) 36 j = x.2.2.2.2 36 j := fun j hj => by rw [upm_rr, if_neg (by omega)]
        refine ⟨f1, f2, i', x', bg', o1, by omega, by omega, ?_⟩
        rcases o4 with ⟨o4, o5⟩ | ⟨o4, o5, c', dp', o6⟩
        · refine Or.inl ⟨f, ce + 1, z, ?_, hg, ?_, fun j hj => (o5 j hj).trans (h36 j hj)⟩
          · rw [eg]
            show SX10_goes_2_43 rM rP v1 v2 i2 (nI s, μm) (441 + s) 2 = _
            rw [o4.rT (by omega)]
            exact g10
          · rw [eg]
            exact o4
        · refine Or.inr ⟨o4, o5, c', dp', ?_⟩
          rw [eg]
          exact o6
theorem exd_step (hO : EvOK E) (hL : LwOK L) (hn : n ≤ 150) (h5 : A 31 5 = nI n) (ih : ∀ e, d = e + 1 → EXD E L A B x0 n e rM rP) : EXD E L A B x0 n d (M_X10_goes rM rP) (P_X10_goes rM rP) := by
  intro f ca cb sa sb dp bg i x μm hd hcb hsb hg hm hi hx
  have b200 := hx.2.2.1.2.2
  obtain ⟨k, hk, ⟨hj, hR⟩, he⟩ := lock (B := 200)
    (R := fun i2 => (∀ j, j < i2 → Cb_X10_goes_2 rM rP (nI sa) (nI sb) j (fo j (g_X10_goes_2 rM rP (nI sa) (nI sb)) (nI sa, μm)) = true ∧ Pb_X10_goes_2 rM rP (nI sa) (nI sb) j (fo j (g_X10_goes_2 rM rP (nI sa) (nI sb)) (nI sa, μm))) ∧
      ∃ i' x' bg', CM x0 i' x' ∧ bg + i2 ≤ bg' ∧ bg' ≤ 200 ∧ i' + 21 * bg ≤ i + 21 * bg' ∧
       ((∃ f' c' s', (fo i2 (g_X10_goes_2 rM rP (nI sa) (nI sb)) (nI sa, μm)).1 = nI s' ∧ Sg E (A 32) (A 33) (A 34) (fun y => B (441 + y)) f' d c' cb s' sb ∧ XR E L A B dp bg' c' x' (fo i2 (g_X10_goes_2 rM rP (nI sa) (nI sb)) (nI sa, μm)).2 ∧ ∀ j, j < dp → x'.2.2.2.2 36 j = x.2.2.2.2 36 j) ∨
        (bg' = 200 ∧ Cb_X6_doAll_20 i' x' = false ∧ ∃ c' dp', XR E L A B dp' 200 c' x' (fo i2 (g_X10_goes_2 rM rP (nI sa) (nI sb)) (nI sa, μm)).2)))
    (E := fun i2 => Cb_X10_goes_2 rM rP (nI sa) (nI sb) i2 (fo i2 (g_X10_goes_2 rM rP (nI sa) (nI sb)) (nI sa, μm)) = false)
    ⟨fun j hj => absurd hj (Nat.not_lt_zero _), i, x, bg, hm, Nat.le_refl _, b200, Nat.le_refl _, Or.inl ⟨f, ca, sa, rfl, hg, hx, fun _ _ => rfl⟩⟩
    (fun ⟨_, _, _, bg', _, h1, h2, _⟩ => by omega)
    (fun i2 ⟨h1, i', x', bg', r1, r2, r3, r4, r5⟩ => by
      rcases r5 with ⟨f', c', s', q1, q2, q3, q4⟩ | ⟨q1, q2, c', dp', q3⟩
      · by_cases b : bg' = 200
        · refine Or.inl ?_
          have : (200 : Int32) ≤ (fo i2 (g_X10_goes_2 rM rP (nI sa) (nI sb)) (nI sa, μm)).2 57 45 := by
            rw [q3.bg_eq, b]
            exact Int32.le_refl _
          unfold Cb_X10_goes_2
          rw [if_pos this, ite_self]
        · by_cases em : c' = cb ∧ s' = sb
          · refine Or.inl ?_
            unfold Cb_X10_goes_2
            rw [q1, em.2, if_pos (Int32.le_refl _)]
          · have pr : fo i2 (g_X10_goes_2 rM rP (nI sa) (nI sb)) (nI sa, μm) = (nI s', (fo i2 (g_X10_goes_2 rM rP (nI sa) (nI sb)) (nI sa, μm)).2) := by rw [← q1]
            obtain ⟨a1, a2, i3, x3, bg3, a3, a4, a5, a6⟩ := item_ok (i2 := i2) (v1 := nI sa) (v2 := nI sb) hO hL hn h5 ih hd hcb hsb q2 em r1 (by omega) q3 (by omega) rfl
            rw [← pr] at a1 a2 a6
            have b3 : bg3 ≤ 200 := by
              rcases a6 with ⟨_, _, _, -, -, a6, -⟩ | ⟨a6, -⟩
              · exact a6.2.2.1.2.2
              · omega
            refine Or.inr ⟨fun j hj => ?_, i3, x3, bg3, a3, by omega, b3, by omega, ?_⟩
            · by_cases w : j = i2
              · rw [w]
                exact ⟨a1, a2⟩
              · exact h1 j (by omega)
            · rw [fo_succ]
              rcases a6 with ⟨f3, c3, s3, a6, a7, a8, a9⟩ | a6
              · exact Or.inl ⟨f3, c3, s3, a6, a7, a8, fun j hj => (a9 j hj).trans (q4 j hj)⟩
              · exact Or.inr a6
      · refine Or.inl ?_
        have : (200 : Int32) ≤ (fo i2 (g_X10_goes_2 rM rP (nI sa) (nI sb)) (nI sa, μm)).2 57 45 := by
          rw [q3.bg_eq]
          exact Int32.le_refl _
        unfold Cb_X10_goes_2
        rw [if_pos this, ite_self])
  have eN : NX10_goes_2 rM rP (nI sa) (nI sb) μm = k := fst_eq (by omega) (by show (!Cb_X10_goes_2 rM rP (nI sa) (nI sb) k (fo k (g_X10_goes_2 rM rP (nI sa) (nI sb)) (nI sa, μm))) = true; rw [he]; rfl) (fun j hj' => by
    show (!Cb_X10_goes_2 rM rP (nI sa) (nI sb) j (fo j (g_X10_goes_2 rM rP (nI sa) (nI sb)) (nI sa, μm))) = false
    rw [(hj j hj').1]
    rfl)
  have eS : SX10_goes_2 rM rP (nI sa) (nI sb) μm = fo k (g_X10_goes_2 rM rP (nI sa) (nI sb)) (nI sa, μm) := by
    unfold SX10_goes_2
    rw [eN]
  have eM : M_X10_goes rM rP (nI sa) (nI sb) μm = (fo k (g_X10_goes_2 rM rP (nI sa) (nI sb)) (nI sa, μm)).2 := by
    unfold M_X10_goes
    rw [eS]
  have PP : (nI sb ≤ (fo k (g_X10_goes_2 rM rP (nI sa) (nI sb)) (nI sa, μm)).1 ∨ 200 ≤ (fo k (g_X10_goes_2 rM rP (nI sa) (nI sb)) (nI sa, μm)).2 57 45) → P_X10_goes rM rP (nI sa) (nI sb) μm := by
    intro h
    refine ⟨fun j hj9 => (hj j (by rw [eN] at hj9; exact hj9)).2, fun _ => trivial, fun w => ⟨fun _ => trivial, fun u => ?_⟩⟩
    rw [eS] at w u
    rcases h with h | h
    · exact absurd w (Int32.not_lt.mpr h)
    · exact absurd u (Int32.not_lt.mpr h)
  obtain ⟨i', x', bg', r1, r2, r3, r4, r5⟩ := hR
  rcases r5 with ⟨f', c', s', q1, q2, q3, q4⟩ | ⟨q1, q2, c', dp', q3⟩
  · by_cases em : c' = cb ∧ s' = sb
    · refine ⟨PP (Or.inl (by rw [q1, em.2]; exact Int32.le_refl _)), i', x', bg', r1, by omega, r4, Or.inl ⟨?_, q4⟩⟩
      rw [eM, ← em.1]
      exact q3
    · have b : bg' = 200 := Decidable.byContradiction fun b => by
        have pr : fo k (g_X10_goes_2 rM rP (nI sa) (nI sb)) (nI sa, μm) = (nI s', (fo k (g_X10_goes_2 rM rP (nI sa) (nI sb)) (nI sa, μm)).2) := by rw [← q1]
        obtain ⟨a1, -⟩ := item_ok (i2 := k) (v1 := nI sa) (v2 := nI sb) hO hL hn h5 ih hd hcb hsb q2 em r1 (by omega) q3 (by omega) rfl
        rw [← pr, he] at a1
        exact absurd a1 (by decide)
      subst b
      have gl := Sg.le _ _ _ _ _ _ q2
      obtain ⟨r32, r33, r34, r5'⟩ := q3.r32
      refine ⟨PP (Or.inr (by rw [q3.bg_eq]; exact Int32.le_refl _)), i', x', 200, r1, by omega, r4, ?_⟩
      by_cases cc : c' = cb
      · refine Or.inl ⟨?_, q4⟩
        rw [eM, ← cc]
        exact q3
      · refine Or.inr ⟨rfl, mv_stop (n := n) (c := c') (bg := 200) (Or.inr ⟨rfl, by omega, ?_⟩) hn (by omega) (by rw [r5', h5]) q3.2.2.2.1.2 q3.2.2.1.1, c', dp, ?_⟩
        · rw [r32]
          exact Sg.first q2 cc
        · rw [eM]
          exact q3
  · refine ⟨PP (Or.inr (by rw [q3.bg_eq]; exact Int32.le_refl _)), i', x', bg', r1, by omega, r4, Or.inr ⟨q1, q2, c', dp', ?_⟩⟩
    rw [eM]
    exact q3
theorem TgoM_s (l : Nat) : TgoM (l + 1) = (M_X10_goes (TgoM l).1 (TgoM l).2, P_X10_goes (TgoM l).1 (TgoM l).2) := rfl
theorem exd_rec (hO : EvOK E) (hL : LwOK L) (hn : n ≤ 150) (h5 : A 31 5 = nI n) : ∀ l d, d ≤ l → EXD E L A B x0 n d (TgoM (l + 1)).1 (TgoM (l + 1)).2
  | 0, d, hd => by
    rw [TgoM_s]
    exact exd_step hO hL hn h5 (fun e h => absurd h (by omega))
  | l + 1, d, hd => by
    rw [TgoM_s]
    exact exd_step hO hL hn h5 (fun e h => exd_rec hO hL hn h5 l e (by omega))
end GOES
