/-! a bracket's rounds, both sides -/
def EXD (E : EV) (L : LW) (A B : Mem) (x0 : Int32 × Int32 × Int32 × Int32 × Mem) (n d : Nat) (rM : Int32 → Int32 → Mem → Mem) (rP : Int32 → Int32 → Mem → Prop) : Prop :=
  ∀ f ca cb sa sb dp bg i x μm, dp + d = 6 → cb ≤ n → sb ≤ 80 → Sg E (A 32) (A 33) (A 34) (fun y => B (441 + y)) f d ca cb sa sb → CM x0 i x → i ≤ 21 * bg → XR E L A B dp bg ca x μm →
    rP (nI sa) (nI sb) μm ∧ ∃ i' x' bg', CM x0 i' x' ∧ bg ≤ bg' ∧ i' + 21 * bg ≤ i + 21 * bg' ∧
      ((XR E L A B dp bg' cb x' (rM (nI sa) (nI sb) μm) ∧ ∀ j, j < dp → x'.2.2.2.2 36 j = x.2.2.2.2 36 j) ∨
       (bg' = 200 ∧ Cb_X6_doAll_20 i' x' = false ∧ ∃ c' dp', XR E L A B dp' 200 c' x' (rM (nI sa) (nI sb) μm)))
theorem Sg.first {E : EV} {K V P : Nat → Int32} {T : Nat → Nat → Int32} {f d a b x y : Nat} (h : Sg E K V P T f d a b x y) (hab : a ≠ b) : K a ≠ 7 := by
  cases f with
  | zero => exact absurd h.1 hab
  | succ f =>
    rcases h with h | ⟨⟨k, k1, k2, -⟩, -⟩ | ⟨c, z, v, e, -, -, g3, -⟩
    · exact absurd h.1 hab
    · rw [k2]
      exact fun z => absurd ((nI_eq (b := 7) (by omega) (by omega)).mp z) (by omega)
    · rw [g3]
      decide
section ROUNDS
variable {E : EV} {L : LW} {A B : Mem} {n dp bg ca ce s z v i : Nat} {x0 x : Int32 × Int32 × Int32 × Int32 × Mem} {μm : Mem} {rM : Int32 → Int32 → Mem → Mem} {rP : Int32 → Int32 → Mem → Prop} {v1 v2 : Int32}
theorem XR.up36 (hO : EvOK E) (hL : LwOK L) (h : XR E L A B dp bg ca x μm) {dp' c' j : Nat} {w : Int32} : XR E L A B dp' bg c' (x.1, nI bg, nI dp', nI c', upm x.2.2.2.2 36 j w) μm :=
  ⟨h.1.keep hO hL (fun r _ a => upm_other a) (fun _ _ => rfl) (fun _ _ _ _ => rfl), ⟨h.2.1.1, by show upm x.2.2.2.2 36 j w 31 7 = _; rw [upm_other (by decide)]; exact h.2.1.2⟩, ⟨rfl, h.2.2.1.2⟩, ⟨rfl, rfl⟩,
    ⟨fun r a b c' d e => by show upm x.2.2.2.2 36 j w r = _; rw [upm_other d]; exact h.2.2.2.2.1.1 r a b c' d e, fun k hk => by show upm x.2.2.2.2 36 j w 31 k = _; rw [upm_other (by decide)]; exact h.2.2.2.2.1.2 k hk⟩, h.2.2.2.2.2⟩
/-- the class's bracket closes: l rounds are left -/
theorem xr_end {l : Nat} (hO : EvOK E) (hL : LwOK L) (hn : n ≤ 150) (h5 : A 31 5 = nI n) (hc : ce < n) (k7 : A 32 ce = 7) (kp : A 34 ce = nI ca) (hdp : dp < 6) (hl : l ≤ 20) (hx : XR E L A B (dp + 1) bg ce x μm) (hi : i < 10000) (h36 : x.2.2.2.2 36 dp = nI (l + 1)) (hm : CM x0 i x) :
    ∃ y, CM x0 (i + 1) y ∧ (∀ j, j < dp → y.2.2.2.2 36 j = x.2.2.2.2 36 j) ∧ ((l = 0 ∧ XR E L A B dp bg (ce + 1) y μm) ∨ (l ≠ 0 ∧ XR E L A B (dp + 1) bg (ca + 1) y μm ∧ y.2.2.2.2 36 dp = nI l)) := by
  obtain ⟨r32, r33, r34, r5⟩ := hx.r32
  have q := mv_end (x := x) (i := i) hi hn (by rw [r5, h5]) hc hx.2.2.2.1.2 hx.2.2.1.1 hx.2.2.2.1.1 hdp (by rw [r32]; exact k7) (by rw [r34]; exact kp) h36 hl
  refine ⟨_, hm.next q, fun j hj => ?_, ?_⟩
  · show upm x.2.2.2.2 36 dp (nI l) 36 j = _
    rw [upm_rr, if_neg (by omega)]
  · by_cases w : l = 0
    · refine Or.inl ⟨w, ?_⟩
      rw [if_pos w, if_pos w]
      exact hx.up36 hO hL
    · refine Or.inr ⟨w, ?_, ?_⟩
      · rw [if_neg w, if_neg w]
        exact hx.up36 hO hL
      · show upm x.2.2.2.2 36 dp (nI l) 36 dp = _
        rw [upm_rr, if_pos rfl]
/-- an empty bracket runs out -/
theorem xr_drain (hO : EvOK E) (hL : LwOK L) (hn : n ≤ 150) (h5 : A 31 5 = nI n) (hc : ca + 1 < n) (k7 : A 32 (ca + 1) = 7) (kp : A 34 (ca + 1) = nI ca) (hdp : dp < 6) : ∀ (l i : Nat) (x : Int32 × Int32 × Int32 × Int32 × Mem), l ≤ 20 → i + l < 9999 → XR E L A B (dp + 1) bg (ca + 1) x μm → x.2.2.2.2 36 dp = nI (l + 1) → CM x0 i x →
    ∃ y, CM x0 (i + (l + 1)) y ∧ XR E L A B dp bg (ca + 2) y μm ∧ ∀ j, j < dp → y.2.2.2.2 36 j = x.2.2.2.2 36 j
  | 0, i, x, _, hi, hx, h36, hm => by
    obtain ⟨y, y1, y2, y3⟩ := xr_end hO hL hn h5 hc k7 kp hdp (Nat.zero_le _) hx (by omega) h36 hm
    rcases y3 with ⟨-, y3⟩ | ⟨w, -⟩
    · exact ⟨y, y1, y3, y2⟩
    · exact absurd rfl w
  | l + 1, i, x, hl, hi, hx, h36, hm => by
    obtain ⟨y, y1, y2, y3⟩ := xr_end hO hL hn h5 hc k7 kp hdp hl hx (by omega) h36 hm
    rcases y3 with ⟨w, -⟩ | ⟨-, y3, y4⟩
    · exact absurd w (by omega)
    · obtain ⟨u, u1, u2, u3⟩ := xr_drain hO hL hn h5 hc k7 kp hdp l (i + 1) y (by omega) (by omega) y3 y4 y1
      refine ⟨u, ?_, u2, fun j hj => (u3 j hj).trans (y2 j hj)⟩
      rw [show i + (l + 1 + 1) = i + 1 + (l + 1) by omega]
      exact u1
theorem XR.bg_eq (h : XR E L A B dp bg ca x μm) : μm 57 45 = nI bg := h.2.2.1.2.1
theorem rounds_ok {f e i1 bg1 : Nat} {x1 : Int32 × Int32 × Int32 × Int32 × Mem} {m1 : Mem} (hO : EvOK E) (hL : LwOK L) (hn : n ≤ 150) (h5 : A 31 5 = nI n) (ih : EXD E L A B x0 n e rM rP) (hde : dp + 1 + e = 6) (hs : s < 80) (hz : z ≤ 80) (hca : ca < n) (hce : ce < n) (k7 : A 32 ce = 7) (kp : A 34 ce = nI ca)
    (t1 : B (441 + s) 1 = nI v) (t2 : B (441 + s) 2 = nI z) (hv : v ≤ 20) (hv0 : v ≠ 0) (hg : Sg E (A 32) (A 33) (A 34) (fun y => B (441 + y)) f e (ca + 1) ce (s + 1) z) (hm : CM x0 i1 x1) (hi1 : i1 + 20 ≤ 21 * bg1) (hx : XR E L A B (dp + 1) bg1 (ca + 1) x1 m1) (h36 : x1.2.2.2.2 36 dp = nI v) :
    ∃ k, fst 21 (fun j => !Cb_X10_goes_43 rM rP v1 v2 (nI s) j (fo j (g_X10_goes_43 rM rP v1 v2 (nI s)) m1)) = k ∧ (∀ j, j < k → Pb_X10_goes_43 rM rP v1 v2 (nI s) j (fo j (g_X10_goes_43 rM rP v1 v2 (nI s)) m1)) ∧
      (fo k (g_X10_goes_43 rM rP v1 v2 (nI s)) m1 (441 + s) 1 ≤ nI k ∨ 200 ≤ fo k (g_X10_goes_43 rM rP v1 v2 (nI s)) m1 57 45) ∧
      ∃ i' x' bg', CM x0 i' x' ∧ bg1 ≤ bg' ∧ i' + 21 * bg1 ≤ i1 + 20 + 21 * bg' ∧
        ((XR E L A B dp bg' (ce + 1) x' (fo k (g_X10_goes_43 rM rP v1 v2 (nI s)) m1) ∧ ∀ j, j < dp → x'.2.2.2.2 36 j = x1.2.2.2.2 36 j) ∨
         (bg' = 200 ∧ Cb_X6_doAll_20 i' x' = false ∧ ∃ c' dp', XR E L A B dp' 200 c' x' (fo k (g_X10_goes_43 rM rP v1 v2 (nI s)) m1))) := by
  have ix_s : ix (nI s) = s := nI_ix (by omega)
  have gl := Sg.le _ _ _ _ _ _ hg
  have row : ∀ {dp' bg' c' x' μ'}, XR E L A B dp' bg' c' x' μ' → μ' (441 + s) 1 = nI v ∧ μ' (441 + s) 2 = nI z := fun h => by
    rw [h.rT hs]
    exact ⟨t1, t2⟩
  have eg : ∀ j : Nat, ∀ {dp' bg' c' x'}, XR E L A B dp' bg' c' x' (fo j (g_X10_goes_43 rM rP v1 v2 (nI s)) m1) → fo (j + 1) (g_X10_goes_43 rM rP v1 v2 (nI s)) m1 = rM (nI (s + 1)) (nI z) (fo j (g_X10_goes_43 rM rP v1 v2 (nI s)) m1) := fun j _ _ _ _ h => by
    rw [fo_succ]
    show rM (nI s + 1) (fo j (g_X10_goes_43 rM rP v1 v2 (nI s)) m1 (441 + ix (nI s)) 2) _ = _
    rw [ix_s, (row h).2, nI_succ]
  obtain ⟨k, hk, ⟨hj, hR⟩, he⟩ := lock (B := 20)
    (R := fun i => (∀ j, j < i → Cb_X10_goes_43 rM rP v1 v2 (nI s) j (fo j (g_X10_goes_43 rM rP v1 v2 (nI s)) m1) = true ∧ Pb_X10_goes_43 rM rP v1 v2 (nI s) j (fo j (g_X10_goes_43 rM rP v1 v2 (nI s)) m1)) ∧ i ≤ v ∧
      ((i < v ∧ ∃ i' x' bg', CM x0 i' x' ∧ bg1 ≤ bg' ∧ i' + 21 * bg1 ≤ i1 + i + 21 * bg' ∧ XR E L A B (dp + 1) bg' (ca + 1) x' (fo i (g_X10_goes_43 rM rP v1 v2 (nI s)) m1) ∧ x'.2.2.2.2 36 dp = nI (v - i) ∧ ∀ j, j < dp → x'.2.2.2.2 36 j = x1.2.2.2.2 36 j) ∨
       (∃ i' x' bg', CM x0 i' x' ∧ bg1 ≤ bg' ∧ i' + 21 * bg1 ≤ i1 + i + 21 * bg' ∧ (i = v ∨ bg' = 200) ∧
         ((XR E L A B dp bg' (ce + 1) x' (fo i (g_X10_goes_43 rM rP v1 v2 (nI s)) m1) ∧ ∀ j, j < dp → x'.2.2.2.2 36 j = x1.2.2.2.2 36 j) ∨
          (bg' = 200 ∧ Cb_X6_doAll_20 i' x' = false ∧ ∃ c' dp', XR E L A B dp' 200 c' x' (fo i (g_X10_goes_43 rM rP v1 v2 (nI s)) m1))))))
    (E := fun i => Cb_X10_goes_43 rM rP v1 v2 (nI s) i (fo i (g_X10_goes_43 rM rP v1 v2 (nI s)) m1) = false)
    ⟨fun j hj => absurd hj (Nat.not_lt_zero _), Nat.zero_le _, Or.inl ⟨by omega, i1, x1, bg1, hm, Nat.le_refl _, by omega, hx, h36, fun _ _ => rfl⟩⟩
    (fun q => by have := q.2.1; omega)
    (fun i ⟨h1, h2, h3⟩ => by
      rcases h3 with ⟨h3, i', x', bg', r1, r2, r3, r4, r5, r6⟩ | ⟨i', x', bg', r1, r2, r3, r4, r5⟩
      · by_cases b : bg' = 200
        · refine Or.inl ?_
          unfold Cb_X10_goes_43
          rw [ix_s, (row r4).1, if_neg (nI_ge h3 (by omega)), r4.bg_eq, b, if_pos (show (200 : Int32) ≤ nI 200 from Int32.le_refl _)]
        · have b200 := r4.2.2.1.2.2
          have nb : ¬ (200 : Int32) ≤ fo i (g_X10_goes_43 rM rP v1 v2 (nI s)) m1 57 45 := by
            rw [r4.bg_eq]
            exact nI_ge (b := 200) (by omega) (by omega)
          have nv : ¬ fo i (g_X10_goes_43 rM rP v1 v2 (nI s)) m1 (441 + s) 1 ≤ nI i := by
            rw [(row r4).1]
            exact nI_ge h3 (by omega)
          have cb : Cb_X10_goes_43 rM rP v1 v2 (nI s) i (fo i (g_X10_goes_43 rM rP v1 v2 (nI s)) m1) = true := by
            unfold Cb_X10_goes_43
            rw [ix_s, if_neg nv, if_neg nb]
          obtain ⟨p1, i2, x2, bg2, c1, c2, c3, c4⟩ := ih f (ca + 1) ce (s + 1) z (dp + 1) bg' i' x' _ (by omega) (by omega) hz hg r1 (by omega) r4
          have pb : Pb_X10_goes_43 rM rP v1 v2 (nI s) i (fo i (g_X10_goes_43 rM rP v1 v2 (nI s)) m1) := by
            unfold Pb_X10_goes_43
            have vi : vp_in (nI s) 80 := vp_in_nI hs (by decide)
            refine ⟨vi, fun w => absurd w (by rw [ix_s]; exact nv), fun _ => ⟨fun w => absurd w nb, fun _ => ⟨vi, ?_⟩⟩⟩
            rw [ix_s, (row r4).2, ← nI_succ]
            exact p1
          have eg1 := eg i r4
          have b2 : bg2 ≤ 200 := by
            rcases c4 with ⟨c4, -⟩ | ⟨c4, -⟩
            · exact c4.2.2.1.2.2
            · omega
          refine Or.inr ⟨fun j hj => ?_, by omega, ?_⟩
          · by_cases w : j = i
            · rw [w]
              exact ⟨cb, pb⟩
            · exact h1 j (by omega)
          · rw [eg1]
            rcases c4 with ⟨c4, c5⟩ | ⟨c4, c5, c6⟩
            · obtain ⟨y, y1, y2, y3⟩ := xr_end (l := v - i - 1) hO hL hn h5 hce k7 kp (by omega) (by omega) c4 (show i2 < 10000 by omega) (by rw [c5 dp (by omega), r5, show v - i - 1 + 1 = v - i by omega]) c1
              rcases y3 with ⟨w, y3⟩ | ⟨w, y3, y4⟩
              · exact Or.inr ⟨i2 + 1, y, bg2, y1, by omega, by omega, Or.inl (by omega), Or.inl ⟨y3, fun j hj => (y2 j hj).trans ((c5 j (by omega)).trans (r6 j hj))⟩⟩
              · exact Or.inl ⟨by omega, i2 + 1, y, bg2, y1, by omega, by omega, y3, by rw [y4, show v - i - 1 = v - (i + 1) by omega], fun j hj => (y2 j hj).trans ((c5 j (by omega)).trans (r6 j hj))⟩
            · exact Or.inr ⟨i2, x2, bg2, c1, by omega, by omega, Or.inr c4, Or.inr ⟨c4, c5, c6⟩⟩
      · refine Or.inl ?_
        have rr : fo i (g_X10_goes_43 rM rP v1 v2 (nI s)) m1 (441 + s) 1 = nI v ∧ (bg' = 200 → fo i (g_X10_goes_43 rM rP v1 v2 (nI s)) m1 57 45 = 200) := by
          rcases r5 with ⟨r5, -⟩ | ⟨r5, -, c', dp', r6⟩
          · exact ⟨(row r5).1, fun w => by rw [r5.bg_eq, w]; rfl⟩
          · exact ⟨(row r6).1, fun _ => r6.bg_eq⟩
        unfold Cb_X10_goes_43
        rw [ix_s, rr.1]
        rcases r4 with w | w
        · rw [w, if_pos (Int32.le_refl _)]
        · rw [rr.2 w, if_pos (Int32.le_refl _), ite_self])
  refine ⟨k, fst_eq (by omega) (by rw [he]; rfl) (fun j hj' => by rw [(hj j hj').1]; rfl), fun j hj' => (hj j hj').2, ?_, ?_⟩
  · unfold Cb_X10_goes_43 at he
    rw [ix_s] at he
    by_cases w : fo k (g_X10_goes_43 rM rP v1 v2 (nI s)) m1 (441 + s) 1 ≤ nI k
    · exact Or.inl w
    · rw [if_neg w] at he
      refine Or.inr (Decidable.byContradiction fun u => ?_)
      rw [if_neg u] at he
      exact absurd he (by decide)
  · obtain ⟨kv, hR⟩ := hR
    rcases hR with ⟨h3, i', x', bg', r1, r2, r3, r4, r5, r6⟩ | ⟨i', x', bg', r1, r2, r3, -, r5⟩
    · have b : bg' = 200 := Decidable.byContradiction fun b => by
        have b200 := r4.2.2.1.2.2
        unfold Cb_X10_goes_43 at he
        rw [ix_s, (row r4).1, if_neg (nI_ge h3 (by omega)), r4.bg_eq, if_neg (show ¬ (200 : Int32) ≤ nI bg' from nI_ge (b := 200) (by omega) (by omega))] at he
        exact absurd he (by decide)
      subst b
      by_cases w : ca + 1 = ce
      · subst w
        obtain ⟨y, y1, y2, y3⟩ := xr_drain hO hL hn h5 hce k7 kp (by omega) (v - k - 1) i' x' (by omega) (by omega) r4 (by rw [r5, show v - k - 1 + 1 = v - k by omega]) r1
        exact ⟨_, y, 200, y1, r2, by omega, Or.inl ⟨y2, fun j hj => (y3 j hj).trans (r6 j hj)⟩⟩
      · obtain ⟨r32, r33, r34, r5'⟩ := r4.r32
        refine ⟨i', x', 200, r1, r2, by omega, Or.inr ⟨rfl, mv_stop (n := n) (c := ca + 1) (bg := 200) (Or.inr ⟨rfl, by omega, ?_⟩) hn (by omega) (by rw [r5', h5]) r4.2.2.2.1.2 r4.2.2.1.1, _, _, r4⟩⟩
        rw [r32]
        exact Sg.first hg (by omega)
    · exact ⟨i', x', bg', r1, r2, by omega, r5⟩
end ROUNDS
