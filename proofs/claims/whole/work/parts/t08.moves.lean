/-! the class's moves over its STEPS -/
section MOVES
variable {i n c bg : Nat} {x : Int32 × Int32 × Int32 × Int32 × Mem}
theorem mv_ne (hi : i < 10000) : ¬ (10000 : Int32) ≤ nI i := nI_ge (b := 10000) hi (by omega)
theorem mv_step {k : Nat} {v : Int32} (hi : i < 10000) (hn : n ≤ 150) (h5 : x.2.2.2.2 31 5 = nI n) (hc : c < n) (hx : x.2.2.2.1 = nI c) (hb : x.2.1 = nI bg) (hbg : bg < 200) (hk : x.2.2.2.2 32 c = nI k) (hk6 : k < 6) (hv : x.2.2.2.2 33 c = v) (hP : P_X6_doStep (nI k) v x.2.2.2.2) :
    Cb_X6_doAll_20 i x = true ∧ Pb_X6_doAll_20 i x ∧ g_X6_doAll_20 i x = ((if F_X6_doStep (nI k) v x.2.2.2.2 = 0 then x.1 else x.1 + 1), nI (bg + 1), x.2.2.1, nI (c + 1), (if F_X6_doStep (nI k) v x.2.2.2.2 = 0 then upm (M_X6_doStep (nI k) v x.2.2.2.2) 31 7 (M_X6_doStep (nI k) v x.2.2.2.2 31 7 + 1) else M_X6_doStep (nI k) v x.2.2.2.2)) := by
  have ne := mv_ne hi
  have nle : ¬ x.2.2.2.2 31 5 ≤ x.2.2.2.1 := by
    rw [h5, hx]
    exact nI_ge hc (by omega)
  have aK : F_X9_at 32 150 x.2.2.2.1 x.2.2.2.2 = nI k := by
    rw [hx]
    exact (at_k (by omega) (by omega)).trans hk
  have aV : F_X9_at 33 150 x.2.2.2.1 x.2.2.2.2 = v := by
    rw [hx]
    exact (at_k (by omega) (by omega)).trans hv
  have n7 : nI k ≠ 7 := fun z => absurd ((nI_eq (b := 7) (by omega) (by omega)).mp z) (by omega)
  have n6 : nI k ≠ 6 := fun z => absurd ((nI_eq (b := 6) (by omega) (by omega)).mp z) (by omega)
  have nb : x.2.1 ≠ 200 := by
    rw [hb]
    exact fun z => absurd ((nI_eq (b := 200) (by omega) (by omega)).mp z) (by omega)
  refine ⟨?_, ?_, ?_⟩
  · unfold Cb_X6_doAll_20
    rw [if_neg ne, if_neg nle, aK, if_pos n7, if_pos nb]
  · unfold Pb_X6_doAll_20
    rw [aK, aV]
    exact ⟨fun z => absurd z ne, fun _ => ⟨fun z => absurd z nle, fun _ => ⟨fun _ => ⟨fun _ => ⟨fun _ => ⟨fun _ => hP, fun z => absurd z n6⟩, fun z => absurd z n6⟩, fun z => absurd z nb⟩, fun z => absurd z n7⟩⟩⟩
  · unfold g_X6_doAll_20 VX6_doAll_20_7 VX6_doAll_20_8 VX6_doAll_20_9 VX6_doAll_20_10 muX6_doAll_20_2 muX6_doAll_20_1
    rw [aK, aV, if_pos n7, if_pos n6, if_pos n6, if_pos n6, if_pos n6, if_pos n6, if_pos n6, if_pos n6, hx, hb, ← nI_succ, ← nI_succ]
theorem mv_skip {ce : Nat} (hi : i < 10000) (hn : n ≤ 150) (h5 : x.2.2.2.2 31 5 = nI n) (hc : c < n) (hx : x.2.2.2.1 = nI c) (hb : x.2.1 = nI bg) (hbg : bg < 200) (hk : x.2.2.2.2 32 c = 6) (hv : x.2.2.2.2 33 c = 0) (hp : x.2.2.2.2 34 c = nI ce) :
    Cb_X6_doAll_20 i x = true ∧ Pb_X6_doAll_20 i x ∧ g_X6_doAll_20 i x = (x.1, nI (bg + 1), x.2.2.1, nI (ce + 1), x.2.2.2.2) := by
  have ne := mv_ne hi
  have nle : ¬ x.2.2.2.2 31 5 ≤ x.2.2.2.1 := by
    rw [h5, hx]
    exact nI_ge hc (by omega)
  have aK : F_X9_at 32 150 x.2.2.2.1 x.2.2.2.2 = 6 := by
    rw [hx]
    exact (at_k (by omega) (by omega)).trans hk
  have aV : F_X9_at 33 150 x.2.2.2.1 x.2.2.2.2 = 0 := by
    rw [hx]
    exact (at_k (by omega) (by omega)).trans hv
  have aP : F_X9_at 34 150 x.2.2.2.1 x.2.2.2.2 = nI ce := by
    rw [hx]
    exact (at_k (by omega) (by omega)).trans hp
  have n7 : (6 : Int32) ≠ 7 := by decide
  have n6 : ¬ (6 : Int32) ≠ 6 := by decide
  have z0 : ¬ (0 : Int32) ≠ 0 := by decide
  have nb : x.2.1 ≠ 200 := by
    rw [hb]
    exact fun z => absurd ((nI_eq (b := 200) (by omega) (by omega)).mp z) (by omega)
  refine ⟨?_, ?_, ?_⟩
  · unfold Cb_X6_doAll_20
    rw [if_neg ne, if_neg nle, aK, if_pos n7, if_pos nb]
  · unfold Pb_X6_doAll_20
    rw [aK, aV]
    exact ⟨fun z => absurd z ne, fun _ => ⟨fun z => absurd z nle, fun _ => ⟨fun _ => ⟨fun _ => ⟨fun z => absurd z n6, fun _ => ⟨fun z => absurd z z0, fun _ => trivial⟩⟩, fun z => absurd z nb⟩, fun z => absurd z n7⟩⟩⟩
  · unfold g_X6_doAll_20 VX6_doAll_20_7 VX6_doAll_20_8 VX6_doAll_20_9 VX6_doAll_20_10
    rw [aK, aV, aP, if_pos n7]
    simp only [if_neg n6, if_neg z0]
    rw [hb, ← nI_succ, ← nI_succ]
theorem mv_open {v dp : Nat} (hi : i < 10000) (hn : n ≤ 150) (h5 : x.2.2.2.2 31 5 = nI n) (hc : c < n) (hx : x.2.2.2.1 = nI c) (hb : x.2.1 = nI bg) (hbg : bg < 200) (hd : x.2.2.1 = nI dp) (hdp : dp < 6) (hk : x.2.2.2.2 32 c = 6) (hv : x.2.2.2.2 33 c = nI v) (hv0 : v ≠ 0) (hv20 : v ≤ 20) :
    Cb_X6_doAll_20 i x = true ∧ Pb_X6_doAll_20 i x ∧ g_X6_doAll_20 i x = (x.1, nI (bg + 1), nI (dp + 1), nI (c + 1), upm x.2.2.2.2 36 dp (nI v)) := by
  have ne := mv_ne hi
  have nle : ¬ x.2.2.2.2 31 5 ≤ x.2.2.2.1 := by
    rw [h5, hx]
    exact nI_ge hc (by omega)
  have aK : F_X9_at 32 150 x.2.2.2.1 x.2.2.2.2 = 6 := by
    rw [hx]
    exact (at_k (by omega) (by omega)).trans hk
  have aV : F_X9_at 33 150 x.2.2.2.1 x.2.2.2.2 = nI v := by
    rw [hx]
    exact (at_k (by omega) (by omega)).trans hv
  have n7 : (6 : Int32) ≠ 7 := by decide
  have n6 : ¬ (6 : Int32) ≠ 6 := by decide
  have z0 : nI v ≠ 0 := nI_ne0 (by omega) (by omega)
  have nb : x.2.1 ≠ 200 := by
    rw [hb]
    exact fun z => absurd ((nI_eq (b := 200) (by omega) (by omega)).mp z) (by omega)
  have e6 : muX6_doAll_20_6 i x = upm x.2.2.2.2 36 dp (nI v) := by
    unfold muX6_doAll_20_6
    rw [aV, hd]
    exact put_k hdp (by omega)
  refine ⟨?_, ?_, ?_⟩
  · unfold Cb_X6_doAll_20
    rw [if_neg ne, if_neg nle, aK, if_pos n7, if_pos nb]
  · unfold Pb_X6_doAll_20
    rw [aK, aV]
    exact ⟨fun z => absurd z ne, fun _ => ⟨fun z => absurd z nle, fun _ => ⟨fun _ => ⟨fun _ => ⟨fun z => absurd z n6, fun _ => ⟨fun _ => ⟨fun z => absurd z n6, fun _ => trivial⟩, fun z => absurd z z0⟩⟩, fun z => absurd z nb⟩, fun z => absurd z n7⟩⟩⟩
  · unfold g_X6_doAll_20 VX6_doAll_20_7 VX6_doAll_20_8 VX6_doAll_20_9 VX6_doAll_20_10
    rw [e6, aK, aV, if_pos n7]
    simp only [if_neg n6, if_pos z0]
    rw [hx, hb, hd, ← nI_succ, ← nI_succ, ← nI_succ]
/-- at a bracket that closes, l rounds are left -/
theorem mv_end {l dp ca : Nat} (hi : i < 10000) (hn : n ≤ 150) (h5 : x.2.2.2.2 31 5 = nI n) (hc : c < n) (hx : x.2.2.2.1 = nI c) (hb : x.2.1 = nI bg) (hd : x.2.2.1 = nI (dp + 1)) (hdp : dp < 6) (hk : x.2.2.2.2 32 c = 7) (hp : x.2.2.2.2 34 c = nI ca) (hl : x.2.2.2.2 36 dp = nI (l + 1)) (hl20 : l ≤ 20) :
    Cb_X6_doAll_20 i x = true ∧ Pb_X6_doAll_20 i x ∧ g_X6_doAll_20 i x = (x.1, nI bg, (if l = 0 then nI dp else nI (dp + 1)), (if l = 0 then nI (c + 1) else nI (ca + 1)), upm x.2.2.2.2 36 dp (nI l)) := by
  have ne := mv_ne hi
  have nle : ¬ x.2.2.2.2 31 5 ≤ x.2.2.2.1 := by
    rw [h5, hx]
    exact nI_ge hc (by omega)
  have aK : F_X9_at 32 150 x.2.2.2.1 x.2.2.2.2 = 7 := by
    rw [hx]
    exact (at_k (by omega) (by omega)).trans hk
  have n7 : ¬ (7 : Int32) ≠ 7 := by decide
  have aR : F_X9_at 36 6 (x.2.2.1 - 1) x.2.2.2.2 - 1 = nI l := by
    rw [hd, nI_pred, show F_X9_at 36 6 (nI dp) x.2.2.2.2 = nI (l + 1) from (at_k hdp (by omega)).trans hl, nI_pred]
  have e11 : muX6_doAll_20_11 i x = upm x.2.2.2.2 36 dp (nI l) := by
    unfold muX6_doAll_20_11
    rw [aR, hd, nI_pred]
    exact put_k hdp (by omega)
  have aP : F_X9_at 34 150 x.2.2.2.1 (muX6_doAll_20_11 i x) = nI ca := by
    rw [hx, e11]
    refine (at_k (by omega) (by omega)).trans ?_
    rw [upm_other (by decide), hp]
  refine ⟨?_, ?_, ?_⟩
  · unfold Cb_X6_doAll_20
    rw [if_neg ne, if_neg nle, aK, if_neg n7]
  · unfold Pb_X6_doAll_20
    rw [aK]
    exact ⟨fun z => absurd z ne, fun _ => ⟨fun z => absurd z nle, fun _ => ⟨fun z => absurd z n7, fun _ => trivial⟩⟩⟩
  · unfold g_X6_doAll_20
    rw [aK, if_neg n7, e11]
    unfold VX6_doAll_20_12 VX6_doAll_20_13
    rw [aR, aP, hb, hd, hx]
    by_cases z : l = 0
    · rw [z, if_pos rfl, if_pos rfl, if_pos (show nI 0 ≤ 0 from Int32.le_refl _), if_pos (show nI 0 ≤ 0 from Int32.le_refl _), nI_pred, nI_succ c]
    · rw [if_neg z, if_neg z, if_neg (nI_nle (by omega) (by omega)), if_neg (nI_nle (by omega) (by omega)), nI_succ ca, show nI (dp + 1) - 0 = nI (dp + 1) by grind]
/-- the moves stop -/
theorem mv_stop (h : n ≤ c ∨ (bg = 200 ∧ c < n ∧ x.2.2.2.2 32 c ≠ 7)) (hn : n ≤ 150) (hcn : c ≤ 150) (h5 : x.2.2.2.2 31 5 = nI n) (hx : x.2.2.2.1 = nI c) (hb : x.2.1 = nI bg) : Cb_X6_doAll_20 i x = false := by
  unfold Cb_X6_doAll_20
  by_cases ne : (10000 : Int32) ≤ nI i
  · rw [if_pos ne]
  rw [if_neg ne]
  rcases h with h | ⟨h1, h2, h3⟩
  · rw [if_pos (by rw [h5, hx]; exact nI_le h (by omega))]
  · rw [if_neg (by rw [h5, hx]; exact nI_ge h2 (by omega))]
    have aK : F_X9_at 32 150 x.2.2.2.1 x.2.2.2.2 = x.2.2.2.2 32 c := by
      rw [hx]
      exact at_k (by omega) (by omega)
    rw [aK, if_pos h3, if_neg (by rw [hb, h1]; exact not_not_intro rfl)]
end MOVES
