/-! marks: which sets of tides may have left them -/
theorem nI_tim (a b : Nat) : nI a * nI b = nI (a * b) := (Int32.ofNat_mul a b).symm
theorem imax_nI {a b : Nat} (ha : a < 2 ^ 31) (hb : b < 2 ^ 31) : imax (nI a) (nI b) = nI (max a b) := by
  unfold imax
  by_cases q : a < b
  · rw [if_pos ((nI_ltI ha hb).mpr q), Nat.max_eq_right (Nat.le_of_lt q)]
  · rw [if_neg (fun z => q ((nI_ltI ha hb).mp z)), Nat.max_eq_left (Nat.le_of_not_lt q)]
theorem wat_k {E : EV} {r : Nat → Int32} {b h : Nat} (hO : EvOK E) (hr : RowOK E b r) (hl : h < eH E) : ∃ s, s ≤ 58 ∧ ∀ g, g ≤ 60 → wat E r (nI g) h = nI (g - s) := by
  obtain ⟨k1, k2⟩ := hO.2.1 h hl
  obtain ⟨s1, hs1, e1⟩ := nI_of2 (n := 40) (by decide) (Int32.not_lt.mpr k1) k2
  obtain ⟨k3, k4⟩ := hr.2.2.2.2.1 h hl
  obtain ⟨b1, hb1, e2⟩ := nI_of2 (n := 9) (by decide) (Int32.not_lt.mpr k3) k4
  refine ⟨s1 + 2 * b1, by omega, fun g hg => ?_⟩
  unfold wat
  rw [e1, e2]
  have : (2 : Int32) * nI b1 = nI (2 * b1) := nI_tim 2 b1
  rw [this, nI_add]
  unfold imax
  have z0 : (0 : Int32).toInt = 0 := by decide
  by_cases q : s1 + 2 * b1 < g
  · have e : nI g - nI (s1 + 2 * b1) = nI (g - (s1 + 2 * b1)) := by
      have := nI_add (g - (s1 + 2 * b1)) (s1 + 2 * b1)
      rw [Nat.sub_add_cancel (Nat.le_of_lt q)] at this
      rw [← this]
      exact Int32.add_sub_cancel _ _
    rw [if_pos, e]
    rw [Int32.lt_iff_toInt_lt, toI_sub (by omega) (by omega), z0]
    omega
  · rw [if_neg, show g - (s1 + 2 * b1) = 0 by omega]
    · rfl
    · rw [Int32.lt_iff_toInt_lt, toI_sub (by omega) (by omega), z0]
      omega
/-- the greatest height of a set of tides -/
def HM (E : EV) (v : Int32) (n : Nat) : Nat := fo n (fun t m => if bitI v t = true then max m (ix (eG E t)) else m) 0
theorem eG_k {E : EV} (hO : EvOK E) {t : Nat} (ht : t < eD E) : ix (eG E t) ≤ 60 ∧ eG E t = nI (ix (eG E t)) := by
  obtain ⟨k1, k2⟩ := hO.2.2.1 t ht
  obtain ⟨g, hg, e⟩ := nI_of2 (n := 60) (by decide) (Int32.not_lt.mpr k1) k2
  rw [e, nI_ix (by omega)]
  exact ⟨hg, rfl⟩
theorem HM_le {E : EV} (hO : EvOK E) (v : Int32) : ∀ n, n ≤ eD E → HM E v n ≤ 60 := by
  intro n
  induction n with
  | zero => exact fun _ => Nat.zero_le _
  | succ n ih =>
    intro hn
    unfold HM
    rw [fo_succ]
    have i := ih (by omega)
    have g := (eG_k hO (show n < eD E by omega)).1
    unfold HM at i
    split
    · exact Nat.max_le.mpr ⟨i, g⟩
    · exact i
theorem sp_stainBy {E : EV} {μ : Mem} {h b : Nat} {v : Int32} (hM : EvM E μ) (hO : EvOK E) (hr : RowOK E b (μ 521)) (hl : h < eH E) : P_X10_stainBy (nI h) v μ ∧ F_X10_stainBy (nI h) v μ = wat E (μ 521) (nI (HM E v (eD E))) h := by
  have hd := hO.1.2.2.1
  obtain ⟨s, hs, ew⟩ := wat_k hO hr hl
  have hN : NX10_stainBy_5 (nI h) v μ = eD E := by
    unfold NX10_stainBy_5
    rw [hM.2.2.1, nI_ix (by omega)]
  have e65 : ∀ i, i < eD E → μ 65 (ix (nI i)) = nI (ix (eG E i)) := fun i hi => by
    rw [nI_ix (by omega), hM.2.2.2.2.2.2.2.1 i hi]
    exact (eG_k hO hi).2
  refine ⟨?_, ?_⟩
  · unfold P_X10_stainBy
    rw [hN, hM.2.2.1]
    refine ⟨fun j hj => ?_, fun _ => trivial, fun q => absurd q n_lt⟩
    unfold Pb_X10_stainBy_5
    rw [hM.2.2.1]
    exact ⟨fun q => absurd q (nI_ge hj (by omega)), fun _ => ⟨fun _ => trivial, fun _ => ⟨vp_in_nI (by omega) (by omega), (sp_waterBy (row := 521) hM hO hl).1⟩⟩⟩
  · unfold F_X10_stainBy SX10_stainBy_5
    rw [hN, ew _ (HM_le hO v _ (Nat.le_refl _))]
    have key : ∀ n, n ≤ eD E → fo n (g_X10_stainBy_5 (nI h) v μ) 0 = nI (HM E v n - s) := by
      intro n
      induction n with
      | zero => exact fun _ => by rw [show HM E v 0 - s = 0 from Nat.zero_sub s]; rfl
      | succ n ih =>
        intro hn
        have i := ih (by omega)
        have hm := HM_le hO v n (by omega)
        have g := (eG_k hO (show n < eD E by omega)).1
        have eH' : HM E v (n + 1) = if bitI v n = true then max (HM E v n) (ix (eG E n)) else HM E v n := rfl
        rw [fo_succ, i, eH']
        unfold g_X10_stainBy_5 VX10_stainBy_5_1
        rw [has_eq]
        by_cases q : bitI v n = true
        · rw [if_pos q, if_neg (by decide), if_pos q, more_eq, (sp_waterBy (row := 521) hM hO hl).2, e65 n (by omega), ew _ g, imax_nI (by omega) (by omega)]
          exact congrArg nI (by omega)
        · rw [if_neg q, if_pos rfl, if_neg q]
    exact key _ (Nat.le_refl _)
/-- the marks stand with this greatest height -/
def fitB (E : EV) (r mk : Nat → Int32) (g : Nat) : Bool := decide (∀ h, h < eH E → mk h = -1 ∨ mk h = wat E r (nI g) h)
theorem sp_isStained {E : EV} {μ : Mem} {b : Nat} {v : Int32} (hM : EvM E μ) (hO : EvOK E) (hr : RowOK E b (μ 521)) (hK : MkR E μ) : P_X10_isStained v μ ∧ F_X10_isStained v μ = if fitB E (μ 521) (μ 38) (HM E v (eD E)) = true then 1 else 0 := by
  have hd := hO.1.1
  obtain ⟨n, hn, -, e57, k1, k2⟩ := hK
  have st : ∀ k, k < n → P_X10_stainBy (μ (425 + k) 0) v μ ∧ ∃ h, h < eH E ∧ F_X10_stainBy (μ (425 + k) 0) v μ = wat E (μ 521) (nI (HM E v (eD E))) h ∧ μ (425 + k) 1 = μ 38 h ∧ μ 38 h ≠ -1 := fun k hk => by
    obtain ⟨h, hh, e0, e1, p1, -⟩ := k1 k hk
    obtain ⟨q1, q2⟩ := sp_stainBy (v := v) hM hO hr hh
    rw [e0]
    refine ⟨q1, h, hh, q2, e1, fun z => ?_⟩
    rw [z] at p1
    exact absurd p1 (by decide)
  have main : ∀ N, N = NX10_isStained_2 v μ → N ≤ n ∧ (n ≤ N ∨ ¬ F_X10_stainBy (μ (425 + N) 0) v μ = μ (425 + N) 1) ∧ ∀ j, j < N → j < n ∧ F_X10_stainBy (μ (425 + j) 0) v μ = μ (425 + j) 1 := by
    intro N hN
    have hc : ∀ j, j < 7 → (!Cb_X10_isStained_2 v μ j (fo j (g_X10_isStained_2 v μ) ())) = decide (n ≤ j ∨ ¬ F_X10_stainBy (μ (425 + j) 0) v μ = μ (425 + j) 1) := fun j hj => by
      unfold Cb_X10_isStained_2
      rw [e57, nI_ix (by omega)]
      by_cases q : n ≤ j
      · rw [if_pos (nI_le q (by omega)), decide_eq_true (Or.inl q)]
        rfl
      · rw [if_neg (nI_ge (by omega) (by omega))]
        by_cases y : F_X10_stainBy (μ (425 + j) 0) v μ = μ (425 + j) 1
        · rw [if_pos y, decide_eq_false (fun z => z.elim q fun w => w y)]
          rfl
        · rw [if_neg y, decide_eq_true (Or.inr y)]
          rfl
    have hN' : N = fst 7 (fun j => decide (n ≤ j ∨ ¬ F_X10_stainBy (μ (425 + j) 0) v μ = μ (425 + j) 1)) := by
      rw [hN]
      exact fst_congr hc
    have a1 : N ≤ n := by
      rw [hN']
      exact fst_lt (by omega) (decide_eq_true (Or.inl (Nat.le_refl _)))
    refine ⟨a1, ?_, fun j hj => ?_⟩
    · have := fst_hit (n := 7) (c := fun j => decide (n ≤ j ∨ ¬ F_X10_stainBy (μ (425 + j) 0) v μ = μ (425 + j) 1)) (by rw [← hN']; omega)
      rw [← hN'] at this
      exact of_decide_eq_true this
    · rw [hN'] at hj
      have := of_decide_eq_false (fst_min (n := 7) (c := fun j => decide (n ≤ j ∨ ¬ F_X10_stainBy (μ (425 + j) 0) v μ = μ (425 + j) 1)) hj)
      exact ⟨Nat.lt_of_not_le fun q => this (Or.inl q), Classical.byContradiction fun q => this (Or.inr q)⟩
  obtain ⟨a1, a2, a3⟩ := main _ rfl
  unfold P_X10_isStained F_X10_isStained
  rw [e57]
  generalize NX10_isStained_2 v μ = N at *
  have v6 : ∀ j, j < n → vp_in (nI j) 6 := fun j hj => vp_in_nI (by omega) (by omega)
  refine ⟨⟨fun j hj => ?_, fun _ => trivial, fun q => ?_⟩, ?_⟩
  · obtain ⟨b1, b2⟩ := a3 j hj
    unfold Pb_X10_isStained_2
    rw [e57, nI_ix (by omega)]
    exact ⟨fun q => absurd q (nI_ge b1 (by omega)), fun _ => ⟨v6 j b1, (st j b1).1, v6 j b1, fun _ => trivial, fun q => q b2⟩⟩
  · have hl : N < n := Nat.lt_of_not_le fun z => absurd q (Int32.not_lt.mpr (nI_le z (by omega)))
    rw [nI_ix (by omega)]
    exact ⟨v6 N hl, (st N hl).1, v6 N hl, fun z => (a2.resolve_left (by omega)) z, fun _ => trivial⟩
  · by_cases q : n ≤ N
    · rw [if_pos (nI_le q (by omega)), if_pos]
      refine decide_eq_true fun h hh => ?_
      by_cases z : μ 38 h = -1
      · exact Or.inl z
      · obtain ⟨k, hk, e0⟩ := k2 h (by omega) z
        obtain ⟨-, h', hh', f1, f2, -⟩ := st k hk
        obtain ⟨h2, hh2, g0, g1, -⟩ := k1 k hk
        have eh : h2 = h := (nI_eq (by omega) (by omega)).mp (g0.symm.trans e0)
        have q2 := (sp_stainBy (v := v) hM hO hr hh).2
        have b2 := (a3 k (by omega)).2
        rw [e0, q2, g1, eh] at b2
        exact Or.inr b2.symm
    · have hl : N < n := by omega
      rw [if_neg (nI_ge hl (by omega)), if_neg]
      intro z
      obtain ⟨-, h', hh', f1, f2, f3⟩ := st N hl
      refine (a2.resolve_left q) ?_
      rw [f1, f2]
      exact (((of_decide_eq_true z) h' hh').resolve_left f3).symm
theorem sp_fits {E : EV} {μ : Mem} {r : Nat → Int32} {g : Nat} (hE : EvC E μ) (hO : EvOK E) (hc : RC0 E (μ 44) r) : P_X2_fits (nI g) μ ∧ F_X2_fits (nI g) μ = if fitB E r (μ 38) g = true then 1 else 0 := by
  have hd := hO.1.1
  have w : ∀ h, h < eH E → F_X9_at 38 6 (nI h) μ = μ 38 h ∧ F_X5_waterIn 43 (nI h) (nI g) μ = wat E r (nI g) h := fun h hl => ⟨at_k (by omega) (by omega), sp_waterC (th := 43) hO hl (hc.2.1 h hl)⟩
  have main : ∀ N, N = NX2_fits_3 (nI g) μ → N ≤ eH E ∧ (eH E ≤ N ∨ ¬ (μ 38 N = -1 ∨ μ 38 N = wat E r (nI g) N)) ∧ ∀ j, j < N → j < eH E ∧ (μ 38 j = -1 ∨ μ 38 j = wat E r (nI g) j) := by
    intro N hN
    have hcc : ∀ j, j < 7 → (!Cb_X2_fits_3 (nI g) μ j (fo j (g_X2_fits_3 (nI g) μ) ())) = decide (eH E ≤ j ∨ ¬ (μ 38 j = -1 ∨ μ 38 j = wat E r (nI g) j)) := fun j hj => by
      unfold Cb_X2_fits_3
      rw [hE.1]
      by_cases q : eH E ≤ j
      · rw [if_pos (nI_le q (by omega)), decide_eq_true (Or.inl q)]
        rfl
      · rw [if_neg (nI_ge (by omega) (by omega)), (w j (by omega)).1, (w j (by omega)).2]
        by_cases y : μ 38 j = -1
        · rw [if_pos y, decide_eq_false (fun z => z.elim q fun w => w (Or.inl y))]
          rfl
        · rw [if_neg y]
          by_cases x : μ 38 j = wat E r (nI g) j
          · rw [if_pos x, decide_eq_false (fun z => z.elim q fun w => w (Or.inr x))]
            rfl
          · rw [if_neg x, decide_eq_true (Or.inr (show ¬ (μ 38 j = -1 ∨ μ 38 j = wat E r (nI g) j) from fun z => z.elim y x))]
            rfl
    have hN' : N = fst 7 (fun j => decide (eH E ≤ j ∨ ¬ (μ 38 j = -1 ∨ μ 38 j = wat E r (nI g) j))) := by
      rw [hN]
      exact fst_congr hcc
    have a1 : N ≤ eH E := by
      rw [hN']
      exact fst_lt (by omega) (decide_eq_true (Or.inl (Nat.le_refl _)))
    refine ⟨a1, ?_, fun j hj => ?_⟩
    · have := fst_hit (n := 7) (c := fun j => decide (eH E ≤ j ∨ ¬ (μ 38 j = -1 ∨ μ 38 j = wat E r (nI g) j))) (by rw [← hN']; omega)
      rw [← hN'] at this
      exact of_decide_eq_true this
    · rw [hN'] at hj
      have := of_decide_eq_false (fst_min (n := 7) (c := fun j => decide (eH E ≤ j ∨ ¬ (μ 38 j = -1 ∨ μ 38 j = wat E r (nI g) j))) hj)
      exact ⟨Nat.lt_of_not_le fun q => this (Or.inl q), Classical.byContradiction fun q => this (Or.inr q)⟩
  obtain ⟨a1, a2, a3⟩ := main _ rfl
  unfold P_X2_fits F_X2_fits
  rw [hE.1]
  generalize NX2_fits_3 (nI g) μ = N at *
  refine ⟨⟨fun j hj => ?_, fun _ => trivial, fun q => ?_⟩, ?_⟩
  · obtain ⟨b1, b2⟩ := a3 j hj
    unfold Pb_X2_fits_3
    rw [hE.1, (w j b1).1, (w j b1).2]
    exact ⟨fun q => absurd q (nI_ge b1 (by omega)), fun _ => ⟨fun _ => trivial, fun z => ⟨fun _ => trivial, fun y => y (b2.resolve_left z)⟩⟩⟩
  · have hl : N < eH E := Nat.lt_of_not_le fun z => absurd q (Int32.not_lt.mpr (nI_le z (by omega)))
    have no := a2.resolve_left (by omega)
    rw [(w N hl).1, (w N hl).2]
    exact ⟨fun z => no (Or.inl z), fun _ => ⟨fun z => no (Or.inr z), fun _ => trivial⟩⟩
  · by_cases q : eH E ≤ N
    · rw [if_pos (nI_le q (by omega)), if_pos]
      exact decide_eq_true fun h hh => (a3 h (by omega)).2
    · rw [if_neg (nI_ge (by omega) (by omega)), if_neg]
      exact fun z => (a2.resolve_left q) ((of_decide_eq_true z) N (by omega))
