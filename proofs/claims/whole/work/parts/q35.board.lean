/-! board: the most sets that a water leaves -/
def wN (E : EV) (r : Nat → Int32) (h g : Nat) : Nat := ix (wat E r (nI g) h)
theorem wN_k {E : EV} {r : Nat → Int32} {b h g : Nat} (hO : EvOK E) (hr : RowOK E b r) (hl : h < eH E) (hg : g ≤ 60) : wN E r h g ≤ 60 ∧ wat E r (nI g) h = nI (wN E r h g) := by
  obtain ⟨s, hs, e⟩ := wat_k hO hr hl
  unfold wN
  rw [e g hg, nI_ix (by omega)]
  exact ⟨by omega, rfl⟩
def pW (E : EV) (r mk : Nat → Int32) (h w g : Nat) : Nat := if fitB E r mk g = true ∧ wN E r h g = w then 1 else 0
def cW (E : EV) (r mk : Nat → Int32) (h x w : Nat) : Nat := sumN x fun g => pW E r mk h w g * suN (gH E) (eD E) g
def mxN (n : Nat) (f : Nat → Nat) : Nat := fo n (fun i s => max s (f i)) 0
theorem mxN_s (n : Nat) (f : Nat → Nat) : mxN (n + 1) f = max (mxN n f) (f n) := rfl
theorem mxN_ge {n : Nat} {f : Nat → Nat} : ∀ i, i < n → f i ≤ mxN n f := by
  induction n with
  | zero => exact fun i hi => absurd hi (by omega)
  | succ n ih =>
    intro i hi
    rw [mxN_s]
    by_cases q : i = n
    · rw [q]
      exact Nat.le_max_right _ _
    · exact Nat.le_trans (ih i (by omega)) (Nat.le_max_left _ _)
theorem mxN_le {n b : Nat} {f : Nat → Nat} (h : ∀ i, i < n → f i ≤ b) : mxN n f ≤ b := by
  induction n with
  | zero => exact Nat.zero_le _
  | succ n ih =>
    rw [mxN_s]
    exact Nat.max_le.mpr ⟨ih fun i hi => h i (by omega), h n (by omega)⟩
theorem mxN_upd {n w0 : Nat} {f f' : Nat → Nat} (h0 : w0 < n) (h1 : f w0 ≤ f' w0) (h2 : ∀ w, w ≠ w0 → f' w = f w) : mxN n f' = max (mxN n f) (f' w0) := by
  refine Nat.le_antisymm (mxN_le fun i hi => ?_) (Nat.max_le.mpr ⟨mxN_le fun i hi => ?_, mxN_ge w0 h0⟩)
  · by_cases q : i = w0
    · rw [q]
      exact Nat.le_max_right _ _
    · rw [h2 i q]
      exact Nat.le_trans (mxN_ge i hi) (Nat.le_max_left _ _)
  · by_cases q : i = w0
    · rw [q]
      exact Nat.le_trans h1 (mxN_ge w0 h0)
    · rw [← h2 i q]
      exact mxN_ge i hi
theorem mxN_congr {n : Nat} {f g : Nat → Nat} (h : ∀ i, i < n → f i = g i) : mxN n f = mxN n g := by
  induction n with
  | zero => rfl
  | succ n ih => rw [mxN_s, mxN_s, ih fun i hi => h i (by omega), h n (by omega)]
theorem mxN_0 (n : Nat) : mxN n (fun _ => 0) = 0 := Nat.le_antisymm (mxN_le fun _ _ => Nat.le_refl _) (Nat.zero_le _)
theorem su_le {E : EV} (hO : EvOK E) (g : Nat) : suN (gH E) (eD E) g ≤ 2 ^ 24 := by
  have hd := hO.1.2.2.1
  have b1 : beN (gH E) (eD E) g ≤ eD E := sum_le _ _ fun i hi => by split <;> omega
  have b2 : alN (gH E) (eD E) g ≤ eD E := sum_le _ _ fun i hi => by split <;> omega
  unfold suN
  have p1 : 2 ^ beN (gH E) (eD E) g ≤ 2 ^ 12 := Nat.pow_le_pow_right (by decide) (by omega)
  have p2 : 2 ^ alN (gH E) (eD E) g - 1 ≤ 2 ^ 12 := Nat.le_trans (Nat.sub_le _ _) (Nat.pow_le_pow_right (by decide) (by omega))
  exact Nat.le_trans (Nat.mul_le_mul p2 p1) (by decide)
theorem cW_le {E : EV} {r mk : Nat → Int32} {h w : Nat} (hO : EvOK E) : ∀ x, cW E r mk h x w ≤ x * 2 ^ 24 := by
  intro x
  induction x with
  | zero => exact Nat.zero_le _
  | succ x ih =>
    have e : cW E r mk h (x + 1) w = cW E r mk h x w + pW E r mk h w x * suN (gH E) (eD E) x := rfl
    have s := su_le hO x
    rw [e, Nat.add_mul, Nat.one_mul]
    unfold pW
    split
    · rw [Nat.one_mul]
      exact Nat.add_le_add ih s
    · rw [Nat.zero_mul, Nat.add_zero]
      exact Nat.le_trans ih (Nat.le_add_right _ _)
theorem sp_worstLeft {E : EV} {μ : Mem} {r : Nat → Int32} {b h : Nat} (hE : EvC E μ) (hO : EvOK E) (hc : RC0 E (μ 44) r) (hr : RowOK E b r) (hl : h < eH E) :
    P_X2_worstLeft (nI h) μ ∧ F_X2_worstLeft (nI h) μ = nI (mxN 61 fun w => cW E r (μ 38) h 61 w) ∧ ∀ q, q ≠ 39 → M_X2_worstLeft (nI h) μ q = μ q := by
  have k1 := fo_all (fun i (t : Mem) => (∀ q, q ≠ 39 → t q = μ q) ∧ ∀ k, k < i → t 39 k = 0) (Pb_X2_worstLeft_3 (nI h)) 61 (g_X2_worstLeft_3 (nI h)) μ ⟨fun _ _ => rfl, fun k hk => absurd hk (by omega)⟩ (fun i hi t ht => by
    refine ⟨⟨fun q => absurd q (Int32.not_lt.mpr (nI_le (b := 60) (by omega) (by omega))), fun _ => trivial⟩, fun q hq => ?_, fun k hk => ?_⟩
    · show M_X9_put 39 61 (nI i) 0 t q = _
      rw [put_k hi (by decide), upm_other hq, ht.1 q hq]
    · show M_X9_put 39 61 (nI i) 0 t 39 k = _
      rw [put_k hi (by decide), upm_rr]
      by_cases z : k = i
      · rw [if_pos z]
      · rw [if_neg z, ht.2 k (by omega)])
  obtain ⟨k1, k2, k3⟩ := k1
  have k4 := fo_all (fun i (s : Int32 × Mem) => (∀ q, q ≠ 39 → s.2 q = μ q) ∧ (∀ w, w < 61 → s.2 39 w = nI (cW E r (μ 38) h i w)) ∧ s.1 = nI (mxN 61 fun w => cW E r (μ 38) h i w)) (Pb_X2_worstLeft_32 (nI h)) 61 (g_X2_worstLeft_32 (nI h)) (0, fo 61 (g_X2_worstLeft_3 (nI h)) μ)
    ⟨k2, fun w hw => k3 w hw, by show (0 : Int32) = nI (mxN 61 fun w => 0); rw [mxN_0]; rfl⟩ (fun i hi s hs => by
    obtain ⟨a1, a2, a3⟩ := hs
    have hEs : EvC E s.2 := hE.mono fun q hq => a1 q (by omega)
    have hcs : RC0 E (s.2 44) r := by rw [a1 44 (by decide)]; exact hc
    obtain ⟨f1, f2⟩ := sp_fits (g := i) hEs hO hcs
    rw [a1 38 (by decide)] at f2
    obtain ⟨u1, u2⟩ := sp_setsUnder (g := i) hEs hO (by omega)
    obtain ⟨w1, w2⟩ := wN_k hO hr hl (show i ≤ 60 by omega)
    have ew : F_X5_waterIn 43 (nI h) (nI i) s.2 = nI (wN E r h i) := by
      rw [sp_waterC (th := 43) hO hl (hcs.2.1 h hl), w2]
    have es : ∀ w, cW E r (μ 38) h (i + 1) w = cW E r (μ 38) h i w + pW E r (μ 38) h w i * suN (gH E) (eD E) i := fun w => rfl
    refine ⟨⟨fun q => absurd q (Int32.not_lt.mpr (nI_le (b := 60) (by omega) (by omega))), fun _ => ⟨f1, fun _ => trivial, fun _ => u1⟩⟩, ?_⟩
    unfold g_X2_worstLeft_32 VX2_worstLeft_32_2 VX2_worstLeft_32_3 muX2_worstLeft_32_1
    rw [f2, ew, at_k (by omega) (by decide), put_k (by omega) (by decide), u2, a2 _ (by omega), nI_add, a3]
    by_cases q : fitB E r (μ 38) i = true
    · rw [if_pos q, if_neg (by decide), if_neg (by decide)]
      have e0 : cW E r (μ 38) h (i + 1) (wN E r h i) = cW E r (μ 38) h i (wN E r h i) + suN (gH E) (eD E) i := by
        rw [es]
        unfold pW
        rw [if_pos ⟨q, rfl⟩, Nat.one_mul]
      have e1 : ∀ w, w ≠ wN E r h i → cW E r (μ 38) h (i + 1) w = cW E r (μ 38) h i w := fun w hw => by
        rw [es]
        unfold pW
        rw [if_neg (fun z => hw z.2.symm), Nat.zero_mul, Nat.add_zero]
      rw [← e0]
      refine ⟨fun q hq => ?_, fun w hw => ?_, ?_⟩
      · show upm s.2 39 _ _ q = _
        rw [upm_other hq, a1 q hq]
      · show upm s.2 39 _ _ 39 w = _
        rw [upm_rr]
        by_cases z : w = wN E r h i
        · rw [if_pos z, z]
        · rw [if_neg z, a2 w hw, e1 w z]
      · show imax (nI (mxN 61 fun w => cW E r (μ 38) h i w)) (nI (cW E r (μ 38) h (i + 1) (wN E r h i))) = _
        have b1 : mxN 61 (fun w => cW E r (μ 38) h i w) ≤ 61 * 2 ^ 24 := mxN_le fun w _ => Nat.le_trans (cW_le hO i) (Nat.mul_le_mul_right _ (by omega))
        have b2 : cW E r (μ 38) h (i + 1) (wN E r h i) ≤ 61 * 2 ^ 24 := Nat.le_trans (cW_le hO (i + 1)) (Nat.mul_le_mul_right _ (by omega))
        rw [imax_nI (by omega) (by omega)]
        exact congrArg nI (mxN_upd (f := fun w => cW E r (μ 38) h i w) (f' := fun w => cW E r (μ 38) h (i + 1) w) (by omega) (by show _ ≤ cW E r (μ 38) h (i + 1) (wN E r h i); rw [e0]; omega) fun w hw => e1 w hw).symm
    · rw [if_neg q, if_pos rfl, if_pos rfl]
      have e1 : ∀ w, cW E r (μ 38) h (i + 1) w = cW E r (μ 38) h i w := fun w => by
        rw [es]
        unfold pW
        rw [if_neg (fun z => q z.1), Nat.zero_mul, Nat.add_zero]
      refine ⟨a1, fun w hw => by rw [e1]; exact a2 w hw, ?_⟩
      exact congrArg nI (mxN_congr fun w _ => (e1 w).symm))
  obtain ⟨k4, k5, k6, k7⟩ := k4
  have hN3 : NX2_worstLeft_3 (nI h) μ = 61 := rfl
  have hN32 : NX2_worstLeft_32 (nI h) μ = 61 := rfl
  refine ⟨⟨k1, fun _ => ⟨k4, fun _ => trivial, fun q => absurd q (by rw [hN32]; decide)⟩, fun q => absurd q (by rw [hN3]; decide)⟩, k7, k5⟩
