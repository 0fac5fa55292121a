/-! marks: both sides count the same -/
theorem shl_U : ∀ T, T ≤ 12 → ((1 : Int32) <<< ((nI T) &&& 31)) = nI (2 ^ T) := by decide +kernel
theorem or_U : ∀ n, n < 12 → ∀ b, b < 2 ^ n → (nI b ||| ((1 : Int32) <<< ((nI n) &&& 31))) = nI (b + 2 ^ n) := by decide +kernel
theorem low_V : ∀ a, a < 64 → ∀ b, b < 64 → 64 * a + b ≠ 0 → (nI (64 * a + b) &&& (-(nI (64 * a + b)))) = nI (2 ^ fst 12 (fun t => (64 * a + b).testBit t)) := by decide +kernel
theorem low_U (f : Nat) (h : f < 4096) (h0 : f ≠ 0) : (nI f &&& (-(nI f))) = nI (2 ^ fst 12 (fun t => f.testBit t)) := by
  have e : 64 * (f / 64) + f % 64 = f := Nat.div_add_mod f 64
  have := low_V (f / 64) (by omega) (f % 64) (by omega)
  rw [e] at this
  exact this h0
theorem bitW (v : Nat) : ∀ t, t < 12 → bitI (nI v) t = v.testBit t := by
  have key : ∀ (y : BitVec 32), decide ((y &&& 1#32) = 1#32) = y.getLsbD 0 := by
    intro y
    rw [BitVec.and_one_eq_setWidth_ofBool_getLsbD]
    cases y.getLsbD 0 <;> decide
  have kk : ∀ (y : Int32), decide ((y &&& 1) = 1) = y.toBitVec.getLsbD 0 := by
    intro y
    rw [← key]
    refine decide_eq_decide.mpr ?_
    rw [← Int32.toBitVec_inj, Int32.toBitVec_and]
    rfl
  intro t ht
  rw [← nIV v t (by omega)]
  unfold bitI
  rw [kk]
  have e : ∀ t, t < 12 → (BitVec.smod (nI t &&& 31).toBitVec 32#32).toNat = t := by decide +kernel
  show (BitVec.sshiftRight' (nI v).toBitVec (BitVec.smod (nI t &&& 31).toBitVec 32#32)).getLsbD 0 = _
  unfold BitVec.sshiftRight'
  rw [e t ht, BitVec.getLsbD_sshiftRight]
  simp
  omega
/-- the heights, as numbers -/
def gH (E : EV) : Nat → Nat := fun t => ix (eG E t)
theorem HM_nat {E : EV} (v : Nat) : ∀ n, n ≤ 12 → HM E (nI v) n = hmN (gH E) v n := by
  intro n
  induction n with
  | zero => exact fun _ => rfl
  | succ n ih =>
    intro hn
    have e : HM E (nI v) (n + 1) = if bitI (nI v) n = true then max (HM E (nI v) n) (ix (eG E n)) else HM E (nI v) n := rfl
    rw [e, ih (by omega), hmN_s, bitW v n (by omega)]
    rfl
theorem hgt_lt {E : EV} {i : Nat} (h : i < eD E) : hgt E i = eG E i := by
  unfold hgt
  rw [if_neg (by omega), Nat.mod_eq_of_lt h]
theorem sum_le (n : Nat) (f : Nat → Nat) (h : ∀ i, i < n → f i ≤ 1) : sumN n f ≤ n := by
  induction n with
  | zero => exact Nat.le_refl _
  | succ n ih =>
    rw [sumN_s]
    have := ih fun i hi => h i (by omega)
    have := h n (by omega)
    omega
theorem sp_setsUnder {E : EV} {μ : Mem} {g : Nat} (hE : EvC E μ) (hO : EvOK E) (hg : g ≤ 60) : P_X2_setsUnder (nI g) μ ∧ F_X2_setsUnder (nI g) μ = nI (suN (gH E) (eD E) g) := by
  have hd := hO.1.2.2.1
  have hN : NX2_setsUnder_7 (nI g) μ = eD E := by
    unfold NX2_setsUnder_7
    rw [hE.2.2.1, nI_ix (by omega)]
  have hS : SX2_setsUnder_7 (nI g) μ = (nI (beN (gH E) (eD E) g), nI (alN (gH E) (eD E) g)) := by
    unfold SX2_setsUnder_7
    rw [hN]
    have key : ∀ n, n ≤ eD E → fo n (g_X2_setsUnder_7 (nI g) μ) (0, 0) = (nI (beN (gH E) n g), nI (alN (gH E) n g)) := by
      intro n
      induction n with
      | zero => exact fun _ => rfl
      | succ n ih =>
        intro hn
        obtain ⟨k1, k2⟩ := eG_k hO (show n < eD E by omega)
        have eb : beN (gH E) (n + 1) g = beN (gH E) n g + if gH E n < g then 1 else 0 := rfl
        have ea : alN (gH E) (n + 1) g = alN (gH E) n g + if gH E n = g then 1 else 0 := rfl
        rw [fo_succ, ih (by omega), eb, ea]
        unfold g_X2_setsUnder_7 VX2_setsUnder_7_1 VX2_setsUnder_7_2
        rw [(sp_heightOf (a := n) hE hO (by omega)).2, hgt_lt (by omega), k2]
        have ek : ix (eG E n) = gH E n := rfl
        rw [ek] at k1 ⊢
        have p1 : (nI (beN (gH E) n g) + if nI g ≤ nI (gH E n) then 0 else 1) = nI (beN (gH E) n g + if gH E n < g then 1 else 0) := by
          by_cases a : gH E n < g
          · rw [if_pos a, if_neg (nI_ge a (by omega)), nI_1]
          · rw [if_neg a, if_pos (nI_le (by omega) (by omega)), Int32.add_zero, Nat.add_zero]
        have p2 : (nI (alN (gH E) n g) + if nI (gH E n) ≠ nI g then 0 else 1) = nI (alN (gH E) n g + if gH E n = g then 1 else 0) := by
          by_cases a : gH E n = g
          · rw [if_pos a, if_neg (not_not_intro (congrArg nI a)), nI_1]
          · rw [if_neg a, if_pos (fun q => a ((nI_eq (by omega) (by omega)).mp q)), Int32.add_zero, Nat.add_zero]
        exact Prod.ext p1 p2
    exact key _ (Nat.le_refl _)
  have b1 : beN (gH E) (eD E) g ≤ eD E := sum_le _ _ fun i hi => by split <;> omega
  have b2 : alN (gH E) (eD E) g ≤ eD E := sum_le _ _ fun i hi => by split <;> omega
  refine ⟨?_, ?_⟩
  · unfold P_X2_setsUnder
    rw [hN, hE.2.2.1]
    refine ⟨fun j hj => ?_, fun _ => trivial, fun q => absurd q n_lt⟩
    unfold Pb_X2_setsUnder_7
    rw [hE.2.2.1]
    exact ⟨fun q => absurd q (nI_ge hj (by omega)), fun _ => ⟨(sp_heightOf (a := j) hE hO (by omega)).1, (sp_heightOf (a := j) hE hO (by omega)).1⟩⟩
  · unfold F_X2_setsUnder suN
    rw [hS]
    show ((1 : Int32) <<< (nI (alN (gH E) (eD E) g) &&& 31) - 1) * ((1 : Int32) <<< (nI (beN (gH E) (eD E) g) &&& 31)) = _
    rw [shl_U _ (by omega), shl_U _ (by omega)]
    obtain ⟨x, hx⟩ : ∃ x, 2 ^ alN (gH E) (eD E) g = x + 1 := ⟨2 ^ alN (gH E) (eD E) g - 1, by have := Nat.two_pow_pos (alN (gH E) (eD E) g); omega⟩
    rw [hx, nI_pred, nI_tim, Nat.add_sub_cancel]
def ftN (E : EV) (r mk : Nat → Int32) (g : Nat) : Nat := if fitB E r mk g = true then 1 else 0
theorem sp_setsLeft {E : EV} {μ : Mem} {r : Nat → Int32} (hE : EvC E μ) (hO : EvOK E) (hc : RC0 E (μ 44) r) : P_X2_setsLeft μ ∧ F_X2_setsLeft μ = nI (sumN 61 fun g => ftN E r (μ 38) g * suN (gH E) (eD E) g) := by
  have hN : NX2_setsLeft_5 μ = 61 := rfl
  refine ⟨?_, ?_⟩
  · unfold P_X2_setsLeft
    rw [hN]
    refine ⟨fun j hj => ?_, fun _ => trivial, fun q => absurd q (by decide)⟩
    unfold Pb_X2_setsLeft_5
    exact ⟨fun q => absurd q (Int32.not_lt.mpr (nI_le (b := 60) (by omega) (by omega))), fun _ => ⟨(sp_fits hE hO hc).1, fun _ => trivial, fun _ => (sp_setsUnder hE hO (by omega)).1⟩⟩
  · unfold F_X2_setsLeft SX2_setsLeft_5
    rw [hN]
    have key : ∀ n, n ≤ 61 → fo n (g_X2_setsLeft_5 μ) 0 = nI (sumN n fun g => ftN E r (μ 38) g * suN (gH E) (eD E) g) := by
      intro n
      induction n with
      | zero => exact fun _ => rfl
      | succ n ih =>
        intro hn
        rw [fo_succ, ih (by omega), sumN_s]
        unfold g_X2_setsLeft_5 VX2_setsLeft_5_1 ftN
        rw [(sp_fits hE hO hc).2, (sp_setsUnder hE hO (by omega)).2]
        by_cases q : fitB E r (μ 38) n = true
        · rw [if_pos q, if_pos q, if_neg (by decide), nI_add, Nat.one_mul]
        · rw [if_neg q, if_neg q, if_pos rfl, Nat.zero_mul, Int32.add_zero, Nat.add_zero]
    exact key _ (Nat.le_refl _)
/-- the tides that fit, as a number -/
def ftS (E : EV) (r mk : Nat → Int32) (n : Nat) : Nat := fo n (fun t s => if fitB E r mk (gH E t) = true then s + 2 ^ t else s) 0
theorem ftS_lt (E : EV) (r mk : Nat → Int32) : ∀ n, ftS E r mk n < 2 ^ n ∧ ∀ t, t < n → (ftS E r mk n).testBit t = fitB E r mk (gH E t) := by
  intro n
  induction n with
  | zero => exact ⟨(show 0 < 2 ^ 0 by decide), fun t ht => absurd ht (by omega)⟩
  | succ n ih =>
    obtain ⟨i1, i2⟩ := ih
    have e : ftS E r mk (n + 1) = if fitB E r mk (gH E n) = true then ftS E r mk n + 2 ^ n else ftS E r mk n := rfl
    rw [e, Nat.pow_succ]
    by_cases q : fitB E r mk (gH E n) = true
    · rw [if_pos q]
      refine ⟨by omega, fun t ht => ?_⟩
      rw [Nat.add_comm]
      by_cases z : t = n
      · rw [z, Nat.testBit_two_pow_add_eq, Nat.testBit_lt_two_pow i1, q]
        rfl
      · rw [Nat.testBit_two_pow_add_gt (by omega), i2 t (by omega)]
    · rw [if_neg q]
      refine ⟨by omega, fun t ht => ?_⟩
      by_cases z : t = n
      · rw [z, Nat.testBit_lt_two_pow i1]
        exact (Bool.eq_false_iff.mpr q).symm
      · rw [i2 t (by omega)]
theorem sp_fittingTides {E : EV} {μ : Mem} {r : Nat → Int32} (hE : EvC E μ) (hO : EvOK E) (hc : RC0 E (μ 44) r) : P_X2_fittingTides μ ∧ F_X2_fittingTides μ = nI (ftS E r (μ 38) (eD E)) := by
  have hd := hO.1.2.2.1
  have hN : NX2_fittingTides_5 μ = eD E := by
    unfold NX2_fittingTides_5
    rw [hE.2.2.1, nI_ix (by omega)]
  have hh : ∀ i, i < eD E → F_X7_heightOf (nI i) μ = nI (gH E i) := fun i hi => by
    rw [(sp_heightOf (a := i) hE hO (by omega)).2, hgt_lt hi]
    exact (eG_k hO hi).2
  refine ⟨?_, ?_⟩
  · unfold P_X2_fittingTides
    rw [hN, hE.2.2.1]
    refine ⟨fun j hj => ?_, fun _ => trivial, fun q => absurd q n_lt⟩
    unfold Pb_X2_fittingTides_5
    rw [hE.2.2.1, hh j hj]
    exact ⟨fun q => absurd q (nI_ge hj (by omega)), fun _ => ⟨(sp_heightOf (a := j) hE hO (by omega)).1, (sp_fits hE hO hc).1⟩⟩
  · unfold F_X2_fittingTides SX2_fittingTides_5
    rw [hN]
    have key : ∀ n, n ≤ eD E → fo n (g_X2_fittingTides_5 μ) 0 = nI (ftS E r (μ 38) n) := by
      intro n
      induction n with
      | zero => exact fun _ => rfl
      | succ n ih =>
        intro hn
        have e : ftS E r (μ 38) (n + 1) = if fitB E r (μ 38) (gH E n) = true then ftS E r (μ 38) n + 2 ^ n else ftS E r (μ 38) n := rfl
        rw [fo_succ, ih (by omega), e]
        unfold g_X2_fittingTides_5 VX2_fittingTides_5_1
        rw [hh n (by omega), (sp_fits hE hO hc).2]
        by_cases q : fitB E r (μ 38) (gH E n) = true
        · rw [if_pos q, if_pos q, if_neg (by decide), or_U n (by omega) _ (ftS_lt E r (μ 38) n).1]
        · rw [if_neg q, if_neg q, if_pos rfl]
    exact key _ (Nat.le_refl _)
/-- a set's greatest height is one of its own -/
theorem hm_att (G : Nat → Nat) (v : Nat) : ∀ n, (∃ t, t < n ∧ v.testBit t = true) → ∃ t, t < n ∧ v.testBit t = true ∧ hmN G v n = G t := by
  have z : ∀ n, (∀ t, t < n → v.testBit t = false) → hmN G v n = 0 := by
    intro n
    induction n with
    | zero => exact fun _ => rfl
    | succ n ih =>
      intro h
      rw [hmN_s, h n (by omega), if_neg (by decide), ih fun t ht => h t (by omega)]
  intro n
  induction n with
  | zero => exact fun ⟨t, ht, _⟩ => absurd ht (by omega)
  | succ n ih =>
    intro ⟨t, ht, hb⟩
    rw [hmN_s]
    by_cases q : v.testBit n = true
    · rw [if_pos q]
      by_cases w : ∃ t, t < n ∧ v.testBit t = true
      · obtain ⟨t', h1, h2, h3⟩ := ih w
        rw [h3]
        rcases Nat.le_total (G t') (G n) with y | y
        · exact ⟨n, by omega, q, Nat.max_eq_right y⟩
        · exact ⟨t', by omega, h2, Nat.max_eq_left y⟩
      · rw [z n fun t ht => Bool.eq_false_iff.mpr fun y => w ⟨t, ht, y⟩]
        exact ⟨n, by omega, q, Nat.max_eq_right (Nat.zero_le _)⟩
    · rw [if_neg q]
      have hn : t < n := Nat.lt_of_le_of_ne (by omega) fun y => q (by rw [← y]; exact hb)
      obtain ⟨t', h1, h2, h3⟩ := ih ⟨t, hn, hb⟩
      exact ⟨t', by omega, h2, h3⟩
theorem hm_one (G : Nat → Nat) {t n : Nat} (ht : t < n) : hmN G (2 ^ t) n = G t := by
  obtain ⟨t', h1, h2, h3⟩ := hm_att G (2 ^ t) n ⟨t, ht, Nat.testBit_two_pow_self⟩
  rw [Nat.testBit_two_pow] at h2
  rw [h3, of_decide_eq_true h2]
