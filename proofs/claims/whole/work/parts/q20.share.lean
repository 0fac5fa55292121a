/-! shares -/
def gvN (E : EV) (r : Nat → Int32) (v : Int32) (n B : Nat) : Nat := fo n (fun h s => s + if bitI v h = true then min B (ix (r (56 + h))) else 0) 0
theorem gvN_s (E : EV) (r : Nat → Int32) (v : Int32) (n B : Nat) : gvN E r v (n + 1) B = gvN E r v n B + if bitI v n = true then min B (ix (r (56 + n))) else 0 := rfl
theorem gvN_mono {E : EV} {r : Nat → Int32} {v : Int32} {B C : Nat} (h : B ≤ C) (n : Nat) : gvN E r v n B ≤ gvN E r v n C := by
  induction n with
  | zero => exact Nat.le_refl 0
  | succ n ih =>
    rw [gvN_s, gvN_s]
    split <;> omega
theorem gvN_0 (E : EV) (r : Nat → Int32) (v : Int32) (n : Nat) : gvN E r v n 0 = 0 := by
  induction n with
  | zero => rfl
  | succ n ih =>
    rw [gvN_s, ih]
    split <;> omega
theorem gvN_term {E : EV} {r : Nat → Int32} {v : Int32} {B n h : Nat} (hh : h < n) (hb : bitI v h = true) : min B (ix (r (56 + h))) ≤ gvN E r v n B := by
  induction n with
  | zero => omega
  | succ n ih =>
    rw [gvN_s]
    by_cases q : h = n
    · subst q
      rw [if_pos hb]
      omega
    · have := ih (by omega)
      omega
theorem gvN_le {E : EV} {r : Nat → Int32} {v : Int32} {B p : Nat} (n : Nat) (hp : ∀ h, h < n → ix (r (56 + h)) ≤ p) : gvN E r v n B ≤ n * p := by
  induction n with
  | zero => exact Nat.zero_le _
  | succ n ih =>
    rw [gvN_s, Nat.succ_mul]
    have h1 := ih fun h hh => hp h (by omega)
    have h2 := hp n (by omega)
    split <;> omega
theorem imin_nI {a b : Nat} (ha : a < 2 ^ 31) (hb : b < 2 ^ 31) : imin (nI a) (nI b) = nI (min a b) := by
  unfold imin
  by_cases h : b < a
  · rw [if_pos ((nI_ltI hb ha).mpr h), Nat.min_eq_right (by omega)]
  · rw [if_neg (fun q => h ((nI_ltI hb ha).mp q)), Nat.min_eq_left (by omega)]
/-- what the sea paid, as numbers -/
theorem pay_nat {E : EV} {r : Nat → Int32} (hr : RowOK E 500 r) {h : Nat} (hl : h < eH E) : r (56 + h) = nI (ix (r (56 + h))) ∧ ix (r (56 + h)) ≤ 49500 := by
  obtain ⟨p, a, ⟨hp, ha, -⟩, e⟩ := hr.2.2.2.2.2.1.1 h hl
  rw [e, nI_ix (by omega)]
  exact ⟨rfl, by omega⟩
theorem sp_givenC {E : EV} {μ : Mem} {r : Nat → Int32} {v : Int32} {B : Nat} (hE : EvC E μ) (hO : EvOK E) (hp : RCP (μ 44) r) (hr : RowOK E 500 r) (hB : B < 100000) :
    P_X5_givenUnder 43 v (nI B) μ ∧ F_X5_givenUnder 43 v (nI B) μ = nI (gvN E r v (eH E) B) := by
  have hd := hO.1.1
  have hN : NX5_givenUnder_6 43 v (nI B) μ = eH E := by
    unfold NX5_givenUnder_6
    rw [hE.1, nI_ix (by omega)]
  have key := fo_all (fun i (s : Int32) => s = nI (gvN E r v i B)) (Pb_X5_givenUnder_6 43 v (nI B) μ) (eH E) (g_X5_givenUnder_6 43 v (nI B) μ) 0 rfl (fun i hi s hs => by
    obtain ⟨p1, p2⟩ := pay_nat hr hi
    refine ⟨?_, ?_⟩
    · unfold Pb_X5_givenUnder_6
      rw [hE.1]
      exact ⟨fun q => nI_ge hi (by omega) q, fun _ => trivial⟩
    · unfold g_X5_givenUnder_6 VX5_givenUnder_6_1
      rw [of62 (by omega), hp i (by omega), hs, gvN_s, ← nI_add]
      by_cases q : bitI v i = true
      · have q' : ((v >>> ((nI i) &&& 31)) &&& 1) = 1 := of_decide_eq_true q
        rw [if_pos q, q', if_pos (by decide), p1, imin_nI (by omega) (by omega), nI_ix (by omega)]
      · have q0 : ((v >>> ((nI i) &&& 31)) &&& 1) = 0 := by
          obtain ⟨j, hj, e⟩ := pk_andE (v >>> ((nI i) &&& 31)) (m := 1) 1 (by decide)
          have : j = 0 ∨ j = 1 := by omega
          rcases this with rfl | rfl
          · exact e
          · exact absurd (decide_eq_true e) q
        rw [if_neg q, q0, if_neg (by decide)]
        rfl)
  unfold P_X5_givenUnder F_X5_givenUnder SX5_givenUnder_6
  rw [hN, hE.1]
  exact ⟨⟨key.1, fun _ => trivial, fun q => absurd q n_lt⟩, key.2⟩
theorem sp_givenM {E : EV} {ν : Mem} {r : Nat → Int32} {v : Int32} {B : Nat} (hM : EvM E ν) (hO : EvOK E) (h521 : ν 521 = r) (hr : RowOK E 500 r) (hB : B < 1000000) :
    P_X10_givenBy v (nI B) ν ∧ F_X10_givenBy v (nI B) ν = nI (gvN E r v (eH E) B) := by
  have hd := hO.1.1
  have hN : NX10_givenBy_5 v (nI B) ν = eH E := by
    unfold NX10_givenBy_5
    rw [hM.1, nI_ix (by omega)]
  have key := fo_all (fun i (s : Int32) => s = nI (gvN E r v i B)) (Pb_X10_givenBy_5 v (nI B) ν) (eH E) (g_X10_givenBy_5 v (nI B) ν) 0 rfl (fun i hi s hs => by
    obtain ⟨p1, p2⟩ := pay_nat hr hi
    refine ⟨?_, ?_⟩
    · unfold Pb_X10_givenBy_5
      rw [hM.1, c56]
      exact ⟨fun q => nI_ge hi (by omega) q, fun _ => ⟨fun _ => trivial, fun _ => vp_in_nI (by omega) (by omega)⟩⟩
    · unfold g_X10_givenBy_5 VX10_givenBy_5_1
      rw [has_eq, less_eq, c56, nI_ix (by omega), h521, hs, gvN_s, ← nI_add]
      by_cases q : bitI v i = true
      · rw [if_pos q, if_neg (by decide), if_pos q, p1, imin_nI (by omega) (by omega), nI_ix (by omega)]
      · rw [if_neg q, if_pos rfl, if_neg q]
        rfl)
  unfold P_X10_givenBy F_X10_givenBy SX10_givenBy_5
  rw [hN, hM.1]
  exact ⟨⟨key.1, fun _ => trivial, fun q => absurd q n_lt⟩, key.2⟩
def gbB (E : EV) (r : Nat → Int32) (v : Int32) (n i : Nat) : Bool := decide (n ≤ i ∨ gvN E r v (eH E) (n - i) ≤ n)
theorem sp_greatest {E : EV} {μ : Mem} {r : Nat → Int32} {v : Int32} {n : Nat} (hE : EvC E μ) (hO : EvOK E) (hp : RCP (μ 44) r) (hr : RowOK E 500 r) (hn : n ≤ 999) :
    P_X5_greatestBound 43 v (nI n) μ ∧ ∃ b, b ≤ n ∧ F_X5_greatestBound 43 v (nI n) μ = nI b ∧ gvN E r v (eH E) b ≤ n ∧ ∀ c, b < c → c ≤ n → n < gvN E r v (eH E) c := by
  have hd := hO.1.1
  have hst : ∀ i, i ≤ n → fo i (g_X5_greatestBound_3 43 v (nI n) μ) (nI n) = nI (n - i) := by
    intro i
    induction i with
    | zero => intro _; rfl
    | succ i ih =>
      intro hi
      rw [fo_succ, ih (by omega)]
      show nI (n - i) + (-1) = _
      rw [show n - i = (n - (i + 1)) + 1 by omega, pk_m1]
  have gle : ∀ B, gvN E r v (eH E) B ≤ 300000 := fun B => Nat.le_trans (gvN_le (p := 49500) (eH E) fun h hh => (pay_nat hr hh).2) (by have := Nat.mul_le_mul_right 49500 hd; omega)
  have h1 : fst 1000 (gbB E r v n) ≤ n := fst_lt (by omega) (decide_eq_true (Or.inl (Nat.le_refl _)))
  have hhit := of_decide_eq_true (show decide _ = true from fst_hit (n := 1000) (c := gbB E r v n) (by omega))
  have hmin : ∀ j, j < fst 1000 (gbB E r v n) → j < n ∧ n < gvN E r v (eH E) (n - j) := fun j hj => by
    have := of_decide_eq_false (show decide _ = false from fst_min (n := 1000) (c := gbB E r v n) hj)
    omega
  have hN : NX5_greatestBound_3 43 v (nI n) μ = fst 1000 (gbB E r v n) := by
    unfold NX5_greatestBound_3
    refine fst_eq (by omega) ?_ fun j hj => ?_
    · rw [hst _ h1]
      unfold Cb_X5_greatestBound_3
      rcases hhit with q | q
      · rw [show n - fst 1000 (gbB E r v n) = 0 by omega, nI_0, if_pos (Int32.le_refl _)]
        rfl
      · rw [(sp_givenC hE hO hp hr (by omega)).2]
        split
        · rfl
        · rw [if_neg (nI_nlt q (by omega))]
          rfl
    · obtain ⟨m1, m2⟩ := hmin j hj
      rw [hst _ (by omega)]
      unfold Cb_X5_greatestBound_3
      rw [(sp_givenC hE hO hp hr (by omega)).2, if_neg (nI_nle (by omega) (by omega)), if_pos (nI_lt m2 (by have := gle (n - j); omega))]
      rfl
  have hS : SX5_greatestBound_3 43 v (nI n) μ = nI (n - fst 1000 (gbB E r v n)) := by
    unfold SX5_greatestBound_3
    rw [hN, hst _ h1]
  unfold P_X5_greatestBound F_X5_greatestBound
  rw [hN, hS]
  generalize fst 1000 (gbB E r v n) = N at *
  refine ⟨⟨fun j hj => ?_, fun _ => trivial, fun q => ⟨(sp_givenC hE hO hp hr (by omega)).1, fun z => ?_, fun _ => trivial⟩⟩, n - N, by omega, ?_, ?_, fun c hc hcn => ?_⟩
  · obtain ⟨m1, m2⟩ := hmin j hj
    rw [hst j (by omega)]
    unfold Pb_X5_greatestBound_3
    rw [(sp_givenC hE hO hp hr (by omega)).2]
    exact ⟨fun q => nI_nle (by omega) (by omega) q, fun _ => ⟨(sp_givenC hE hO hp hr (by omega)).1, fun _ => trivial, fun q => nI_ge m2 (by have := gle (n - j); omega) q⟩⟩
  · rw [(sp_givenC hE hO hp hr (by omega)).2] at z
    rw [nI_ltI (by omega) (by have := gle (n - N); omega)] at z
    have : 0 < n - N := by
      rcases Nat.eq_zero_or_pos (n - N) with y | y
      · rw [y, nI_0] at q
        exact absurd q (by decide)
      · exact y
    rcases hhit with y | y <;> omega
  · by_cases q : n - N = 0
    · rw [q, nI_0, if_pos (Int32.le_refl _)]
    · rw [if_neg (nI_nle (by omega) (by omega))]
  · rcases hhit with y | y
    · rw [show n - N = 0 by omega, gvN_0]
      omega
    · exact y
  · obtain ⟨m1, m2⟩ := hmin (n - c) (by omega)
    rw [show n - (n - c) = c by omega] at m2
    exact m2
/-- by any bound that is the greatest, each gets the same -/
theorem share_eq {E : EV} {r : Nat → Int32} {v : Int32} {n b m h : Nat} (hl : h < eH E) (hb : bitI v h = true) (hbn : b ≤ n) (b1 : gvN E r v (eH E) b ≤ n) (b2 : ∀ c, b < c → c ≤ n → n < gvN E r v (eH E) c) (m1 : gvN E r v (eH E) m ≤ n) (m2 : n < gvN E r v (eH E) (m + 1) ∨ ix (r (56 + h)) ≤ m) :
    min (ix (r (56 + h))) b = min m (ix (r (56 + h))) := by
  have tm := gvN_term (E := E) (r := r) (B := m) hl hb
  rcases Nat.lt_or_ge n m with q | q
  · by_cases z : ix (r (56 + h)) ≤ b
    · omega
    · have p1 : ix (r (56 + h)) ≤ n := by omega
      have p2 := b2 _ (Nat.lt_of_not_le z) p1
      have p3 := gvN_mono (E := E) (r := r) (v := v) (show ix (r (56 + h)) ≤ m by omega) (eH E)
      omega
  · have hbm : m ≤ b := by
      rcases Nat.lt_or_ge b m with z | z
      · have := b2 m z q
        omega
      · exact z
    rcases m2 with z | z
    · have : b ≤ m := by
        rcases Nat.lt_or_ge m b with y | y
        · have := gvN_mono (E := E) (r := r) (v := v) (show m + 1 ≤ b by omega) (eH E)
          omega
        · exact y
      omega
    · omega
