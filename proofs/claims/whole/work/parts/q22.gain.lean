/-! what the sea leaves: in least terms -/
def hvK (x : Nat) : Nat := fst 5 (fun i => decide (4 ≤ i ∨ x / 2 ^ i % 2 ≠ 0))
def eu (x : Nat) (i : Nat) : Nat × Nat := fo i (fun _ s => (s.2, s.1 % s.2)) (16, x)
theorem eu_s (x i : Nat) : eu x (i + 1) = ((eu x i).2, (eu x i).1 % (eu x i).2) := rfl
theorem hvK_mod (x : Nat) : hvK x = hvK (x % 16) := by
  unfold hvK
  refine fst_congr fun j hj => ?_
  congr 1
  have : j = 0 ∨ j = 1 ∨ j = 2 ∨ j = 3 ∨ j = 4 := by omega
  apply propext
  rcases this with rfl | rfl | rfl | rfl | rfl
  · rw [Nat.pow_zero, Nat.div_one, Nat.div_one]; omega
  · rw [Nat.pow_one]; omega
  · rw [show 2 ^ 2 = 4 from rfl]; omega
  · rw [show 2 ^ 3 = 8 from rfl]; omega
  · omega
theorem eu_small : ∀ y, y ≤ 16 → ∃ N, N ≤ 7 ∧ (eu y N).2 = 0 ∧ (eu y N).1 = 2 ^ hvK y ∧ ∀ j, j < N → (eu y j).2 ≠ 0 ∧ (eu y j).1 ≤ 16 ∧ (eu y j).2 ≤ 16 := by
  have key : ∀ y, y ≤ 16 → (List.range 8).any (fun N => decide ((eu y N).2 = 0 ∧ (eu y N).1 = 2 ^ hvK y ∧ ∀ j, j < N → (eu y j).2 ≠ 0 ∧ (eu y j).1 ≤ 16 ∧ (eu y j).2 ≤ 16)) = true := by decide +kernel
  intro y hy
  obtain ⟨N, hN, h⟩ := List.any_eq_true.mp (key y hy)
  have hN' := List.mem_range.mp hN
  obtain ⟨a, b, c⟩ := of_decide_eq_true h
  exact ⟨N, by omega, a, b, c⟩
theorem eu_all (x : Nat) : ∃ N, N ≤ 9 ∧ (eu x N).2 = 0 ∧ (eu x N).1 = 2 ^ hvK x ∧ ∀ j, j < N → (eu x j).2 ≠ 0 ∧ (eu x j).1 ≤ x + 16 ∧ (eu x j).2 ≤ x + 16 := by
  rcases Nat.lt_or_ge 16 x with hx | hx
  · have h2 : eu x 2 = (16, x % 16) := by
      show ((16 % x), x % (16 % x)) = (16, x % 16)
      rw [Nat.mod_eq_of_lt hx]
    have hs : ∀ j, eu x (2 + j) = eu (x % 16) j := by
      intro j
      induction j with
      | zero => exact h2
      | succ j ih => rw [← Nat.add_assoc, eu_s, eu_s, ih]
    have hm : x % 16 ≤ 16 := by omega
    obtain ⟨N, a, b, c, d⟩ := eu_small (x % 16) hm
    refine ⟨2 + N, by omega, by rw [hs]; exact b, by rw [hs, c, hvK_mod x], fun j hj => ?_⟩
    by_cases q : j < 2
    · have : j = 0 ∨ j = 1 := by omega
      rcases this with rfl | rfl
      · show x ≠ 0 ∧ 16 ≤ x + 16 ∧ x ≤ x + 16
        omega
      · show 16 % x ≠ 0 ∧ x ≤ x + 16 ∧ 16 % x ≤ x + 16
        rw [Nat.mod_eq_of_lt hx]
        omega
    · obtain ⟨k, rfl⟩ : ∃ k, j = 2 + k := ⟨j - 2, by omega⟩
      rw [hs]
      obtain ⟨e1, e2, e3⟩ := d k (by omega)
      omega
  · obtain ⟨N, a, b, c, d⟩ := eu_small x hx
    exact ⟨N, by omega, b, c, fun j hj => by
      obtain ⟨e1, e2, e3⟩ := d j hj
      omega⟩
theorem hvK_facts (x : Nat) : hvK x ≤ 4 ∧ (4 ≤ hvK x ∨ x / 2 ^ hvK x % 2 ≠ 0) ∧ ∀ j, j < hvK x → j < 4 ∧ x / 2 ^ j % 2 = 0 := by
  have h1 : hvK x ≤ 4 := fst_lt (by omega) (decide_eq_true (Or.inl (Nat.le_refl _)))
  refine ⟨h1, of_decide_eq_true (show decide _ = true from fst_hit (n := 5) (c := fun i => decide (4 ≤ i ∨ x / 2 ^ i % 2 ≠ 0)) (by unfold hvK at h1; omega)), fun j hj => ?_⟩
  have := of_decide_eq_false (show decide _ = false from fst_min (n := 5) (c := fun i => decide (4 ≤ i ∨ x / 2 ^ i % 2 ≠ 0)) hj)
  omega
def fwN (E : EV) (n : Nat) : Int32 := smI n (fun f => eY E f 0 * eY E f 1)
theorem fw_nat {E : EV} (hO : EvOK E) : ∃ w, w ≤ 3840 ∧ fwN E (eF E) = nI w := by
  have hd := hO.1.2.2.2
  have key : ∀ n, n ≤ eF E → ∃ w, w ≤ 640 * n ∧ fwN E n = nI w := by
    intro n
    induction n with
    | zero => intro _; exact ⟨0, by omega, rfl⟩
    | succ n ih =>
      intro hn
      obtain ⟨w, hw, e⟩ := ih (by omega)
      obtain ⟨⟨a1, a2⟩, b1, b2⟩ := hO.2.2.2.2.1 n (by omega)
      obtain ⟨v, hv, ev⟩ := nI_of2 (M := 40) (n := 40) (by decide) (show ¬ eY E n 0 < 0 by grind) a2
      obtain ⟨q, hq, eq⟩ := nI_of2 (M := 16) (n := 16) (by decide) (Int32.not_lt.mpr b1) b2
      refine ⟨w + v * q, ?_, ?_⟩
      · have : v * q ≤ 40 * 16 := Nat.mul_le_mul hv hq
        omega
      · unfold fwN at e ⊢
        rw [smI_s, e, ev, eq, pk_mul, nI_add]
  obtain ⟨w, hw, e⟩ := key (eF E) (Nat.le_refl _)
  exact ⟨w, by omega, e⟩
theorem tm_nat (E : EV) (r : Nat → Int32) (a h n : Nat) : ∃ t, t ≤ n ∧ smI n (fun i => inW E r a i h) = nI t := by
  induction n with
  | zero => exact ⟨0, by omega, rfl⟩
  | succ n ih =>
    obtain ⟨t, ht, e⟩ := ih
    rw [smI_s, e]
    unfold inW
    by_cases q : wat E r (hgt E (a + n)) h ≤ 0
    · rw [if_pos q, Int32.add_zero]
      exact ⟨t, by omega, rfl⟩
    · rw [if_neg q, nI_1]
      exact ⟨t + 1, by omega, rfl⟩
theorem sm_one {f : Nat → Int32} {h n : Nat} (hh : h < n) : smI n (fun k => if k = h then f k else 0) = f h := by
  induction n with
  | zero => omega
  | succ n ih =>
    rw [smI_s]
    by_cases q : n = h
    · subst q
      rw [if_pos rfl]
      have : smI n (fun k => if k = n then f k else 0) = 0 := by
        rw [show smI n (fun k => if k = n then f k else 0) = smI n (fun _ => 0) from smI_congr fun i hi => by rw [if_neg (by omega)], smI_zero]
      rw [this, Int32.zero_add]
    · rw [if_neg q, ih (by omega), Int32.add_zero]
theorem sp_meanFound {E : EV} {μ : Mem} {r : Nat → Int32} {a h n x : Nat} {w : Int32} (hE : EvC E μ) (hO : EvOK E) (hc : RC0 E (μ 44) r) (ht : r 62 = nI a) (ha : a < 10000) (hl : h < eH E) (hn : n < 100)
    (hx : fwN E (eF E) * smI n (fun i => inW E r a i h) = nI x) (hxb : x < 1000000) :
    P_X0_meanFound (nI h) (nI n) w μ ∧ F_X0_meanFound (nI h) (nI n) w μ = if w ≠ 0 then nI (16 / 2 ^ hvK x) else nI (x / 2 ^ hvK x) := by
  have hd := hO.1.2.2.2
  have hd0 := hO.1.1
  obtain ⟨t1, t2⟩ := sp_timesInto (v := (1 : Int32) <<< ((nI h) &&& 31)) (n := n) hE hO hc ht ha hn
  have e2 : F_X0_timesInto ((1 : Int32) <<< ((nI h) &&& 31)) (nI n) μ = smI n (fun i => inW E r a i h) := by
    rw [t2, ← sm_one (f := fun k => smI n (fun i => inW E r a i k)) hl]
    refine smI_congr fun k hk => ?_
    by_cases q : k = h
    · rw [if_pos q]
      refine smI_congr fun i _ => ?_
      rw [bit_one h k (by omega) (by omega), if_pos (decide_eq_true q)]
    · rw [if_neg q]
      rw [show smI n (fun i => if bitI ((1 : Int32) <<< ((nI h) &&& 31)) k = true then inW E r a i k else 0) = smI n (fun _ => 0) from smI_congr fun i _ => by rw [bit_one h k (by omega) (by omega), if_neg (fun z => q (of_decide_eq_true z))], smI_zero]
  have hN6 : NX0_meanFound_6 (nI h) (nI n) w μ = eF E := by
    unfold NX0_meanFound_6
    rw [hE.2.2.2.1, nI_ix (by omega)]
  have hS6 : SX0_meanFound_6 (nI h) (nI n) w μ = fwN E (eF E) := by
    unfold SX0_meanFound_6
    rw [hN6]
    refine fo_congr _ _ _ _ fun i hi s => ?_
    unfold g_X0_meanFound_6
    rw [at_k (by omega) (by omega), at_k (by omega) (by omega), (hE.2.2.2.2.2.2.2.2.2 i hi).1, (hE.2.2.2.2.2.2.2.2.2 i hi).2]
  obtain ⟨k1, k2, k3⟩ := hvK_facts x
  have hst : ∀ i, i ≤ 4 → fo i (g_X0_meanFound_74 (nI h) (nI n) w μ) (nI x, 16) = (nI (x / 2 ^ i), nI (16 / 2 ^ i)) := by
    intro i
    induction i with
    | zero => intro _; rw [fo_zero, Nat.pow_zero, Nat.div_one, Nat.div_one]; rfl
    | succ i ih =>
      intro hi
      rw [fo_succ, ih (by omega)]
      have hx2 : x / 2 ^ i < 2 ^ 31 := Nat.lt_of_le_of_lt (Nat.div_le_self _ _) (by omega)
      have h16 : 16 / 2 ^ i < 2 ^ 31 := Nat.lt_of_le_of_lt (Nat.div_le_self _ _) (by omega)
      have d1 : nI (x / 2 ^ i) / 2 = nI (x / 2 ^ i / 2) := pk_div (d := 2) hx2 (by omega) (by omega)
      have d2 : nI (16 / 2 ^ i) / 2 = nI (16 / 2 ^ i / 2) := pk_div (d := 2) h16 (by omega) (by omega)
      show (nI (x / 2 ^ i) / 2, nI (16 / 2 ^ i) / 2) = _
      rw [d1, d2, Nat.div_div_eq_div_mul, Nat.div_div_eq_div_mul, ← Nat.pow_succ]
  have hrem : ∀ i, i ≤ 4 → nI (x / 2 ^ i) - nI (x / 2 ^ i) / 2 * 2 = nI (x / 2 ^ i % 2) := fun i hi => pk_rem (d := 2) (Nat.lt_of_le_of_lt (Nat.div_le_self _ _) (by omega)) (by omega) (by omega)
  have e4 : ∀ i, i < 100 → ((4 : Int32) ≤ nI i ↔ 4 ≤ i) := fun i hi => nI_leI (a := 4) (by omega) (by omega)
  have hini : (SX0_meanFound_6 (nI h) (nI n) w μ * F_X0_timesInto ((1 : Int32) <<< ((nI h) &&& 31)) (nI n) μ, (16 : Int32)) = (nI x, 16) := by rw [hS6, e2, hx]
  have hN : NX0_meanFound_74 (nI h) (nI n) w μ = hvK x := by
    unfold NX0_meanFound_74
    rw [hini]
    refine fst_eq (by omega) ?_ fun j hj => ?_
    · rw [hst _ k1]
      unfold Cb_X0_meanFound_74
      dsimp only
      rw [hrem _ k1]
      rcases k2 with q | q
      · rw [if_pos ((e4 _ (by omega)).mpr q)]
        rfl
      · split
        · rfl
        · rw [if_pos]
          · rfl
          · exact nI_ne0 (Nat.pos_of_ne_zero q) (by omega)
    · obtain ⟨m1, m2⟩ := k3 j hj
      rw [hst _ (by omega)]
      unfold Cb_X0_meanFound_74
      dsimp only
      rw [hrem _ (by omega), m2, if_neg (fun q => by have := (e4 j (by omega)).mp q; omega), if_neg (by decide)]
      rfl
  have hS : SX0_meanFound_74 (nI h) (nI n) w μ = (nI (x / 2 ^ hvK x), nI (16 / 2 ^ hvK x)) := by
    unfold SX0_meanFound_74
    rw [hN, hini, hst _ k1]
  unfold P_X0_meanFound F_X0_meanFound
  rw [hN6, hN, hS, hini, hE.2.2.2.1]
  refine ⟨⟨fun j hj => ?_, fun _ => ⟨t1, fun j hj => ?_, ?_⟩, fun q => absurd q n_lt⟩, rfl⟩
  · unfold Pb_X0_meanFound_6
    rw [hE.2.2.2.1]
    exact ⟨fun q => nI_ge hj (by omega) q, fun _ => trivial⟩
  · obtain ⟨m1, m2⟩ := k3 j hj
    rw [hst _ (by omega)]
    unfold Pb_X0_meanFound_74
    dsimp only
    rw [hrem _ (by omega), m2]
    exact ⟨fun q => by have := (e4 j (by omega)).mp q; omega, fun _ => ⟨fun q => absurd rfl q, fun _ => trivial⟩⟩
  · refine ⟨fun _ => trivial, fun q => ?_⟩
    have q4 : hvK x < 4 := by
      have := (nI_ltI (a := hvK x) (b := 4) (by omega) (by omega)).mp q
      exact this
    dsimp only
    rw [hrem _ k1]
    refine ⟨fun _ => trivial, fun z => ?_⟩
    rcases k2 with y | y
    · omega
    · exact absurd z (nI_ne0 (Nat.pos_of_ne_zero y) (by omega))
