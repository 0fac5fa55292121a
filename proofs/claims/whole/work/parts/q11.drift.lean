/-! where a thing drifts -/
def dpos (E : EV) (r : Nat → Int32) (a : Nat) (f : Int32) (h : Nat) (n : Nat) : Nat := fo n (fun k p => if p < eH E ∧ f ≤ wat E r (hgt E (a + k)) p then p + 1 else p) h
theorem dpos_s (E : EV) (r : Nat → Int32) (a : Nat) (f : Int32) (h n : Nat) : dpos E r a f h (n + 1) = if dpos E r a f h n < eH E ∧ f ≤ wat E r (hgt E (a + n)) (dpos E r a f h n) then dpos E r a f h n + 1 else dpos E r a f h n := rfl
theorem dpos_le {E : EV} {r : Nat → Int32} {a h : Nat} {f : Int32} (hl : h ≤ eH E) (n : Nat) : dpos E r a f h n ≤ eH E := by
  induction n with
  | zero => exact hl
  | succ n ih =>
    rw [dpos_s]
    split
    · rename_i q
      exact q.1
    · exact ih
def dst (E : EV) (r : Nat → Int32) (a : Nat) (f : Int32) (h n j : Nat) : Bool := decide (n ≤ j ∨ eH E ≤ dpos E r a f h j)
def dN (E : EV) (r : Nat → Int32) (a : Nat) (f : Int32) (h n : Nat) : Nat := fst 25 (dst E r a f h n)
def dV (E : EV) (r : Nat → Int32) (a : Nat) (f : Int32) (h n : Nat) : Int32 := if eH E ≤ dpos E r a f h (dN E r a f h n) then -1 else nI (dpos E r a f h (dN E r a f h n))
theorem dN_facts {E : EV} {r : Nat → Int32} {a h n : Nat} {f : Int32} (hn : n ≤ 24) : dN E r a f h n ≤ n ∧ (n ≤ dN E r a f h n ∨ eH E ≤ dpos E r a f h (dN E r a f h n)) ∧ ∀ j, j < dN E r a f h n → j < n ∧ dpos E r a f h j < eH E := by
  have h1 : dN E r a f h n ≤ n := fst_lt (by omega) (decide_eq_true (Or.inl (Nat.le_refl n)))
  refine ⟨h1, of_decide_eq_true (fst_hit (n := 25) (c := dst E r a f h n) (by unfold dN at h1; omega)), fun j hj => ?_⟩
  have := of_decide_eq_false (show decide (n ≤ j ∨ eH E ≤ dpos E r a f h j) = false from fst_min (n := 25) (c := dst E r a f h n) hj)
  omega
theorem sp_driftFrom {E : EV} {μ : Mem} {r : Nat → Int32} {a h n : Nat} {f : Int32} (hE : EvC E μ) (hO : EvOK E) (hc : RC0 E (μ 44) r) (ht : r 62 = nI a) (hl : h < eH E) (ha : a < 10000) (hn : n ≤ 24) :
    P_X0_driftFrom (nI h) f (nI n) μ ∧ F_X0_driftFrom (nI h) f (nI n) μ = dV E r a f h n := by
  have hd := hO.1.1
  obtain ⟨n1, n2, n3⟩ := dN_facts (E := E) (r := r) (a := a) (h := h) (f := f) hn
  have hst : ∀ j, j ≤ dN E r a f h n → fo j (g_X0_driftFrom_6 (nI h) f (nI n) μ) (nI h) = nI (dpos E r a f h j) := by
    intro j
    induction j with
    | zero => intro _; rfl
    | succ j ih =>
      intro hj
      obtain ⟨m1, m2⟩ := n3 j (by omega)
      rw [fo_succ, ih (by omega), dpos_s]
      unfold g_X0_driftFrom_6 VX0_driftFrom_6_1
      rw [(sp_waterAhead hE hO hc ht m2 (by omega)).2.1]
      by_cases q : wat E r (hgt E (a + j)) (dpos E r a f h j) < f
      · rw [if_pos q, if_neg (fun z => Int32.not_lt.mpr z.2 q), Int32.add_zero]
      · rw [if_neg q, if_pos ⟨m2, Int32.not_lt.mp q⟩, nI_1]
  have hp := dpos_le (E := E) (r := r) (a := a) (f := f) (Nat.le_of_lt hl)
  have hN : NX0_driftFrom_6 (nI h) f (nI n) μ = dN E r a f h n := by
    unfold NX0_driftFrom_6
    refine fst_eq (by omega) ?_ fun j hj => ?_
    · rw [hst _ (Nat.le_refl _)]
      unfold Cb_X0_driftFrom_6
      rw [hE.1]
      rcases n2 with q | q
      · rw [if_pos (nI_le q (by omega))]
        rfl
      · split
        · rfl
        · rw [if_pos (nI_le q (by have := hp (dN E r a f h n); omega))]
          rfl
    · obtain ⟨m1, m2⟩ := n3 j hj
      rw [hst j (by omega)]
      unfold Cb_X0_driftFrom_6
      rw [hE.1, if_neg (nI_ge m1 (by omega)), if_neg (nI_ge m2 (by omega))]
      rfl
  have hS : SX0_driftFrom_6 (nI h) f (nI n) μ = nI (dpos E r a f h (dN E r a f h n)) := by
    unfold SX0_driftFrom_6
    rw [hN, hst _ (Nat.le_refl _)]
  have hpN := hp (dN E r a f h n)
  unfold P_X0_driftFrom F_X0_driftFrom dV
  rw [hN, hS, hE.1]
  refine ⟨⟨fun j hj => ?_, fun _ => trivial, fun q => ⟨fun _ => trivial, fun q2 => ?_⟩⟩, ?_⟩
  · obtain ⟨m1, m2⟩ := n3 j hj
    rw [hst j (by omega)]
    unfold Pb_X0_driftFrom_6
    rw [hE.1]
    exact ⟨fun q => nI_ge m1 (by omega) q, fun _ => ⟨fun q => nI_ge m2 (by omega) q, fun _ => (sp_waterAhead hE hO hc ht m2 (by omega)).1⟩⟩
  · rw [nI_ltI (by omega) (by omega)] at q q2
    omega
  · by_cases q : eH E ≤ dpos E r a f h (dN E r a f h n)
    · rw [if_pos (nI_le q (by omega)), if_pos q]
    · rw [if_neg (nI_ge (by omega) (by omega)), if_neg q]
theorem sp_driftOf {E : EV} {ν : Mem} {r : Nat → Int32} {a h n : Nat} {f : Int32} (hM : EvM E ν) (hO : EvOK E) (hr : ν 521 = r) (ht : r 62 = nI a) (hl : h < eH E) (ha : a < 10000) (hn : n ≤ 24) :
    P_X10_driftOf (nI h) f (nI n) ν ∧ F_X10_driftOf (nI h) f (nI n) ν = dV E r a f h n := by
  have hd := hO.1.1
  obtain ⟨n1, n2, n3⟩ := dN_facts (E := E) (r := r) (a := a) (h := h) (f := f) hn
  have hh : ∀ j, j < 100 → P_X10_heightIn (ν 521 62 + nI j) ν ∧ F_X10_heightIn (ν 521 62 + nI j) ν = hgt E (a + j) := fun j hj => by
    rw [hr, ht, nI_add]
    exact sp_heightIn hM hO (by omega)
  have hw : ∀ j p, p < eH E → P_X10_waterBy 521 (nI p) (hgt E (a + j)) ν ∧ F_X10_waterBy 521 (nI p) (hgt E (a + j)) ν = wat E r (hgt E (a + j)) p := fun j p hp => by
    have := sp_waterBy (row := 521) (hh := hgt E (a + j)) hM hO hp
    rw [hr] at this
    exact this
  have hne : ∀ p, p < 100 → nI p ≠ -1 := fun p hp q => by
    have := nI_pos (n := p) (by omega)
    rw [q] at this
    exact this (by decide)
  have hst : ∀ j, j ≤ dN E r a f h n → fo j (g_X10_driftOf_6 (nI h) f (nI n) ν) (nI h) = if eH E ≤ dpos E r a f h j then -1 else nI (dpos E r a f h j) := by
    intro j
    induction j with
    | zero => intro _; rw [if_neg (show ¬ eH E ≤ dpos E r a f h 0 by show ¬ eH E ≤ h; omega)]; rfl
    | succ j ih =>
      intro hj
      obtain ⟨m1, m2⟩ := n3 j (by omega)
      rw [fo_succ, ih (by omega), if_neg (by omega)]
      unfold g_X10_driftOf_6 VX10_driftOf_6_1
      rw [(hh j (by omega)).2, (hw j _ m2).2]
      by_cases q : wat E r (hgt E (a + j)) (dpos E r a f h j) < f
      · have e : dpos E r a f h (j + 1) = dpos E r a f h j := by rw [dpos_s, if_neg (fun z => Int32.not_lt.mpr z.2 q)]
        rw [if_pos q, e, if_neg (by omega)]
      · have e : dpos E r a f h (j + 1) = dpos E r a f h j + 1 := by rw [dpos_s, if_pos ⟨m2, Int32.not_lt.mp q⟩]
        rw [if_neg q, e]
        unfold F_X10_nextHouse
        rw [hM.1, nI_1]
        by_cases z : eH E ≤ dpos E r a f h j + 1
        · rw [if_pos (nI_le z (by omega)), if_pos z]
        · rw [if_neg (nI_ge (by omega) (by omega)), if_neg z]
  have hp := dpos_le (E := E) (r := r) (a := a) (f := f) (Nat.le_of_lt hl)
  have hN : NX10_driftOf_6 (nI h) f (nI n) ν = dN E r a f h n := by
    unfold NX10_driftOf_6
    refine fst_eq (by omega) ?_ fun j hj => ?_
    · rw [hst _ (Nat.le_refl _)]
      unfold Cb_X10_driftOf_6
      rcases n2 with q | q
      · rw [if_pos (nI_le q (by omega))]
        rfl
      · rw [if_pos q]
        split
        · rfl
        · rw [if_pos rfl]
          rfl
    · obtain ⟨m1, m2⟩ := n3 j hj
      rw [hst j (by omega), if_neg (by omega)]
      unfold Cb_X10_driftOf_6
      rw [if_neg (nI_ge m1 (by omega)), if_neg (hne _ (by omega))]
      rfl
  have hS : SX10_driftOf_6 (nI h) f (nI n) ν = if eH E ≤ dpos E r a f h (dN E r a f h n) then -1 else nI (dpos E r a f h (dN E r a f h n)) := by
    unfold SX10_driftOf_6
    rw [hN, hst _ (Nat.le_refl _)]
  have hpN := hp (dN E r a f h n)
  unfold P_X10_driftOf F_X10_driftOf dV
  rw [hN, hS]
  refine ⟨⟨fun j hj => ?_, fun _ => trivial, fun q => ⟨fun _ => trivial, fun q2 => ?_⟩⟩, rfl⟩
  · obtain ⟨m1, m2⟩ := n3 j hj
    rw [hst j (by omega), if_neg (by omega)]
    unfold Pb_X10_driftOf_6
    rw [(hh j (by omega)).2]
    exact ⟨fun q => nI_ge m1 (by omega) q, fun _ => ⟨fun q => hne _ (by omega) q, fun _ => ⟨(hh j (by omega)).1, (hw j _ m2).1⟩⟩⟩
  · rw [nI_ltI (by omega) (by omega)] at q
    rcases n2 with z | z
    · omega
    · rw [if_pos z] at q2
      exact absurd rfl q2
/-- pairs of a house and a draught -/
def whI (E : EV) (r : Nat → Int32) (a n : Nat) (v f : Int32) (s : Int32 × Int32 × Int32) : Int32 × Int32 × Int32 := fo (eH E) (fun j t => if dV E r a f j n = v then (t.1 + 1, t.2.1 ||| ((1 : Int32) <<< ((nI j) &&& 31)), f) else t) s
def whO (E : EV) (r : Nat → Int32) (a n : Nat) (v : Int32) (k : Nat) : Int32 × Int32 × Int32 × Int32 := fo k (fun _ s => ((whI E r a n v s.2.2.2 (s.1, s.2.1, s.2.2.1)).1, (whI E r a n v s.2.2.2 (s.1, s.2.1, s.2.2.1)).2.1, (whI E r a n v s.2.2.2 (s.1, s.2.1, s.2.2.1)).2.2, s.2.2.2 + (-1))) (0, 0, -1, 20)
def whV (E : EV) (r : Nat → Int32) (a n : Nat) (v w : Int32) : Int32 := if w ≠ 0 then (if w ≠ 1 then (whO E r a n v 20).2.2.1 else (whO E r a n v 20).2.1) else (whO E r a n v 20).1
theorem whO_4 (E : EV) (r : Nat → Int32) (a n : Nat) (v : Int32) (k : Nat) (hk : k ≤ 20) : (whO E r a n v k).2.2.2 = nI (20 - k) := by
  induction k with
  | zero => rfl
  | succ k ih =>
    show (whO E r a n v k).2.2.2 + (-1) = _
    rw [ih (by omega), show 20 - k = (20 - (k + 1)) + 1 by omega, pk_m1]
theorem sp_driftsTo {E : EV} {μ : Mem} {r : Nat → Int32} {a n : Nat} {v w : Int32} (hE : EvC E μ) (hO : EvOK E) (hc : RC0 E (μ 44) r) (ht : r 62 = nI a) (ha : a < 10000) (hn : n ≤ 24) :
    P_X0_driftsTo v (nI n) w μ ∧ F_X0_driftsTo v (nI n) w μ = whV E r a n v w := by
  have hd := hO.1.1
  have hin : ∀ (f : Int32) (s : Int32 × Int32 × Int32), (∀ j, j < eH E → Pb_X0_driftsTo_22 v (nI n) w f μ j (fo j (g_X0_driftsTo_22 v (nI n) w f μ) s)) ∧ fo (eH E) (g_X0_driftsTo_22 v (nI n) w f μ) s = whI E r a n v f s := by
    intro f s
    refine ⟨fun j hj => ?_, fo_congr _ _ _ _ fun i hi t => ?_⟩
    · unfold Pb_X0_driftsTo_22
      rw [hE.1]
      exact ⟨fun q => nI_ge hj (by omega) q, fun _ => (sp_driftFrom hE hO hc ht hj ha hn).1⟩
    · unfold g_X0_driftsTo_22 VX0_driftsTo_22_1 VX0_driftsTo_22_2 VX0_driftsTo_22_3
      rw [(sp_driftFrom hE hO hc ht hi ha hn).2]
      by_cases q : dV E r a f i n = v
      · rw [if_neg (not_not_intro q), if_neg (not_not_intro q), if_neg (not_not_intro q), if_pos q]
      · rw [if_pos q, if_pos q, if_pos q, if_neg q]
  have hNi : ∀ i s, NX0_driftsTo_13_22 v (nI n) w μ i s = eH E := fun i s => by
    unfold NX0_driftsTo_13_22
    rw [hE.1, nI_ix (by omega)]
  have key := fo_all (fun i (s : Int32 × Int32 × Int32 × Int32) => i ≤ 20 ∧ s = whO E r a n v i) (Pb_X0_driftsTo_13 v (nI n) w μ) 20 (g_X0_driftsTo_13 v (nI n) w μ) (0, 0, -1, 20) ⟨by omega, rfl⟩ ?_
  · obtain ⟨k1, -, k2⟩ := key
    have hS : SX0_driftsTo_13 v (nI n) w μ = fo 20 (g_X0_driftsTo_13 v (nI n) w μ) (0, 0, -1, 20) := rfl
    have hN : NX0_driftsTo_13 v (nI n) w μ = 20 := rfl
    unfold P_X0_driftsTo F_X0_driftsTo whV
    rw [hS, hN, k2, whO_4 E r a n v 20 (by omega)]
    exact ⟨⟨k1, fun _ => trivial, fun q => absurd q (by decide)⟩, rfl⟩
  · intro i hi s ⟨_, hs⟩
    subst hs
    have h4 := whO_4 E r a n v i (by omega)
    obtain ⟨i1, i2⟩ := hin (whO E r a n v i).2.2.2 ((whO E r a n v i).1, (whO E r a n v i).2.1, (whO E r a n v i).2.2.1)
    refine ⟨⟨fun q => ?_, fun _ => ⟨?_, fun _ => trivial, fun q => ?_⟩⟩, by omega, ?_⟩
    · rw [h4] at q
      exact nI_nlt (a := 20 - i) (b := 1) (by omega) (by omega) q
    · rw [hNi]
      exact i1
    · rw [hNi, hE.1] at q
      exact absurd q n_lt
    · unfold g_X0_driftsTo_13 SX0_driftsTo_13_22
      rw [hNi, i2]
      rfl
