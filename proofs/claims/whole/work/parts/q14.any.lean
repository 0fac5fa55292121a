/-! is a TIDE in any of them -/
def anB (E : EV) (r : Nat → Int32) (a i : Nat) (v : Int32) (h : Nat) : Bool := decide (eH E ≤ h ∨ (bitI v h = true ∧ 0 < wat E r (hgt E (a + i)) h))
def anN (E : EV) (r : Nat → Int32) (a i : Nat) (v : Int32) : Nat := fst 7 (anB E r a i v)
def anyI (E : EV) (r : Nat → Int32) (a i : Nat) (v : Int32) : Int32 := if eH E ≤ anN E r a i v then 0 else 1
theorem anN_le {E : EV} {r : Nat → Int32} {a i : Nat} {v : Int32} (hO : EvOK E) : anN E r a i v ≤ eH E := fst_lt (by have := hO.1.1; omega) (decide_eq_true (Or.inl (Nat.le_refl _)))
theorem anN_min {E : EV} {r : Nat → Int32} {a i j : Nat} {v : Int32} (h : j < anN E r a i v) : j < eH E ∧ ¬ (bitI v j = true ∧ 0 < wat E r (hgt E (a + i)) j) := by
  have := of_decide_eq_false (show decide _ = false from fst_min h)
  exact ⟨Nat.lt_of_not_le fun q => this (Or.inl q), fun q => this (Or.inr q)⟩
theorem anN_hit {E : EV} {r : Nat → Int32} {a i : Nat} {v : Int32} (hO : EvOK E) : eH E ≤ anN E r a i v ∨ (bitI v (anN E r a i v) = true ∧ 0 < wat E r (hgt E (a + i)) (anN E r a i v)) :=
  of_decide_eq_true (show decide _ = true from fst_hit (n := 7) (c := anB E r a i v) (by have := hO.1.1; have := anN_le (r := r) (a := a) (i := i) (v := v) hO; unfold anN at this; omega))
theorem sp_intoAny {E : EV} {μ : Mem} {r : Nat → Int32} {a i : Nat} {v : Int32} (hE : EvC E μ) (hO : EvOK E) (hc : RC0 E (μ 44) r) (ht : r 62 = nI a) (ha : a < 10000) (hi : i < 100) :
    P_X0_comesIntoAny v (nI i) μ ∧ F_X0_comesIntoAny v (nI i) μ = anyI E r a i v := by
  have hd := hO.1.1
  have hw : ∀ h, h < eH E → P_X0_waterAhead (nI h) (nI i) μ ∧ F_X0_waterAhead (nI h) (nI i) μ = wat E r (hgt E (a + i)) h := fun h hl =>
    ⟨(sp_waterAhead hE hO hc ht hl (by omega)).1, (sp_waterAhead hE hO hc ht hl (by omega)).2.1⟩
  have hN : NX0_comesIntoAny_2 v (nI i) μ = anN E r a i v := by
    unfold NX0_comesIntoAny_2 anN
    refine fst_congr fun j hj => ?_
    unfold Cb_X0_comesIntoAny_2 anB
    rw [hE.1]
    by_cases k1 : eH E ≤ j
    · rw [if_pos (nI_le k1 (by omega)), decide_eq_true (Or.inl k1)]
      rfl
    · rw [if_neg (nI_ge (by omega) (by omega)), (hw j (by omega)).2]
      by_cases k2 : ((v >>> ((nI j) &&& 31)) &&& 1) = 1
      · rw [if_neg (not_not_intro k2)]
        by_cases k3 : wat E r (hgt E (a + i)) j ≤ 0
        · rw [if_pos k3, decide_eq_false (fun q => q.elim k1 fun z => Int32.not_lt.mpr k3 z.2)]
          rfl
        · rw [if_neg k3, decide_eq_true (Or.inr ⟨decide_eq_true k2, Int32.not_le.mp k3⟩)]
          rfl
      · rw [if_pos k2, decide_eq_false (fun q => q.elim k1 fun z => k2 (of_decide_eq_true z.1))]
        rfl
  have hle := anN_le (r := r) (a := a) (i := i) (v := v) hO
  have hhit := anN_hit (r := r) (a := a) (i := i) (v := v) hO
  unfold P_X0_comesIntoAny F_X0_comesIntoAny anyI
  rw [hN, hE.1]
  refine ⟨⟨fun j hj => ?_, fun _ => trivial, fun q => ⟨fun z => ?_, fun z => ?_⟩⟩, ?_⟩
  · obtain ⟨m1, m2⟩ := anN_min hj
    unfold Pb_X0_comesIntoAny_2
    rw [hE.1]
    refine ⟨fun q => nI_ge m1 (by omega) q, fun _ => ⟨fun _ => trivial, fun z => ⟨(hw j m1).1, fun _ => trivial, fun y => ?_⟩⟩⟩
    rw [(hw j m1).2] at y
    exact m2 ⟨decide_eq_true z, y⟩
  · rw [nI_ltI (by omega) (by omega)] at q
    rcases hhit with y | y
    · omega
    · exact z (of_decide_eq_true y.1)
  · rw [nI_ltI (by omega) (by omega)] at q
    refine ⟨(hw _ q).1, fun y => ?_, fun _ => trivial⟩
    rw [(hw _ q).2] at y
    rcases hhit with x | x
    · omega
    · exact Int32.not_lt.mpr y x.2
  · by_cases q : eH E ≤ anN E r a i v
    · rw [if_pos (nI_le q (by omega)), if_pos q]
    · rw [if_neg (nI_ge (by omega) (by omega)), if_neg q]
theorem sp_inAny {E : EV} {ν : Mem} {r : Nat → Int32} {a i : Nat} (hM : EvM E ν) (hO : EvOK E) (hr : ν 521 = r) (ht : r 62 = nI a) (ha : a < 10000) (hi : i < 100) :
    P_X10_isInAny (nI i) ν ∧ F_X10_isInAny (nI i) ν = anyI E r a i (-1) := by
  have hd := hO.1.1
  have hh : P_X10_heightIn (ν 521 62 + nI i) ν ∧ F_X10_heightIn (ν 521 62 + nI i) ν = hgt E (a + i) := by
    rw [hr, ht, nI_add]
    exact sp_heightIn hM hO (by omega)
  have hw : ∀ h, h < eH E → P_X10_waterBy 521 (nI h) (hgt E (a + i)) ν ∧ F_X10_waterBy 521 (nI h) (hgt E (a + i)) ν = wat E r (hgt E (a + i)) h := fun h hp => by
    have := sp_waterBy (row := 521) (hh := hgt E (a + i)) hM hO hp
    rw [hr] at this
    exact this
  have hN : NX10_isInAny_2 (nI i) ν = anN E r a i (-1) := by
    unfold NX10_isInAny_2 anN
    refine fst_congr fun j hj => ?_
    unfold Cb_X10_isInAny_2 anB
    rw [hM.1, hh.2]
    by_cases k1 : eH E ≤ j
    · rw [if_pos (nI_le k1 (by omega)), decide_eq_true (Or.inl k1)]
      rfl
    · rw [if_neg (nI_ge (by omega) (by omega)), (hw j (by omega)).2]
      by_cases k3 : wat E r (hgt E (a + i)) j ≤ 0
      · rw [if_pos k3, decide_eq_false (fun q => q.elim k1 fun z => Int32.not_lt.mpr k3 z.2)]
        rfl
      · rw [if_neg k3, decide_eq_true (Or.inr ⟨bit_all j (by omega), Int32.not_le.mp k3⟩)]
        rfl
  have hle := anN_le (r := r) (a := a) (i := i) (v := -1) hO
  have hhit := anN_hit (r := r) (a := a) (i := i) (v := -1) hO
  unfold P_X10_isInAny F_X10_isInAny anyI
  rw [hN, hM.1, hh.2]
  refine ⟨⟨fun j hj => ?_, fun _ => trivial, fun q => ⟨hh.1, ?_⟩⟩, ?_⟩
  · obtain ⟨m1, m2⟩ := anN_min hj
    unfold Pb_X10_isInAny_2
    rw [hM.1, hh.2, (hw j m1).2]
    exact ⟨fun q => nI_ge m1 (by omega) q, fun _ => ⟨hh.1, (hw j m1).1, fun _ => trivial, fun y => m2 ⟨bit_all j (by omega), y⟩⟩⟩
  · rw [nI_ltI (by omega) (by omega)] at q
    refine ⟨(hw _ q).1, fun y => ?_, fun _ => trivial⟩
    rw [(hw _ q).2] at y
    rcases hhit with x | x
    · omega
    · exact Int32.not_lt.mpr y x.2
  · by_cases q : eH E ≤ anN E r a i (-1)
    · rw [if_pos (nI_le q (by omega)), if_pos q]
    · rw [if_neg (nI_ge (by omega) (by omega)), if_neg q]
/-- the longest dry row: how long, where it begins, how long the one is that goes on -/
def nrO (E : EV) (r : Nat → Int32) (a k : Nat) : Int32 × Int32 × Int32 := fo k (fun i s => let w := if anyI E r a i (-1) = 0 then s.2.2 + 1 else 0; (if w ≤ s.1 then s.1 else w, if w ≤ s.1 then s.2.1 else nI i + 1 - w, w)) (0, -1, 0)
theorem anyI_bool {E : EV} {r : Nat → Int32} {a i : Nat} {v : Int32} : anyI E r a i v = 0 ∨ anyI E r a i v = 1 := by
  unfold anyI
  split
  · exact Or.inl rfl
  · exact Or.inr rfl
theorem sp_longest {E : EV} {μ : Mem} {r : Nat → Int32} {a : Nat} {w : Int32} (hE : EvC E μ) (hO : EvOK E) (hc : RC0 E (μ 44) r) (ht : r 62 = nI a) (ha : a < 10000) :
    P_X0_longestDry w μ ∧ F_X0_longestDry w μ = if w ≠ 0 then (nrO E r a 60).2.1 else (nrO E r a 60).1 := by
  have hS : SX0_longestDry_10 w μ = nrO E r a 60 := by
    show fo 60 (g_X0_longestDry_10 w μ) (0, -1, 0) = nrO E r a 60
    refine fo_congr _ _ _ _ fun i hi s => ?_
    unfold g_X0_longestDry_10 VX0_longestDry_10_2 VX0_longestDry_10_3 VX0_longestDry_10_1
    rw [(sp_intoAny hE hO hc ht ha (by omega)).2]
  have hN : NX0_longestDry_10 w μ = 60 := rfl
  unfold P_X0_longestDry F_X0_longestDry
  rw [hS, hN]
  refine ⟨⟨fun j hj => ?_, fun _ => trivial, fun q => absurd q (by decide)⟩, rfl⟩
  unfold Pb_X0_longestDry_10
  exact ⟨fun q => nI_ge (b := 60) hj (by omega) q, fun _ => (sp_intoAny hE hO hc ht ha (by omega)).1⟩
/-- how many are in none of them -/
def dryV (E : EV) (r : Nat → Int32) (a : Nat) (v : Int32) (n : Nat) : Int32 := fo n (fun i s => if anyI E r a i v ≠ 0 then s else s + 1) 0
theorem has_eq (v : Int32) (h : Nat) (μ : Mem) : F_X10_has v (nI h) μ = if bitI v h = true then 1 else 0 := by
  unfold F_X10_has
  by_cases q : ((v >>> ((nI h) &&& 31)) &&& 1) = 1
  · rw [if_neg (not_not_intro q), if_pos (show bitI v h = true from decide_eq_true q)]
  · rw [if_pos q, if_neg (show ¬ bitI v h = true from fun z => q (of_decide_eq_true z))]
theorem wat_0 (E : EV) (r : Nat → Int32) (hh : Int32) (h : Nat) : 0 ≤ wat E r hh h := imax0 _
theorem sp_dryIn {E : EV} {ν : Mem} {r : Nat → Int32} {a i : Nat} {v w s : Int32} (hM : EvM E ν) (hO : EvOK E) (hr : ν 521 = r) (ht : r 62 = nI a) (ha : a < 10000) (hi : i < 100) :
    (∀ j, j < eH E → Pb_X10_dry_56 v w s (nI i) ν j (fo j (g_X10_dry_56 v w s (nI i) ν) 1)) ∧ fo (eH E) (g_X10_dry_56 v w s (nI i) ν) 1 = if anyI E r a i v ≠ 0 then 0 else 1 := by
  have hd := hO.1.1
  have hh : P_X10_heightIn (ν 521 62 + nI i) ν ∧ F_X10_heightIn (ν 521 62 + nI i) ν = hgt E (a + i) := by
    rw [hr, ht, nI_add]
    exact sp_heightIn hM hO (by omega)
  have hw : ∀ h, h < eH E → P_X10_waterBy 521 (nI h) (hgt E (a + i)) ν ∧ F_X10_waterBy 521 (nI h) (hgt E (a + i)) ν = wat E r (hgt E (a + i)) h := fun h hp => by
    have := sp_waterBy (row := 521) (hh := hgt E (a + i)) hM hO hp
    rw [hr] at this
    exact this
  have hle := anN_le (r := r) (a := a) (i := i) (v := v) hO
  have hhit := anN_hit (r := r) (a := a) (i := i) (v := v) hO
  have key := fo_all (fun j (t : Int32) => t = if anN E r a i v < j then 0 else 1) (Pb_X10_dry_56 v w s (nI i) ν) (eH E) (g_X10_dry_56 v w s (nI i) ν) 1 (by rw [if_neg (by omega)]) ?_
  · refine ⟨key.1, ?_⟩
    rw [key.2]
    unfold anyI
    by_cases q : eH E ≤ anN E r a i v
    · rw [if_neg (by omega), if_pos q, if_neg (by decide)]
    · rw [if_pos (by omega), if_neg q, if_pos (by decide)]
  · intro j hj t hs
    refine ⟨?_, ?_⟩
    · unfold Pb_X10_dry_56
      rw [hM.1, hh.2]
      exact ⟨fun q => nI_ge hj (by omega) q, fun _ => ⟨fun _ => trivial, fun _ => ⟨fun _ => trivial, fun _ => ⟨hh.1, (hw j hj).1⟩⟩⟩⟩
    · unfold g_X10_dry_56 VX10_dry_56_1
      rw [hs, hh.2, (hw j hj).2, has_eq]
      by_cases q1 : anN E r a i v < j
      · rw [if_pos q1, if_pos rfl, if_pos (by omega)]
      · rw [if_neg q1, if_neg (by decide)]
        by_cases q2 : anN E r a i v = j
        · subst q2
          rcases hhit with x | x
          · omega
          · have z := x.2
            rw [if_pos x.1, if_neg (by decide), if_pos (fun q => by rw [q] at z; exact absurd z (by decide)), if_pos (by omega)]
        · have m := (anN_min (show j < anN E r a i v by omega)).2
          rw [if_neg (show ¬ anN E r a i v < j + 1 by omega)]
          by_cases b : bitI v j = true
          · rw [if_pos b, if_neg (by decide)]
            have z0 := wat_0 E r (hgt E (a + i)) j
            have z : wat E r (hgt E (a + i)) j = 0 := by
              have : ¬ 0 < wat E r (hgt E (a + i)) j := fun y => m ⟨b, y⟩
              grind
            rw [if_neg (not_not_intro z)]
          · rw [if_neg b, if_pos rfl]
/-- bits counted -/
theorem bc_all : ∀ n, n < 10 → ∀ b, b < 2 ^ n → ((nI b ||| ((1 : Int32) <<< ((nI n) &&& 31))) = nI (b + 2 ^ n) ∧ F_J6_bitCount_0f7a4 (nI (b + 2 ^ n)) (fun _ _ => 0) = F_J6_bitCount_0f7a4 (nI b) (fun _ _ => 0) + 1) := by decide +kernel
theorem bc_0 : F_J6_bitCount_0f7a4 (nI 0) (fun _ _ => 0) = 0 := by decide +kernel
theorem bc_bits {E : EV} {r : Nat → Int32} {h : Int32} (hO : EvOK E) (μ : Mem) : F_J6_bitCount_0f7a4 (bitsR E r h) μ = fo (eT E) (fun t s => s + if r t = h then 1 else 0) 0 := by
  have hd := hO.1.2.1
  show F_J6_bitCount_0f7a4 (bitsR E r h) (fun _ _ => 0) = _
  unfold bitsR
  have key : ∀ n, n ≤ 10 → ∃ b, b < 2 ^ n ∧ fo n (fun t s => if r t = h then s ||| ((1 : Int32) <<< ((nI t) &&& 31)) else s) 0 = nI b ∧ F_J6_bitCount_0f7a4 (nI b) (fun _ _ => 0) = fo n (fun t s => s + if r t = h then (1 : Int32) else 0) 0 := by
    intro n
    induction n with
    | zero => intro _; exact ⟨0, by decide, rfl, bc_0⟩
    | succ n ih =>
      intro hn
      obtain ⟨b, hb, e1, e2⟩ := ih (by omega)
      have hp : 2 ^ (n + 1) = 2 ^ n + 2 ^ n := by rw [Nat.pow_succ]; omega
      rw [fo_succ, fo_succ, e1, ← e2]
      by_cases q : r n = h
      · obtain ⟨x1, x2⟩ := bc_all n (by omega) b hb
        refine ⟨b + 2 ^ n, by omega, ?_, ?_⟩
        · rw [if_pos q, x1]
        · rw [if_pos q, x2]
      · refine ⟨b, by omega, ?_, ?_⟩
        · rw [if_neg q]
        · rw [if_neg q, Int32.add_zero]
  obtain ⟨b, -, e1, e2⟩ := key (eT E) hd
  rw [e1, e2]
