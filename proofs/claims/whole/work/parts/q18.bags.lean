/-! sandbags -/
def hiM (E : EV) (a n : Nat) : Int32 := fo n (fun i s => imax s (hgt E (a + i))) 0
def ndB (E : EV) (r : Nat → Int32) (hi : Int32) (h : Nat) : Int32 := (wat E r hi h + 1) / 2
def bgB (E : EV) (r : Nat → Int32) (hi v : Int32) (h : Nat) : Bool := decide (eH E ≤ h ∨ (bitI v h = true ∧ 9 < r (50 + h) + ndB E r hi h))
def bgS (E : EV) (r : Nat → Int32) (hi v : Int32) (n : Nat) : Int32 := fo n (fun h s => if bitI v h = true then s + ndB E r hi h else s) 0
def bgV (E : EV) (r : Nat → Int32) (hi v : Int32) : Int32 := if eH E ≤ fst 7 (bgB E r hi v) then bgS E r hi v (fst 7 (bgB E r hi v)) else -1
theorem bg_facts {E : EV} {r : Nat → Int32} {hi v : Int32} (hO : EvOK E) : fst 7 (bgB E r hi v) ≤ eH E ∧ (eH E ≤ fst 7 (bgB E r hi v) ∨ (bitI v (fst 7 (bgB E r hi v)) = true ∧ 9 < r (50 + fst 7 (bgB E r hi v)) + ndB E r hi (fst 7 (bgB E r hi v)))) ∧ ∀ j, j < fst 7 (bgB E r hi v) → j < eH E ∧ ¬ (bitI v j = true ∧ 9 < r (50 + j) + ndB E r hi j) := by
  have hd := hO.1.1
  have h1 : fst 7 (bgB E r hi v) ≤ eH E := fst_lt (by omega) (decide_eq_true (Or.inl (Nat.le_refl _)))
  refine ⟨h1, of_decide_eq_true (show decide _ = true from fst_hit (n := 7) (c := bgB E r hi v) (by omega)), fun j hj => ?_⟩
  have := of_decide_eq_false (show decide _ = false from fst_min (n := 7) (c := bgB E r hi v) hj)
  exact ⟨Nat.lt_of_not_le fun q => this (Or.inl q), fun q => this (Or.inr q)⟩
theorem sp_fewest {E : EV} {μ : Mem} {r : Nat → Int32} {a n : Nat} {v : Int32} (hE : EvC E μ) (hO : EvOK E) (hc : RC0 E (μ 44) r) (ht : r 62 = nI a) (ha : a < 10000) (hn : n < 100) :
    P_X0_fewestBags v (nI n) μ ∧ F_X0_fewestBags v (nI n) μ = bgV E r (hiM E a n) v := by
  have hd := hO.1.1
  have hN5 : NX0_fewestBags_5 v (nI n) μ = n := nI_ix (by omega)
  have hS5 : SX0_fewestBags_5 v (nI n) μ = hiM E a n := by
    unfold SX0_fewestBags_5
    rw [hN5]
    refine fo_congr _ _ _ _ fun i hi s => ?_
    unfold g_X0_fewestBags_5
    rw [(sp_heightAhead hE hO hc ht (by omega)).2]
  have hw : ∀ h, h < eH E → F_X5_of 43 56 (nI h) μ = r (50 + h) ∧ F_X5_waterIn 43 (nI h) (hiM E a n) μ = wat E r (hiM E a n) h := fun h hl => ⟨by rw [of56 (by omega), hc.2.2.1 h (by omega)], sp_waterC (th := 43) hO hl (hc.2.1 h hl)⟩
  have hN : NX0_fewestBags_34 v (nI n) μ = fst 7 (bgB E r (hiM E a n) v) := by
    unfold NX0_fewestBags_34
    rw [hS5]
    refine fst_congr fun j hj => ?_
    unfold Cb_X0_fewestBags_34 bgB
    rw [hE.1]
    by_cases k1 : eH E ≤ j
    · rw [if_pos (nI_le k1 (by omega)), decide_eq_true (Or.inl k1)]
      rfl
    · rw [if_neg (nI_ge (by omega) (by omega)), (hw j (by omega)).1, (hw j (by omega)).2]
      by_cases k2 : ((v >>> ((nI j) &&& 31)) &&& 1) = 1
      · rw [if_neg (not_not_intro k2)]
        by_cases k3 : r (50 + j) + (wat E r (hiM E a n) j + 1) / 2 ≤ 9
        · rw [if_pos k3, decide_eq_false (fun q => q.elim k1 fun z => Int32.not_lt.mpr k3 z.2)]
          rfl
        · rw [if_neg k3, decide_eq_true (Or.inr ⟨decide_eq_true k2, Int32.not_le.mp k3⟩)]
          rfl
      · rw [if_pos k2, decide_eq_false (fun q => q.elim k1 fun z => k2 (of_decide_eq_true z.1))]
        rfl
  obtain ⟨b1, b2, b3⟩ := bg_facts (r := r) (hi := hiM E a n) (v := v) hO
  have hS : SX0_fewestBags_34 v (nI n) μ = bgS E r (hiM E a n) v (fst 7 (bgB E r (hiM E a n) v)) := by
    unfold SX0_fewestBags_34
    rw [hN, hS5]
    refine fo_congr _ _ _ _ fun i hi s => ?_
    unfold g_X0_fewestBags_34
    rw [(hw i (by omega)).2]
    by_cases k2 : ((v >>> ((nI i) &&& 31)) &&& 1) = 1
    · rw [if_neg (not_not_intro k2), if_pos (show bitI v i = true from decide_eq_true k2)]
      rfl
    · rw [if_pos k2, if_neg (show ¬ bitI v i = true from fun z => k2 (of_decide_eq_true z))]
  unfold P_X0_fewestBags F_X0_fewestBags bgV
  rw [hS5, hN5, hN, hS, hE.1]
  generalize fst 7 (bgB E r (hiM E a n) v) = N at *
  refine ⟨⟨fun j hj => ?_, fun _ => ⟨fun j hj => ?_, fun _ => trivial, fun q => ⟨fun z => ?_, fun z => ⟨fun y => ?_, fun _ => trivial⟩⟩⟩, fun q => absurd q n_lt⟩, ?_⟩
  · unfold Pb_X0_fewestBags_5
    exact ⟨fun q => nI_ge hj (by omega) q, fun _ => (sp_heightAhead hE hO hc ht (by omega)).1⟩
  · obtain ⟨m1, m2⟩ := b3 j hj
    unfold Pb_X0_fewestBags_34
    rw [hE.1, (hw j m1).1, (hw j m1).2]
    exact ⟨fun q => nI_ge m1 (by omega) q, fun _ => ⟨fun _ => trivial, fun z => ⟨fun _ => trivial, fun y => m2 ⟨decide_eq_true z, y⟩⟩⟩⟩
  · rw [nI_ltI (by omega) (by omega)] at q
    rcases b2 with y | y
    · omega
    · exact z (of_decide_eq_true y.1)
  · rw [nI_ltI (by omega) (by omega)] at q
    rw [(hw N q).1, (hw N q).2] at y
    rcases b2 with x | x
    · omega
    · exact Int32.not_lt.mpr y x.2
  · by_cases q : eH E ≤ N
    · rw [if_pos (nI_le q (by omega)), if_pos q]
    · rw [if_neg (nI_ge (by omega) (by omega)), if_neg q]
