/-! the least rent -/
def pdR (E : EV) (L : LW) (r : Nat → Int32) (n : Nat) (rn : Int32) : Int32 := paidR E (seaR E L rn n r) - paidR E r
def rnB (E : EV) (L : LW) (r : Nat → Int32) (n : Nat) (x : Int32) (j : Nat) : Bool := decide (40 < j ∨ pdR E L r n (nI j) ≤ x)
def rnV (E : EV) (L : LW) (r : Nat → Int32) (n : Nat) (x : Int32) : Int32 := if 40 < fst 42 (rnB E L r n x) then -1 else nI (fst 42 (rnB E L r n x))
theorem sp_paidThen {E : EV} {L : LW} {μ : Mem} {r : Nat → Int32} {n a b : Nat} {rn : Int32} (hE : EvC E μ) (hO : EvOK E) (hL : LwOK L) (hR : LwC L μ) (hc : RC0 E (μ 44) r) (hp : RCP (μ 44) r) (hr : RowOK E b r) (hn : n < 100) (ha : a < 10000) (ht : r 62 = nI a) :
    P_X0_goAhead (nI n) rn μ ∧ P_X0_paidThen (M_X0_goAhead (nI n) rn μ) ∧ F_X0_paidThen (M_X0_goAhead (nI n) rn μ) = pdR E L r n rn ∧ ∀ h, h ≠ 24 → h ≠ 25 → h ≠ 53 → h ≠ 54 → h ≠ 55 → h ≠ 56 → M_X0_goAhead (nI n) rn μ h = μ h := by
  obtain ⟨g1, g2, g3, g4⟩ := sp_goAhead (n := n) (rn := rn) hE hO hL hR hc hp hr (by omega) ha ht
  have hE' : EvC E (M_X0_goAhead (nI n) rn μ) := hE.mono fun h hl => g4 h (by omega) (by omega) (by omega) (by omega) (by omega) (by omega)
  have e44 : M_X0_goAhead (nI n) rn μ 44 = μ 44 := g4 44 (by omega) (by omega) (by omega) (by omega) (by omega) (by omega)
  obtain ⟨p1, p2⟩ := sp_paidC (th := 52) hE' hO g3
  obtain ⟨q1, q2⟩ := sp_paidC (r := r) (th := 43) hE' hO (by rw [e44]; exact hp)
  unfold P_X0_paidThen F_X0_paidThen
  rw [p2, q2]
  exact ⟨g1, ⟨p1, q1⟩, rfl, g4⟩
theorem sp_leastRent {E : EV} {L : LW} {μ : Mem} {r : Nat → Int32} {n a b : Nat} {x : Int32} (hE : EvC E μ) (hO : EvOK E) (hL : LwOK L) (hR : LwC L μ) (hc : RC0 E (μ 44) r) (hp : RCP (μ 44) r) (hr : RowOK E b r) (hn : n < 100) (ha : a < 10000) (ht : r 62 = nI a) :
    P_X0_leastRent x (nI n) μ ∧ F_X0_leastRent x (nI n) μ = rnV E L r n x ∧ ∀ h, h ≠ 24 → h ≠ 25 → h ≠ 53 → h ≠ 54 → h ≠ 55 → h ≠ 56 → M_X0_leastRent x (nI n) μ h = μ h := by
  have inv : ∀ j, ∀ h, h ≠ 24 → h ≠ 25 → h ≠ 53 → h ≠ 54 → h ≠ 55 → h ≠ 56 → fo j (g_X0_leastRent_2 x (nI n)) μ h = μ h := by
    intro j
    induction j with
    | zero => intro _ _ _ _ _ _ _; rfl
    | succ j ih =>
      intro h a1 a2 a3 a4 a5 a6
      have hE' : EvC E (fo j (g_X0_leastRent_2 x (nI n)) μ) := hE.mono fun h hl => ih h (by omega) (by omega) (by omega) (by omega) (by omega) (by omega)
      have hR' : LwC L (fo j (g_X0_leastRent_2 x (nI n)) μ) := hR.mono (by rw [ih 21 (by omega) (by omega) (by omega) (by omega) (by omega) (by omega)]) (ih 22 (by omega) (by omega) (by omega) (by omega) (by omega) (by omega)) (ih 23 (by omega) (by omega) (by omega) (by omega) (by omega) (by omega))
      have e44 := ih 44 (by omega) (by omega) (by omega) (by omega) (by omega) (by omega)
      obtain ⟨-, -, -, g4⟩ := sp_paidThen (n := n) (rn := nI j) hE' hO hL hR' (by rw [e44]; exact hc) (by rw [e44]; exact hp) hr hn ha ht
      show M_X0_goAhead (nI n) (nI j) (fo j (g_X0_leastRent_2 x (nI n)) μ) h = μ h
      rw [g4 h a1 a2 a3 a4 a5 a6, ih h a1 a2 a3 a4 a5 a6]
  have stp : ∀ j, P_X0_goAhead (nI n) (nI j) (fo j (g_X0_leastRent_2 x (nI n)) μ) ∧ P_X0_paidThen (M_X0_goAhead (nI n) (nI j) (fo j (g_X0_leastRent_2 x (nI n)) μ)) ∧ F_X0_paidThen (M_X0_goAhead (nI n) (nI j) (fo j (g_X0_leastRent_2 x (nI n)) μ)) = pdR E L r n (nI j) := by
    intro j
    have ih := inv j
    have hE' : EvC E (fo j (g_X0_leastRent_2 x (nI n)) μ) := hE.mono fun h hl => ih h (by omega) (by omega) (by omega) (by omega) (by omega) (by omega)
    have hR' : LwC L (fo j (g_X0_leastRent_2 x (nI n)) μ) := hR.mono (by rw [ih 21 (by omega) (by omega) (by omega) (by omega) (by omega) (by omega)]) (ih 22 (by omega) (by omega) (by omega) (by omega) (by omega) (by omega)) (ih 23 (by omega) (by omega) (by omega) (by omega) (by omega) (by omega))
    have e44 := ih 44 (by omega) (by omega) (by omega) (by omega) (by omega) (by omega)
    obtain ⟨g1, g2, g3, -⟩ := sp_paidThen (n := n) (rn := nI j) hE' hO hL hR' (by rw [e44]; exact hc) (by rw [e44]; exact hp) hr hn ha ht
    exact ⟨g1, g2, g3⟩
  have l40 : ∀ j, j < 100 → ((40 : Int32) < nI j ↔ 40 < j) := fun j hj => nI_ltI (a := 40) (by omega) (by omega)
  have hN : NX0_leastRent_2 x (nI n) μ = fst 42 (rnB E L r n x) := by
    unfold NX0_leastRent_2
    refine fst_congr fun j hj => ?_
    obtain ⟨-, -, s3⟩ := stp j
    unfold Cb_X0_leastRent_2 muX0_leastRent_2_1 rnB
    rw [s3]
    by_cases k1 : 40 < j
    · rw [if_pos ((l40 j (by omega)).mpr k1), decide_eq_true (Or.inl k1)]
      rfl
    · rw [if_neg (fun q => k1 ((l40 j (by omega)).mp q))]
      by_cases k2 : x < pdR E L r n (nI j)
      · rw [if_pos k2, decide_eq_false (fun q => q.elim k1 fun z => Int32.not_lt.mpr z k2)]
        rfl
      · rw [if_neg k2, decide_eq_true (Or.inr (Int32.not_lt.mp k2))]
        rfl
  have h41 : fst 42 (rnB E L r n x) ≤ 41 := fst_lt (by omega) (decide_eq_true (Or.inl (by omega)))
  have hmin : ∀ j, j < fst 42 (rnB E L r n x) → ¬ (40 < j ∨ pdR E L r n (nI j) ≤ x) := fun j hj => of_decide_eq_false (fst_min hj)
  have hhit := of_decide_eq_true (fst_hit (n := 42) (c := rnB E L r n x) (by omega))
  obtain ⟨s1, s2, s3⟩ := stp (fst 42 (rnB E L r n x))
  have hS : SX0_leastRent_2 x (nI n) μ = fo (fst 42 (rnB E L r n x)) (g_X0_leastRent_2 x (nI n)) μ := by
    unfold SX0_leastRent_2
    rw [hN]
  have iN := inv (fst 42 (rnB E L r n x))
  have iN1 := inv (fst 42 (rnB E L r n x) + 1)
  unfold P_X0_leastRent F_X0_leastRent M_X0_leastRent muX0_leastRent_1 rnV
  rw [hS, hN, s3]
  generalize fst 42 (rnB E L r n x) = N at *
  refine ⟨⟨fun j hj => ?_, fun _ => trivial, fun q => ⟨s1, s2, fun z => ?_, fun _ => trivial⟩⟩, ?_, fun h a1 a2 a3 a4 a5 a6 => ?_⟩
  · obtain ⟨t1, t2, t3⟩ := stp j
    have hm := hmin j hj
    unfold Pb_X0_leastRent_2 muX0_leastRent_2_1
    rw [t3]
    exact ⟨fun q => hm (Or.inl ((l40 j (by omega)).mp q)), fun _ => ⟨t1, t2, fun _ => trivial, fun q => hm (Or.inr q)⟩⟩
  · rcases hhit with k | k
    · exact Int32.not_lt.mpr q ((l40 N (by omega)).mpr k)
    · exact Int32.not_lt.mpr k z
  · by_cases k : 40 < N
    · rw [if_pos ((l40 N (by omega)).mpr k), if_pos k]
    · rw [if_neg (fun q => k ((l40 N (by omega)).mp q)), if_neg k]
  · split
    · exact iN h a1 a2 a3 a4 a5 a6
    · exact iN1 h a1 a2 a3 a4 a5 a6
/-- the last found from above is the least -/
theorem fd_least (c : Nat → Prop) [DecidablePred c] (fd : Nat → Int32) (h0 : fd 0 = -1) (hs : ∀ i, i < 41 → fd (i + 1) = if c (40 - i) then nI (40 - i) else fd i) :
    ∀ i, i ≤ 41 → (∃ j, 41 - i ≤ j ∧ j ≤ 40 ∧ c j ∧ (∀ k, 41 - i ≤ k → k < j → ¬ c k) ∧ fd i = nI j) ∨ ((∀ k, 41 - i ≤ k → k ≤ 40 → ¬ c k) ∧ fd i = -1) := by
  intro i
  induction i with
  | zero => intro _; exact Or.inr ⟨fun k h1 h2 => by omega, h0⟩
  | succ i ih =>
    intro hi
    rw [hs i (by omega)]
    by_cases q : c (40 - i)
    · rw [if_pos q]
      exact Or.inl ⟨40 - i, by omega, by omega, q, fun k h1 h2 => by omega, rfl⟩
    · rw [if_neg q]
      rcases ih (by omega) with ⟨j, a1, a2, a3, a4, a5⟩ | ⟨a1, a2⟩
      · refine Or.inl ⟨j, by omega, a2, a3, fun k h1 h2 => ?_, a5⟩
        by_cases z : k = 40 - i
        · rw [z]
          exact q
        · exact a4 k (by omega) h2
      · refine Or.inr ⟨fun k h1 h2 => ?_, a2⟩
        by_cases z : k = 40 - i
        · rw [z]
          exact q
        · exact a1 k (by omega) h2
theorem rn_least {E : EV} {L : LW} {r : Nat → Int32} {n : Nat} {x : Int32} (fd : Nat → Int32) (h0 : fd 0 = -1) (hs : ∀ i, i < 41 → fd (i + 1) = if pdR E L r n (nI (40 - i)) ≤ x then nI (40 - i) else fd i) : fd 41 = rnV E L r n x := by
  unfold rnV
  rcases fd_least (fun j => pdR E L r n (nI j) ≤ x) fd h0 hs 41 (by omega) with ⟨j, -, a2, a3, a4, a5⟩ | ⟨a1, a2⟩
  · have e : fst 42 (rnB E L r n x) = j := fst_eq (by omega) (decide_eq_true (Or.inr a3)) fun k hk => decide_eq_false fun q => q.elim (fun z => by omega) (a4 k (by omega) hk)
    rw [e, if_neg (by omega), a5]
  · have e : fst 42 (rnB E L r n x) = 41 := fst_eq (by omega) (decide_eq_true (Or.inl (by omega))) fun k hk => decide_eq_false fun q => q.elim (fun z => by omega) (a1 k (by omega) (by omega))
    rw [e, if_pos (by omega), a2]
