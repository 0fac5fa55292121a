/-! the words of a LAW, both sides -/
def knK (t : Nat → Int32) (N q : Nat) : Int32 := if wdM t N q 7 = true then 0 else (if wdM t N q 8 = true then 1 else (if wdM t N q 9 = true then 2 else (if wdM t N q 3 = true then 3 else (if wdM t N q 10 = true then 4 else (if wdM t N q 5 = true then 5 else (if wdM t N q 1 = true then 6 else (-1)))))))
def cdK (t : Nat → Int32) (N q : Nat) : Int32 := if knK t N q ≠ -1 then knK t N q else if wdM t N q 11 = true then 12 else if wdM t N q 12 = true then 13 else -1
theorem kn_ok (t : Nat → Int32) (N q : Nat) : knK t N q = -1 ∨ ∃ k, k < 7 ∧ knK t N q = nI k := by
  unfold knK
  by_cases h0 : wdM t N q 7 = true
  · rw [if_pos h0]
    exact Or.inr ⟨0, by decide, rfl⟩
  rw [if_neg h0]
  by_cases h1 : wdM t N q 8 = true
  · rw [if_pos h1]
    exact Or.inr ⟨1, by decide, rfl⟩
  rw [if_neg h1]
  by_cases h2 : wdM t N q 9 = true
  · rw [if_pos h2]
    exact Or.inr ⟨2, by decide, rfl⟩
  rw [if_neg h2]
  by_cases h3 : wdM t N q 3 = true
  · rw [if_pos h3]
    exact Or.inr ⟨3, by decide, rfl⟩
  rw [if_neg h3]
  by_cases h4 : wdM t N q 10 = true
  · rw [if_pos h4]
    exact Or.inr ⟨4, by decide, rfl⟩
  rw [if_neg h4]
  by_cases h5 : wdM t N q 5 = true
  · rw [if_pos h5]
    exact Or.inr ⟨5, by decide, rfl⟩
  rw [if_neg h5]
  by_cases h6 : wdM t N q 1 = true
  · rw [if_pos h6]
    exact Or.inr ⟨6, by decide, rfl⟩
  rw [if_neg h6]
  exact Or.inl rfl
theorem kn_no {t : Nat → Int32} {N q k : Nat} (hk : k = 11 ∨ k = 12) (h : wdM t N q k = true) : knK t N q = -1 := by
  have u : ∀ j, j < 19 → j ≠ 0 → j ≠ k → ¬ wdM t N q j = true := fun j j1 j2 j3 j4 => j3 (wd_uniq j1 j2 (by omega) (by omega) j4 h)
  unfold knK
  rw [if_neg (u 7 (by decide) (by decide) (by omega)), if_neg (u 8 (by decide) (by decide) (by omega)), if_neg (u 9 (by decide) (by decide) (by omega)), if_neg (u 3 (by decide) (by decide) (by omega)), if_neg (u 10 (by decide) (by decide) (by omega)), if_neg (u 5 (by decide) (by decide) (by omega)), if_neg (u 1 (by decide) (by decide) (by omega))]
theorem wd_ltn {t : Nat → Int32} {N q k : Nat} (hk : k < 19) (hk0 : k ≠ 0) (h : wdM t N q k = true) : 3 ≤ ltn t N q := by
  have := (of_decide_eq_true h).1
  have := (wd_tab k hk hk0).1.1
  omega
theorem kn_ltn {t : Nat → Int32} {N q : Nat} (h : knK t N q ≠ -1) : 3 ≤ ltn t N q := by
  refine Decidable.byContradiction fun z => h ?_
  have u : ∀ j, j < 19 → j ≠ 0 → ¬ wdM t N q j = true := fun j j1 j2 j4 => z (wd_ltn j1 j2 j4)
  unfold knK
  rw [if_neg (u 7 (by decide) (by decide)), if_neg (u 8 (by decide) (by decide)), if_neg (u 9 (by decide) (by decide)), if_neg (u 3 (by decide) (by decide)), if_neg (u 10 (by decide) (by decide)), if_neg (u 5 (by decide) (by decide)), if_neg (u 1 (by decide) (by decide))]
theorem sp_codeOf {t : Nat → Int32} {N q : Nat} {μ : Mem} (h : WdC t N q μ) : P_X1_codeOf μ ∧ F_X1_codeOf μ = cdK t N q := by
  have w : ∀ k, k < 19 → k ≠ 0 → P_X8_isWord k μ ∧ F_X8_isWord k μ = if wdM t N q k = true then 1 else 0 := fun k a b => sp_isWordC a b h
  refine ⟨⟨(w 7 (by decide) (by decide)).1, fun _ => ⟨(w 8 (by decide) (by decide)).1, fun _ => ⟨(w 9 (by decide) (by decide)).1, fun _ => ⟨(w 3 (by decide) (by decide)).1, fun _ => ⟨(w 10 (by decide) (by decide)).1, fun _ => ⟨(w 5 (by decide) (by decide)).1, fun _ => ⟨(w 1 (by decide) (by decide)).1, fun _ => ⟨(w 11 (by decide) (by decide)).1, fun _ => (w 12 (by decide) (by decide)).1, fun _ => trivial⟩, fun _ => trivial⟩, fun _ => trivial⟩, fun _ => trivial⟩, fun _ => trivial⟩, fun _ => trivial⟩, fun _ => trivial⟩, fun _ => trivial⟩, ?_⟩
  unfold F_X1_codeOf cdK knK
  rw [(w 7 (by decide) (by decide)).2, (w 8 (by decide) (by decide)).2, (w 9 (by decide) (by decide)).2, (w 3 (by decide) (by decide)).2, (w 10 (by decide) (by decide)).2, (w 5 (by decide) (by decide)).2, (w 1 (by decide) (by decide)).2, (w 11 (by decide) (by decide)).2, (w 12 (by decide) (by decide)).2]
  generalize wdM t N q 7 = b7
  generalize wdM t N q 8 = b8
  generalize wdM t N q 9 = b9
  generalize wdM t N q 3 = b3
  generalize wdM t N q 10 = b10
  generalize wdM t N q 5 = b5
  generalize wdM t N q 1 = b1
  generalize wdM t N q 11 = b11
  generalize wdM t N q 12 = b12
  clear w
  revert b7 b8 b9 b3 b10 b5 b1 b11 b12
  decide +kernel
def At (t : Nat → Int32) (N q : Nat) (μ0 μ : Mem) : Prop := TxM t N q μ ∧ (∀ r, r ≠ 57 → μ r = μ0 r) ∧ ∀ k, k ≠ 4 → μ 57 k = μ0 57 k
theorem sp_isW {t : Nat → Int32} {N q k : Nat} {μ0 μ : Mem} {p1 p2 p3 p4 p5 p6 p7 : Int32} (hk : k < 19) (hk0 : k ≠ 0) (hs : ∀ μ, F_X10_seven p1 p2 p3 p4 p5 p6 p7 μ = lN (hN (wc k) (strLen.getD k 0))) (h : At t N q μ0 μ) (h0 : μ0 57 5 = 0) (hq : skp t N q = q) :
    P_X10_isWord p1 p2 p3 p4 p5 p6 p7 μ ∧ F_X10_isWord p1 p2 p3 p4 p5 p6 p7 μ = (if wdM t N q k = true then 1 else 0) ∧ At t N q μ0 (M_X10_isWord p1 p2 p3 p4 p5 p6 p7 μ) := by
  obtain ⟨h1, h2, h3⟩ := h
  obtain ⟨a1, a2, a3⟩ := sp_isWordM hk hk0 hs h1 (by rw [h3 5 (by decide)]; exact h0)
  obtain ⟨b1, b2, b3, b4⟩ := sp_blanks h1
  rw [hq] at a2 b2
  rw [a3]
  exact ⟨a1, a2, b2, fun r hr => by rw [b3 r hr, h2 r hr], fun k hk => by rw [b4 k hk, h3 k hk]⟩
theorem sp_takes {t : Nat → Int32} {N q k : Nat} {μ0 μ : Mem} {p1 p2 p3 p4 p5 p6 p7 : Int32} (hk : k < 19) (hk0 : k ≠ 0) (hs : ∀ μ, F_X10_seven p1 p2 p3 p4 p5 p6 p7 μ = lN (hN (wc k) (strLen.getD k 0))) (h : At t N q μ0 μ) (h0 : μ0 57 5 = 0) (hq : skp t N q = q) :
    P_X10_takes p1 p2 p3 p4 p5 p6 p7 μ ∧ F_X10_takes p1 p2 p3 p4 p5 p6 p7 μ = (if wdM t N q k = true then 1 else 0) ∧ (wdM t N q k = true → At t N (q + ltn t N q) μ0 (M_X10_takes p1 p2 p3 p4 p5 p6 p7 μ)) ∧ (¬ wdM t N q k = true → At t N q μ0 (M_X10_takes p1 p2 p3 p4 p5 p6 p7 μ)) := by
  obtain ⟨a1, a2, a3⟩ := sp_isW hk hk0 hs h h0 hq
  obtain ⟨b1, b2, b3, b4⟩ := sp_skipWord a3.1
  refine ⟨⟨a1, fun _ => trivial, fun _ => b1⟩, a2, fun w => ?_, fun w => ?_⟩
  · have nz : ¬ F_X10_isWord p1 p2 p3 p4 p5 p6 p7 μ = 0 := by
      rw [a2, if_pos w]
      decide
    unfold M_X10_takes VX10_takes_3
    rw [if_neg nz]
    exact ⟨b2, fun r hr => (b3 r hr).trans (a3.2.1 r hr), fun k hk => (b4 k hk).trans (a3.2.2 k hk)⟩
  · have z : F_X10_isWord p1 p2 p3 p4 p5 p6 p7 μ = 0 := by rw [a2, if_neg w]
    unfold M_X10_takes VX10_takes_3
    rw [if_pos z]
    exact a3
theorem sp_known {t : Nat → Int32} {N q : Nat} {μ0 μ : Mem} (h : At t N q μ0 μ) (h0 : μ0 57 5 = 0) (hq : skp t N q = q) : P_X10_knownHere μ ∧ F_X10_knownHere μ = knK t N q ∧ (knK t N q ≠ -1 → At t N (q + ltn t N q) μ0 (M_X10_knownHere μ)) ∧ (knK t N q = -1 → At t N q μ0 (M_X10_knownHere μ)) := by
  unfold F_X10_knownHere M_X10_knownHere knK P_X10_knownHere
  obtain ⟨p0, f0, y0, n0⟩ := sp_takes (k := 7) (p1 := 4) (p2 := 5) (p3 := 16) (p4 := 20) (p5 := 8) (p6 := 0) (p7 := 0) (by decide) (by decide) (fun _ => by unfold F_X10_seven VX10_seven_3 VX10_seven_2 VX10_seven_1; decide +kernel) h h0 hq
  by_cases w0 : wdM t N q 7 = true
  · have nz : ¬ F_X10_takes 4 5 16 20 8 0 0 μ = 0 := by
      rw [f0, if_pos w0]
      decide
    refine ⟨⟨p0, fun z => absurd z nz, fun _ => trivial⟩, ?_, fun _ => ?_, fun z => ?_⟩
    · rw [if_neg nz, if_pos w0]
    · rw [if_neg nz]
      exact y0 w0
    · rw [if_pos w0] at z
      exact absurd z (by decide)
  have z0 : F_X10_takes 4 5 16 20 8 0 0 μ = 0 := by rw [f0, if_neg w0]
  have a0 : At t N q μ0 (muX10_knownHere_1 μ) := n0 w0
  obtain ⟨p1, f1, y1, n1⟩ := sp_takes (k := 8) (p1 := 12) (p2 := 15) (p3 := 19) (p4 := 20) (p5 := 0) (p6 := 0) (p7 := 0) (by decide) (by decide) (fun _ => by unfold F_X10_seven VX10_seven_3 VX10_seven_2 VX10_seven_1; decide +kernel) a0 h0 hq
  by_cases w1 : wdM t N q 8 = true
  · have nz : ¬ F_X10_takes 12 15 19 20 0 0 0 (muX10_knownHere_1 μ) = 0 := by
      rw [f1, if_pos w1]
      decide
    refine ⟨⟨p0, fun _ => ⟨p1, fun z => absurd z nz, fun _ => trivial⟩, fun _ => trivial⟩, ?_, fun _ => ?_, fun z => ?_⟩
    · rw [if_pos z0, if_neg nz, if_neg w0, if_pos w1]
    · rw [if_pos z0, if_neg nz]
      exact y1 w1
    · rw [if_neg w0, if_pos w1] at z
      exact absurd z (by decide)
  have z1 : F_X10_takes 12 15 19 20 0 0 0 (muX10_knownHere_1 μ) = 0 := by rw [f1, if_neg w1]
  have a1 : At t N q μ0 (muX10_knownHere_2 μ) := n1 w1
  obtain ⟨p2, f2, y2, n2⟩ := sp_takes (k := 9) (p1 := 23) (p2 := 5) (p3 := 20) (p4 := 0) (p5 := 0) (p6 := 0) (p7 := 0) (by decide) (by decide) (fun _ => by unfold F_X10_seven VX10_seven_3 VX10_seven_2 VX10_seven_1; decide +kernel) a1 h0 hq
  by_cases w2 : wdM t N q 9 = true
  · have nz : ¬ F_X10_takes 23 5 20 0 0 0 0 (muX10_knownHere_2 μ) = 0 := by
      rw [f2, if_pos w2]
      decide
    refine ⟨⟨p0, fun _ => ⟨p1, fun _ => ⟨p2, fun z => absurd z nz, fun _ => trivial⟩, fun _ => trivial⟩, fun _ => trivial⟩, ?_, fun _ => ?_, fun z => ?_⟩
    · rw [if_pos z0, if_pos z1, if_neg nz, if_neg w0, if_neg w1, if_pos w2]
    · rw [if_pos z0, if_pos z1, if_neg nz]
      exact y2 w2
    · rw [if_neg w0, if_neg w1, if_pos w2] at z
      exact absurd z (by decide)
  have z2 : F_X10_takes 23 5 20 0 0 0 0 (muX10_knownHere_2 μ) = 0 := by rw [f2, if_neg w2]
  have a2 : At t N q μ0 (muX10_knownHere_3 μ) := n2 w2
  obtain ⟨p3, f3, y3, n3⟩ := sp_takes (k := 3) (p1 := 20) (p2 := 9) (p3 := 4) (p4 := 5) (p5 := 0) (p6 := 0) (p7 := 0) (by decide) (by decide) (fun _ => by unfold F_X10_seven VX10_seven_3 VX10_seven_2 VX10_seven_1; decide +kernel) a2 h0 hq
  by_cases w3 : wdM t N q 3 = true
  · have nz : ¬ F_X10_takes 20 9 4 5 0 0 0 (muX10_knownHere_3 μ) = 0 := by
      rw [f3, if_pos w3]
      decide
    refine ⟨⟨p0, fun _ => ⟨p1, fun _ => ⟨p2, fun _ => ⟨p3, fun z => absurd z nz, fun _ => trivial⟩, fun _ => trivial⟩, fun _ => trivial⟩, fun _ => trivial⟩, ?_, fun _ => ?_, fun z => ?_⟩
    · rw [if_pos z0, if_pos z1, if_pos z2, if_neg nz, if_neg w0, if_neg w1, if_neg w2, if_pos w3]
    · rw [if_pos z0, if_pos z1, if_pos z2, if_neg nz]
      exact y3 w3
    · rw [if_neg w0, if_neg w1, if_neg w2, if_pos w3] at z
      exact absurd z (by decide)
  have z3 : F_X10_takes 20 9 4 5 0 0 0 (muX10_knownHere_3 μ) = 0 := by rw [f3, if_neg w3]
  have a3 : At t N q μ0 (muX10_knownHere_4 μ) := n3 w3
  obtain ⟨p4, f4, y4, n4⟩ := sp_takes (k := 10) (p1 := 13) (p2 := 15) (p3 := 15) (p4 := 14) (p5 := 0) (p6 := 0) (p7 := 0) (by decide) (by decide) (fun _ => by unfold F_X10_seven VX10_seven_3 VX10_seven_2 VX10_seven_1; decide +kernel) a3 h0 hq
  by_cases w4 : wdM t N q 10 = true
  · have nz : ¬ F_X10_takes 13 15 15 14 0 0 0 (muX10_knownHere_4 μ) = 0 := by
      rw [f4, if_pos w4]
      decide
    refine ⟨⟨p0, fun _ => ⟨p1, fun _ => ⟨p2, fun _ => ⟨p3, fun _ => ⟨p4, fun z => absurd z nz, fun _ => trivial⟩, fun _ => trivial⟩, fun _ => trivial⟩, fun _ => trivial⟩, fun _ => trivial⟩, ?_, fun _ => ?_, fun z => ?_⟩
    · rw [if_pos z0, if_pos z1, if_pos z2, if_pos z3, if_neg nz, if_neg w0, if_neg w1, if_neg w2, if_neg w3, if_pos w4]
    · rw [if_pos z0, if_pos z1, if_pos z2, if_pos z3, if_neg nz]
      exact y4 w4
    · rw [if_neg w0, if_neg w1, if_neg w2, if_neg w3, if_pos w4] at z
      exact absurd z (by decide)
  have z4 : F_X10_takes 13 15 15 14 0 0 0 (muX10_knownHere_4 μ) = 0 := by rw [f4, if_neg w4]
  have a4 : At t N q μ0 (muX10_knownHere_5 μ) := n4 w4
  obtain ⟨p5, f5, y5, n5⟩ := sp_takes (k := 5) (p1 := 18) (p2 := 5) (p3 := 14) (p4 := 20) (p5 := 0) (p6 := 0) (p7 := 0) (by decide) (by decide) (fun _ => by unfold F_X10_seven VX10_seven_3 VX10_seven_2 VX10_seven_1; decide +kernel) a4 h0 hq
  by_cases w5 : wdM t N q 5 = true
  · have nz : ¬ F_X10_takes 18 5 14 20 0 0 0 (muX10_knownHere_5 μ) = 0 := by
      rw [f5, if_pos w5]
      decide
    refine ⟨⟨p0, fun _ => ⟨p1, fun _ => ⟨p2, fun _ => ⟨p3, fun _ => ⟨p4, fun _ => ⟨p5, fun z => absurd z nz, fun _ => trivial⟩, fun _ => trivial⟩, fun _ => trivial⟩, fun _ => trivial⟩, fun _ => trivial⟩, fun _ => trivial⟩, ?_, fun _ => ?_, fun z => ?_⟩
    · rw [if_pos z0, if_pos z1, if_pos z2, if_pos z3, if_pos z4, if_neg nz, if_neg w0, if_neg w1, if_neg w2, if_neg w3, if_neg w4, if_pos w5]
    · rw [if_pos z0, if_pos z1, if_pos z2, if_pos z3, if_pos z4, if_neg nz]
      exact y5 w5
    · rw [if_neg w0, if_neg w1, if_neg w2, if_neg w3, if_neg w4, if_pos w5] at z
      exact absurd z (by decide)
  have z5 : F_X10_takes 18 5 14 20 0 0 0 (muX10_knownHere_5 μ) = 0 := by rw [f5, if_neg w5]
  have a5 : At t N q μ0 (muX10_knownHere_6 μ) := n5 w5
  obtain ⟨p6, f6, y6, n6⟩ := sp_takes (k := 1) (p1 := 8) (p2 := 15) (p3 := 21) (p4 := 19) (p5 := 5) (p6 := 0) (p7 := 0) (by decide) (by decide) (fun _ => by unfold F_X10_seven VX10_seven_3 VX10_seven_2 VX10_seven_1; decide +kernel) a5 h0 hq
  by_cases w6 : wdM t N q 1 = true
  · have nz : ¬ F_X10_takes 8 15 21 19 5 0 0 (muX10_knownHere_6 μ) = 0 := by
      rw [f6, if_pos w6]
      decide
    refine ⟨⟨p0, fun _ => ⟨p1, fun _ => ⟨p2, fun _ => ⟨p3, fun _ => ⟨p4, fun _ => ⟨p5, fun _ => p6, fun _ => trivial⟩, fun _ => trivial⟩, fun _ => trivial⟩, fun _ => trivial⟩, fun _ => trivial⟩, fun _ => trivial⟩, ?_, fun _ => ?_, fun z => ?_⟩
    · rw [if_pos z0, if_pos z1, if_pos z2, if_pos z3, if_pos z4, if_pos z5, if_neg nz, if_neg w0, if_neg w1, if_neg w2, if_neg w3, if_neg w4, if_neg w5, if_pos w6]
    · rw [if_pos z0, if_pos z1, if_pos z2, if_pos z3, if_pos z4, if_pos z5]
      exact y6 w6
    · rw [if_neg w0, if_neg w1, if_neg w2, if_neg w3, if_neg w4, if_neg w5, if_pos w6] at z
      exact absurd z (by decide)
  have z6 : F_X10_takes 8 15 21 19 5 0 0 (muX10_knownHere_6 μ) = 0 := by rw [f6, if_neg w6]
  have a6 : At t N q μ0 (muX10_knownHere_7 μ) := n6 w6
  refine ⟨⟨p0, fun _ => ⟨p1, fun _ => ⟨p2, fun _ => ⟨p3, fun _ => ⟨p4, fun _ => ⟨p5, fun _ => p6, fun _ => trivial⟩, fun _ => trivial⟩, fun _ => trivial⟩, fun _ => trivial⟩, fun _ => trivial⟩, fun _ => trivial⟩, ?_, fun z => ?_, fun _ => ?_⟩
  · rw [if_pos z0, if_pos z1, if_pos z2, if_pos z3, if_pos z4, if_pos z5, if_pos z6, if_neg w0, if_neg w1, if_neg w2, if_neg w3, if_neg w4, if_neg w5, if_neg w6]
  · rw [if_neg w0, if_neg w1, if_neg w2, if_neg w3, if_neg w4, if_neg w5, if_neg w6] at z
    exact absurd rfl z
  · rw [if_pos z0, if_pos z1, if_pos z2, if_pos z3, if_pos z4, if_pos z5]
    exact a6
