/-! words at the head of a CLAUSE and of a STEP -/
def clK (t : Nat → Int32) (N q : Nat) : Int32 := (if wdM t N q 1 = true then 0 else (if wdM t N q 2 = true then 1 else (if wdM t N q 3 = true then 2 else (if wdM t N q 4 = true then 3 else (if wdM t N q 5 = true then 4 else (if wdM t N q 6 = true then 5 else (-1)))))))
theorem clK_no {t : Nat → Int32} {N q : Nat} (h : ltn t N q < 3) : clK t N q = -1 := by
  have u : ∀ j, j < 19 → j ≠ 0 → ¬ wdM t N q j = true := fun j j1 j2 j4 => by
    have := wd_ltn j1 j2 j4
    omega
  unfold clK
  rw [if_neg (u 1 (by decide) (by decide)), if_neg (u 2 (by decide) (by decide)), if_neg (u 3 (by decide) (by decide)), if_neg (u 4 (by decide) (by decide)), if_neg (u 5 (by decide) (by decide)), if_neg (u 6 (by decide) (by decide))]
theorem clK_of {t : Nat → Int32} {N q : Nat} : (clK t N q = -1 ∧ ∀ k, (k = 1 → ¬ wdM t N q k = true) ∧ (k = 2 → ¬ wdM t N q k = true) ∧ (k = 3 → ¬ wdM t N q k = true) ∧ (k = 4 → ¬ wdM t N q k = true) ∧ (k = 5 → ¬ wdM t N q k = true) ∧ (k = 6 → ¬ wdM t N q k = true)) ∨ (clK t N q = 0 ∧ wdM t N q 1 = true) ∨ (clK t N q = 1 ∧ wdM t N q 2 = true) ∨ (clK t N q = 2 ∧ wdM t N q 3 = true) ∨ (clK t N q = 3 ∧ wdM t N q 4 = true) ∨ (clK t N q = 4 ∧ wdM t N q 5 = true) ∨ (clK t N q = 5 ∧ wdM t N q 6 = true) := by
  unfold clK
  by_cases w0 : wdM t N q 1 = true
  · rw [if_pos w0]
    exact Or.inr (Or.inl ⟨rfl, w0⟩)
  by_cases w1 : wdM t N q 2 = true
  · rw [if_neg w0, if_pos w1]
    exact Or.inr (Or.inr (Or.inl ⟨rfl, w1⟩))
  by_cases w2 : wdM t N q 3 = true
  · rw [if_neg w0, if_neg w1, if_pos w2]
    exact Or.inr (Or.inr (Or.inr (Or.inl ⟨rfl, w2⟩)))
  by_cases w3 : wdM t N q 4 = true
  · rw [if_neg w0, if_neg w1, if_neg w2, if_pos w3]
    exact Or.inr (Or.inr (Or.inr (Or.inr (Or.inl ⟨rfl, w3⟩))))
  by_cases w4 : wdM t N q 5 = true
  · rw [if_neg w0, if_neg w1, if_neg w2, if_neg w3, if_pos w4]
    exact Or.inr (Or.inr (Or.inr (Or.inr (Or.inr (Or.inl ⟨rfl, w4⟩)))))
  by_cases w5 : wdM t N q 6 = true
  · rw [if_neg w0, if_neg w1, if_neg w2, if_neg w3, if_neg w4, if_pos w5]
    exact Or.inr (Or.inr (Or.inr (Or.inr (Or.inr (Or.inr (⟨rfl, w5⟩))))))
  rw [if_neg w0, if_neg w1, if_neg w2, if_neg w3, if_neg w4, if_neg w5]
  exact Or.inl ⟨rfl, fun k => ⟨fun e => e ▸ w0, fun e => e ▸ w1, fun e => e ▸ w2, fun e => e ▸ w3, fun e => e ▸ w4, fun e => e ▸ w5⟩⟩
theorem sp_kindHere {t : Nat → Int32} {N p : Nat} {μ : Mem} (h : TxM t N p μ) (h0 : μ 57 5 = 0) : P_X10_kindHere μ ∧ F_X10_kindHere μ = clK t N (skp t N p) ∧ At t N (skp t N p) μ (M_X10_kindHere μ) := by
  obtain ⟨c1, c2, c3, c4⟩ := sp_blanks h
  have hq : skp t N (skp t N p) = skp t N p := skp_skp h.1 h.2.1
  unfold F_X10_kindHere M_X10_kindHere clK P_X10_kindHere
  obtain ⟨p0, f0, m0⟩ := sp_isWordM (k := 1) (p1 := 8) (p2 := 15) (p3 := 21) (p4 := 19) (p5 := 5) (p6 := 0) (p7 := 0) (by decide) (by decide) (fun _ => by unfold F_X10_seven VX10_seven_3 VX10_seven_2 VX10_seven_1; decide +kernel) h h0
  have a0 : At t N (skp t N p) μ (muX10_kindHere_1 μ) := by
    show At t N (skp t N p) μ (M_X10_isWord 8 15 21 19 5 0 0 μ)
    rw [m0]
    exact ⟨c2, c3, c4⟩
  by_cases w0 : wdM t N (skp t N p) 1 = true
  · have nz : ¬ F_X10_isWord 8 15 21 19 5 0 0 μ = 0 := by
      rw [f0, if_pos w0]
      decide
    refine ⟨⟨p0, fun z => absurd z nz, fun _ => trivial⟩, ?_, ?_⟩
    · rw [if_neg nz, if_pos w0]
    · rw [if_neg nz]
      exact a0
  have z0 : F_X10_isWord 8 15 21 19 5 0 0 μ = 0 := by rw [f0, if_neg w0]
  obtain ⟨p1, f1, a1⟩ := sp_isW (k := 2) (p1 := 20) (p2 := 8) (p3 := 9) (p4 := 14) (p5 := 7) (p6 := 0) (p7 := 0) (by decide) (by decide) (fun _ => by unfold F_X10_seven VX10_seven_3 VX10_seven_2 VX10_seven_1; decide +kernel) a0 h0 hq
  have a1' : At t N (skp t N p) μ (muX10_kindHere_2 μ) := a1
  clear a1
  have a1 := a1'
  by_cases w1 : wdM t N (skp t N p) 2 = true
  · have nz : ¬ F_X10_isWord 20 8 9 14 7 0 0 (muX10_kindHere_1 μ) = 0 := by
      rw [f1, if_pos w1]
      decide
    refine ⟨⟨p0, fun _ => ⟨p1, fun z => absurd z nz, fun _ => trivial⟩, fun _ => trivial⟩, ?_, ?_⟩
    · rw [if_pos z0, if_neg nz, if_neg w0, if_pos w1]
    · rw [if_pos z0, if_neg nz]
      exact a1
  have z1 : F_X10_isWord 20 8 9 14 7 0 0 (muX10_kindHere_1 μ) = 0 := by rw [f1, if_neg w1]
  obtain ⟨p2, f2, a2⟩ := sp_isW (k := 3) (p1 := 20) (p2 := 9) (p3 := 4) (p4 := 5) (p5 := 0) (p6 := 0) (p7 := 0) (by decide) (by decide) (fun _ => by unfold F_X10_seven VX10_seven_3 VX10_seven_2 VX10_seven_1; decide +kernel) a1 h0 hq
  have a2' : At t N (skp t N p) μ (muX10_kindHere_3 μ) := a2
  clear a2
  have a2 := a2'
  by_cases w2 : wdM t N (skp t N p) 3 = true
  · have nz : ¬ F_X10_isWord 20 9 4 5 0 0 0 (muX10_kindHere_2 μ) = 0 := by
      rw [f2, if_pos w2]
      decide
    refine ⟨⟨p0, fun _ => ⟨p1, fun _ => ⟨p2, fun z => absurd z nz, fun _ => trivial⟩, fun _ => trivial⟩, fun _ => trivial⟩, ?_, ?_⟩
    · rw [if_pos z0, if_pos z1, if_neg nz, if_neg w0, if_neg w1, if_pos w2]
    · rw [if_pos z0, if_pos z1, if_neg nz]
      exact a2
  have z2 : F_X10_isWord 20 9 4 5 0 0 0 (muX10_kindHere_2 μ) = 0 := by rw [f2, if_neg w2]
  obtain ⟨p3, f3, a3⟩ := sp_isW (k := 4) (p1 := 6) (p2 := 9) (p3 := 14) (p4 := 4) (p5 := 0) (p6 := 0) (p7 := 0) (by decide) (by decide) (fun _ => by unfold F_X10_seven VX10_seven_3 VX10_seven_2 VX10_seven_1; decide +kernel) a2 h0 hq
  have a3' : At t N (skp t N p) μ (muX10_kindHere_4 μ) := a3
  clear a3
  have a3 := a3'
  by_cases w3 : wdM t N (skp t N p) 4 = true
  · have nz : ¬ F_X10_isWord 6 9 14 4 0 0 0 (muX10_kindHere_3 μ) = 0 := by
      rw [f3, if_pos w3]
      decide
    refine ⟨⟨p0, fun _ => ⟨p1, fun _ => ⟨p2, fun _ => ⟨p3, fun z => absurd z nz, fun _ => trivial⟩, fun _ => trivial⟩, fun _ => trivial⟩, fun _ => trivial⟩, ?_, ?_⟩
    · rw [if_pos z0, if_pos z1, if_pos z2, if_neg nz, if_neg w0, if_neg w1, if_neg w2, if_pos w3]
    · rw [if_pos z0, if_pos z1, if_pos z2, if_neg nz]
      exact a3
  have z3 : F_X10_isWord 6 9 14 4 0 0 0 (muX10_kindHere_3 μ) = 0 := by rw [f3, if_neg w3]
  obtain ⟨p4, f4, a4⟩ := sp_isW (k := 5) (p1 := 18) (p2 := 5) (p3 := 14) (p4 := 20) (p5 := 0) (p6 := 0) (p7 := 0) (by decide) (by decide) (fun _ => by unfold F_X10_seven VX10_seven_3 VX10_seven_2 VX10_seven_1; decide +kernel) a3 h0 hq
  have a4' : At t N (skp t N p) μ (muX10_kindHere_5 μ) := a4
  clear a4
  have a4 := a4'
  by_cases w4 : wdM t N (skp t N p) 5 = true
  · have nz : ¬ F_X10_isWord 18 5 14 20 0 0 0 (muX10_kindHere_4 μ) = 0 := by
      rw [f4, if_pos w4]
      decide
    refine ⟨⟨p0, fun _ => ⟨p1, fun _ => ⟨p2, fun _ => ⟨p3, fun _ => ⟨p4, fun z => absurd z nz, fun _ => trivial⟩, fun _ => trivial⟩, fun _ => trivial⟩, fun _ => trivial⟩, fun _ => trivial⟩, ?_, ?_⟩
    · rw [if_pos z0, if_pos z1, if_pos z2, if_pos z3, if_neg nz, if_neg w0, if_neg w1, if_neg w2, if_neg w3, if_pos w4]
    · rw [if_pos z0, if_pos z1, if_pos z2, if_pos z3, if_neg nz]
      exact a4
  have z4 : F_X10_isWord 18 5 14 20 0 0 0 (muX10_kindHere_4 μ) = 0 := by rw [f4, if_neg w4]
  obtain ⟨p5, f5, a5⟩ := sp_isW (k := 6) (p1 := 18) (p2 := 15) (p3 := 16) (p4 := 5) (p5 := 0) (p6 := 0) (p7 := 0) (by decide) (by decide) (fun _ => by unfold F_X10_seven VX10_seven_3 VX10_seven_2 VX10_seven_1; decide +kernel) a4 h0 hq
  have a5' : At t N (skp t N p) μ (muX10_kindHere_6 μ) := a5
  clear a5
  have a5 := a5'
  by_cases w5 : wdM t N (skp t N p) 6 = true
  · have nz : ¬ F_X10_isWord 18 15 16 5 0 0 0 (muX10_kindHere_5 μ) = 0 := by
      rw [f5, if_pos w5]
      decide
    refine ⟨⟨p0, fun _ => ⟨p1, fun _ => ⟨p2, fun _ => ⟨p3, fun _ => ⟨p4, fun _ => p5, fun _ => trivial⟩, fun _ => trivial⟩, fun _ => trivial⟩, fun _ => trivial⟩, fun _ => trivial⟩, ?_, ?_⟩
    · rw [if_pos z0, if_pos z1, if_pos z2, if_pos z3, if_pos z4, if_neg nz, if_neg w0, if_neg w1, if_neg w2, if_neg w3, if_neg w4, if_pos w5]
    · rw [if_pos z0, if_pos z1, if_pos z2, if_pos z3, if_pos z4]
      exact a5
  have z5 : F_X10_isWord 18 15 16 5 0 0 0 (muX10_kindHere_5 μ) = 0 := by rw [f5, if_neg w5]
  refine ⟨⟨p0, fun _ => ⟨p1, fun _ => ⟨p2, fun _ => ⟨p3, fun _ => ⟨p4, fun _ => p5, fun _ => trivial⟩, fun _ => trivial⟩, fun _ => trivial⟩, fun _ => trivial⟩, fun _ => trivial⟩, ?_, ?_⟩
  · rw [if_pos z0, if_pos z1, if_pos z2, if_pos z3, if_pos z4, if_pos z5, if_neg w0, if_neg w1, if_neg w2, if_neg w3, if_neg w4, if_neg w5]
  · rw [if_pos z0, if_pos z1, if_pos z2, if_pos z3, if_pos z4]
    exact a5
def stK (t : Nat → Int32) (N q : Nat) : Int32 := (if wdM t N q 13 = true then 0 else (if wdM t N q 14 = true then 1 else (if wdM t N q 15 = true then 2 else (if wdM t N q 16 = true then 3 else (if wdM t N q 17 = true then 4 else (if wdM t N q 3 = true then 5 else (if wdM t N q 18 = true then 6 else (-1))))))))
theorem stK_no {t : Nat → Int32} {N q : Nat} (h : ltn t N q < 3) : stK t N q = -1 := by
  have u : ∀ j, j < 19 → j ≠ 0 → ¬ wdM t N q j = true := fun j j1 j2 j4 => by
    have := wd_ltn j1 j2 j4
    omega
  unfold stK
  rw [if_neg (u 13 (by decide) (by decide)), if_neg (u 14 (by decide) (by decide)), if_neg (u 15 (by decide) (by decide)), if_neg (u 16 (by decide) (by decide)), if_neg (u 17 (by decide) (by decide)), if_neg (u 3 (by decide) (by decide)), if_neg (u 18 (by decide) (by decide))]
theorem stK_of {t : Nat → Int32} {N q : Nat} : (stK t N q = -1 ∧ ∀ k, (k = 13 → ¬ wdM t N q k = true) ∧ (k = 14 → ¬ wdM t N q k = true) ∧ (k = 15 → ¬ wdM t N q k = true) ∧ (k = 16 → ¬ wdM t N q k = true) ∧ (k = 17 → ¬ wdM t N q k = true) ∧ (k = 3 → ¬ wdM t N q k = true) ∧ (k = 18 → ¬ wdM t N q k = true)) ∨ (stK t N q = 0 ∧ wdM t N q 13 = true) ∨ (stK t N q = 1 ∧ wdM t N q 14 = true) ∨ (stK t N q = 2 ∧ wdM t N q 15 = true) ∨ (stK t N q = 3 ∧ wdM t N q 16 = true) ∨ (stK t N q = 4 ∧ wdM t N q 17 = true) ∨ (stK t N q = 5 ∧ wdM t N q 3 = true) ∨ (stK t N q = 6 ∧ wdM t N q 18 = true) := by
  unfold stK
  by_cases w0 : wdM t N q 13 = true
  · rw [if_pos w0]
    exact Or.inr (Or.inl ⟨rfl, w0⟩)
  by_cases w1 : wdM t N q 14 = true
  · rw [if_neg w0, if_pos w1]
    exact Or.inr (Or.inr (Or.inl ⟨rfl, w1⟩))
  by_cases w2 : wdM t N q 15 = true
  · rw [if_neg w0, if_neg w1, if_pos w2]
    exact Or.inr (Or.inr (Or.inr (Or.inl ⟨rfl, w2⟩)))
  by_cases w3 : wdM t N q 16 = true
  · rw [if_neg w0, if_neg w1, if_neg w2, if_pos w3]
    exact Or.inr (Or.inr (Or.inr (Or.inr (Or.inl ⟨rfl, w3⟩))))
  by_cases w4 : wdM t N q 17 = true
  · rw [if_neg w0, if_neg w1, if_neg w2, if_neg w3, if_pos w4]
    exact Or.inr (Or.inr (Or.inr (Or.inr (Or.inr (Or.inl ⟨rfl, w4⟩)))))
  by_cases w5 : wdM t N q 3 = true
  · rw [if_neg w0, if_neg w1, if_neg w2, if_neg w3, if_neg w4, if_pos w5]
    exact Or.inr (Or.inr (Or.inr (Or.inr (Or.inr (Or.inr (Or.inl ⟨rfl, w5⟩))))))
  by_cases w6 : wdM t N q 18 = true
  · rw [if_neg w0, if_neg w1, if_neg w2, if_neg w3, if_neg w4, if_neg w5, if_pos w6]
    exact Or.inr (Or.inr (Or.inr (Or.inr (Or.inr (Or.inr (Or.inr (⟨rfl, w6⟩)))))))
  rw [if_neg w0, if_neg w1, if_neg w2, if_neg w3, if_neg w4, if_neg w5, if_neg w6]
  exact Or.inl ⟨rfl, fun k => ⟨fun e => e ▸ w0, fun e => e ▸ w1, fun e => e ▸ w2, fun e => e ▸ w3, fun e => e ▸ w4, fun e => e ▸ w5, fun e => e ▸ w6⟩⟩
theorem sp_stepHere {t : Nat → Int32} {N p : Nat} {μ : Mem} (h : TxM t N p μ) (h0 : μ 57 5 = 0) : P_X10_stepHere μ ∧ F_X10_stepHere μ = stK t N (skp t N p) ∧ At t N (skp t N p) μ (M_X10_stepHere μ) := by
  obtain ⟨c1, c2, c3, c4⟩ := sp_blanks h
  have hq : skp t N (skp t N p) = skp t N p := skp_skp h.1 h.2.1
  unfold F_X10_stepHere M_X10_stepHere stK P_X10_stepHere
  obtain ⟨p0, f0, m0⟩ := sp_isWordM (k := 13) (p1 := 12) (p2 := 9) (p3 := 6) (p4 := 20) (p5 := 0) (p6 := 0) (p7 := 0) (by decide) (by decide) (fun _ => by unfold F_X10_seven VX10_seven_3 VX10_seven_2 VX10_seven_1; decide +kernel) h h0
  have a0 : At t N (skp t N p) μ (muX10_stepHere_1 μ) := by
    show At t N (skp t N p) μ (M_X10_isWord 12 9 6 20 0 0 0 μ)
    rw [m0]
    exact ⟨c2, c3, c4⟩
  by_cases w0 : wdM t N (skp t N p) 13 = true
  · have nz : ¬ F_X10_isWord 12 9 6 20 0 0 0 μ = 0 := by
      rw [f0, if_pos w0]
      decide
    refine ⟨⟨p0, fun z => absurd z nz, fun _ => trivial⟩, ?_, ?_⟩
    · rw [if_neg nz, if_pos w0]
    · rw [if_neg nz]
      exact a0
  have z0 : F_X10_isWord 12 9 6 20 0 0 0 μ = 0 := by rw [f0, if_neg w0]
  obtain ⟨p1, f1, a1⟩ := sp_isW (k := 14) (p1 := 12) (p2 := 15) (p3 := 23) (p4 := 5) (p5 := 18) (p6 := 0) (p7 := 0) (by decide) (by decide) (fun _ => by unfold F_X10_seven VX10_seven_3 VX10_seven_2 VX10_seven_1; decide +kernel) a0 h0 hq
  have a1' : At t N (skp t N p) μ (muX10_stepHere_2 μ) := a1
  clear a1
  have a1 := a1'
  by_cases w1 : wdM t N (skp t N p) 14 = true
  · have nz : ¬ F_X10_isWord 12 15 23 5 18 0 0 (muX10_stepHere_1 μ) = 0 := by
      rw [f1, if_pos w1]
      decide
    refine ⟨⟨p0, fun _ => ⟨p1, fun z => absurd z nz, fun _ => trivial⟩, fun _ => trivial⟩, ?_, ?_⟩
    · rw [if_pos z0, if_neg nz, if_neg w0, if_pos w1]
    · rw [if_pos z0, if_neg nz]
      exact a1
  have z1 : F_X10_isWord 12 15 23 5 18 0 0 (muX10_stepHere_1 μ) = 0 := by rw [f1, if_neg w1]
  obtain ⟨p2, f2, a2⟩ := sp_isW (k := 15) (p1 := 20) (p2 := 9) (p3 := 5) (p4 := 0) (p5 := 0) (p6 := 0) (p7 := 0) (by decide) (by decide) (fun _ => by unfold F_X10_seven VX10_seven_3 VX10_seven_2 VX10_seven_1; decide +kernel) a1 h0 hq
  have a2' : At t N (skp t N p) μ (muX10_stepHere_3 μ) := a2
  clear a2
  have a2 := a2'
  by_cases w2 : wdM t N (skp t N p) 15 = true
  · have nz : ¬ F_X10_isWord 20 9 5 0 0 0 0 (muX10_stepHere_2 μ) = 0 := by
      rw [f2, if_pos w2]
      decide
    refine ⟨⟨p0, fun _ => ⟨p1, fun _ => ⟨p2, fun z => absurd z nz, fun _ => trivial⟩, fun _ => trivial⟩, fun _ => trivial⟩, ?_, ?_⟩
    · rw [if_pos z0, if_pos z1, if_neg nz, if_neg w0, if_neg w1, if_pos w2]
    · rw [if_pos z0, if_pos z1, if_neg nz]
      exact a2
  have z2 : F_X10_isWord 20 9 5 0 0 0 0 (muX10_stepHere_2 μ) = 0 := by rw [f2, if_neg w2]
  obtain ⟨p3, f3, a3⟩ := sp_isW (k := 16) (p1 := 21) (p2 := 14) (p3 := 20) (p4 := 9) (p5 := 5) (p6 := 0) (p7 := 0) (by decide) (by decide) (fun _ => by unfold F_X10_seven VX10_seven_3 VX10_seven_2 VX10_seven_1; decide +kernel) a2 h0 hq
  have a3' : At t N (skp t N p) μ (muX10_stepHere_4 μ) := a3
  clear a3
  have a3 := a3'
  by_cases w3 : wdM t N (skp t N p) 16 = true
  · have nz : ¬ F_X10_isWord 21 14 20 9 5 0 0 (muX10_stepHere_3 μ) = 0 := by
      rw [f3, if_pos w3]
      decide
    refine ⟨⟨p0, fun _ => ⟨p1, fun _ => ⟨p2, fun _ => ⟨p3, fun z => absurd z nz, fun _ => trivial⟩, fun _ => trivial⟩, fun _ => trivial⟩, fun _ => trivial⟩, ?_, ?_⟩
    · rw [if_pos z0, if_pos z1, if_pos z2, if_neg nz, if_neg w0, if_neg w1, if_neg w2, if_pos w3]
    · rw [if_pos z0, if_pos z1, if_pos z2, if_neg nz]
      exact a3
  have z3 : F_X10_isWord 21 14 20 9 5 0 0 (muX10_stepHere_3 μ) = 0 := by rw [f3, if_neg w3]
  obtain ⟨p4, f4, a4⟩ := sp_isW (k := 17) (p1 := 2) (p2 := 1) (p3 := 7) (p4 := 0) (p5 := 0) (p6 := 0) (p7 := 0) (by decide) (by decide) (fun _ => by unfold F_X10_seven VX10_seven_3 VX10_seven_2 VX10_seven_1; decide +kernel) a3 h0 hq
  have a4' : At t N (skp t N p) μ (muX10_stepHere_5 μ) := a4
  clear a4
  have a4 := a4'
  by_cases w4 : wdM t N (skp t N p) 17 = true
  · have nz : ¬ F_X10_isWord 2 1 7 0 0 0 0 (muX10_stepHere_4 μ) = 0 := by
      rw [f4, if_pos w4]
      decide
    refine ⟨⟨p0, fun _ => ⟨p1, fun _ => ⟨p2, fun _ => ⟨p3, fun _ => ⟨p4, fun z => absurd z nz, fun _ => trivial⟩, fun _ => trivial⟩, fun _ => trivial⟩, fun _ => trivial⟩, fun _ => trivial⟩, ?_, ?_⟩
    · rw [if_pos z0, if_pos z1, if_pos z2, if_pos z3, if_neg nz, if_neg w0, if_neg w1, if_neg w2, if_neg w3, if_pos w4]
    · rw [if_pos z0, if_pos z1, if_pos z2, if_pos z3, if_neg nz]
      exact a4
  have z4 : F_X10_isWord 2 1 7 0 0 0 0 (muX10_stepHere_4 μ) = 0 := by rw [f4, if_neg w4]
  obtain ⟨p5, f5, a5⟩ := sp_isW (k := 3) (p1 := 20) (p2 := 9) (p3 := 4) (p4 := 5) (p5 := 0) (p6 := 0) (p7 := 0) (by decide) (by decide) (fun _ => by unfold F_X10_seven VX10_seven_3 VX10_seven_2 VX10_seven_1; decide +kernel) a4 h0 hq
  have a5' : At t N (skp t N p) μ (muX10_stepHere_6 μ) := a5
  clear a5
  have a5 := a5'
  by_cases w5 : wdM t N (skp t N p) 3 = true
  · have nz : ¬ F_X10_isWord 20 9 4 5 0 0 0 (muX10_stepHere_5 μ) = 0 := by
      rw [f5, if_pos w5]
      decide
    refine ⟨⟨p0, fun _ => ⟨p1, fun _ => ⟨p2, fun _ => ⟨p3, fun _ => ⟨p4, fun _ => ⟨p5, fun z => absurd z nz, fun _ => trivial⟩, fun _ => trivial⟩, fun _ => trivial⟩, fun _ => trivial⟩, fun _ => trivial⟩, fun _ => trivial⟩, ?_, ?_⟩
    · rw [if_pos z0, if_pos z1, if_pos z2, if_pos z3, if_pos z4, if_neg nz, if_neg w0, if_neg w1, if_neg w2, if_neg w3, if_neg w4, if_pos w5]
    · rw [if_pos z0, if_pos z1, if_pos z2, if_pos z3, if_pos z4, if_neg nz]
      exact a5
  have z5 : F_X10_isWord 20 9 4 5 0 0 0 (muX10_stepHere_5 μ) = 0 := by rw [f5, if_neg w5]
  obtain ⟨p6, f6, a6⟩ := sp_isW (k := 18) (p1 := 1) (p2 := 7) (p3 := 1) (p4 := 9) (p5 := 14) (p6 := 0) (p7 := 0) (by decide) (by decide) (fun _ => by unfold F_X10_seven VX10_seven_3 VX10_seven_2 VX10_seven_1; decide +kernel) a5 h0 hq
  have a6' : At t N (skp t N p) μ (muX10_stepHere_7 μ) := a6
  clear a6
  have a6 := a6'
  by_cases w6 : wdM t N (skp t N p) 18 = true
  · have nz : ¬ F_X10_isWord 1 7 1 9 14 0 0 (muX10_stepHere_6 μ) = 0 := by
      rw [f6, if_pos w6]
      decide
    refine ⟨⟨p0, fun _ => ⟨p1, fun _ => ⟨p2, fun _ => ⟨p3, fun _ => ⟨p4, fun _ => ⟨p5, fun _ => p6, fun _ => trivial⟩, fun _ => trivial⟩, fun _ => trivial⟩, fun _ => trivial⟩, fun _ => trivial⟩, fun _ => trivial⟩, ?_, ?_⟩
    · rw [if_pos z0, if_pos z1, if_pos z2, if_pos z3, if_pos z4, if_pos z5, if_neg nz, if_neg w0, if_neg w1, if_neg w2, if_neg w3, if_neg w4, if_neg w5, if_pos w6]
    · rw [if_pos z0, if_pos z1, if_pos z2, if_pos z3, if_pos z4, if_pos z5]
      exact a6
  have z6 : F_X10_isWord 1 7 1 9 14 0 0 (muX10_stepHere_6 μ) = 0 := by rw [f6, if_neg w6]
  refine ⟨⟨p0, fun _ => ⟨p1, fun _ => ⟨p2, fun _ => ⟨p3, fun _ => ⟨p4, fun _ => ⟨p5, fun _ => p6, fun _ => trivial⟩, fun _ => trivial⟩, fun _ => trivial⟩, fun _ => trivial⟩, fun _ => trivial⟩, fun _ => trivial⟩, ?_, ?_⟩
  · rw [if_pos z0, if_pos z1, if_pos z2, if_pos z3, if_pos z4, if_pos z5, if_pos z6, if_neg w0, if_neg w1, if_neg w2, if_neg w3, if_neg w4, if_neg w5, if_neg w6]
  · rw [if_pos z0, if_pos z1, if_pos z2, if_pos z3, if_pos z4, if_pos z5]
    exact a6
theorem sp_kindOf {t : Nat → Int32} {N q : Nat} {μ : Mem} (h : WdC t N q μ) : P_X6_kindOf μ ∧ F_X6_kindOf μ = stK t N q := by
  have w : ∀ k, k < 19 → k ≠ 0 → P_X8_isWord k μ ∧ F_X8_isWord k μ = if wdM t N q k = true then 1 else 0 := fun k a b => sp_isWordC a b h
  refine ⟨⟨(w 13 (by decide) (by decide)).1, fun _ => ⟨(w 14 (by decide) (by decide)).1, fun _ => ⟨(w 15 (by decide) (by decide)).1, fun _ => ⟨(w 16 (by decide) (by decide)).1, fun _ => ⟨(w 17 (by decide) (by decide)).1, fun _ => ⟨(w 3 (by decide) (by decide)).1, fun _ => (w 18 (by decide) (by decide)).1, fun _ => trivial⟩, fun _ => trivial⟩, fun _ => trivial⟩, fun _ => trivial⟩, fun _ => trivial⟩, fun _ => trivial⟩, ?_⟩
  unfold F_X6_kindOf stK
  rw [(w 13 (by decide) (by decide)).2, (w 14 (by decide) (by decide)).2, (w 15 (by decide) (by decide)).2, (w 16 (by decide) (by decide)).2, (w 17 (by decide) (by decide)).2, (w 3 (by decide) (by decide)).2, (w 18 (by decide) (by decide)).2]
  generalize wdM t N q 13 = b13
  generalize wdM t N q 14 = b14
  generalize wdM t N q 15 = b15
  generalize wdM t N q 16 = b16
  generalize wdM t N q 17 = b17
  generalize wdM t N q 3 = b3
  generalize wdM t N q 18 = b18
  clear w
  revert b13 b14 b15 b16 b17 b3 b18
  decide +kernel
