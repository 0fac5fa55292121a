/-! the class's rounds over WORK's text -/
def CR (s0 : Mem) (n : Nat) (μc : Mem) : Prop := (∀ j, j < n → Cb_X6_read_12 j (fo j g_X6_read_12 s0) = true ∧ Pb_X6_read_12 j (fo j g_X6_read_12 s0)) ∧ μc = fo n g_X6_read_12 s0
/-- the last round, that faults -/
def Tl (n : Nat) (μc Mc : Mem) : Prop := Cb_X6_read_12 n μc = false ∧ n ≤ 150 ∧ P_X8_isEnded μc ∧
  ((F_X8_isEnded μc = 0 ∧ (0 < M_X8_isEnded μc 31 6 → P_X8_peek (M_X8_isEnded μc)) ∧
    ((VX6_read_12_3 n μc = 0 ∧ P_X6_readStep (VX6_read_12_4 n μc) ∧ F_X6_readStep (VX6_read_12_4 n μc) = 0 ∧ Mc = M_X6_readStep (VX6_read_12_4 n μc)) ∨
     (¬ VX6_read_12_3 n μc = 0 ∧ P_X6_readEnd (VX6_read_12_4 n μc) ∧ F_X6_readEnd (VX6_read_12_4 n μc) = 0 ∧ Mc = M_X6_readEnd (VX6_read_12_4 n μc)))) ∨
   (¬ F_X8_isEnded μc = 0 ∧ ¬ M_X8_isEnded μc 31 6 = 0 ∧ Mc = M_X8_failHere 1 (M_X8_isEnded μc)))
/-- the class looks at its next sign -/
theorem rd_look {t : Nat → Int32} {N p o n : Nat} {μc : Mem} (ho : TxO t N) (tc : TxC t N p μc) (hq : skp t N p < N) (h6 : μc 31 6 = nI o) (ho6 : o ≤ 6) :
    P_X8_isEnded μc ∧ F_X8_isEnded μc = 0 ∧ (0 < M_X8_isEnded μc 31 6 → P_X8_peek (M_X8_isEnded μc)) ∧ VX6_read_12_3 n μc = (if o ≠ 0 ∧ byt t N (skp t N p) = 93 then 1 else 0) ∧ TxC t N (skp t N p) (VX6_read_12_4 n μc) ∧ FC μc (VX6_read_12_4 n μc) := by
  obtain ⟨e1, e2, e3, e4, e5⟩ := sp_isEnded ho tc
  rw [if_pos hq] at e2
  have q1 : muX6_read_12_1 n μc = M_X8_isEnded μc := rfl
  have q2 : muX6_read_12_2 n μc = M_X8_peek (M_X8_isEnded μc) := rfl
  have e6 : M_X8_isEnded μc 31 6 = nI o := by rw [e4 31 (by decide), h6]
  have ss := skp_skp (t := t) tc.1 tc.2.1
  obtain ⟨p1, p2, p3, p4, p5⟩ := sp_peek e3
  rw [ss] at p2 p3
  have fce : FC μc (M_X8_isEnded μc) := ⟨fun k a _ _ => e5 k a, e4⟩
  have fcp : FC (M_X8_isEnded μc) (M_X8_peek (M_X8_isEnded μc)) := ⟨fun k a _ _ => p5 k a, p4⟩
  refine ⟨e1, e2, fun _ => p1, ?_⟩
  by_cases z : o = 0
  · have le : muX6_read_12_1 n μc 31 6 ≤ 0 := by
      rw [q1, e6, z]
      decide
    have v3 : VX6_read_12_3 n μc = 0 := by
      unfold VX6_read_12_3
      rw [if_pos le]
    have v4 : VX6_read_12_4 n μc = M_X8_isEnded μc := by
      unfold VX6_read_12_4
      rw [if_pos le, q1]
    rw [v3, v4, if_neg (fun y => y.1 z)]
    exact ⟨rfl, e3, fce⟩
  · have le : ¬ muX6_read_12_1 n μc 31 6 ≤ 0 := by
      rw [q1, e6]
      exact nI_nle (by omega) (by omega)
    have v4 : VX6_read_12_4 n μc = M_X8_peek (M_X8_isEnded μc) := by
      unfold VX6_read_12_4
      rw [if_neg le, q2]
    rw [v4]
    refine ⟨?_, p3, fce.trans fcp⟩
    unfold VX6_read_12_3
    rw [if_neg le, q1, p2]
    by_cases y : byt t N (skp t N p) = 93
    · rw [if_neg (not_not_intro y), if_pos ⟨z, y⟩]
    · rw [if_pos y, if_neg (fun w => y w.2)]
theorem cr_step {s0 μc : Mem} {n : Nat} (hc : CR s0 n μc) (hn : n ≤ 150) (e1 : P_X8_isEnded μc) (e2 : F_X8_isEnded μc = 0) (e3 : 0 < M_X8_isEnded μc 31 6 → P_X8_peek (M_X8_isEnded μc)) (v3 : VX6_read_12_3 n μc = 0) (hP : P_X6_readStep (VX6_read_12_4 n μc)) :
    (F_X6_readStep (VX6_read_12_4 n μc) ≠ 0 → CR s0 (n + 1) (M_X6_readStep (VX6_read_12_4 n μc))) ∧ (F_X6_readStep (VX6_read_12_4 n μc) = 0 → Tl n μc (M_X6_readStep (VX6_read_12_4 n μc))) := by
  have ne : ¬ (150 : Int32) < nI n := Int32.not_lt.mpr (nI_le (b := 150) hn (by omega))
  refine ⟨fun hF => ?_, fun hF => ?_⟩
  · have cb : Cb_X6_read_12 n μc = true := by
      unfold Cb_X6_read_12
      rw [if_neg ne, if_pos e2, if_pos v3, if_pos hF]
    have pb : Pb_X6_read_12 n μc := ⟨fun z => absurd z ne, fun _ => ⟨e1, fun _ => ⟨⟨fun _ => trivial, e3⟩, fun _ => ⟨hP, fun _ => trivial, fun z => absurd z hF⟩, fun z => absurd v3 z⟩, fun z => absurd e2 z⟩⟩
    refine ⟨fun j hj => ?_, ?_⟩
    · by_cases z : j = n
      · rw [z, ← hc.2]
        exact ⟨cb, pb⟩
      · exact hc.1 j (by omega)
    · rw [fo_succ, ← hc.2]
      unfold g_X6_read_12 muX6_read_12_5
      rw [if_pos v3]
  · refine ⟨?_, hn, e1, Or.inl ⟨e2, e3, Or.inl ⟨v3, hP, hF, rfl⟩⟩⟩
    unfold Cb_X6_read_12
    rw [if_neg ne, if_pos e2, if_pos v3, if_neg (not_not_intro hF)]
theorem cr_end {s0 μc : Mem} {n : Nat} (hc : CR s0 n μc) (hn : n ≤ 150) (e1 : P_X8_isEnded μc) (e2 : F_X8_isEnded μc = 0) (e3 : 0 < M_X8_isEnded μc 31 6 → P_X8_peek (M_X8_isEnded μc)) (v3 : ¬ VX6_read_12_3 n μc = 0) (hP : P_X6_readEnd (VX6_read_12_4 n μc)) :
    (F_X6_readEnd (VX6_read_12_4 n μc) ≠ 0 → CR s0 (n + 1) (M_X6_readEnd (VX6_read_12_4 n μc))) ∧ (F_X6_readEnd (VX6_read_12_4 n μc) = 0 → Tl n μc (M_X6_readEnd (VX6_read_12_4 n μc))) := by
  have ne : ¬ (150 : Int32) < nI n := Int32.not_lt.mpr (nI_le (b := 150) hn (by omega))
  refine ⟨fun hF => ?_, fun hF => ?_⟩
  · have cb : Cb_X6_read_12 n μc = true := by
      unfold Cb_X6_read_12
      rw [if_neg ne, if_pos e2, if_neg v3, if_pos hF]
    have pb : Pb_X6_read_12 n μc := ⟨fun z => absurd z ne, fun _ => ⟨e1, fun _ => ⟨⟨fun _ => trivial, e3⟩, fun z => absurd z v3, fun _ => ⟨hP, fun _ => trivial, fun z => absurd z hF⟩⟩, fun z => absurd e2 z⟩⟩
    refine ⟨fun j hj => ?_, ?_⟩
    · by_cases z : j = n
      · rw [z, ← hc.2]
        exact ⟨cb, pb⟩
      · exact hc.1 j (by omega)
    · rw [fo_succ, ← hc.2]
      unfold g_X6_read_12 muX6_read_12_6
      rw [if_neg v3]
  · refine ⟨?_, hn, e1, Or.inl ⟨e2, e3, Or.inr ⟨v3, hP, hF, rfl⟩⟩⟩
    unfold Cb_X6_read_12
    rw [if_neg ne, if_pos e2, if_neg v3, if_neg (not_not_intro hF)]
theorem cr_out {μc : Mem} {n : Nat} (hn : n ≤ 150) (e1 : P_X8_isEnded μc) (e2 : ¬ F_X8_isEnded μc = 0) (h6 : ¬ M_X8_isEnded μc 31 6 = 0) : Tl n μc (M_X8_failHere 1 (M_X8_isEnded μc)) := by
  have ne : ¬ (150 : Int32) < nI n := Int32.not_lt.mpr (nI_le (b := 150) hn (by omega))
  refine ⟨?_, hn, e1, Or.inr ⟨e2, h6, rfl⟩⟩
  unfold Cb_X6_read_12
  rw [if_neg ne, if_neg e2]
theorem read_N {μ μc : Mem} {n : Nat} (hc : CR (muX6_read_2 μ) n μc) (hn : n ≤ 150) (he : Cb_X6_read_12 n μc = false) : NX6_read_12 μ = n ∧ SX6_read_12 μ = μc := by
  have nC : NX6_read_12 μ = n := fst_eq (by omega) (by show (!Cb_X6_read_12 n (fo n g_X6_read_12 (muX6_read_2 μ))) = true; rw [← hc.2, he]; rfl) fun j hj => by
    show (!Cb_X6_read_12 j (fo j g_X6_read_12 (muX6_read_2 μ))) = false
    rw [(hc.1 j hj).1]
    rfl
  refine ⟨nC, ?_⟩
  unfold SX6_read_12
  rw [nC, ← hc.2]
/-- a text with a fault -/
theorem read_bad {μ μc Mc : Mem} {n : Nat} (hc : CR (muX6_read_2 μ) n μc) (ht : Tl n μc Mc) : P_X6_read μ ∧ F_X6_read μ = 0 ∧ M_X6_read μ = Mc := by
  obtain ⟨he, hn, e1, hcase⟩ := ht
  obtain ⟨nC, sC⟩ := read_N hc hn he
  have ne : ¬ (150 : Int32) < nI n := Int32.not_lt.mpr (nI_le (b := 150) hn (by omega))
  have e3 : muX6_read_3 μ = M_X8_isEnded μc := by
    unfold muX6_read_3
    rw [sC]
  have e5 : VX6_read_5 μ = VX6_read_12_3 n μc := by
    unfold VX6_read_5 VX6_read_12_3 muX6_read_12_1
    rw [e3]
  have e6 : VX6_read_6 μ = VX6_read_12_4 n μc := by
    unfold VX6_read_6 VX6_read_12_4 muX6_read_12_2 muX6_read_12_1 muX6_read_4
    rw [e3]
  have Pj : ∀ j, j < NX6_read_12 μ → Pb_X6_read_12 j (fo j g_X6_read_12 (muX6_read_2 μ)) := fun j hj => (hc.1 j (by rw [nC] at hj; exact hj)).2
  rcases hcase with ⟨e2, p3, ⟨v3, hP, hF, hM⟩ | ⟨v3, hP, hF, hM⟩⟩ | ⟨e2, h6, hM⟩
  · refine ⟨⟨Pj, fun _ => trivial, fun _ => ⟨by rw [sC]; exact e1, fun _ => ⟨⟨fun _ => trivial, fun z => by rw [e3] at z ⊢; exact p3 z⟩, fun _ => ⟨by rw [e6]; exact hP, fun z => absurd hF (by rw [e6] at z; exact z), fun _ => trivial⟩, fun z => absurd v3 (by rw [e5] at z; exact z)⟩, fun _ => trivial⟩⟩, ?_, ?_⟩
    · unfold F_X6_read
      rw [nC, if_neg ne, sC, if_pos e2]
    · unfold M_X6_read muX6_read_7
      rw [nC, if_neg ne, sC, if_pos e2, e5, if_pos v3, e6, hM]
  · refine ⟨⟨Pj, fun _ => trivial, fun _ => ⟨by rw [sC]; exact e1, fun _ => ⟨⟨fun _ => trivial, fun z => by rw [e3] at z ⊢; exact p3 z⟩, fun z => absurd z (by rw [e5]; exact v3), fun _ => ⟨by rw [e6]; exact hP, fun z => absurd hF (by rw [e6] at z; exact z), fun _ => trivial⟩⟩, fun _ => trivial⟩⟩, ?_, ?_⟩
    · unfold F_X6_read
      rw [nC, if_neg ne, sC, if_pos e2]
    · unfold M_X6_read muX6_read_8
      rw [nC, if_neg ne, sC, if_pos e2, e5, if_neg v3, e6, hM]
  · refine ⟨⟨Pj, fun _ => trivial, fun _ => ⟨by rw [sC]; exact e1, fun z => absurd z (by rw [sC]; exact e2), fun _ => trivial⟩⟩, ?_, ?_⟩
    · unfold F_X6_read
      rw [nC, if_neg ne, sC, if_neg e2, e3, if_neg h6]
      rfl
    · unfold M_X6_read muX6_read_9
      rw [nC, if_neg ne, sC, if_neg e2, e3, if_neg h6, hM]
/-- a text to its end -/
theorem read_good {μ μc : Mem} {n : Nat} (hc : CR (muX6_read_2 μ) n μc) (hn : n ≤ 150) (e1 : P_X8_isEnded μc) (e2 : ¬ F_X8_isEnded μc = 0) (h6 : M_X8_isEnded μc 31 6 = 0) : P_X6_read μ ∧ F_X6_read μ = 1 ∧ M_X6_read μ = M_X8_isEnded μc := by
  have ne : ¬ (150 : Int32) < nI n := Int32.not_lt.mpr (nI_le (b := 150) hn (by omega))
  obtain ⟨nC, sC⟩ := read_N hc hn (by unfold Cb_X6_read_12; rw [if_neg ne, if_neg e2])
  have e3 : muX6_read_3 μ = M_X8_isEnded μc := by
    unfold muX6_read_3
    rw [sC]
  refine ⟨⟨fun j hj => (hc.1 j (by rw [nC] at hj; exact hj)).2, fun _ => trivial, fun _ => ⟨by rw [sC]; exact e1, fun z => absurd z (by rw [sC]; exact e2), fun _ => trivial⟩⟩, ?_, ?_⟩
  · unfold F_X6_read
    rw [nC, if_neg ne, sC, if_neg e2, e3, if_pos h6]
  · unfold M_X6_read
    rw [nC, if_neg ne, sC, if_neg e2, e3, if_pos h6]
