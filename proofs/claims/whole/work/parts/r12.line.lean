/-! a line of stains, both sides -/
def slK (t : Nat → Int32) (N H : Nat) (w : Nat → Int32) (q : Nat) : Int32 :=
  if nmK t N q 0 (nI H - 1) ≠ 0 then nmK t N q 0 (nI H - 1) else if w (ix (nmV t N q)) ≠ -1 then 2 else if nmK t N (nmE t N q) 0 60 ≠ 0 then nmK t N (nmE t N q) 0 60 else if byt t N (skp t N (nmE t N (nmE t N q))) = 59 then 0 else 1
def slP (t : Nat → Int32) (N H : Nat) (w : Nat → Int32) (q : Nat) : Nat :=
  if nmK t N q 0 (nI H - 1) ≠ 0 then skp t N q else if w (ix (nmV t N q)) ≠ -1 then skp t N q else if nmK t N (nmE t N q) 0 60 ≠ 0 then skp t N (nmE t N q) else if byt t N (skp t N (nmE t N (nmE t N q))) = 59 then skp t N (nmE t N (nmE t N q)) + 1 else skp t N (nmE t N (nmE t N q))
theorem nmK_c {t : Nat → Int32} {N p : Nat} {lo hi : Int32} : nmK t N p lo hi = 0 ∨ nmK t N p lo hi = 1 ∨ nmK t N p lo hi = 2 := by
  unfold nmK
  split
  · split
    · exact Or.inr (Or.inr rfl)
    · split
      · exact Or.inl rfl
      · exact Or.inr (Or.inr rfl)
  · exact Or.inr (Or.inl rfl)
theorem nmK_ok {t : Nat → Int32} {N p : Nat} {lo hi : Int32} (h : nmK t N p lo hi = 0) : lo ≤ nmV t N p ∧ nmV t N p ≤ hi := by
  unfold nmK at h
  split at h
  · split at h
    · exact absurd h (by decide)
    · rename_i h1
      split at h
      · rename_i h2
        exact ⟨Int32.not_lt.mp h1, h2⟩
      · exact absurd h (by decide)
  · exact absurd h (by decide)
theorem nmK_el {t : Nat → Int32} {N p H : Nat} (hH : H < 2 ^ 31) (h : nmK t N p 0 (nI H - 1) = 0) : ∃ j, j < H ∧ nmV t N p = nI j := by
  obtain ⟨h1, h2⟩ := nmK_ok h
  exact inR_el hH (decide_eq_true ⟨h1, h2⟩)
theorem ne_m1 {x : Int32} (h : 0 ≤ x) : x ≠ -1 := fun q => by
  rw [q] at h
  exact absurd h (by decide)
theorem sp_failToken {k : Int32} {μ : Mem} : M_X8_failToken k μ 1 6 = k ∧ M_X8_failToken k μ 1 7 = μ 1 4 ∧ (∀ j, j ≠ 6 → j ≠ 7 → M_X8_failToken k μ 1 j = μ 1 j) ∧ ∀ q, q ≠ 1 → M_X8_failToken k μ q = μ q := by
  have e : M_X8_failToken k μ = upm (upm μ 1 6 k) 1 7 (μ 1 4) := by
    unfold M_X8_failToken muX8_failToken_2 muX8_failToken_1
    rw [upm_rr, if_neg (by decide)]
  rw [e]
  exact ⟨by simp [upm_rr], by simp [upm_rr], fun j h6 h7 => by rw [upm_rr, if_neg h7, upm_rr, if_neg h6], fun q hq => by rw [upm_other hq, upm_other hq]⟩
theorem sp_readLine {t : Nat → Int32} {N q H : Nat} {μ : Mem} (hH : H ≤ 6) (h : TxC t N q μ) : P_X2_readLine (nI H) μ ∧
    (slK t N H (μ 41) q = 0 → F_X2_readLine (nI H) μ = 1 ∧ TxC t N (slP t N H (μ 41) q) (M_X2_readLine (nI H) μ) ∧ (∀ k, k ≠ 3 → k ≠ 4 → k ≠ 5 → M_X2_readLine (nI H) μ 1 k = μ 1 k) ∧ M_X2_readLine (nI H) μ 40 2 = μ 40 2 + 1 ∧ (∀ k, M_X2_readLine (nI H) μ 41 k = if k = ix (nmV t N q) then nmV t N (nmE t N q) else μ 41 k)) ∧
    (slK t N H (μ 41) q ≠ 0 → F_X2_readLine (nI H) μ = 0 ∧ M_X2_readLine (nI H) μ 1 6 = slK t N H (μ 41) q ∧ M_X2_readLine (nI H) μ 1 7 = nI (slP t N H (μ 41) q) ∧ ∀ k, k ≠ 3 → k ≠ 4 → k ≠ 5 → k ≠ 6 → k ≠ 7 → M_X2_readLine (nI H) μ 1 k = μ 1 k) ∧
    ∀ r, r ≠ 1 → r ≠ 40 → r ≠ 41 → M_X2_readLine (nI H) μ r = μ r := by
  obtain ⟨p1, p2, p3, p4⟩ := sp_takeNumber (lo := 0) (hi := nI H - 1) h
  have e1 : muX2_readLine_1 (nI H) μ = M_X8_takeNumber 0 (nI H - 1) μ := rfl
  by_cases k1 : nmK t N q 0 (nI H - 1) = 0
  · obtain ⟨f1, f2, f3, f4, f5, f6⟩ := p2 k1
    obtain ⟨j, hj, ej⟩ := nmK_el (by omega) k1
    have fe : F_X8_takeNumber 0 (nI H - 1) μ = nI j := by rw [f1, ej]
    have ne : F_X8_takeNumber 0 (nI H - 1) μ ≠ -1 := by
      rw [f1]
      exact ne_m1 f2
    have at1 : F_X9_at 41 6 (F_X8_takeNumber 0 (nI H - 1) μ) (muX2_readLine_1 (nI H) μ) = μ 41 j := by
      rw [fe, at_k (by omega) (by decide), e1, p4 41 (by decide)]
    have ixj : ix (nmV t N q) = j := by rw [ej, nI_ix (by omega)]
    by_cases w : μ 41 j = -1
    · have w' : F_X9_at 41 6 (F_X8_takeNumber 0 (nI H - 1) μ) (muX2_readLine_1 (nI H) μ) = -1 := by rw [at1, w]
      rw [← e1] at f4
      obtain ⟨a1, a2, a3, a4⟩ := sp_takeNumber (lo := 0) (hi := 60) f4
      have e2 : muX2_readLine_2 (nI H) μ = M_X8_takeNumber 0 60 (muX2_readLine_1 (nI H) μ) := rfl
      rw [← e2] at a2 a3 a4
      by_cases k2 : nmK t N (nmE t N q) 0 60 = 0
      · obtain ⟨b1, b2, b3, b4, b5, b6⟩ := a2 k2
        have ne2 : F_X8_takeNumber 0 60 (muX2_readLine_1 (nI H) μ) ≠ -1 := by
          rw [b1]
          exact ne_m1 b2
        have e3 : muX2_readLine_3 (nI H) μ = upm (muX2_readLine_2 (nI H) μ) 41 j (nmV t N (nmE t N q)) := by
          unfold muX2_readLine_3
          rw [fe, b1, put_k (by omega) (by decide)]
        have e402 : muX2_readLine_2 (nI H) μ 40 = μ 40 := by rw [a4 40 (by decide), e1, p4 40 (by decide)]
        have e4 : muX2_readLine_4 (nI H) μ = upm (upm (muX2_readLine_2 (nI H) μ) 41 j (nmV t N (nmE t N q))) 40 2 (μ 40 2 + 1) := by
          unfold muX2_readLine_4
          rw [e3, upm_other (show (40 : Nat) ≠ 41 by decide), e402]
        have x4 : TxC t N (nmE t N (nmE t N q)) (muX2_readLine_4 (nI H) μ) := b4.mono (by rw [e4, upm_other (by decide), upm_other (by decide)]) (by rw [e4, upm_other (by decide), upm_other (by decide)]) (by rw [e4, upm_other (by decide), upm_other (by decide)])
        obtain ⟨c1, c2, c3, c4⟩ := sp_takeSign (c := 59) x4 (by decide)
        have hP : P_X2_readLine (nI H) μ := ⟨p1, fun _ => ⟨fun _ => ⟨a1, fun _ => c1, fun z => absurd z ne2⟩, fun z => absurd w' z⟩, fun z => absurd z ne⟩
        have hF : F_X2_readLine (nI H) μ = F_X8_takeSign 59 (muX2_readLine_4 (nI H) μ) := by
          unfold F_X2_readLine
          rw [if_pos ne, if_pos w', if_pos ne2]
        have hM : M_X2_readLine (nI H) μ = M_X8_takeSign 59 (muX2_readLine_4 (nI H) μ) := by
          unfold M_X2_readLine
          rw [if_pos ne, if_pos w', if_pos ne2]
          rfl
        have o4 : ∀ k, k ≠ 3 → k ≠ 4 → k ≠ 5 → muX2_readLine_4 (nI H) μ 1 k = μ 1 k := fun k q3 q4 q5 => by
          rw [e4, upm_other (by decide), upm_other (by decide), b6 k q3 q4 q5, e1, f6 k q3 q4 q5]
        have r4 : ∀ r, r ≠ 1 → r ≠ 40 → r ≠ 41 → muX2_readLine_4 (nI H) μ r = μ r := fun r q1 q2 q3 => by
          rw [e4, upm_other q2, upm_other q3, a4 r q1, e1, p4 r q1]
        refine ⟨hP, fun z => ?_, fun z => ?_, fun r q1 q2 q3 => by rw [hM, c4 r q1, r4 r q1 q2 q3]⟩
        · unfold slK at z
          rw [if_neg (not_not_intro k1), ixj, if_neg (not_not_intro w), if_neg (not_not_intro k2)] at z
          have y : byt t N (skp t N (nmE t N (nmE t N q))) = 59 := by
            refine Decidable.byContradiction fun y => ?_
            rw [if_neg y] at z
            exact absurd z (by decide)
          obtain ⟨d1, d2, d3⟩ := c2 y
          have eP : slP t N H (μ 41) q = skp t N (nmE t N (nmE t N q)) + 1 := by
            unfold slP
            rw [if_neg (not_not_intro k1), ixj, if_neg (not_not_intro w), if_neg (not_not_intro k2), if_pos y]
          rw [hF, hM, eP, ixj]
          refine ⟨d1, d2, fun k q3 q4 q5 => by rw [d3 k q3, o4 k q3 q4 q5], ?_, fun k => ?_⟩
          · rw [c4 40 (by decide), e4, upm_rr, if_pos rfl]
          · rw [c4 41 (by decide), e4, upm_other (show (41 : Nat) ≠ 40 by decide), upm_rr, a4 41 (by decide), e1, p4 41 (by decide)]
        · have y : byt t N (skp t N (nmE t N (nmE t N q))) ≠ 59 := by
            intro y
            apply z
            unfold slK
            rw [if_neg (not_not_intro k1), ixj, if_neg (not_not_intro w), if_neg (not_not_intro k2), if_pos y]
          have eK : slK t N H (μ 41) q = 1 := by
            unfold slK
            rw [if_neg (not_not_intro k1), ixj, if_neg (not_not_intro w), if_neg (not_not_intro k2), if_neg y]
          have eP : slP t N H (μ 41) q = skp t N (nmE t N (nmE t N q)) := by
            unfold slP
            rw [if_neg (not_not_intro k1), ixj, if_neg (not_not_intro w), if_neg (not_not_intro k2), if_neg y]
          obtain ⟨d1, d2, d3, d4⟩ := c3 y
          rw [hF, hM, eP, eK]
          exact ⟨d1, d2, d3, fun k q3 q4 q5 q6 q7 => by rw [d4 k q3 q6 q7, o4 k q3 q4 q5]⟩
      · obtain ⟨b1, b2, b3, b4⟩ := a3 k2
        have ne2 : ¬ F_X8_takeNumber 0 60 (muX2_readLine_1 (nI H) μ) ≠ -1 := not_not_intro b1
        have eK : slK t N H (μ 41) q = nmK t N (nmE t N q) 0 60 := by
          unfold slK
          rw [if_neg (not_not_intro k1), ixj, if_neg (not_not_intro w), if_pos k2]
        have eP : slP t N H (μ 41) q = skp t N (nmE t N q) := by
          unfold slP
          rw [if_neg (not_not_intro k1), ixj, if_neg (not_not_intro w), if_pos k2]
        have hF : F_X2_readLine (nI H) μ = 0 := by
          unfold F_X2_readLine
          rw [if_pos ne, if_pos w', if_neg ne2]
        have hM : M_X2_readLine (nI H) μ = muX2_readLine_2 (nI H) μ := by
          unfold M_X2_readLine
          rw [if_pos ne, if_pos w', if_neg ne2]
        rw [hF, hM, eK, eP]
        exact ⟨⟨p1, fun _ => ⟨fun _ => ⟨a1, fun z => absurd b1 z, fun _ => trivial⟩, fun z => absurd w' z⟩, fun z => absurd z ne⟩, fun z => absurd z k2, fun _ => ⟨rfl, b2, b3, fun k q3 q4 q5 q6 q7 => by rw [b4 k q3 q4 q5 q6 q7, e1, f6 k q3 q4 q5]⟩, fun r q1 q2 q3 => by rw [a4 r q1, e1, p4 r q1]⟩
    · have w' : ¬ F_X9_at 41 6 (F_X8_takeNumber 0 (nI H - 1) μ) (muX2_readLine_1 (nI H) μ) = -1 := by rw [at1]; exact w
      have eK : slK t N H (μ 41) q = 2 := by
        unfold slK
        rw [if_neg (not_not_intro k1), ixj, if_pos w]
      have eP : slP t N H (μ 41) q = skp t N q := by
        unfold slP
        rw [if_neg (not_not_intro k1), ixj, if_pos w]
      have hF : F_X2_readLine (nI H) μ = 0 := by
        unfold F_X2_readLine F_X8_failToken
        rw [if_pos ne, if_neg w']
      have hM : M_X2_readLine (nI H) μ = M_X8_failToken 2 (muX2_readLine_1 (nI H) μ) := by
        unfold M_X2_readLine
        rw [if_pos ne, if_neg w']
        rfl
      obtain ⟨g1, g2, g3, g4⟩ := sp_failToken (k := 2) (μ := muX2_readLine_1 (nI H) μ)
      rw [hF, hM, eK, eP]
      exact ⟨⟨p1, fun _ => ⟨fun z => absurd z w', fun _ => trivial⟩, fun z => absurd z ne⟩, fun z => absurd z (by decide), fun _ => ⟨rfl, g1, by rw [g2, e1, f5], fun k q3 q4 q5 q6 q7 => by rw [g3 k q6 q7, e1, f6 k q3 q4 q5]⟩, fun r q1 q2 q3 => by rw [g4 r q1, e1, p4 r q1]⟩
  · obtain ⟨f1, f2, f3, f4⟩ := p3 k1
    have ne : ¬ F_X8_takeNumber 0 (nI H - 1) μ ≠ -1 := not_not_intro f1
    have eK : slK t N H (μ 41) q = nmK t N q 0 (nI H - 1) := by
      unfold slK
      rw [if_pos k1]
    have eP : slP t N H (μ 41) q = skp t N q := by
      unfold slP
      rw [if_pos k1]
    have hF : F_X2_readLine (nI H) μ = 0 := by
      unfold F_X2_readLine
      rw [if_neg ne]
    have hM : M_X2_readLine (nI H) μ = muX2_readLine_1 (nI H) μ := by
      unfold M_X2_readLine
      rw [if_neg ne]
    rw [hF, hM, eK, eP]
    exact ⟨⟨p1, fun z => absurd f1 z, fun _ => trivial⟩, fun z => absurd z k1, fun _ => ⟨rfl, f2, f3, f4⟩, fun r q1 q2 q3 => p4 r q1⟩
/-- the reference's wrong, no fault so far -/
theorem sp_wrong {k a : Int32} {μ : Mem} (h0 : μ 57 5 = 0) : M_X10_wrong k a μ = upm (upm μ 57 5 k) 57 6 a := by
  unfold M_X10_wrong muX10_wrong_2 muX10_wrong_1
  rw [if_neg (not_not_intro h0)]
/-- .. a fault already -/
theorem sp_wrong_no {k a : Int32} {μ : Mem} (h0 : μ 57 5 ≠ 0) : M_X10_wrong k a μ = μ := by
  unfold M_X10_wrong
  rw [if_pos h0]
/-- a line, by the reference -/
theorem sp_lineM {t : Nat → Int32} {N q H i : Nat} {S : Int32 × Int32 × Mem} {v : Int32} {w : Nat → Int32} (hH : H ≤ 6) (h : TxM t N q S.2.2) (hq : skp t N q = q) (h0 : S.2.2 57 5 = 0) (h61 : S.2.2 61 0 = nI H) (hb : ∀ j, j < 6 → bitI S.2.1 j = decide (w j ≠ -1)) (hi : slK t N H w q = 0 → i < 6) (hqN : q < N) (hi6 : i ≤ 6) (hm : S.1 = nI i) :
    Cb_X10_stains_48 v i S = true ∧ Pb_X10_stains_48 v i S ∧
    (slK t N H w q = 0 → VX10_stains_48_8 v i S = nI (i + 1) ∧ VX10_stains_48_9 v i S = S.2.1 ||| ((1 : Int32) <<< ((nmV t N q) &&& 31)) ∧ TxM t N (skp t N (slP t N H w q)) (muX10_stains_48_11 v i S) ∧ (∀ k, k ≠ 4 → muX10_stains_48_11 v i S 57 k = S.2.2 57 k) ∧ muX10_stains_48_11 v i S (432 + i) 0 = nmV t N q ∧ muX10_stains_48_11 v i S (432 + i) 1 = nmV t N (nmE t N q) ∧ ∀ r, r ≠ 57 → r ≠ 432 + i → muX10_stains_48_11 v i S r = S.2.2 r) ∧
    (slK t N H w q ≠ 0 → muX10_stains_48_11 v i S 57 5 = slK t N H w q ∧ muX10_stains_48_11 v i S 57 6 = nI (slP t N H w q) ∧ (∀ k, k ≠ 4 → k ≠ 5 → k ≠ 6 → muX10_stains_48_11 v i S 57 k = S.2.2 57 k) ∧ ∀ r, r ≠ 57 → muX10_stains_48_11 v i S r = S.2.2 r) := by
  have e57 : S.2.2 57 4 = nI q := h.2.2.2.1
  have hN := h.1
  have cb : ¬ S.2.2 57 2 ≤ S.2.2 57 4 := by
    rw [h.2.2.1, e57]
    exact nI_ge hqN (by omega)
  have hCb : Cb_X10_stains_48 v i S = true := by
    unfold Cb_X10_stains_48
    rw [if_neg (not_not_intro h0), if_neg cb]
  refine ⟨hCb, ?_⟩
  obtain ⟨p1, p2, p3, p4, p5, p6, p7⟩ := sp_number (lo := 0) (hi := nI H - 1) h h0
  have e1 : muX10_stains_48_1 v i S = M_X10_number 0 (nI H - 1) S.2.2 := by
    unfold muX10_stains_48_1
    rw [h61]
  -- a fault: the rest of the round does nothing
  have bad : ∀ x, VX10_stains_48_3 v i S = x → x 57 5 = slK t N H w q → slK t N H w q ≠ 0 → x 57 6 = nI (slP t N H w q) → (∃ p', TxM t N p' x) → (∀ k, k ≠ 4 → k ≠ 5 → k ≠ 6 → x 57 k = S.2.2 57 k) → (∀ r, r ≠ 57 → x r = S.2.2 r) → Pb_X10_stains_48 v i S ∧ muX10_stains_48_11 v i S 57 5 = slK t N H w q ∧ muX10_stains_48_11 v i S 57 6 = nI (slP t N H w q) ∧ (∀ k, k ≠ 4 → k ≠ 5 → k ≠ 6 → muX10_stains_48_11 v i S 57 k = S.2.2 57 k) ∧ ∀ r, r ≠ 57 → muX10_stains_48_11 v i S r = S.2.2 r := by
    intro x ex x5 xn x6 hx xk xr
    obtain ⟨p', hx⟩ := hx
    have n5 : x 57 5 ≠ 0 := by rw [x5]; exact xn
    obtain ⟨a1, a2, -⟩ := sp_number_no (lo := 0) (hi := 60) n5
    obtain ⟨b1, b2⟩ := sp_sign_no (c := 59) n5
    obtain ⟨c1, c2, c3, c4⟩ := sp_blanks hx
    have y4 : muX10_stains_48_4 v i S = x := by
      unfold muX10_stains_48_4
      rw [ex, a2]
    have y5 : muX10_stains_48_5 v i S = x := by
      unfold muX10_stains_48_5
      rw [y4, b2]
    have y10 : VX10_stains_48_10 v i S = x := by
      unfold VX10_stains_48_10
      rw [y5, if_pos n5]
    have y11 : muX10_stains_48_11 v i S = M_X10_blanks x := by
      unfold muX10_stains_48_11
      rw [y10]
    rw [y11]
    refine ⟨⟨fun z => absurd h0 z, fun _ => ⟨fun z => absurd z cb, fun _ => ⟨by rw [h61]; exact p1, by rw [ex]; exact a1, by rw [y4]; exact b1, ⟨by rw [y5]; exact ⟨fun _ => trivial, fun z => absurd z n5⟩, by rw [y10]; exact c1⟩⟩⟩⟩, ?_, ?_, fun k q4 q5 q6 => ?_, fun r hr => ?_⟩
    · rw [c4 5 (by decide), x5]
    · rw [c4 6 (by decide), x6]
    · rw [c4 k q4, xk k q4 q5 q6]
    · rw [c3 r hr, xr r hr]
  by_cases k1 : nmK t N q 0 (nI H - 1) = 0
  · obtain ⟨j, hj, ej⟩ := nmK_el (by omega) k1
    have ixj : ix (nmV t N q) = j := by rw [ej, nI_ix (by omega)]
    have z5 : M_X10_number 0 (nI H - 1) S.2.2 57 5 = 0 := by rw [p3, k1]
    have fe : F_X10_number 0 (nI H - 1) S.2.2 = nI j := by rw [(p4 k1).1, ej]
    have hs : F_X10_has S.2.1 (F_X10_number 0 ((S.2.2 61 0) - 1) S.2.2) (muX10_stains_48_1 v i S) = if w j ≠ -1 then 1 else 0 := by
      rw [h61, fe, has_eq, hb j (by omega)]
      by_cases y : w j ≠ -1
      · rw [decide_eq_true y, if_pos rfl, if_pos y]
      · rw [decide_eq_false y, if_neg (by decide), if_neg y]
    by_cases wj : w j = -1
    · have e3 : VX10_stains_48_3 v i S = M_X10_number 0 (nI H - 1) S.2.2 := by
        unfold VX10_stains_48_3
        rw [e1, if_neg (not_not_intro z5)]
        have hs' := hs
        rw [if_neg (not_not_intro wj), e1] at hs'
        exact if_pos hs'
      obtain ⟨a1, a2, a3, a4, a5, a6, a7⟩ := sp_number (lo := 0) (hi := 60) p2 z5
      have e4 : muX10_stains_48_4 v i S = M_X10_number 0 60 (M_X10_number 0 (nI H - 1) S.2.2) := by
        unfold muX10_stains_48_4
        rw [e3]
      by_cases k2 : nmK t N (nmE t N q) 0 60 = 0
      · have y5 : M_X10_number 0 60 (M_X10_number 0 (nI H - 1) S.2.2) 57 5 = 0 := by rw [a3, k2]
        obtain ⟨c1, c2, c3, c4⟩ := sp_sign (c := 59) a2 y5 (by decide)
        have e5 : muX10_stains_48_5 v i S = M_X10_sign 59 (M_X10_number 0 60 (M_X10_number 0 (nI H - 1) S.2.2)) := by
          unfold muX10_stains_48_5
          rw [e4]
        have o4 : ∀ k, k ≠ 4 → k ≠ 5 → k ≠ 6 → M_X10_number 0 60 (M_X10_number 0 (nI H - 1) S.2.2) 57 k = S.2.2 57 k := fun k q4 q5 q6 => by rw [a6 k q4 q5 q6, p6 k q4 q5 q6]
        have r4 : ∀ r, r ≠ 57 → M_X10_number 0 60 (M_X10_number 0 (nI H - 1) S.2.2) r = S.2.2 r := fun r hr => by rw [a7 r hr, p7 r hr]
        by_cases y : byt t N (skp t N (nmE t N (nmE t N q))) = 59
        · obtain ⟨d1, d2⟩ := c2 y
          have eK : slK t N H w q = 0 := by
            unfold slK
            rw [if_neg (not_not_intro k1), ixj, if_neg (not_not_intro wj), if_neg (not_not_intro k2), if_pos y]
          have eP : slP t N H w q = skp t N (nmE t N (nmE t N q)) + 1 := by
            unfold slP
            rw [if_neg (not_not_intro k1), ixj, if_neg (not_not_intro wj), if_neg (not_not_intro k2), if_pos y]
          have i6 := hi eK
          have n5 : muX10_stains_48_5 v i S 57 5 = 0 := by rw [e5, d2 5 (by decide), y5]
          have ixi : ix (nI i) = i := nI_ix (by omega)
          have e7 : VX10_stains_48_10 v i S = upm (upm (muX10_stains_48_5 v i S) (432 + i) 0 (nmV t N q)) (432 + i) 1 (nmV t N (nmE t N q)) := by
            unfold VX10_stains_48_10
            rw [if_neg (not_not_intro n5)]
            unfold muX10_stains_48_7 muX10_stains_48_6
            rw [e3, (a4 k2).1, h61, (p4 k1).1, hm, ixi]
          have x7 : TxM t N (slP t N H w q) (VX10_stains_48_10 v i S) := by
            rw [eP]
            refine d1.mono ?_ ?_ ?_
            · rw [e7, upm_other (by omega), upm_other (by omega), e5]
            · rw [e7, upm_other (by omega), upm_other (by omega), e5]
            · rw [e7, upm_other (by omega), upm_other (by omega), e5]
          obtain ⟨b1, b2, b3, b4⟩ := sp_blanks x7
          have y11 : muX10_stains_48_11 v i S = M_X10_blanks (VX10_stains_48_10 v i S) := rfl
          have vp : vp_in S.1 6 := by rw [hm]; exact vp_in_nI i6 (by decide)
          refine ⟨⟨fun z => absurd h0 z, fun _ => ⟨fun z => absurd z cb, fun _ => ⟨by rw [h61]; exact p1, by rw [e3]; exact a1, by rw [e4]; exact c1, ⟨⟨fun z => absurd n5 z, fun _ => ⟨vp, vp⟩⟩, b1⟩⟩⟩⟩, fun _ => ⟨?_, ?_, ?_, fun k hk => ?_, ?_, ?_, fun r h1 h2 => ?_⟩, fun z => absurd eK z⟩
          · unfold VX10_stains_48_8
            rw [if_neg (not_not_intro n5), hm]
            exact (nI_succ i).symm
          · unfold VX10_stains_48_9
            rw [if_neg (not_not_intro n5), h61, (p4 k1).1]
          · rw [y11]
            exact b2
          · rw [y11, b4 k hk, e7, upm_other (by omega), upm_other (by omega), e5, d2 k hk]
            by_cases q5 : k = 5
            · rw [q5, y5, h0]
            · by_cases q6 : k = 6
              · rw [q6, (a4 k2).2, (p4 k1).2]
              · exact o4 k hk q5 q6
          · rw [y11, b3 _ (by omega), e7, upm_rr, if_neg (by decide), upm_rr, if_pos rfl]
          · rw [y11, b3 _ (by omega), e7, upm_rr, if_pos rfl]
          · rw [y11, b3 r h1, e7, upm_other h2, upm_other h2, e5, c4 r h1, r4 r h1]
        · obtain ⟨d1, d2, d3⟩ := c3 y
          have eK : slK t N H w q = 1 := by
            unfold slK
            rw [if_neg (not_not_intro k1), ixj, if_neg (not_not_intro wj), if_neg (not_not_intro k2), if_neg y]
          have eP : slP t N H w q = skp t N (nmE t N (nmE t N q)) := by
            unfold slP
            rw [if_neg (not_not_intro k1), ixj, if_neg (not_not_intro wj), if_neg (not_not_intro k2), if_neg y]
          have n5 : muX10_stains_48_5 v i S 57 5 ≠ 0 := by rw [e5, d1]; decide
          have y10 : VX10_stains_48_10 v i S = M_X10_sign 59 (M_X10_number 0 60 (M_X10_number 0 (nI H - 1) S.2.2)) := by
            unfold VX10_stains_48_10
            rw [if_pos n5, e5]
          have hx := sp_sign_tx (c := 59) a2 y5 y
          obtain ⟨b1, b2, b3, b4⟩ := sp_blanks hx
          have y11 : muX10_stains_48_11 v i S = M_X10_blanks (M_X10_sign 59 (M_X10_number 0 60 (M_X10_number 0 (nI H - 1) S.2.2))) := by
            unfold muX10_stains_48_11
            rw [y10]
          rw [eK, eP]
          refine ⟨⟨fun z => absurd h0 z, fun _ => ⟨fun z => absurd z cb, fun _ => ⟨by rw [h61]; exact p1, by rw [e3]; exact a1, by rw [e4]; exact c1, ⟨⟨fun _ => trivial, fun z => absurd z n5⟩, by rw [y10]; exact b1⟩⟩⟩⟩, fun z => absurd z (by decide), fun _ => ⟨?_, ?_, fun k q4 q5 q6 => ?_, fun r hr => ?_⟩⟩
          · rw [y11, b4 5 (by decide), d1]
          · rw [y11, b4 6 (by decide), d2]
          · rw [y11, b4 k q4, d3 k q4 q5 q6, o4 k q4 q5 q6]
          · rw [y11, b3 r hr, c4 r hr, r4 r hr]
      · obtain ⟨b1, b2⟩ := a5 k2
        have eK : slK t N H w q = nmK t N (nmE t N q) 0 60 := by
          unfold slK
          rw [if_neg (not_not_intro k1), ixj, if_neg (not_not_intro wj), if_pos k2]
        have eP : slP t N H w q = skp t N (nmE t N q) := by
          unfold slP
          rw [if_neg (not_not_intro k1), ixj, if_neg (not_not_intro wj), if_pos k2]
        have n4 : M_X10_number 0 60 (M_X10_number 0 (nI H - 1) S.2.2) 57 5 ≠ 0 := by rw [a3]; exact k2
        obtain ⟨c1, c2⟩ := sp_sign_no (c := 59) n4
        obtain ⟨d1, d2, d3, d4⟩ := sp_blanks a2
        have y5 : muX10_stains_48_5 v i S = M_X10_number 0 60 (M_X10_number 0 (nI H - 1) S.2.2) := by
          unfold muX10_stains_48_5
          rw [e4, c2]
        have y10 : VX10_stains_48_10 v i S = M_X10_number 0 60 (M_X10_number 0 (nI H - 1) S.2.2) := by
          unfold VX10_stains_48_10
          rw [y5, if_pos n4]
        have y11 : muX10_stains_48_11 v i S = M_X10_blanks (M_X10_number 0 60 (M_X10_number 0 (nI H - 1) S.2.2)) := by
          unfold muX10_stains_48_11
          rw [y10]
        rw [eK, eP]
        refine ⟨⟨fun z => absurd h0 z, fun _ => ⟨fun z => absurd z cb, fun _ => ⟨by rw [h61]; exact p1, by rw [e3]; exact a1, by rw [e4]; exact c1, ⟨by rw [y5]; exact ⟨fun _ => trivial, fun z => absurd z n4⟩, by rw [y10]; exact d1⟩⟩⟩⟩, fun z => absurd z k2, fun _ => ⟨?_, ?_, fun k q4 q5 q6 => ?_, fun r hr => ?_⟩⟩
        · rw [y11, d4 5 (by decide), a3]
        · rw [y11, d4 6 (by decide), b2]
        · rw [y11, d4 k q4, a6 k q4 q5 q6, p6 k q4 q5 q6]
        · rw [y11, d3 r hr, a7 r hr, p7 r hr]
    · have eK : slK t N H w q = 2 := by
        unfold slK
        rw [if_neg (not_not_intro k1), ixj, if_pos wj]
      have eP : slP t N H w q = skp t N q := by
        unfold slP
        rw [if_neg (not_not_intro k1), ixj, if_pos wj]
      have e3 : VX10_stains_48_3 v i S = upm (upm (M_X10_number 0 (nI H - 1) S.2.2) 57 5 2) 57 6 (nI q) := by
        have hs' := hs
        rw [if_pos wj, e1] at hs'
        unfold VX10_stains_48_3
        rw [e1, if_neg (not_not_intro z5)]
        have : ¬ F_X10_has S.2.1 (F_X10_number 0 ((S.2.2 61 0) - 1) S.2.2) (M_X10_number 0 (nI H - 1) S.2.2) = 0 := by rw [hs']; decide
        refine (if_neg this).trans ?_
        unfold muX10_stains_48_2
        rw [e1, sp_wrong z5]
        exact congrArg _ e57
      have r := bad _ e3 (by rw [eK]; simp [upm_rr]) (by rw [eK]; decide) (by rw [eP, hq]; simp [upm_rr]) ⟨_, p2.mono (by simp [upm_rr]) (by simp [upm_rr]) (by rw [upm_other (by decide), upm_other (by decide)])⟩ (fun k q4 q5 q6 => by rw [upm_rr, if_neg q6, upm_rr, if_neg q5, p6 k q4 q5 q6]) (fun r hr => by rw [upm_other hr, upm_other hr, p7 r hr])
      exact ⟨r.1, fun z => absurd (eK.symm.trans z) (by decide), fun _ => r.2⟩
  · have eK : slK t N H w q = nmK t N q 0 (nI H - 1) := by
      unfold slK
      rw [if_pos k1]
    have eP : slP t N H w q = skp t N q := by
      unfold slP
      rw [if_pos k1]
    have z5 : M_X10_number 0 (nI H - 1) S.2.2 57 5 ≠ 0 := by rw [p3]; exact k1
    have e3 : VX10_stains_48_3 v i S = M_X10_number 0 (nI H - 1) S.2.2 := by
      unfold VX10_stains_48_3
      rw [e1, if_pos z5]
    have r := bad _ e3 (by rw [eK, p3]) (by rw [eK]; exact k1) (by rw [eP, (p5 k1).2]) ⟨_, p2⟩ p6 p7
    exact ⟨r.1, fun z => absurd (eK.symm.trans z) k1, fun _ => r.2⟩
