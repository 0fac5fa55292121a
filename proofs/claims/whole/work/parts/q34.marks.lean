/-! in: the question -/
theorem hm0 (G : Nat → Nat) (n : Nat) : hmN G 0 n = 0 := by
  induction n with
  | zero => rfl
  | succ n ih => rw [hmN_s, Nat.zero_testBit, if_neg (by decide), ih]
def stB (E : EV) (r mk : Nat → Int32) (v : Nat) : Bool := fitB E r mk (hmN (gH E) v (eD E))
def stN (E : EV) (r mk : Nat → Int32) (v : Nat) : Nat := if stB E r mk v = true then 1 else 0
theorem st_count {E : EV} {r mk : Nat → Int32} (hO : EvOK E) : sumN (2 ^ eD E - 1) (fun j => stN E r mk (1 + j)) = sumN 61 fun g => ftN E r mk g * suN (gH E) (eD E) g := by
  have c := count_all (gH E) 61 (eD E) (fun t ht => by have := (eG_k hO ht).1; unfold gH; omega) (ftN E r mk)
  have hp := Nat.two_pow_pos (eD E)
  have e : 2 ^ eD E = 1 + (2 ^ eD E - 1) := by omega
  rw [e, sumN_add] at c
  have e1 : sumN 1 (fun v => ftN E r mk (hmN (gH E) v (eD E))) = ftN E r mk 0 := by
    show 0 + ftN E r mk (hmN (gH E) 0 (eD E)) = _
    rw [hm0, Nat.zero_add]
  rw [e1] at c
  exact Nat.add_left_cancel c
/-- a set that may have left the marks holds a tide that fits -/
theorem st_tide {E : EV} {r mk : Nat → Int32} {v : Nat} (h1 : 1 ≤ v) (h2 : v < 2 ^ eD E) (h : stB E r mk v = true) : ∃ t, t < eD E ∧ v.testBit t = true ∧ fitB E r mk (gH E t) = true := by
  have : ∃ t, t < eD E ∧ v.testBit t = true := by
    obtain ⟨t, ht⟩ := Nat.exists_testBit_of_ne_zero (show v ≠ 0 by omega)
    refine ⟨t, Nat.lt_of_not_le fun q => ?_, ht⟩
    rw [Nat.testBit_lt_two_pow (Nat.lt_of_lt_of_le h2 (Nat.pow_le_pow_right (by decide) q))] at ht
    cases ht
  obtain ⟨t, a, b, c⟩ := hm_att (gH E) v (eD E) this
  refine ⟨t, a, b, ?_⟩
  unfold stB at h
  rw [c] at h
  exact h
theorem st_one {E : EV} {r mk : Nat → Int32} {t : Nat} (ht : t < eD E) : stB E r mk (2 ^ t) = fitB E r mk (gH E t) := by
  unfold stB
  rw [hm_one _ ht]
def inJ (E : EV) (r mk : Nat → Int32) (i : Nat) (s : Int32 × Int32 × Int32) : Prop := s.1 = nI (sumN i fun j => stN E r mk (1 + j)) ∧
  ((sumN i (fun j => stN E r mk (1 + j)) = 0 ∧ s.2.1 = -1 ∧ ∀ v, 1 ≤ v → v ≤ i → ¬ stB E r mk v = true) ∨ (sumN i (fun j => stN E r mk (1 + j)) ≠ 0 ∧ ∃ m, 1 ≤ m ∧ m ≤ i ∧ stB E r mk m = true ∧ s.2.1 = nI m ∧ ∀ v, 1 ≤ v → v < m → ¬ stB E r mk v = true)) ∧
  ∀ k, k < 32 → (s.2.2.toBitVec.getLsbD k = true ↔ k < eD E ∧ ∀ v, 1 ≤ v → v ≤ i → stB E r mk v = true → v.testBit k = true)
theorem in_step {E : EV} {r mk : Nat → Int32} {i : Nat} {s : Int32 × Int32 × Int32} (hi : i < 4096) (h : inJ E r mk i s) : inJ E r mk (i + 1) (if stB E r mk (1 + i) = true then s.1 + 1 else s.1, if stB E r mk (1 + i) = true then (if s.1 ≠ 0 then s.2.1 else nI (1 + i)) else s.2.1, if stB E r mk (1 + i) = true then s.2.2 &&& nI (1 + i) else s.2.2) := by
  obtain ⟨h1, h2, h3⟩ := h
  have hle : sumN i (fun j => stN E r mk (1 + j)) ≤ i := sum_le _ _ fun j _ => by unfold stN; split <;> omega
  have es : sumN (i + 1) (fun j => stN E r mk (1 + j)) = sumN i (fun j => stN E r mk (1 + j)) + stN E r mk (1 + i) := rfl
  unfold inJ
  rw [es]
  generalize sumN i (fun j => stN E r mk (1 + j)) = c at *
  have c0' : s.1 ≠ 0 ↔ c ≠ 0 := by
    rw [h1]
    exact ⟨fun q z => q (by rw [z]; rfl), fun q z => q ((nI_eq (b := 0) (by omega) (by omega)).mp z)⟩
  unfold stN
  by_cases q : stB E r mk (1 + i) = true
  · rw [if_pos q, if_pos q, if_pos q, if_pos q]
    refine ⟨by rw [h1, nI_succ], Or.inr ⟨by omega, ?_⟩, fun k hk => ?_⟩
    · rcases h2 with ⟨z, -, n0⟩ | ⟨z, m, m1, m2, m3, m4, m5⟩
      · refine ⟨1 + i, by omega, by omega, q, ?_, fun v v1 v2 => n0 v v1 (by omega)⟩
        show (if s.1 ≠ 0 then s.2.1 else nI (1 + i)) = _
        rw [if_neg (fun y => (c0'.mp y) z)]
      · refine ⟨m, m1, by omega, m3, ?_, m5⟩
        show (if s.1 ≠ 0 then s.2.1 else nI (1 + i)) = _
        rw [if_pos (c0'.mpr z), m4]
    · show (s.2.2 &&& nI (1 + i)).toBitVec.getLsbD k = true ↔ _
      rw [Int32.toBitVec_and, BitVec.getLsbD_and, Bool.and_eq_true, h3 k hk, nIV _ k hk]
      constructor
      · intro ⟨⟨a, b⟩, d⟩
        refine ⟨a, fun v v1 v2 v3 => ?_⟩
        by_cases y : v = 1 + i
        · rw [y]
          exact d
        · exact b v v1 (by omega) v3
      · intro ⟨a, b⟩
        exact ⟨⟨a, fun v v1 v2 v3 => b v v1 (by omega) v3⟩, b (1 + i) (by omega) (by omega) q⟩
  · rw [if_neg q, if_neg q, if_neg q, if_neg q]
    refine ⟨h1, ?_, fun k hk => ?_⟩
    · rcases h2 with ⟨z, y, n0⟩ | ⟨z, m, m1, m2, m3, m4, m5⟩
      · refine Or.inl ⟨z, y, fun v v1 v2 => ?_⟩
        by_cases x : v = 1 + i
        · rw [x]
          exact q
        · exact n0 v v1 (by omega)
      · exact Or.inr ⟨z, m, m1, by omega, m3, m4, m5⟩
    · show s.2.2.toBitVec.getLsbD k = true ↔ _
      rw [h3 k hk]
      constructor
      · intro ⟨a, b⟩
        refine ⟨a, fun v v1 v2 v3 => ?_⟩
        by_cases y : v = 1 + i
        · rw [y] at v3
          exact absurd v3 q
        · exact b v v1 (by omega) v3
      · intro ⟨a, b⟩
        exact ⟨a, fun v v1 v2 v3 => b v v1 (by omega) v3⟩
/-- the two answers that speak of one set -/
theorem in_end {E : EV} {r mk : Nat → Int32} {s : Int32 × Int32 × Int32} (hO : EvOK E) (h : inJ E r mk (2 ^ eD E - 1) s) :
    s.2.1 = (if nI (ftS E r mk (eD E)) ≠ 0 then nI (ftS E r mk (eD E)) &&& (-(nI (ftS E r mk (eD E)))) else -1) ∧
    (if s.1 ≠ 0 then s.2.2 else 0) = (if (nI (ftS E r mk (eD E)) &&& (-(nI (ftS E r mk (eD E))))) ≠ nI (ftS E r mk (eD E)) then 0 else nI (ftS E r mk (eD E)) &&& (-(nI (ftS E r mk (eD E))))) := by
  obtain ⟨h1, h2, h3⟩ := h
  have hd := hO.1.2.2.1
  obtain ⟨f1, f2⟩ := ftS_lt E r mk (eD E)
  have hp := Nat.two_pow_pos (eD E)
  have hpl : 2 ^ eD E ≤ 2 ^ 12 := Nat.pow_le_pow_right (by decide) hd
  have hle : sumN (2 ^ eD E - 1) (fun j => stN E r mk (1 + j)) ≤ 2 ^ eD E - 1 := sum_le _ _ fun j _ => by unfold stN; split <;> omega
  generalize sumN (2 ^ eD E - 1) (fun j => stN E r mk (1 + j)) = c at *
  have c0' : s.1 ≠ 0 ↔ c ≠ 0 := by
    rw [h1]
    exact ⟨fun q z => q (by rw [z]; rfl), fun q z => q ((nI_eq (b := 0) (by omega) (by omega)).mp z)⟩
  by_cases q : ftS E r mk (eD E) = 0
  · have no : ∀ v, 1 ≤ v → v ≤ 2 ^ eD E - 1 → ¬ stB E r mk v = true := fun v v1 v2 z => by
      obtain ⟨t, t1, -, t3⟩ := st_tide v1 (by omega) z
      have := f2 t t1
      rw [q, Nat.zero_testBit, t3] at this
      cases this
    rcases h2 with ⟨z, y, -⟩ | ⟨z, m, m1, m2, m3, -⟩
    · rw [q, y, if_neg (show ¬ nI 0 ≠ 0 by decide), if_neg (fun x => (c0'.mp x) z), if_neg (by decide)]
      exact ⟨rfl, by decide⟩
    · exact absurd m3 (no m m1 m2)
  · have hlow := low_U (ftS E r mk (eD E)) (by omega) q
    have hz : ∃ t, t < eD E ∧ (ftS E r mk (eD E)).testBit t = true := by
      obtain ⟨t, ht⟩ := Nat.exists_testBit_of_ne_zero q
      refine ⟨t, Nat.lt_of_not_le fun y => ?_, ht⟩
      rw [Nat.testBit_lt_two_pow (Nat.lt_of_lt_of_le f1 (Nat.pow_le_pow_right (by decide) y))] at ht
      cases ht
    obtain ⟨t', a1, a2⟩ := hz
    have b1 : fst 12 (fun t => (ftS E r mk (eD E)).testBit t) ≤ t' := fst_lt (by omega) a2
    have b2 : (ftS E r mk (eD E)).testBit (fst 12 (fun t => (ftS E r mk (eD E)).testBit t)) = true := fst_hit (n := 12) (c := fun t => (ftS E r mk (eD E)).testBit t) (by omega)
    have b3 : ∀ j, j < fst 12 (fun t => (ftS E r mk (eD E)).testBit t) → (ftS E r mk (eD E)).testBit j = false := fun j hj => fst_min (n := 12) (c := fun t => (ftS E r mk (eD E)).testBit t) hj
    generalize fst 12 (fun t => (ftS E r mk (eD E)).testBit t) = t0 at *
    have ht0 : t0 < eD E := by omega
    have fit0 : fitB E r mk (gH E t0) = true := by rw [← f2 t0 ht0]; exact b2
    have st0 : stB E r mk (2 ^ t0) = true := by rw [st_one ht0]; exact fit0
    have p0 : 2 ^ t0 < 2 ^ eD E := Nat.pow_lt_pow_right (by decide) ht0
    have p1 : 1 ≤ 2 ^ t0 := Nat.two_pow_pos t0
    have n0 : nI (ftS E r mk (eD E)) ≠ 0 := fun z => q ((nI_eq (b := 0) (by omega) (by omega)).mp z)
    rcases h2 with ⟨z, y, no⟩ | ⟨z, m, m1, m2, m3, m4, m5⟩
    · exact absurd st0 (no _ p1 (by omega))
    · rw [if_pos n0, hlow, if_pos (c0'.mpr z)]
      refine ⟨?_, ?_⟩
      · rw [m4]
        refine congrArg nI (Nat.le_antisymm (Nat.le_of_not_lt fun y => m5 _ p1 y st0) ?_)
        obtain ⟨t, t1, t2, t3⟩ := st_tide m1 (by omega) m3
        have tt : t0 ≤ t := Nat.le_of_not_lt fun y => by
          have := b3 t y
          rw [f2 t t1, t3] at this
          cases this
        exact Nat.le_trans (Nat.pow_le_pow_right (by decide) tt) (Nat.ge_two_pow_of_testBit t2)
      · by_cases y : nI (2 ^ t0) = nI (ftS E r mk (eD E))
        · rw [if_neg (not_not_intro y)]
          have ef : 2 ^ t0 = ftS E r mk (eD E) := (nI_eq (by omega) (by omega)).mp y
          rw [← Int32.toBitVec_inj]
          apply BitVec.eq_of_getLsbD_eq
          intro k hk
          rw [nIV _ k hk]
          refine Bool.eq_iff_iff.mpr ((h3 k hk).trans ⟨fun ⟨w1, w2⟩ => w2 _ p1 (by omega) st0, fun w => ?_⟩)
          rw [Nat.testBit_two_pow] at w
          have w' : t0 = k := of_decide_eq_true w
          refine ⟨by omega, fun v v1 v2 v3 => ?_⟩
          obtain ⟨t, t1, t2, t3⟩ := st_tide v1 (by omega) v3
          have := f2 t t1
          rw [← ef, Nat.testBit_two_pow, t3] at this
          rw [← w', of_decide_eq_true this]
          exact t2
        · rw [if_pos y]
          rw [← Int32.toBitVec_inj]
          apply BitVec.eq_of_getLsbD_eq
          intro k hk
          have z0 : (0 : Int32).toBitVec.getLsbD k = false := BitVec.getLsbD_zero
          rw [z0]
          refine Bool.eq_false_iff.mpr fun w => y (congrArg nI ?_)
          obtain ⟨w1, w2⟩ := (h3 k hk).mp w
          have ek := w2 _ p1 (by omega) st0
          rw [Nat.testBit_two_pow] at ek
          have ek' : t0 = k := of_decide_eq_true ek
          apply Nat.eq_of_testBit_eq
          intro t
          rw [Nat.testBit_two_pow]
          by_cases x : t0 = t
          · rw [decide_eq_true x, ← x, b2]
          · rw [decide_eq_false x]
            refine (Bool.eq_false_iff.mpr fun u => x ?_).symm
            have ht : t < eD E := Nat.lt_of_not_le fun y' => by
              rw [Nat.testBit_lt_two_pow (Nat.lt_of_lt_of_le f1 (Nat.pow_le_pow_right (by decide) y'))] at u
              cases u
            have s1 : stB E r mk (2 ^ t) = true := by rw [st_one ht, ← f2 t ht]; exact u
            have := w2 _ (Nat.two_pow_pos t) (by have := Nat.pow_lt_pow_right (a := 2) (by decide) ht; omega) s1
            rw [Nat.testBit_two_pow] at this
            rw [ek']
            exact (of_decide_eq_true this).symm

theorem q_in {E : EV} {L : LW} {μ : Mem} (hI : Inv E L μ) (p1 : Int32) : Q w1 jI μ (K_X9_in p1 μ) (F_X9_in p1 μ) (M_X9_in p1 μ) (P_X9_in p1 μ) (F_X10_in p1) (M_X10_in p1) (P_X10_in p1) := by
  rcases gate_in hI p1 with ⟨h1, hK, s1, hg⟩ | h
  · have hO := hI.1
    have hE := hI.E
    have hS := hI.S
    obtain ⟨a, ha, e521, e44⟩ := hI.row
    have hd := hO.1
    obtain ⟨l1, l2⟩ := sp_setsLeft hE hO hS.1
    obtain ⟨l3, l4⟩ := sp_fittingTides hE hO hS.1
    refine Or.inl ⟨hK, ?_, ?_, fun ν hν => ?_⟩
    · unfold P_X9_in
      rw [s1]
      exact fun _ => ⟨fun _ => l3, fun _ => l1⟩
    · unfold M_X9_in
      rw [s1]
      exact KQ.rfl μ
    · obtain ⟨bp2, bf2, m3⟩ := hg ν hν
      have m1 : muX10_in_1 p1 ν = upm ν 57 0 0 := rfl
      obtain ⟨hI0, hk0⟩ := nu_of hI hν
      have r521 := hk0.at 521 (by omega)
      have hM := hI0.M
      have hd1 : eD E ≤ 12 := hO.1.2.2.1
      have hp := Nat.two_pow_pos (eD E)
      have hpl : 2 ^ eD E ≤ 2 ^ 12 := Nat.pow_le_pow_right (by decide) hd1
      have r38 := hk0.at 38 (by omega)
      have hMk := hI0.2.2.2.2.2.2.2.1
      have st : ∀ v, P_X10_isStained (nI v) (upm ν 57 0 0) ∧ F_X10_isStained (nI v) (upm ν 57 0 0) = if stB E (μ 521) (μ 38) v = true then 1 else 0 := fun v => by
        obtain ⟨q1, q2⟩ := sp_isStained (v := nI v) hM hO (by rw [r521]; exact hS.2.2) hMk
        rw [r521, r38, HM_nat v _ hd1] at q2
        exact ⟨q1, q2⟩
      have e612 : upm ν 57 0 0 61 2 = nI (eD E) := hM.2.2.1
      have key := fo_all (fun i (s : Int32 × Int32 × Int32) => inJ E (μ 521) (μ 38) i s) (Pb_X10_in_49 p1 (upm ν 57 0 0)) (2 ^ eD E - 1) (g_X10_in_49 p1 (upm ν 57 0 0)) (0, -1, nI (2 ^ eD E - 1))
        ⟨rfl, Or.inl ⟨rfl, rfl, fun v v1 v2 => absurd v1 (by omega)⟩, fun k hk => by
          show (nI (2 ^ eD E - 1)).toBitVec.getLsbD k = true ↔ _
          rw [nIV _ k hk, Nat.testBit_two_pow_sub_one]
          exact ⟨fun q => ⟨of_decide_eq_true q, fun v v1 v2 => absurd v1 (by omega)⟩, fun q => decide_eq_true q.1⟩⟩ (fun i hi s hs => by
        refine ⟨?_, ?_⟩
        · unfold Pb_X10_in_49
          rw [e612, shl_U _ hd1]
          exact ⟨fun q => absurd q (nI_ge (by omega) (by omega)), fun _ => (st _).1⟩
        · have := in_step (by omega) hs
          unfold g_X10_in_49 VX10_in_49_2 VX10_in_49_3 VX10_in_49_4 VX10_in_49_1
          rw [(st (1 + i)).2]
          by_cases q : stB E (μ 521) (μ 38) (1 + i) = true
          · rw [if_pos q, if_pos q, if_pos q] at this
            rw [if_pos q, if_pos (show (1 : Int32) ≠ 0 by decide), if_pos (show (1 : Int32) ≠ 0 by decide), if_pos (show (1 : Int32) ≠ 0 by decide)]
            exact this
          · rw [if_neg q, if_neg q, if_neg q] at this
            rw [if_neg q, if_neg (show ¬ (0 : Int32) ≠ 0 by decide), if_neg (show ¬ (0 : Int32) ≠ 0 by decide), if_neg (show ¬ (0 : Int32) ≠ 0 by decide)]
            exact this)
      obtain ⟨ky0, ky1⟩ := key
      have e0 : ((1 : Int32) <<< ((upm ν 57 0 0 61 2) &&& 31)) - 1 = nI (2 ^ eD E - 1) := by
        rw [e612, shl_U _ hd1]
        obtain ⟨x, hx⟩ : ∃ x, 2 ^ eD E = x + 1 := ⟨2 ^ eD E - 1, by omega⟩
        rw [hx, nI_pred, Nat.add_sub_cancel]
      have hN : NX10_in_49 p1 ν = 2 ^ eD E - 1 := by
        unfold NX10_in_49
        rw [m3, e612, nI_ix (by omega)]
      have hS' : SX10_in_49 p1 ν = fo (2 ^ eD E - 1) (g_X10_in_49 p1 (upm ν 57 0 0)) (0, -1, nI (2 ^ eD E - 1)) := by
        unfold SX10_in_49
        rw [hN, m3, e0]
      rw [← hS'] at ky1
      obtain ⟨z1, z2⟩ := in_end hO ky1
      have z0 := ky1.1
      rw [st_count hO] at z0
      obtain ⟨km1, km2, km3⟩ : KQ ν (M_X10_in p1 ν) ∧ M_X10_in p1 ν 57 0 = 0 ∧ M_X10_in p1 ν 548 0 = ν 548 0 := by
        unfold M_X10_in
        rw [m3]
        exact km (KM.rfl _)
      refine ⟨?_, ?_, km1, km2, km3⟩
      · unfold P_X10_in
        rw [m1, m3, hN, e0, e612, shl_U _ hd1, show 1 + (2 ^ eD E - 1) = 2 ^ eD E by omega]
        exact ⟨bp2, fun _ => ⟨ky0, fun _ => trivial, fun q => absurd q n_lt⟩, fun _ => trivial⟩
      · unfold F_X10_in F_X9_in
        rw [m1, if_pos bf2, s1, l2, l4, z2, z0, z1]
  · exact Or.inr h
theorem case_in {E : EV} {L : LW} {μ : Mem} (hI : Inv E L μ) (p1 : Int32) : P_W_21 p1 μ ∧ Inv E L (M_W_21 p1 μ) := by
  have h := wrapI (K_X9_in p1 μ) (F_X9_in p1 μ) (M_X9_in p1 μ) (P_X9_in p1 μ) (F_X10_in p1) (M_X10_in p1) (P_X10_in p1) hI (q_in hI p1)
  unfold P_W_21 M_W_21 muL_law_c21_2 muL_law_c21_1 M_L_in W_L_in F_X10_thrown
  exact h
