/-! a street opens: both sides -/
theorem sp_clear37 {μ : Mem} : P_X2_clear 37 μ ∧ M_X2_clear 37 μ 37 2 = 0 ∧ (∀ k, k < 6 → M_X2_clear 37 μ 38 k = -1) ∧ ∀ r, r ≠ 37 → r ≠ 38 → M_X2_clear 37 μ r = μ r := by
  have st : ∀ n, n ≤ 6 → fo n (g_X2_clear_7 37) (muX2_clear_1 37 μ) 37 2 = 0 ∧ (∀ k, k < n → fo n (g_X2_clear_7 37) (muX2_clear_1 37 μ) 38 k = -1) ∧ ∀ r, r ≠ 37 → r ≠ 38 → fo n (g_X2_clear_7 37) (muX2_clear_1 37 μ) r = μ r := by
    intro n
    induction n with
    | zero =>
      intro _
      have e : fo 0 (g_X2_clear_7 37) (muX2_clear_1 37 μ) = upm μ 37 2 0 := rfl
      rw [e]
      exact ⟨by simp [upm_rr], fun k hk => absurd hk (by omega), fun r a _ => by rw [upm_other a]⟩
    | succ n ih =>
      intro hn
      obtain ⟨i1, i2, i3⟩ := ih (by omega)
      have e : fo (n + 1) (g_X2_clear_7 37) (muX2_clear_1 37 μ) = upm (fo n (g_X2_clear_7 37) (muX2_clear_1 37 μ)) 38 n (-1) := put_k (by omega) (by decide)
      rw [e]
      refine ⟨by rw [upm_other (by decide), i1], fun k hk => ?_, fun r a b => by rw [upm_other b, i3 r a b]⟩
      rw [upm_rr]
      by_cases y : k = n
      · rw [if_pos y]
      · rw [if_neg y, i2 k (by omega)]
  obtain ⟨s1, s2, s3⟩ := st 6 (Nat.le_refl _)
  refine ⟨⟨fun j hj => ⟨fun z => absurd z (nI_ge (b := 6) hj (by omega)), fun _ => trivial⟩, fun _ => trivial, fun z => absurd z (show ¬ (nI 6 : Int32) < 6 by decide)⟩, s1, s2, s3⟩
/-- the row of the class as a street opens -/
def opC (E : EV) (k : Nat) : Int32 := if k < 10 then (if k < eT E then eX E k 0 else 0) else if 40 ≤ k ∧ k < 50 then (if k - 40 < eT E then eX E (k - 40) 3 else 0) else if 50 ≤ k ∧ k < 56 then (if k - 50 < eH E then eS E (k - 50) else 0) else 0
/-- the row of the reference as a street opens -/
def opM (E : EV) (k : Nat) : Int32 := if k < 10 then (if k < eT E then eX E k 0 else 0) else if 40 ≤ k ∧ k < 50 then (if k - 40 < eT E then eX E (k - 40) 3 else 0) else 0
theorem sp_openC {E : EV} {μ : Mem} (hE : EvC E μ) (hO : EvOK E) : P_X5_open 43 μ ∧ (∀ k, k < 69 → M_X5_open 43 μ 44 k = opC E k) ∧ ∀ r, r ≠ 44 → M_X5_open 43 μ r = μ r := by
  obtain ⟨e0, e1, -, -, -, -, e6, -, e8, -⟩ := hE
  have hH := hO.1.1
  have hT := hO.1.2.1
  -- all 0
  have s1 : ∀ n, n ≤ 69 → (∀ k, k < n → fo n (g_X5_open_2 43) μ 44 k = 0) ∧ ∀ r, r ≠ 44 → fo n (g_X5_open_2 43) μ r = μ r := by
    intro n
    induction n with
    | zero => exact fun _ => ⟨fun k hk => absurd hk (Nat.not_lt_zero _), fun _ _ => rfl⟩
    | succ n ih =>
      intro hn
      obtain ⟨i1, i2⟩ := ih (by omega)
      have e : fo (n + 1) (g_X5_open_2 43) μ = upm (fo n (g_X5_open_2 43) μ) 44 n 0 := put_k (by omega) (by decide)
      rw [e]
      refine ⟨fun k hk => ?_, fun r hr => by rw [upm_other hr, i2 r hr]⟩
      rw [upm_rr]
      by_cases y : k = n
      · rw [if_pos y]
      · rw [if_neg y, i1 k (by omega)]
  obtain ⟨a1, a2⟩ := s1 69 (Nat.le_refl _)
  have eA : SX5_open_2 43 μ = fo 69 (g_X5_open_2 43) μ := rfl
  -- the sills
  have s2 : ∀ n, n ≤ eH E → (∀ k, k < 69 → fo n (g_X5_open_25 43) (SX5_open_2 43 μ) 44 k = if 50 ≤ k ∧ k < 50 + n then eS E (k - 50) else 0) ∧ ∀ r, r ≠ 44 → fo n (g_X5_open_25 43) (SX5_open_2 43 μ) r = μ r := by
    intro n
    induction n with
    | zero =>
      intro _
      refine ⟨fun k hk => ?_, fun r hr => ?_⟩
      · rw [if_neg (by omega)]
        exact a1 k hk
      · exact a2 r hr
    | succ n ih =>
      intro hn
      obtain ⟨i1, i2⟩ := ih (by omega)
      have e : fo (n + 1) (g_X5_open_25 43) (SX5_open_2 43 μ) = upm (fo n (g_X5_open_25 43) (SX5_open_2 43 μ)) 44 (50 + n) (eS E n) := by
        show M_X5_set 43 50 (nI n) (F_X9_at 4 6 (nI n) (fo n (g_X5_open_25 43) (SX5_open_2 43 μ))) (fo n (g_X5_open_25 43) (SX5_open_2 43 μ)) = _
        rw [set50 (by omega), at_k (by omega) (by decide), i2 4 (by decide), e6 n (by omega)]
      rw [e]
      refine ⟨fun k hk => ?_, fun r hr => by rw [upm_other hr, i2 r hr]⟩
      rw [upm_rr]
      by_cases y : k = 50 + n
      · rw [if_pos y, if_pos (by omega), y, Nat.add_sub_cancel_left]
      · rw [if_neg y, i1 k hk]
        by_cases z : 50 ≤ k ∧ k < 50 + n
        · rw [if_pos z, if_pos (by omega)]
        · rw [if_neg z, if_neg (by omega)]
  obtain ⟨b1, b2⟩ := s2 (eH E) (Nat.le_refl _)
  have nB : NX5_open_25 43 μ = eH E := by
    show ix (SX5_open_2 43 μ 3 8) = _
    rw [eA, a2 3 (by decide), e0, nI_ix (by omega)]
  have eB : SX5_open_25 43 μ = fo (eH E) (g_X5_open_25 43) (SX5_open_2 43 μ) := by
    unfold SX5_open_25
    rw [nB]
  -- the things
  have s3 : ∀ n, n ≤ eT E → (∀ k, k < 69 → fo n (g_X5_open_56 43) (SX5_open_25 43 μ) 44 k = if k < n then eX E k 0 else if 40 ≤ k ∧ k < 40 + n then eX E (k - 40) 3 else if 50 ≤ k ∧ k < 50 + eH E then eS E (k - 50) else 0) ∧ ∀ r, r ≠ 44 → fo n (g_X5_open_56 43) (SX5_open_25 43 μ) r = μ r := by
    intro n
    induction n with
    | zero =>
      intro _
      refine ⟨fun k hk => ?_, fun r hr => ?_⟩
      · rw [if_neg (by omega), if_neg (by omega)]
        rw [fo_z, eB]
        exact b1 k hk
      · rw [fo_z, eB]
        exact b2 r hr
    | succ n ih =>
      intro hn
      obtain ⟨i1, i2⟩ := ih (by omega)
      have x0 := (e8 n (by omega)).1
      have x3 := (e8 n (by omega)).2.2.2
      have e : fo (n + 1) (g_X5_open_56 43) (SX5_open_25 43 μ) = upm (upm (fo n (g_X5_open_56 43) (SX5_open_25 43 μ)) 44 n (eX E n 0)) 44 (40 + n) (eX E n 3) := by
        have q1 : muX5_open_56_1 43 n (fo n (g_X5_open_56 43) (SX5_open_25 43 μ)) = upm (fo n (g_X5_open_56 43) (SX5_open_25 43 μ)) 44 n (eX E n 0) := by
          unfold muX5_open_56_1
          rw [set0 (by omega), at_k (by omega) (by decide), i2 5 (by decide), x0]
        show muX5_open_56_2 43 n (fo n (g_X5_open_56 43) (SX5_open_25 43 μ)) = _
        unfold muX5_open_56_2
        rw [q1, set40 (by omega), at_k (by omega) (by decide), upm_other (by decide), i2 8 (by decide), x3]
      rw [e]
      refine ⟨fun k hk => ?_, fun r hr => by rw [upm_other hr, upm_other hr, i2 r hr]⟩
      rw [upm_rr, upm_rr]
      by_cases y : k = 40 + n
      · rw [if_pos y, if_neg (by omega), if_pos (by omega), y, Nat.add_sub_cancel_left]
      · rw [if_neg y]
        by_cases y2 : k = n
        · rw [if_pos y2, if_pos (by omega), y2]
        · rw [if_neg y2, i1 k hk]
          by_cases z : k < n
          · rw [if_pos z, if_pos (by omega)]
          · rw [if_neg z, if_neg (show ¬ k < n + 1 by omega)]
            by_cases z2 : 40 ≤ k ∧ k < 40 + n
            · rw [if_pos z2, if_pos (by omega)]
            · rw [if_neg z2, if_neg (show ¬ (40 ≤ k ∧ k < 40 + (n + 1)) by omega)]
  obtain ⟨c1, c2⟩ := s3 (eT E) (Nat.le_refl _)
  have nC : NX5_open_56 43 μ = eT E := by
    show ix (SX5_open_25 43 μ 3 9) = _
    rw [eB, b2 3 (by decide), e1, nI_ix (by omega)]
  have eC : M_X5_open 43 μ = fo (eT E) (g_X5_open_56 43) (SX5_open_25 43 μ) := by
    show SX5_open_56 43 μ = _
    unfold SX5_open_56
    rw [nC]
  have h38 : ∀ j, j ≤ eH E → fo j (g_X5_open_25 43) (SX5_open_2 43 μ) 3 8 = nI (eH E) := fun j hj => by rw [(s2 j hj).2 3 (by decide), e0]
  have h39 : ∀ j, j ≤ eT E → fo j (g_X5_open_56 43) (SX5_open_25 43 μ) 3 9 = nI (eT E) := fun j hj => by rw [(s3 j hj).2 3 (by decide), e1]
  refine ⟨⟨fun j hj => ⟨fun z => absurd z (nI_ge (b := 69) hj (by omega)), fun _ => trivial⟩, fun _ => ⟨fun j hj => ?_, fun _ => ⟨fun j hj => ?_, fun _ => trivial, fun z => absurd z ?_⟩, fun z => absurd z ?_⟩, fun z => absurd z (show ¬ (nI 69 : Int32) < 69 by decide)⟩, fun k hk => ?_, fun r hr => by rw [eC]; exact c2 r hr⟩
  · rw [nB] at hj
    refine ⟨fun z => absurd z ?_, fun _ => trivial⟩
    rw [h38 j (by omega)]
    exact nI_ge hj (by omega)
  · rw [nC] at hj
    refine ⟨fun z => absurd z ?_, fun _ => trivial⟩
    rw [h39 j (by omega)]
    exact nI_ge hj (by omega)
  · show ¬ nI (NX5_open_56 43 μ) < SX5_open_56 43 μ 3 9
    have : SX5_open_56 43 μ 3 9 = nI (eT E) := by
      unfold SX5_open_56
      rw [nC]
      exact h39 _ (Nat.le_refl _)
    rw [this, nC]
    exact fun z => Int32.lt_irrefl z
  · show ¬ nI (NX5_open_25 43 μ) < SX5_open_25 43 μ 3 8
    rw [nB, eB, h38 _ (Nat.le_refl _)]
    exact fun z => Int32.lt_irrefl z
  · rw [eC, c1 k hk]
    unfold opC
    by_cases z1 : k < eT E
    · rw [if_pos z1, if_pos (by omega), if_pos z1]
    · rw [if_neg z1]
      by_cases z2 : k < 10
      · rw [if_neg (by omega), if_neg (by omega), if_pos z2, if_neg z1]
      · rw [if_neg z2]
        by_cases z3 : 40 ≤ k ∧ k < 50
        · rw [if_pos z3]
          by_cases z4 : k - 40 < eT E
          · rw [if_pos (by omega), if_pos z4]
          · rw [if_neg (by omega), if_neg (by omega), if_neg z4]
        · rw [if_neg z3, if_neg (by omega)]
          by_cases z5 : 50 ≤ k ∧ k < 56
          · rw [if_pos z5]
            by_cases z6 : k - 50 < eH E
            · rw [if_pos (by omega), if_pos z6]
            · rw [if_neg (by omega), if_neg z6]
          · rw [if_neg (by omega), if_neg z5]
theorem sp_default {μ : Mem} : (LwC lwZ (M_X1_beDefault μ)) ∧ ∀ r, r ≠ 21 → r ≠ 22 → r ≠ 23 → M_X1_beDefault μ r = μ r := by
  have ad : ∀ (n : Nat) (c : Int32) (ν : Mem), n < 150 → ν 21 4 = nI n → M_X1_add 21 c ν = upm (upm ν 22 n c) 21 4 (nI (n + 1)) := by
    intro n c ν hn h
    have e1 : muX1_add_1 21 c ν = upm ν 22 n c := by
      unfold muX1_add_1
      rw [h]
      exact put_k hn (by decide)
    show upm (muX1_add_1 21 c ν) 21 4 (muX1_add_1 21 c ν 21 4 + 1) = _
    rw [e1, upm_other (show (21 : Nat) ≠ 22 by decide), h, nI_succ]
  have ac : ∀ (n : Nat) (c : Int32) (ν : Mem), n < 150 → ν 21 4 = nI n → M_X1_addConstant 21 c ν = upm (upm (upm ν 23 n c) 22 n 7) 21 4 (nI (n + 1)) := by
    intro n c ν hn h
    have e1 : muX1_addConstant_1 21 c ν = upm ν 23 n c := by
      unfold muX1_addConstant_1
      rw [h]
      exact put_k hn (by decide)
    have h1 : upm ν 23 n c 21 4 = nI n := by rw [upm_other (show (21 : Nat) ≠ 23 by decide), h]
    have e2 : muX1_addConstant_2 21 c ν = upm (upm ν 23 n c) 22 n 7 := by
      unfold muX1_addConstant_2
      rw [e1, h1]
      exact put_k hn (by decide)
    show upm (muX1_addConstant_2 21 c ν) 21 4 (muX1_addConstant_2 21 c ν 21 4 + 1) = _
    rw [e2, upm_other (show (21 : Nat) ≠ 22 by decide), h1, nI_succ]
  have z0 : upm μ 21 4 0 21 4 = nI 0 := by rw [upm_rr, if_pos rfl]; rfl
  have f4 : ∀ (ν : Mem) (x : Int32), upm ν 21 4 x 21 4 = x := fun ν x => by rw [upm_rr, if_pos rfl]
  have e : M_X1_beDefault μ = upm (upm (upm (upm (upm (upm (upm (upm (upm (upm (upm (upm (upm (upm (upm (upm (upm (upm (upm (upm (upm μ 21 4 0) 22 0 0) 21 4 (nI 1)) 23 1 4) 22 1 7) 21 4 (nI 2)) 22 2 11) 21 4 (nI 3)) 22 3 1) 21 4 (nI 4)) 23 4 3) 22 4 7) 21 4 (nI 5)) 22 5 10) 21 4 (nI 6)) 22 6 8) 21 4 (nI 7)) 22 7 5) 21 4 (nI 8)) 22 8 9) 21 4 (nI 9) := by
    unfold M_X1_beDefault muX1_beDefault_10 muX1_beDefault_9 muX1_beDefault_8 muX1_beDefault_7 muX1_beDefault_6 muX1_beDefault_5 muX1_beDefault_4 muX1_beDefault_3 muX1_beDefault_2 muX1_beDefault_1
    rw [ad 0 0 _ (by decide) z0, ac 1 4 _ (by decide) (f4 _ _), ad 2 11 _ (by decide) (f4 _ _), ad 3 1 _ (by decide) (f4 _ _), ac 4 3 _ (by decide) (f4 _ _), ad 5 10 _ (by decide) (f4 _ _), ad 6 8 _ (by decide) (f4 _ _), ad 7 5 _ (by decide) (f4 _ _), ad 8 9 _ (by decide) (f4 _ _)]
  refine ⟨⟨?_, fun i hi => ?_, fun i hi h7 => ?_⟩, fun r r1 r2 r3 => ?_⟩
  · rw [e, f4]
    rfl
  · have hi' : i < 9 := hi
    have : i = 0 ∨ i = 1 ∨ i = 2 ∨ i = 3 ∨ i = 4 ∨ i = 5 ∨ i = 6 ∨ i = 7 ∨ i = 8 := by omega
    rw [e]
    rcases this with rfl | rfl | rfl | rfl | rfl | rfl | rfl | rfl | rfl <;> simp [upm_ap, lwZ, lwC]
  · have hi' : i < 9 := hi
    have : i = 0 ∨ i = 1 ∨ i = 2 ∨ i = 3 ∨ i = 4 ∨ i = 5 ∨ i = 6 ∨ i = 7 ∨ i = 8 := by omega
    rw [e]
    rcases this with rfl | rfl | rfl | rfl | rfl | rfl | rfl | rfl | rfl <;> first | exact absurd h7 (by decide) | simp [upm_ap, lwZ, lwV]
  · rw [e]
    simp [upm_other r1, upm_other r2, upm_other r3]
/-- the class's side of a street that opens -/
theorem sp_openStreet {E : EV} {μ : Mem} (hE : EvC E μ) (hO : EvOK E) : P_X9_openStreet μ ∧ LwC lwZ (M_X9_openStreet μ) ∧ M_X9_openStreet μ 37 2 = 0 ∧ (∀ h, h < 6 → M_X9_openStreet μ 38 h = -1) ∧ M_X9_openStreet μ 48 2 = 0 ∧ M_X9_openStreet μ 48 3 = 0 ∧ (∀ k, k < 69 → M_X9_openStreet μ 44 k = opC E k) ∧ M_X9_openStreet μ 0 11 = 0 ∧ (∀ k, k ≠ 11 → M_X9_openStreet μ 0 k = μ 0 k) ∧ ∀ r, r ≠ 0 → r ≠ 21 → r ≠ 22 → r ≠ 23 → r ≠ 37 → r ≠ 38 → r ≠ 44 → r ≠ 48 → M_X9_openStreet μ r = μ r := by
  obtain ⟨a1, a2⟩ := sp_default (μ := μ)
  obtain ⟨b1, b2, b3, b4⟩ := sp_clear37 (μ := M_X1_beDefault μ)
  have e3 : muX9_openStreet_3 μ = upm (upm (M_X2_clear 37 (M_X1_beDefault μ)) 48 2 0) 48 3 0 := rfl
  have o3 : ∀ r, r ≠ 48 → muX9_openStreet_3 μ r = M_X2_clear 37 (M_X1_beDefault μ) r := fun r hr => by rw [e3, upm_other hr, upm_other hr]
  have E3 : EvC E (muX9_openStreet_3 μ) := hE.mono fun r hr => by rw [o3 r (by omega), b4 r (by omega) (by omega), a2 r (by omega) (by omega) (by omega)]
  obtain ⟨c1, c2, c3⟩ := sp_openC E3 hO
  have eM : M_X9_openStreet μ = upm (M_X5_open 43 (muX9_openStreet_3 μ)) 0 11 0 := rfl
  have oM : ∀ r, r ≠ 0 → M_X9_openStreet μ r = M_X5_open 43 (muX9_openStreet_3 μ) r := fun r hr => by rw [eM, upm_other hr]
  refine ⟨⟨b1, c1⟩, ?_, ?_, fun h hh => ?_, ?_, ?_, fun k hk => ?_, ?_, fun k hk => ?_, fun r r0 r1 r2 r3 r4 r5 r6 r7 => ?_⟩
  · obtain ⟨l1, l2, l3⟩ := a1
    unfold LwC
    rw [oM 21 (by decide), oM 22 (by decide), oM 23 (by decide), c3 21 (by decide), c3 22 (by decide), c3 23 (by decide), o3 21 (by decide), o3 22 (by decide), o3 23 (by decide), b4 21 (by decide) (by decide), b4 22 (by decide) (by decide), b4 23 (by decide) (by decide)]
    exact ⟨l1, l2, l3⟩
  · rw [oM 37 (by decide), c3 37 (by decide), o3 37 (by decide), b2]
  · rw [oM 38 (by decide), c3 38 (by decide), o3 38 (by decide), b3 h hh]
  · rw [oM 48 (by decide), c3 48 (by decide), e3, upm_rr, if_neg (by decide), upm_rr, if_pos rfl]
  · rw [oM 48 (by decide), c3 48 (by decide), e3, upm_rr, if_pos rfl]
  · rw [oM 44 (by decide), c2 k hk]
  · rw [eM, upm_rr, if_pos rfl]
  · rw [eM, upm_rr, if_neg hk, c3 0 (by decide), o3 0 (by decide), b4 0 (by decide) (by decide), a2 0 (by decide) (by decide) (by decide)]
  · rw [oM r r0, c3 r r6, o3 r r7, b4 r r4 r5, a2 r r1 r2 r3]
