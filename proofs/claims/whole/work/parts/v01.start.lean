/-! THE START: what holds before the first call, and the law's first rows -/
def mu2 : Mem := M_X10_beginsAnew (M_X10_tellsNothing (M_X9_openStreet mu0))
theorem c_mu0 : EvC evN mu0 := ⟨rfl, rfl, rfl, rfl, rfl, rfl, fun h hh => absurd hh (Nat.not_lt_zero _), fun h hh => absurd hh (Nat.not_lt_zero _), fun h hh => absurd hh (Nat.not_lt_zero _), fun h hh => absurd hh (Nat.not_lt_zero _)⟩
theorem mu0_o {r k : Nat} (h1 : r ≠ 1) (h3 : r ≠ 3) (h12 : r ≠ 12) (h57 : r ≠ 57) : mu0 r k = 0 := by
  unfold mu0
  rw [if_neg h1, if_neg h3, if_neg h12, if_neg h57]
theorem start_ok : (P_X9_openStreet mu0 ∧ (∀ r, 57 ≤ r → M_X9_openStreet mu0 r = mu0 r) ∧ P_X10_tellsNothing (M_X9_openStreet mu0) ∧ P_X10_beginsAnew (M_X10_tellsNothing (M_X9_openStreet mu0))) ∧ Inv evN lwZ mu2 ∧ ∀ k, mu2 548 k = 0 := by
  obtain ⟨a1, a2, a3, a4, a5, a6, a7, a8, a9, a10⟩ := sp_openStreet c_mu0 evN_ok
  have h57 : ∀ r, 57 ≤ r → M_X9_openStreet mu0 r = mu0 r := fun r hr => a10 r (by omega) (by omega) (by omega) (by omega) (by omega) (by omega) (by omega) (by omega)
  obtain ⟨b1, b2, b3⟩ := sp_tellsNothing (μ := M_X9_openStreet mu0)
  have rd : RdR evN mu0 (M_X10_tellsNothing (M_X9_openStreet mu0)) := ⟨⟨rfl, rfl, rfl, rfl, rfl, rfl⟩, b2, fun h hh => absurd hh (Nat.not_lt_zero _), fun h hh => absurd hh (Nat.not_lt_zero _), fun h hh => absurd hh (Nat.not_lt_zero _), fun h hh => absurd hh (Nat.not_lt_zero _)⟩
  obtain ⟨c1, c2, c3, ⟨d1, d2, d3, d4, d5, d6⟩, c4, c5⟩ := sp_anew rd evN_ok
  have em : mu2 = M_X10_beginsAnew (M_X10_tellsNothing (M_X9_openStreet mu0)) := rfl
  rw [← em] at c2 c3 d1 d2 d3 d4 d5 d6 c4 c5
  have o1 : ∀ r, r < 57 → mu2 r = M_X9_openStreet mu0 r := fun r hr => by rw [c5 r (by omega) (by omega) (by omega) (by omega) (by omega) (by omega) (by omega), b3 r (by omega)]
  have o0 : ∀ r, r < 57 → r ≠ 0 → r ≠ 21 → r ≠ 22 → r ≠ 23 → r ≠ 37 → r ≠ 38 → r ≠ 44 → r ≠ 48 → mu2 r = mu0 r := fun r hr q1 q2 q3 q4 q5 q6 q7 q8 => by rw [o1 r hr, a10 r q1 q2 q3 q4 q5 q6 q7 q8]
  have o57 : ∀ k, k ≠ 44 → k ≠ 21 → k ≠ 38 → k ≠ 39 → k ≠ 40 → k ≠ 41 → mu2 57 k = mu0 57 k := fun k q1 q2 q3 q4 q5 q6 => by rw [c4 k q1 q2 q3 q4 q5 q6, b3 57 (by decide), h57 57 (by decide)]
  have o58 : ∀ r, 58 ≤ r → r ≠ 60 → r ≠ 61 → r ≠ 63 → r ≠ 65 → (r < 78 ∨ 87 < r) → (r < 96 ∨ 101 < r) → r ≠ 521 → mu2 r = mu0 r := fun r hr q0 q1 q2 q3 q4 q5 q6 => by rw [c5 r (by omega) q1 q2 q3 q4 q5 q6, b3 r q0, h57 r (by omega)]
  refine ⟨⟨a1, h57, b1, c1⟩, ?_, fun k => by rw [o58 548 (by decide) (by decide) (by decide) (by decide) (by decide) (by decide) (by decide) (by decide)]; exact mu0_o (by decide) (by decide) (by decide) (by decide)⟩
  refine Inv.opens evN_ok c2 (c_mu0.mono fun h hh => o0 h (by omega) (by omega) (by omega) (by omega) (by omega) (by omega) (by omega) (by omega) (by omega)) (a2.mono (by rw [o1 21 (by decide)]) (o1 22 (by decide)) (o1 23 (by decide))) d2 ⟨?_, ⟨0, by omega, ?_⟩, fun k hk => ?_, ?_⟩ (by rw [o1 37 (by decide)]; exact a3) (fun h hh => by rw [o1 38 (by decide)]; exact a4 h hh) d3 (by rw [o1 48 (by decide)]; exact a5) (by rw [o1 48 (by decide)]; exact a6) d4 d6 (fun k hk => by rw [o1 44 (by decide)]; exact a7 k hk) c3 (by rw [o1 0 (by decide)]; exact a8) d5 ?_ ?_ ?_ d1
  · rw [o57 1 (by decide) (by decide) (by decide) (by decide) (by decide) (by decide), o0 1 (by decide) (by decide) (by decide) (by decide) (by decide) (by decide) (by decide) (by decide) (by decide)]
    rfl
  · rw [o0 1 (by decide) (by decide) (by decide) (by decide) (by decide) (by decide) (by decide) (by decide) (by decide)]
    rfl
  · rw [o58 58 (by decide) (by decide) (by decide) (by decide) (by decide) (by decide) (by decide) (by decide), o0 2 (by decide) (by decide) (by decide) (by decide) (by decide) (by decide) (by decide) (by decide) (by decide), mu0_o (by decide) (by decide) (by decide) (by decide), mu0_o (by decide) (by decide) (by decide) (by decide)]
    decide
  · rw [o57 3 (by decide) (by decide) (by decide) (by decide) (by decide) (by decide), o0 1 (by decide) (by decide) (by decide) (by decide) (by decide) (by decide) (by decide) (by decide) (by decide)]
    rfl
  · rw [o1 0 (by decide), a9 12 (by decide), o58 59 (by decide) (by decide) (by decide) (by decide) (by decide) (by decide) (by decide) (by decide)]
    rfl
  · rw [o1 0 (by decide), a9 13 (by decide), o58 59 (by decide) (by decide) (by decide) (by decide) (by decide) (by decide) (by decide) (by decide)]
    rfl
  · rw [o57 43 (by decide) (by decide) (by decide) (by decide) (by decide) (by decide)]
    rfl
set_option maxRecDepth 20000 in
set_option maxHeartbeats 4000000 in
theorem start_walk {G : SG} {En : Nat → va_E} (hG : GA G) (hg : gh G = 549) (hfl : (gL G).stackTraces = false) (e66 : gA G 66 = gA G 66) (r66 : ∀ j, j < 10 → gA G (66 + 1 + j) = gA G 58) (e77 : gA G 77 = gA G 66) (r77 : ∀ j, j < 10 → gA G (77 + 1 + j) = gA G 58) (e88 : gA G 88 = gA G 66) (r88 : ∀ j, j < 6 → gA G (88 + 1 + j) = gA G 58) (e95 : gA G 95 = gA G 66) (r95 : ∀ j, j < 6 → gA G (95 + 1 + j) = gA G 58) (e102 : gA G 102 = gA G 66) (r102 : ∀ j, j < 160 → gA G (102 + 1 + j) = gA G 58) (e263 : gA G 263 = gA G 66) (r263 : ∀ j, j < 160 → gA G (263 + 1 + j) = gA G 58) (e424 : gA G 424 = gA G 66) (r424 : ∀ j, j < 6 → gA G (424 + 1 + j) = gA G 58) (e431 : gA G 431 = gA G 66) (r431 : ∀ j, j < 6 → gA G (431 + 1 + j) = gA G 58) (e440 : gA G 440 = gA G 66) (r440 : ∀ j, j < 80 → gA G (440 + 1 + j) = gA G 58) (e526 : gA G 526 = gA G 66) (r526 : ∀ j, j < 16 → gA G (526 + 1 + j) = gA G 58) (e543 : gA G 543 = gA G 66) (r543 : ∀ j, j < 3 → gA G (543 + 1 + j) = gA G 58) : RM G mL_law_ 0 [(0, .ref (gb G))] [] 0 En 23 [(0, .ref (gb G)), (1, .ref (ga G 0)), (2, .ref (ga G 57)), (3, .ref (ga G 548)), (4, .int 0)] 549 (ent G mu2) := by
  obtain ⟨⟨p1, hμ, p2, p3⟩, -, h548⟩ := start_ok
  refine rk_new (ci := 8) (Cn := RX9) (T := TX9) (N := 14) (ty := tyX9) (fs := [.null, .null, .null, .null, .null, .null, .null, .null, .null, .null, .null, .int 0, .int 0, .int 0]) hG rfl inc_X9 tyX9_ok (bc1 24 (by decide +kernel) (by decide +kernel)) w_inX9 w_iiX9 w_fsX9 (by decide) (by decide) (by decide) dL_law__0 ?_
  refine rk_dup dL_law__3 rfl ?_
  refine rk_call (mk := mX9_init) (k1 := 57) (As := []) (rest := [.ref (ga G 0)]) hG (c_X9_0 hG hg hfl p1) (Or.inl (bc1 26 (by decide +kernel) (by decide +kernel))) w_iiX9 ⟨by decide +kernel, by decide +kernel, (by decide +kernel : (parseMethodDescriptor yX9_init.desc).map (fun d => d.parameters.length) = some 0)⟩ w_icX9 w_imX9 rfl rfl dL_law__4 (Nat.le_of_ble_eq_true rfl) (Nat.le_of_ble_eq_true rfl) rfl (Nat.le_of_ble_eq_true rfl) (by decide) (by decide) (by decide) ?_
  refine rk_astore [(1, .ref (ga G 0)), (0, .ref (gb G))] dL_law__7 (Nat.lt_of_lt_of_le (by decide) (Nat.le_of_ble_eq_true rfl : 5 ≤ mL mL_law_)) rfl ?_
  refine rk_new (ci := 9) (Cn := RX10) (T := TX10) (N := 50) (ty := tyX10) (fs := [.int 0, .int 0, .int 0, .int 0, .int 0, .int 0, .int 0, .int 0, .int 0, .null, .null, .null, .null, .null, .null, .null, .null, .null, .null, .null, .null, .int 0, .int 0, .null, .null, .null, .null, .null, .null, .null, .int 0, .null, .null, .null, .null, .null, .null, .null, .int 0, .int 0, .int 0, .int 0, .int 0, .int 0, .int 0, .int 0, .int 0, .null, .int 0, .int 0]) hG rfl inc_X10 tyX10_ok (bc6 119 (by decide +kernel) (by decide +kernel)) w_inX10 w_iiX10 w_fsX10 (by decide) (by decide) (by decide) dL_law__8 ?_
  refine rk_dup dL_law__11 rfl ?_
  refine rk_call (mk := mX10_init) (k1 := 548) (As := []) (rest := [.ref (ga G 57)]) hG (c_X10_57 hG hg hfl e66 r66 e77 r77 e88 r88 e95 r95 e102 r102 e263 r263 e424 r424 e431 r431 e440 r440 e526 r526 e543 r543 hμ p2 p3) (Or.inl (bc6 121 (by decide +kernel) (by decide +kernel))) w_iiX10 ⟨by decide +kernel, by decide +kernel, (by decide +kernel : (parseMethodDescriptor yX10_init.desc).map (fun d => d.parameters.length) = some 0)⟩ w_icX10 w_imX10 rfl rfl dL_law__12 (Nat.le_of_ble_eq_true rfl) (Nat.le_of_ble_eq_true rfl) rfl (Nat.le_of_ble_eq_true rfl) (by decide) (by decide) (by decide) ?_
  refine rk_astore [(2, .ref (ga G 57)), (1, .ref (ga G 0)), (0, .ref (gb G))] dL_law__15 (Nat.lt_of_lt_of_le (by decide) (Nat.le_of_ble_eq_true rfl : 5 ≤ mL mL_law_)) rfl ?_
  refine rk_iconst 1 dL_law__16 rfl ?_
  refine rk_newJ (N := 1) hG hg sh548 dL_law__17 (by decide) rfl (by decide) (by decide) (by decide) w_arJ ?_
  refine rk_astore [(3, .ref (ga G 548)), (2, .ref (ga G 57)), (1, .ref (ga G 0)), (0, .ref (gb G))] dL_law__19 (Nat.lt_of_lt_of_le (by decide) (Nat.le_of_ble_eq_true rfl : 5 ≤ mL mL_law_)) rfl ?_
  refine rk_iconst 0 dL_law__20 rfl ?_
  refine rk_istore [(4, .int 0), (3, .ref (ga G 548)), (2, .ref (ga G 57)), (1, .ref (ga G 0)), (0, .ref (gb G))] dL_law__21 (Nat.lt_of_lt_of_le (by decide) (Nat.le_of_ble_eq_true rfl : 5 ≤ mL mL_law_)) rfl ?_
  refine rk_end [4, 3, 2, 1, 0] rfl rfl (fun x hx => ?_)
  by_cases z : x = 548
  · subst z
    rw [ent_long sh548, upE_eq]
    refine congrArg Sum.inl (congrArg (Prod.mk _) (congrArg (Prod.mk _) (congrArg Sum.inr (congrArg Sum.inl (funext fun i => ?_)))))
    rw [h548]
    rfl
  · exact upE_ne z
