/-! the LAW's text: where both stand -/
def dpt (c : Nat → Int32) (n : Nat) : Nat := fo n (fun i d => if c i ≤ 7 then d + 1 else d - 1) 0
theorem dpt_s (c : Nat → Int32) (i : Nat) : dpt c (i + 1) = if c i ≤ 7 then dpt c i + 1 else dpt c i - 1 := rfl
theorem dpt_congr {c d : Nat → Int32} (n : Nat) (h : ∀ i, i < n → c i = d i) : dpt c n = dpt d n := by
  unfold dpt
  refine fo_congr n _ _ 0 fun i hi s => ?_
  have e := h i hi
  by_cases y : c i ≤ 7
  · rw [if_pos y, if_pos (by rw [← e]; exact y)]
  · rw [if_neg y, if_neg (by rw [← e]; exact y)]
def cdR (c v : Int32) (r : Nat → Int32) : Prop := (0 ≤ c ∧ c ≤ 13) ∧ (c < 7 → r 0 = 1 ∧ r 1 = c) ∧ (c = 7 → r 0 = 0 ∧ r 1 = v) ∧ (7 < c → r 0 = c - 6)
def FrLC (A μ : Mem) : Prop := (∀ k, k ≠ 3 → k ≠ 4 → k ≠ 5 → μ 1 k = A 1 k) ∧ ∀ r, r ≠ 1 → r ≠ 26 → r ≠ 27 → r ≠ 28 → μ r = A r
def FrLM (B ν : Mem) : Prop := (∀ k, k ≠ 4 → k ≠ 8 → k ≠ 22 → ν 57 k = B 57 k) ∧ ∀ r, r ≠ 57 → (r < 264 ∨ 423 < r) → ν r = B r
def LwS (t : Nat → Int32) (N : Nat) (A B : Mem) (o n p : Nat) (μc μm : Mem) : Prop :=
  (TxC t N p μc ∧ (∃ pm, TxM t N pm μm ∧ skp t N pm = skp t N p) ∧ μm 57 5 = 0 ∧ μm 57 8 = nI o) ∧ (μc 26 4 = nI n ∧ μm 57 22 = nI n ∧ n ≤ p) ∧ (∀ i, i < n → cdR (μc 27 i) (μc 28 i) (μm (264 + i))) ∧
  (∀ i, i < n → ¬ μc 27 i ≤ 7 → 2 ≤ dpt (μc 27) i) ∧ FrLC A μc ∧ FrLM B μm
/-- both have found the same fault -/
def Flt (t : Nat → Int32) (N : Nat) (A B : Mem) (μc μm : Mem) : Prop := ∃ k a, k ≠ 0 ∧ μc 1 6 = k ∧ μc 1 7 = a ∧ μm 57 5 = k ∧ μm 57 6 = a ∧ (∃ pm, TxM t N pm μm) ∧
  ((∀ k, k ≠ 3 → k ≠ 4 → k ≠ 5 → k ≠ 6 → k ≠ 7 → μc 1 k = A 1 k) ∧ ∀ r, r ≠ 1 → r ≠ 26 → r ≠ 27 → r ≠ 28 → μc r = A r) ∧
  ((∀ k, k ≠ 4 → k ≠ 5 → k ≠ 6 → k ≠ 8 → k ≠ 22 → μm 57 k = B 57 k) ∧ ∀ r, r ≠ 57 → (r < 264 ∨ 423 < r) → μm r = B r)
def LE (t : Nat → Int32) (N : Nat) (A B : Mem) (o n p : Nat) (μc : Mem) (F : Int32) (Mc Mm : Mem) : Prop :=
  (F = 1 ∧ ∃ n' p', LwS t N A B o n' p' Mc Mm ∧ n + 1 ≤ n' ∧ n' + p ≤ n + p' ∧ dpt (Mc 27) n' = dpt (μc 27) n + 1) ∨ (F = 0 ∧ Flt t N A B Mc Mm)
theorem Flt.nz {t : Nat → Int32} {N : Nat} {A B μc μm : Mem} (h : Flt t N A B μc μm) : μm 57 5 ≠ 0 := by
  obtain ⟨k, a, h0, -, -, h5, -⟩ := h
  rw [h5]
  exact h0
theorem Flt.up8 {t : Nat → Int32} {N : Nat} {A B μc μm : Mem} {x : Int32} (h : Flt t N A B μc μm) : Flt t N A B μc (upm μm 57 8 x) := by
  obtain ⟨k, a, h0, h1, h2, h5, h6, ⟨pm, hx⟩, hc, h8, h9⟩ := h
  refine ⟨k, a, h0, h1, h2, by rw [upm_rr, if_neg (by decide), h5], by rw [upm_rr, if_neg (by decide), h6], ⟨pm, hx.mono (by rw [upm_rr, if_neg (by decide)]) (by rw [upm_rr, if_neg (by decide)]) (by rw [upm_other (by decide)])⟩, hc, fun k q4 q5 q6 q8 q22 => ?_, fun r q1 q2 => ?_⟩
  · rw [upm_rr, if_neg q8, h8 k q4 q5 q6 q8 q22]
  · rw [upm_other q1, h9 r q1 q2]
/-- the class looks at what is next -/
theorem LwS_peek {t : Nat → Int32} {N o n p : Nat} {A B μc μm : Mem} (h : LwS t N A B o n p μc μm) : P_X8_peek μc ∧ F_X8_peek μc = byt t N (skp t N p) ∧ LwS t N A B o n (skp t N p) (M_X8_peek μc) μm ∧ M_X8_peek μc 27 = μc 27 ∧ p ≤ skp t N p ∧ skp t N p ≤ N ∧ N ≤ 600 ∧ skp t N (skp t N p) = skp t N p := by
  obtain ⟨⟨t1, t2, t3, t4⟩, ⟨c1, c2, c3⟩, hcd, hdp, ⟨f1, f2⟩, fm⟩ := h
  obtain ⟨k1, k2, k3, k4, k5⟩ := sp_peek t1
  obtain ⟨q1, q2, -, -⟩ := skp_ok (t := t) t1.1 t1.2.1
  have ss := skp_skp (t := t) t1.1 t1.2.1
  have e27 := k4 27 (by decide)
  have e28 := k4 28 (by decide)
  refine ⟨k1, k2, ⟨⟨k3, ?_, t3, t4⟩, ⟨by rw [k4 26 (by decide)]; exact c1, c2, by omega⟩, ?_, ?_, ⟨fun k a b c => by rw [k5 k a, f1 k a b c], fun r a b c d => by rw [k4 r a, f2 r a b c d]⟩, fm⟩, e27, q2, q1, t1.1, ss⟩
  · rw [ss]
    exact t2
  · rw [e27, e28]
    exact hcd
  · rw [e27]
    exact hdp
/-- the reference leaves blanks behind -/
theorem LwS_blanks {t : Nat → Int32} {N o n p : Nat} {A B μc μm : Mem} (h : LwS t N A B o n p μc μm) : P_X10_blanks μm ∧ LwS t N A B o n p μc (M_X10_blanks μm) ∧ TxM t N (skp t N p) (M_X10_blanks μm) := by
  obtain ⟨⟨t1, ⟨pm, t2, t2'⟩, t3, t4⟩, ⟨c1, c2, c3⟩, hcd, hdp, fc, ⟨f1, f2⟩⟩ := h
  obtain ⟨k1, k2, k3, k4⟩ := sp_blanks t2
  rw [t2'] at k2
  refine ⟨k1, ⟨⟨t1, ⟨_, k2, skp_skp t1.1 t1.2.1⟩, by rw [k4 5 (by decide)]; exact t3, by rw [k4 8 (by decide)]; exact t4⟩, ⟨c1, by rw [k4 22 (by decide)]; exact c2, c3⟩, fun i hi => by rw [k3 (264 + i) (by omega)]; exact hcd i hi, hdp, fc, ⟨fun k a b c => by rw [k4 k a, f1 k a b c], fun r a b => by rw [k3 r a, f2 r a b]⟩⟩, k2⟩
/-- a sign, both sides -/
theorem LwS_sign {t : Nat → Int32} {N o n p : Nat} {A B μc μm : Mem} {c : Int32} (h : LwS t N A B o n p μc μm) (hc : c ≠ -1) : P_X8_takeSign c μc ∧ P_X10_sign c μm ∧
    ((F_X8_takeSign c μc = 1 ∧ LwS t N A B o n (skp t N p + 1) (M_X8_takeSign c μc) (M_X10_sign c μm) ∧ M_X8_takeSign c μc 27 = μc 27 ∧ p ≤ skp t N p) ∨ (F_X8_takeSign c μc = 0 ∧ Flt t N A B (M_X8_takeSign c μc) (M_X10_sign c μm))) := by
  obtain ⟨⟨t1, ⟨pm, t2, t2'⟩, t3, t4⟩, ⟨c1, c2, c3⟩, hcd, hdp, ⟨f1, f2⟩, ⟨g1, g2⟩⟩ := h
  obtain ⟨a1, a2, a3, a4⟩ := sp_takeSign t1 hc
  obtain ⟨b1, b2, b3, b4⟩ := sp_sign t2 t3 hc
  rw [t2'] at b2 b3
  obtain ⟨q1, q2, -, -⟩ := skp_ok (t := t) t1.1 t1.2.1
  refine ⟨a1, b1, ?_⟩
  by_cases y : byt t N (skp t N p) = c
  · obtain ⟨x1, x2, x3⟩ := a2 y
    obtain ⟨y1, y2⟩ := b2 y
    have e27 := a4 27 (by decide)
    have e28 := a4 28 (by decide)
    refine Or.inl ⟨x1, ⟨⟨x2, ⟨_, y1, rfl⟩, by rw [y2 5 (by decide)]; exact t3, by rw [y2 8 (by decide)]; exact t4⟩, ⟨by rw [a4 26 (by decide)]; exact c1, by rw [y2 22 (by decide)]; exact c2, by omega⟩, fun i hi => ?_, ?_, ⟨fun k u v w => by rw [x3 k u, f1 k u v w], fun r u v w z => by rw [a4 r u, f2 r u v w z]⟩, ⟨fun k u v w => by rw [y2 k u, g1 k u v w], fun r u v => by rw [b4 r u, g2 r u v]⟩⟩, e27, q2⟩
    · rw [e27, e28, b4 (264 + i) (by omega)]
      exact hcd i hi
    · rw [e27]
      exact hdp
  · obtain ⟨x1, x2, x3, x4⟩ := a3 y
    obtain ⟨y1, y2, y3⟩ := b3 y
    have tx := sp_sign_tx (c := c) t2 t3 (by rw [t2']; exact y)
    refine Or.inr ⟨x1, 1, nI (skp t N p), by decide, x2, x3, y1, y2, ⟨_, tx⟩, ⟨fun k q3 q4 q5 q6 q7 => by rw [x4 k q3 q6 q7, f1 k q3 q4 q5], fun r u v w z => by rw [a4 r u, f2 r u v w z]⟩, ⟨fun k q4 q5 q6 q8 q22 => by rw [y3 k q4 q5 q6, g1 k q4 q8 q22], fun r u v => by rw [b4 r u, g2 r u v]⟩⟩
/-- one code more, both sides -/
theorem LwS_add {t : Nat → Int32} {N o n p : Nat} {A B μc μm μc' μm' : Mem} {c : Int32} (h : LwS t N A B o n p μc μm) (hp : n + 1 ≤ p)
    (h1 : μc' 1 = μc 1) (h2 : μc' 2 = μc 2) (hr : ∀ r, r ≠ 1 → r ≠ 26 → r ≠ 27 → r ≠ 28 → μc' r = μc r) (h26 : μc' 26 4 = nI (n + 1)) (h27 : ∀ i, μc' 27 i = if i = n then c else μc 27 i) (h28 : ∀ i, i < n → μc' 28 i = μc 28 i)
    (m57 : ∀ k, k ≠ 22 → μm' 57 k = μm 57 k) (m22 : μm' 57 22 = nI (n + 1)) (mr : ∀ r, r ≠ 57 → r ≠ 264 + n → μm' r = μm r) (hN : N ≤ 150) (hcd : cdR c (μc' 28 n) (μm' (264 + n))) (hdp : ¬ c ≤ 7 → 2 ≤ dpt (μc 27) n) :
    LwS t N A B o (n + 1) p μc' μm' ∧ dpt (μc' 27) (n + 1) = if c ≤ 7 then dpt (μc 27) n + 1 else dpt (μc 27) n - 1 := by
  obtain ⟨⟨t1, ⟨pm, t2, t2'⟩, t3, t4⟩, ⟨c1, c2, c3⟩, cd, dp, ⟨f1, f2⟩, ⟨g1, g2⟩⟩ := h
  have pN := t1.2.1
  have e27 : ∀ i, i < n → μc' 27 i = μc 27 i := fun i hi => by rw [h27 i, if_neg (by omega)]
  have dn : ∀ i, i ≤ n → dpt (μc' 27) i = dpt (μc 27) i := fun i hi => dpt_congr i fun j hj => e27 j (by omega)
  refine ⟨⟨⟨t1.mono (by rw [h1]) (by rw [h1]) h2, ⟨pm, t2.mono (m57 2 (by decide)) (m57 4 (by decide)) (mr 58 (by decide) (by omega)), t2'⟩, by rw [m57 5 (by decide)]; exact t3, by rw [m57 8 (by decide)]; exact t4⟩, ⟨h26, m22, hp⟩, fun i hi => ?_, fun i hi => ?_, ⟨fun k u v w => by rw [h1, f1 k u v w], fun r u v w z => by rw [hr r u v w z, f2 r u v w z]⟩, ⟨fun k u v w => by rw [m57 k w, g1 k u v w], fun r u v => by rw [mr r u (by omega), g2 r u v]⟩⟩, ?_⟩
  · by_cases y : i = n
    · rw [y, h27 n, if_pos rfl]
      exact hcd
    · rw [e27 i (by omega), h28 i (by omega), mr (264 + i) (by omega) (by omega)]
      exact cd i (by omega)
  · rw [dn i (by omega)]
    by_cases y : i = n
    · rw [y, h27 n, if_pos rfl]
      exact hdp
    · rw [e27 i (by omega)]
      exact dp i (by omega)
  · rw [dpt_s, h27 n, if_pos rfl, dn n (Nat.le_refl _)]
theorem sp_add {n : Nat} {c : Int32} {μ : Mem} (hn : n < 150) (h : μ 26 4 = nI n) : M_X1_add 26 c μ = upm (upm μ 27 n c) 26 4 (nI (n + 1)) := by
  have e : muX1_add_1 26 c μ = upm μ 27 n c := by
    unfold muX1_add_1
    rw [h, put_k hn (by decide)]
  unfold M_X1_add muX1_add_2
  rw [e, upm_other (by decide), h, nI_succ]
theorem sp_addC {n : Nat} {c : Int32} {μ : Mem} (hn : n < 150) (h : μ 26 4 = nI n) : M_X1_addConstant 26 c μ = upm (upm (upm μ 28 n c) 27 n 7) 26 4 (nI (n + 1)) := by
  have e1 : muX1_addConstant_1 26 c μ = upm μ 28 n c := by
    unfold muX1_addConstant_1
    rw [h, put_k hn (by decide)]
  have e2 : muX1_addConstant_2 26 c μ = upm (upm μ 28 n c) 27 n 7 := by
    unfold muX1_addConstant_2
    rw [e1, upm_other (by decide), h, put_k hn (by decide)]
  unfold M_X1_addConstant muX1_addConstant_3
  rw [e2, upm_other (by decide), upm_other (by decide), h, nI_succ]
theorem sp_notes {n : Nat} {a b : Int32} {μ : Mem} (hn : n < 160) (h : μ 57 22 = nI n) (h0 : μ 57 5 = 0) : P_X10_notes a b μ ∧ M_X10_notes a b μ = upm (upm (upm μ (264 + n) 0 a) (264 + n) 1 b) 57 22 (nI (n + 1)) := by
  have e1 : muX10_notes_1 a b μ = upm μ (264 + n) 0 a := by
    unfold muX10_notes_1
    rw [h, nI_ix (by omega)]
  have x1 : muX10_notes_1 a b μ 57 22 = nI n := by rw [e1, upm_other (by omega), h]
  refine ⟨⟨fun _ => ⟨by rw [h]; exact vp_in_nI hn (by decide), by rw [x1]; exact vp_in_nI hn (by decide)⟩, fun z => absurd h0 z⟩, ?_⟩
  have e2 : muX10_notes_2 a b μ = upm (upm μ (264 + n) 0 a) (264 + n) 1 b := by
    unfold muX10_notes_2
    rw [x1, e1, nI_ix (by omega)]
  unfold M_X10_notes muX10_notes_3
  rw [if_pos h0, e2, upm_other (by omega), upm_other (by omega), h, nI_succ]
theorem sp_notes_no {a b : Int32} {μ : Mem} (h0 : μ 57 5 ≠ 0) : P_X10_notes a b μ ∧ M_X10_notes a b μ = μ := by
  refine ⟨⟨fun z => absurd z h0, fun _ => trivial⟩, ?_⟩
  unfold M_X10_notes
  rw [if_neg h0]
/-- an operation more -/
theorem LwS_op {t : Nat → Int32} {N o n p : Nat} {A B μc μm : Mem} {c a : Int32} (h : LwS t N A B o n p μc μm) (hp : n + 1 ≤ p) (hN : N ≤ 150) (h7 : 7 < c) (h13 : c ≤ 13) (ha : a = c - 6) (hd : 2 ≤ dpt (μc 27) n) : P_X10_notes a 0 μm ∧ LwS t N A B o (n + 1) p (M_X1_add 26 c μc) (M_X10_notes a 0 μm) ∧ dpt (M_X1_add 26 c μc 27) (n + 1) = dpt (μc 27) n - 1 := by
  have h' := h
  obtain ⟨⟨t1, -, t3, -⟩, ⟨c1, c2, c3⟩, -⟩ := h
  have pN := t1.2.1
  obtain ⟨n1, n2⟩ := sp_notes (a := a) (b := 0) (n := n) (by omega) c2 t3
  have e := sp_add (c := c) (n := n) (by omega) c1
  have n7 : ¬ c ≤ 7 := Int32.not_le.mpr h7
  have r := LwS_add (c := c) (μc' := M_X1_add 26 c μc) (μm' := M_X10_notes a 0 μm) h' hp (by rw [e, upm_other (by decide), upm_other (by decide)]) (by rw [e, upm_other (by decide), upm_other (by decide)]) (fun r u v w z => by rw [e, upm_other v, upm_other w]) (by rw [e, upm_rr, if_pos rfl]) (fun i => by rw [e, upm_other (by decide), upm_rr]) (fun i hi => by rw [e, upm_other (by decide), upm_other (by decide)])
    (fun k hk => by rw [n2, upm_rr, if_neg hk, upm_other (by omega), upm_other (by omega)]) (by rw [n2, upm_rr, if_pos rfl]) (fun r u v => by rw [n2, upm_other u, upm_other v, upm_other v]) hN
    ⟨⟨Int32.le_trans (show (0 : Int32) ≤ 7 by decide) (Int32.le_of_lt h7), h13⟩, fun z => absurd (Int32.le_of_lt z) n7, fun z => absurd (by rw [z]; exact Int32.le_refl _) n7, fun _ => by rw [n2, upm_other (by omega), upm_rr, if_neg (by decide), upm_rr, if_pos rfl, ha]⟩ (fun _ => hd)
  rw [if_neg n7] at r
  exact ⟨n1, r⟩
/-- what stands for itself -/
theorem LwS_var {t : Nat → Int32} {N o n p : Nat} {A B μc μm : Mem} {k : Nat} (h : LwS t N A B o n p μc μm) (hp : n + 1 ≤ p) (hN : N ≤ 150) (hk : k < 7) : P_X10_notes 1 (nI k) μm ∧ LwS t N A B o (n + 1) p (M_X1_add 26 (nI k) μc) (M_X10_notes 1 (nI k) μm) ∧ dpt (M_X1_add 26 (nI k) μc 27) (n + 1) = dpt (μc 27) n + 1 := by
  have h' := h
  obtain ⟨⟨t1, -, t3, -⟩, ⟨c1, c2, c3⟩, -⟩ := h
  have pN := t1.2.1
  obtain ⟨n1, n2⟩ := sp_notes (a := 1) (b := nI k) (n := n) (by omega) c2 t3
  have e := sp_add (c := nI k) (n := n) (by omega) c1
  have l7 : nI k ≤ 7 := nI_le (b := 7) (by omega) (by omega)
  have r := LwS_add (c := nI k) (μc' := M_X1_add 26 (nI k) μc) (μm' := M_X10_notes 1 (nI k) μm) h' hp (by rw [e, upm_other (by decide), upm_other (by decide)]) (by rw [e, upm_other (by decide), upm_other (by decide)]) (fun r u v w z => by rw [e, upm_other v, upm_other w]) (by rw [e, upm_rr, if_pos rfl]) (fun i => by rw [e, upm_other (by decide), upm_rr]) (fun i hi => by rw [e, upm_other (by decide), upm_other (by decide)])
    (fun k hk => by rw [n2, upm_rr, if_neg hk, upm_other (by omega), upm_other (by omega)]) (by rw [n2, upm_rr, if_pos rfl]) (fun r u v => by rw [n2, upm_other u, upm_other v, upm_other v]) hN
    ⟨⟨nI_pos' (by omega), nI_le (b := 13) (by omega) (by omega)⟩, fun _ => ⟨by rw [n2, upm_other (by omega), upm_rr, if_neg (by decide), upm_rr, if_pos rfl], by rw [n2, upm_other (by omega), upm_rr, if_pos rfl]⟩, fun z => absurd z (fun y => absurd ((nI_eq (b := 7) (by omega) (by omega)).mp y) (by omega)), fun z => absurd l7 (Int32.not_le.mpr z)⟩ (fun z => absurd l7 z)
  rw [if_pos l7] at r
  exact ⟨n1, r⟩
theorem LwS_const {t : Nat → Int32} {N o n p : Nat} {A B μc μm : Mem} {v : Int32} (h : LwS t N A B o n p μc μm) (hp : n + 1 ≤ p) (hN : N ≤ 150) : P_X10_notes 0 v μm ∧ LwS t N A B o (n + 1) p (M_X1_addConstant 26 v μc) (M_X10_notes 0 v μm) ∧ dpt (M_X1_addConstant 26 v μc 27) (n + 1) = dpt (μc 27) n + 1 := by
  have h' := h
  obtain ⟨⟨t1, -, t3, -⟩, ⟨c1, c2, c3⟩, -⟩ := h
  have pN := t1.2.1
  obtain ⟨n1, n2⟩ := sp_notes (a := 0) (b := v) (n := n) (by omega) c2 t3
  have e := sp_addC (c := v) (n := n) (by omega) c1
  have r := LwS_add (c := 7) (μc' := M_X1_addConstant 26 v μc) (μm' := M_X10_notes 0 v μm) h' hp (by rw [e, upm_other (by decide), upm_other (by decide), upm_other (by decide)]) (by rw [e, upm_other (by decide), upm_other (by decide), upm_other (by decide)]) (fun r u v w z => by rw [e, upm_other v, upm_other w, upm_other z]) (by rw [e, upm_rr, if_pos rfl]) (fun i => by rw [e, upm_other (by decide), upm_rr, upm_other (by decide)]) (fun i hi => by rw [e, upm_other (by decide), upm_other (by decide), upm_rr, if_neg (by omega)])
    (fun k hk => by rw [n2, upm_rr, if_neg hk, upm_other (by omega), upm_other (by omega)]) (by rw [n2, upm_rr, if_pos rfl]) (fun r u v => by rw [n2, upm_other u, upm_other v, upm_other v]) hN
    ⟨⟨by decide, by decide⟩, fun z => absurd z (by decide), fun _ => ⟨by rw [n2, upm_other (by omega), upm_rr, if_neg (by decide), upm_rr, if_pos rfl], by rw [n2, upm_other (by omega), upm_rr, if_pos rfl, e, upm_other (by decide), upm_other (by decide), upm_rr, if_pos rfl]⟩, fun z => absurd z (by decide)⟩ (fun z => absurd (by decide) z)
  rw [if_pos (by decide)] at r
  exact ⟨n1, r⟩
