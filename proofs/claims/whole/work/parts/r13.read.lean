/-! stains: all lines, both sides -/
def cn (x : Int32) : Nat := if x = -1 then 0 else 1
def cn6 (w : Nat → Int32) : Nat := cn (w 0) + cn (w 1) + cn (w 2) + cn (w 3) + cn (w 4) + cn (w 5)
theorem cn_le (x : Int32) : cn x ≤ 1 := by
  unfold cn
  split <;> omega
theorem cn6_le (w : Nat → Int32) : cn6 w ≤ 6 := by
  unfold cn6
  have := cn_le (w 0)
  have := cn_le (w 1)
  have := cn_le (w 2)
  have := cn_le (w 3)
  have := cn_le (w 4)
  have := cn_le (w 5)
  omega
theorem cn6_up {w w' : Nat → Int32} {j : Nat} {x : Int32} (hj : j < 6) (h : w j = -1) (hx : x ≠ -1) (e : ∀ k, w' k = if k = j then x else w k) : cn6 w' = cn6 w + 1 := by
  have c0 : cn (w j) = 0 := if_pos h
  have c1 : cn x = 1 := if_neg hx
  unfold cn6
  rw [e 0, e 1, e 2, e 3, e 4, e 5]
  have : j = 0 ∨ j = 1 ∨ j = 2 ∨ j = 3 ∨ j = 4 ∨ j = 5 := by omega
  rcases this with rfl | rfl | rfl | rfl | rfl | rfl
  · rw [if_pos rfl, if_neg (by decide), if_neg (by decide), if_neg (by decide), if_neg (by decide), if_neg (by decide)]
    omega
  · rw [if_neg (by decide), if_pos rfl, if_neg (by decide), if_neg (by decide), if_neg (by decide), if_neg (by decide)]
    omega
  · rw [if_neg (by decide), if_neg (by decide), if_pos rfl, if_neg (by decide), if_neg (by decide), if_neg (by decide)]
    omega
  · rw [if_neg (by decide), if_neg (by decide), if_neg (by decide), if_pos rfl, if_neg (by decide), if_neg (by decide)]
    omega
  · rw [if_neg (by decide), if_neg (by decide), if_neg (by decide), if_neg (by decide), if_pos rfl, if_neg (by decide)]
    omega
  · rw [if_neg (by decide), if_neg (by decide), if_neg (by decide), if_neg (by decide), if_neg (by decide), if_pos rfl]
    omega
theorem bitO {v : Int32} {j h : Nat} (hj : j < 6) (hh : h < 6) : bitI (v ||| ((1 : Int32) <<< (nI j &&& 31))) h = (bitI v h || decide (h = j)) := by
  rw [bitV _ h (by omega), bitV _ h (by omega), Int32.toBitVec_or, BitVec.getLsbD_or, shlV j (by omega) h (by omega)]
def FrC (A μ : Mem) : Prop := (∀ k, k ≠ 3 → k ≠ 4 → k ≠ 5 → μ 1 k = A 1 k) ∧ ∀ r, r ≠ 1 → r ≠ 40 → r ≠ 41 → μ r = A r
def FrM (B ν : Mem) : Prop := (∀ k, k ≠ 4 → ν 57 k = B 57 k) ∧ ∀ r, r ≠ 57 → (r < 432 ∨ 437 < r) → ν r = B r
def SL (t : Nat → Int32) (N H : Nat) (A B : Mem) (i p : Nat) (μ9 : Mem) (s : Int32 × Int32 × Mem) : Prop :=
  (TxC t N p μ9 ∧ TxM t N (skp t N p) s.2.2 ∧ s.2.2 57 5 = 0) ∧ (μ9 40 2 = nI i ∧ s.1 = nI i ∧ cn6 (μ9 41) = i) ∧ (∀ h, h < 6 → bitI s.2.1 h = decide (μ9 41 h ≠ -1)) ∧
  (∀ k, k < i → ∃ h, h < H ∧ s.2.2 (432 + k) 0 = nI h ∧ s.2.2 (432 + k) 1 = μ9 41 h ∧ 0 ≤ μ9 41 h ∧ μ9 41 h ≤ 60) ∧ (∀ h, h < 6 → μ9 41 h ≠ -1 → ∃ k, k < i ∧ s.2.2 (432 + k) 0 = nI h) ∧ FrC A μ9 ∧ FrM B s.2.2
theorem slK_0 {t : Nat → Int32} {N H q : Nat} {w : Nat → Int32} (hH : H ≤ 6) (h : slK t N H w q = 0) : ∃ j, j < H ∧ nmV t N q = nI j ∧ w j = -1 ∧ 0 ≤ nmV t N (nmE t N q) ∧ nmV t N (nmE t N q) ≤ 60 := by
  unfold slK at h
  by_cases k1 : nmK t N q 0 (nI H - 1) = 0
  · obtain ⟨j, hj, ej⟩ := nmK_el (by omega) k1
    rw [if_neg (not_not_intro k1), ej, nI_ix (by omega)] at h
    by_cases y : w j = -1
    · rw [if_neg (not_not_intro y)] at h
      by_cases k2 : nmK t N (nmE t N q) 0 60 = 0
      · exact ⟨j, hj, ej, y, nmK_ok k2⟩
      · rw [if_pos k2] at h
        exact absurd h k2
    · rw [if_pos y] at h
      exact absurd h (by decide)
  · rw [if_pos k1] at h
    exact absurd h k1
theorem SL_lt {t : Nat → Int32} {N H i p : Nat} {A B μ9 : Mem} {s : Int32 × Int32 × Mem} (hH : H ≤ 6) (h : SL t N H A B i p μ9 s) : i ≤ 6 ∧ ∀ q, slK t N H (μ9 41) q = 0 → i < 6 := by
  obtain ⟨-, ⟨-, -, c⟩, -⟩ := h
  have l6 := cn6_le (μ9 41)
  refine ⟨by omega, fun q hq => ?_⟩
  obtain ⟨j, hj, -, e, -⟩ := slK_0 hH hq
  have u := cn6_up (w := μ9 41) (w' := fun k => if k = j then 0 else μ9 41 k) (x := 0) (by omega) e (by decide) (fun _ => rfl)
  have := cn6_le (fun k => if k = j then 0 else μ9 41 k)
  omega
theorem SL_step {t : Nat → Int32} {N H i p : Nat} {A B μ9 : Mem} {s : Int32 × Int32 × Mem} {v : Int32} (hH : H ≤ 6) (ho : TxO t N) (h61 : B 61 0 = nI H) (h : SL t N H A B i p μ9 s) (hq : skp t N p < N) (hk : slK t N H (μ9 41) (skp t N p) = 0) :
    Cb_X2_read_6 (nI H) i μ9 = true ∧ Pb_X2_read_6 (nI H) i μ9 ∧ Cb_X10_stains_48 v i s = true ∧ Pb_X10_stains_48 v i s ∧ ∃ p', SL t N H A B (i + 1) p' (g_X2_read_6 (nI H) i μ9) (g_X10_stains_48 v i s) := by
  obtain ⟨hi6, hil⟩ := SL_lt hH h
  have i6 := hil _ hk
  obtain ⟨⟨t1, t2, t3⟩, ⟨c1, c2, c3⟩, hb, hl, hr, fc, fm⟩ := h
  have hN := t1.1
  have hpN := t1.2.1
  obtain ⟨e1, e2, e3, e4, e5⟩ := sp_isEnded ho t1
  rw [if_pos hq] at e2
  have e41 : M_X8_isEnded μ9 41 = μ9 41 := e4 41 (by decide)
  obtain ⟨l1, l2, l3, l4⟩ := sp_readLine hH e3
  rw [e41] at l2 l3
  obtain ⟨f1, f2, f3, f4, f5⟩ := l2 hk
  have hss := skp_skp (t := t) hN hpN
  have n61 : s.2.2 61 0 = nI H := by rw [fm.2 61 (by decide) (Or.inl (by decide)), h61]
  obtain ⟨m1, m2, m3, m4⟩ := sp_lineM (v := v) (w := μ9 41) hH t2 hss t3 n61 hb (fun _ => i6) hq hi6 c2
  obtain ⟨r1, r2, r3, r4, r5, r6, r7⟩ := m3 hk
  have eG : g_X10_stains_48 v i s = (VX10_stains_48_8 v i s, VX10_stains_48_9 v i s, muX10_stains_48_11 v i s) := rfl
  obtain ⟨j, hj, ej, wj, v0, v60⟩ := slK_0 hH hk
  have ne : ¬ (6 : Int32) < nI i := Int32.not_lt.mpr (nI_le (b := 6) hi6 (by omega))
  have eg : g_X2_read_6 (nI H) i μ9 = M_X2_readLine (nI H) (M_X8_isEnded μ9) := rfl
  have f1' : F_X2_readLine (nI H) (muX2_read_6_1 (nI H) i μ9) = 1 := f1
  refine ⟨?_, ?_, m1, m2, slP t N H (μ9 41) (skp t N p), ?_⟩
  · unfold Cb_X2_read_6
    rw [if_neg ne, if_pos e2, f1', if_pos (by decide)]
  · exact ⟨fun z => absurd z ne, fun _ => ⟨e1, fun _ => ⟨l1, fun _ => trivial, fun z => absurd (f1'.symm.trans z) (by decide)⟩, fun z => absurd e2 z⟩⟩
  · have ixj : ix (nmV t N (skp t N p)) = j := by rw [ej, nI_ix (by omega)]
    rw [ixj] at f5
    have r3' := r3
    rw [eg, eG]
    unfold SL
    dsimp only
    refine ⟨⟨f2, r3', by rw [r4 5 (by decide)]; exact t3⟩, ⟨?_, r1, ?_⟩, fun h hh => ?_, fun k hk' => ?_, fun h hh hne => ?_, ⟨fun k a b c => ?_, fun r a b c => ?_⟩, ⟨fun k a => ?_, fun r a b => ?_⟩⟩
    · rw [f4, e4 40 (by decide), c1]
      exact (nI_succ i).symm
    · rw [cn6_up (w := μ9 41) (x := nmV t N (nmE t N (skp t N p))) (by omega) wj (ne_m1 v0) (fun k => f5 k), c3]
    · rw [r2, ej, bitO (by omega) hh, hb h hh, f5 h]
      by_cases y : h = j
      · rw [if_pos y, decide_eq_true y, Bool.or_true, decide_eq_true (ne_m1 v0)]
      · rw [if_neg y, decide_eq_false y, Bool.or_false]
    · by_cases y : k = i
      · subst y
        refine ⟨j, hj, by rw [r5, ej], by rw [r6, f5 j, if_pos rfl], ?_, ?_⟩
        · rw [f5 j, if_pos rfl]
          exact v0
        · rw [f5 j, if_pos rfl]
          exact v60
      · obtain ⟨h, h1, h2, h3, h4, h5⟩ := hl k (by omega)
        have hne : h ≠ j := fun z => by
          rw [z, wj] at h4
          exact absurd h4 (by decide)
        refine ⟨h, h1, ?_, ?_, ?_, ?_⟩
        · rw [r7 (432 + k) (by omega) (by omega)]
          exact h2
        · rw [r7 (432 + k) (by omega) (by omega), f5 h, if_neg hne]
          exact h3
        · rw [f5 h, if_neg hne]
          exact h4
        · rw [f5 h, if_neg hne]
          exact h5
    · rw [f5 h] at hne
      by_cases y : h = j
      · exact ⟨i, by omega, by rw [r5, ej, y]⟩
      · rw [if_neg y] at hne
        obtain ⟨k, hk', e⟩ := hr h hh hne
        exact ⟨k, by omega, by rw [r7 (432 + k) (by omega) (by omega)]; exact e⟩
    · rw [f3 k a b c, e5 k a, fc.1 k a b c]
    · rw [l4 r a b c, e4 r a, fc.2 r a b c]
    · rw [r4 k a]
      exact fm.1 k a
    · rw [r7 r a (by omega)]
      exact fm.2 r a b
theorem sp_clear {μ : Mem} : P_X2_clear 40 μ ∧ M_X2_clear 40 μ 40 2 = 0 ∧ (∀ k, k < 6 → M_X2_clear 40 μ 41 k = -1) ∧ ∀ r, r ≠ 40 → r ≠ 41 → M_X2_clear 40 μ r = μ r := by
  have st : ∀ n, n ≤ 6 → fo n (g_X2_clear_7 40) (muX2_clear_1 40 μ) 40 2 = 0 ∧ (∀ k, k < n → fo n (g_X2_clear_7 40) (muX2_clear_1 40 μ) 41 k = -1) ∧ ∀ r, r ≠ 40 → r ≠ 41 → fo n (g_X2_clear_7 40) (muX2_clear_1 40 μ) r = μ r := by
    intro n
    induction n with
    | zero =>
      intro _
      have e : fo 0 (g_X2_clear_7 40) (muX2_clear_1 40 μ) = upm μ 40 2 0 := rfl
      rw [e]
      exact ⟨by simp [upm_rr], fun k hk => absurd hk (by omega), fun r a _ => by rw [upm_other a]⟩
    | succ n ih =>
      intro hn
      obtain ⟨i1, i2, i3⟩ := ih (by omega)
      have e : fo (n + 1) (g_X2_clear_7 40) (muX2_clear_1 40 μ) = upm (fo n (g_X2_clear_7 40) (muX2_clear_1 40 μ)) 41 n (-1) := put_k (by omega) (by decide)
      rw [e]
      refine ⟨by rw [upm_other (by decide), i1], fun k hk => ?_, fun r a b => by rw [upm_other b, i3 r a b]⟩
      rw [upm_rr]
      by_cases y : k = n
      · rw [if_pos y]
      · rw [if_neg y, i2 k (by omega)]
  obtain ⟨s1, s2, s3⟩ := st 6 (Nat.le_refl _)
  refine ⟨⟨fun j hj => ⟨fun z => absurd z (nI_ge (b := 6) hj (by omega)), fun _ => trivial⟩, fun _ => trivial, fun z => absurd z (show ¬ (nI 6 : Int32) < 6 by decide)⟩, s1, s2, s3⟩
/-- the stains as both read them -/
theorem sp_read {t : Nat → Int32} {N H : Nat} {μ B : Mem} {v : Int32} (hH : H ≤ 6) (ho : TxO t N) (h61 : B 61 0 = nI H) (hA : TxC t N 0 μ) (hB : TxM t N (skp t N 0) B) (h5 : B 57 5 = 0) :
    P_X2_read (nI H) μ ∧ ∃ n, fst 62 (fun j => !Cb_X10_stains_48 v j (fo j (g_X10_stains_48 v) (0, 0, B))) = n ∧ (∀ j, j < n → Pb_X10_stains_48 v j (fo j (g_X10_stains_48 v) (0, 0, B))) ∧
    ((F_X2_read (nI H) μ ≠ 0 ∧ n ≤ 6 ∧ (∃ p p', N ≤ p ∧ SL t N H (M_X2_clear 40 μ) B n p' (M_X2_read (nI H) μ) (fo n (g_X10_stains_48 v) (0, 0, B)) ∧ TxM t N p (fo n (g_X10_stains_48 v) (0, 0, B)).2.2)) ∨
     (F_X2_read (nI H) μ = 0 ∧ ∃ k a, k ≠ 0 ∧ M_X2_read (nI H) μ 1 6 = k ∧ M_X2_read (nI H) μ 1 7 = a ∧ (∀ j, j ≠ 3 → j ≠ 4 → j ≠ 5 → j ≠ 6 → j ≠ 7 → M_X2_read (nI H) μ 1 j = μ 1 j) ∧ (∀ r, r ≠ 1 → r ≠ 40 → r ≠ 41 → M_X2_read (nI H) μ r = μ r) ∧
       (fo n (g_X10_stains_48 v) (0, 0, B)).2.2 57 5 = k ∧ (fo n (g_X10_stains_48 v) (0, 0, B)).2.2 57 6 = a ∧ (∀ j, j ≠ 4 → j ≠ 5 → j ≠ 6 → (fo n (g_X10_stains_48 v) (0, 0, B)).2.2 57 j = B 57 j) ∧ ∀ r, r ≠ 57 → (r < 432 ∨ 437 < r) → (fo n (g_X10_stains_48 v) (0, 0, B)).2.2 r = B r)) := by
  obtain ⟨k1, k2, k3, k4⟩ := sp_clear (μ := μ)
  have eA : muX2_read_1 (nI H) μ = M_X2_clear 40 μ := rfl
  have s0 : SL t N H (M_X2_clear 40 μ) B 0 0 (M_X2_clear 40 μ) (0, 0, B) := by
    refine ⟨⟨hA.mono (by rw [k4 1 (by decide) (by decide)]) (by rw [k4 1 (by decide) (by decide)]) (k4 2 (by decide) (by decide)), hB, h5⟩, ⟨k2, rfl, ?_⟩, fun h hh => ?_, fun k hk => absurd hk (by omega), fun h hh hne => absurd (k3 h hh) hne, ⟨fun _ _ _ _ => rfl, fun _ _ _ _ => rfl⟩, ⟨fun _ _ => rfl, fun _ _ _ => rfl⟩⟩
    · unfold cn6
      rw [k3 0 (by decide), k3 1 (by decide), k3 2 (by decide), k3 3 (by decide), k3 4 (by decide), k3 5 (by decide)]
      rfl
    · rw [decide_eq_false (not_not_intro (k3 h hh))]
      exact (by decide +kernel : ∀ h, h < 6 → bitI 0 h = false) h hh
  obtain ⟨n, hn, ⟨hc, hs⟩, he⟩ := lock (B := 6)
    (R := fun i => (∀ j, j < i → Cb_X2_read_6 (nI H) j (fo j (g_X2_read_6 (nI H)) (M_X2_clear 40 μ)) = true ∧ Pb_X2_read_6 (nI H) j (fo j (g_X2_read_6 (nI H)) (M_X2_clear 40 μ)) ∧ Cb_X10_stains_48 v j (fo j (g_X10_stains_48 v) (0, 0, B)) = true ∧ Pb_X10_stains_48 v j (fo j (g_X10_stains_48 v) (0, 0, B))) ∧ ∃ p, SL t N H (M_X2_clear 40 μ) B i p (fo i (g_X2_read_6 (nI H)) (M_X2_clear 40 μ)) (fo i (g_X10_stains_48 v) (0, 0, B)))
    (E := fun i => ∃ p, SL t N H (M_X2_clear 40 μ) B i p (fo i (g_X2_read_6 (nI H)) (M_X2_clear 40 μ)) (fo i (g_X10_stains_48 v) (0, 0, B)) ∧ (N ≤ skp t N p ∨ (skp t N p < N ∧ slK t N H (fo i (g_X2_read_6 (nI H)) (M_X2_clear 40 μ) 41) (skp t N p) ≠ 0)))
    ⟨fun j hj => absurd hj (by omega), 0, s0⟩ (fun q => by obtain ⟨-, p, h⟩ := q; have := (SL_lt hH h).1; omega) (fun i ⟨h1, p, h2⟩ => by
      by_cases q : skp t N p < N
      · by_cases y : slK t N H (fo i (g_X2_read_6 (nI H)) (M_X2_clear 40 μ) 41) (skp t N p) = 0
        · obtain ⟨a1, a2, a3, a4, a5⟩ := SL_step (v := v) hH ho h61 h2 q y
          refine Or.inr ⟨fun j hj => ?_, by rw [fo_succ, fo_succ]; exact a5⟩
          by_cases z : j = i
          · rw [z]
            exact ⟨a1, a2, a3, a4⟩
          · exact h1 j (by omega)
        · exact Or.inl ⟨p, h2, Or.inr ⟨q, y⟩⟩
      · exact Or.inl ⟨p, h2, Or.inl (by omega)⟩)
  obtain ⟨p, hS, he⟩ := he
  have hS' := hS
  obtain ⟨⟨t1, t2, t3⟩, ⟨c1, c2, c3⟩, hb, hl, hr, fc, fm⟩ := hS'
  obtain ⟨e1, e2, e3, e4, e5⟩ := sp_isEnded ho t1
  have ne : ¬ (6 : Int32) < nI n := Int32.not_lt.mpr (nI_le (b := 6) hn (by omega))
  have hN := t1.1
  have hpN := t1.2.1
  rcases he with he | ⟨he, hk⟩
  · rw [if_neg (by omega)] at e2
    have cC : Cb_X2_read_6 (nI H) n (fo n (g_X2_read_6 (nI H)) (M_X2_clear 40 μ)) = false := by
      unfold Cb_X2_read_6
      rw [if_neg ne, e2, if_neg (by decide)]
    have nC : NX2_read_6 (nI H) μ = n := fst_eq (by omega) (by show (!Cb_X2_read_6 (nI H) n (fo n (g_X2_read_6 (nI H)) (M_X2_clear 40 μ))) = true; rw [cC]; rfl) fun j hj => by
      show (!Cb_X2_read_6 (nI H) j (fo j (g_X2_read_6 (nI H)) (M_X2_clear 40 μ))) = false
      rw [(hc j hj).1]
      rfl
    have sC : SX2_read_6 (nI H) μ = fo n (g_X2_read_6 (nI H)) (M_X2_clear 40 μ) := by
      unfold SX2_read_6
      rw [nC]
      rfl
    have cM : Cb_X10_stains_48 v n (fo n (g_X10_stains_48 v) (0, 0, B)) = false := by
      unfold Cb_X10_stains_48
      rw [if_neg (not_not_intro t3), t2.2.2.1, t2.2.2.2.1, if_pos (nI_le he (by have := t2.2.1; omega))]
    have nM : fst 62 (fun j => !Cb_X10_stains_48 v j (fo j (g_X10_stains_48 v) (0, 0, B))) = n := fst_eq (by omega) (by rw [cM]; rfl) fun j hj => by
      rw [(hc j hj).2.2.1]
      rfl
    have e2' : ¬ F_X8_isEnded (SX2_read_6 (nI H) μ) = 0 := by
      rw [sC, e2]
      decide
    have eM : M_X2_read (nI H) μ = M_X8_isEnded (fo n (g_X2_read_6 (nI H)) (M_X2_clear 40 μ)) := by
      unfold M_X2_read muX2_read_2
      rw [nC, if_neg ne, if_neg e2', sC]
    refine ⟨⟨k1, fun j hj => (hc j (by rw [nC] at hj; exact hj)).2.1, fun _ => trivial, fun _ => ⟨by rw [sC]; exact e1, fun z => absurd z e2', fun _ => trivial⟩⟩, n, nM, fun j hj => (hc j hj).2.2.2, Or.inl ⟨?_, hn, skp t N p, skp t N p, he, ?_, t2⟩⟩
    · unfold F_X2_read
      rw [nC, if_neg ne, if_neg e2']
      decide
    · rw [eM]
      refine ⟨⟨e3, ?_, t3⟩, ⟨?_, c2, ?_⟩, ?_, ?_, ?_, ⟨fun k a b c => by rw [e5 k a, fc.1 k a b c], fun r a b c => by rw [e4 r a, fc.2 r a b c]⟩, fm⟩
      · rw [skp_skp hN hpN]
        exact t2
      · rw [e4 40 (by decide), c1]
      · rw [e4 41 (by decide), c3]
      · rw [e4 41 (by decide)]
        exact hb
      · rw [e4 41 (by decide)]
        exact hl
      · rw [e4 41 (by decide)]
        exact hr
  · rw [if_pos he] at e2
    have e41 : M_X8_isEnded (fo n (g_X2_read_6 (nI H)) (M_X2_clear 40 μ)) 41 = fo n (g_X2_read_6 (nI H)) (M_X2_clear 40 μ) 41 := e4 41 (by decide)
    obtain ⟨l1, l2, l3, l4⟩ := sp_readLine hH e3
    rw [e41] at l2 l3
    obtain ⟨f1, f2, f3, f4⟩ := l3 hk
    have cC : Cb_X2_read_6 (nI H) n (fo n (g_X2_read_6 (nI H)) (M_X2_clear 40 μ)) = false := by
      unfold Cb_X2_read_6 muX2_read_6_1
      rw [if_neg ne, if_pos e2, f1]
      exact if_neg (by decide)
    have nC : NX2_read_6 (nI H) μ = n := fst_eq (by omega) (by show (!Cb_X2_read_6 (nI H) n (fo n (g_X2_read_6 (nI H)) (M_X2_clear 40 μ))) = true; rw [cC]; rfl) fun j hj => by
      show (!Cb_X2_read_6 (nI H) j (fo j (g_X2_read_6 (nI H)) (M_X2_clear 40 μ))) = false
      rw [(hc j hj).1]
      rfl
    have sC : SX2_read_6 (nI H) μ = fo n (g_X2_read_6 (nI H)) (M_X2_clear 40 μ) := by
      unfold SX2_read_6
      rw [nC]
      rfl
    have e2' : F_X8_isEnded (SX2_read_6 (nI H) μ) = 0 := by rw [sC, e2]
    have m2 : muX2_read_2 (nI H) μ = M_X8_isEnded (fo n (g_X2_read_6 (nI H)) (M_X2_clear 40 μ)) := by
      unfold muX2_read_2
      rw [sC]
    have eM : M_X2_read (nI H) μ = M_X2_readLine (nI H) (M_X8_isEnded (fo n (g_X2_read_6 (nI H)) (M_X2_clear 40 μ))) := by
      unfold M_X2_read muX2_read_3
      rw [nC, if_neg ne, if_pos e2', m2]
    have n61 : (fo n (g_X10_stains_48 v) (0, 0, B)).2.2 61 0 = nI H := by rw [fm.2 61 (by decide) (Or.inl (by decide)), h61]
    obtain ⟨m1, m2', m3, m4⟩ := sp_lineM (v := v) (w := fo n (g_X2_read_6 (nI H)) (M_X2_clear 40 μ) 41) hH t2 (skp_skp hN hpN) t3 n61 hb (fun z => absurd z hk) he hn c2
    obtain ⟨r1, r2, r3, r4⟩ := m4 hk
    have eg : (fo (n + 1) (g_X10_stains_48 v) (0, 0, B)).2.2 = muX10_stains_48_11 v n (fo n (g_X10_stains_48 v) (0, 0, B)) := by
      have e : fo (n + 1) (g_X10_stains_48 v) (0, 0, B) = (VX10_stains_48_8 v n (fo n (g_X10_stains_48 v) (0, 0, B)), VX10_stains_48_9 v n (fo n (g_X10_stains_48 v) (0, 0, B)), muX10_stains_48_11 v n (fo n (g_X10_stains_48 v) (0, 0, B))) := rfl
      rw [e]
    rw [← eg] at r1 r2 r3 r4
    have cM : Cb_X10_stains_48 v (n + 1) (fo (n + 1) (g_X10_stains_48 v) (0, 0, B)) = false := by
      unfold Cb_X10_stains_48
      rw [if_pos (by rw [r1]; exact hk)]
    have nM : fst 62 (fun j => !Cb_X10_stains_48 v j (fo j (g_X10_stains_48 v) (0, 0, B))) = n + 1 := fst_eq (by omega) (by rw [cM]; rfl) fun j hj => by
      by_cases z : j = n
      · rw [z, m1]
        rfl
      · rw [(hc j (by omega)).2.2.1]
        rfl
    refine ⟨⟨k1, fun j hj => (hc j (by rw [nC] at hj; exact hj)).2.1, fun _ => trivial, fun _ => ⟨by rw [sC]; exact e1, fun _ => ⟨by rw [m2]; exact l1, fun z => ?_, fun _ => trivial⟩, fun z => absurd e2' z⟩⟩, n + 1, nM, fun j hj => ?_, Or.inr ⟨?_, _, _, hk, ?_, ?_, ?_, ?_, r1, r2, ?_, ?_⟩⟩
    · rw [m2] at z
      exact absurd f1 z
    · by_cases z : j = n
      · rw [z]
        exact m2'
      · exact (hc j (by omega)).2.2.2
    · unfold F_X2_read
      rw [nC, if_neg ne, if_pos e2']
    · rw [eM, f2]
    · rw [eM, f3]
    · intro j a b c d e
      rw [eM, f4 j a b c d e, e5 j a, fc.1 j a b c, k4 1 (by decide) (by decide)]
    · intro r a b c
      rw [eM, l4 r a b c, e4 r a, fc.2 r a b c, k4 r b c]
    · intro j a b c
      rw [r3 j a b c, fm.1 j a]
    · intro r a b
      rw [r4 r a, fm.2 r a b]
