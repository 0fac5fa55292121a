theorem summ_tail {sM : Mem → Mem} {sP : Mem → Prop} {μ : Mem} (hP : P_X10_product sM sP μ) (h0 : M_X10_product sM sP μ 57 5 ≠ 0) : P_X10_sum sM sP μ ∧ M_X10_sum sM sP μ = M_X10_product sM sP μ := by
  have c0 : Cb_X10_sum_4 sM sP 0 (fo 0 (g_X10_sum_4 sM sP) (muX10_sum_1 sM sP μ)) = false := by
    unfold Cb_X10_sum_4
    exact if_pos h0
  have nM : NX10_sum_4 sM sP μ = 0 := fst_eq (by omega) (by show (!Cb_X10_sum_4 sM sP 0 (fo 0 (g_X10_sum_4 sM sP) (muX10_sum_1 sM sP μ))) = true; rw [c0]; rfl) fun j hj => absurd hj (by omega)
  have sMe : SX10_sum_4 sM sP μ = M_X10_product sM sP μ := by
    unfold SX10_sum_4
    rw [nM]
    rfl
  have h5 : (SX10_sum_4 sM sP μ) 57 5 ≠ 0 := by rw [sMe]; exact h0
  refine ⟨⟨hP, fun j hj => absurd hj (by rw [nM]; omega), fun _ => trivial, fun z => absurd z h5⟩, ?_⟩
  unfold M_X10_sum
  rw [if_pos h5, sMe]
theorem summ_no {sM : Mem → Mem} {sP : Mem → Prop} {μ : Mem} (h0 : μ 57 5 ≠ 0) : P_X10_sum sM sP μ ∧ M_X10_sum sM sP μ = μ := by
  obtain ⟨r1, r2⟩ := prod_no (sM := sM) (sP := sP) h0
  obtain ⟨t1, t2⟩ := summ_tail (sM := sM) (sP := sP) (μ := μ) r1 (by rw [r2]; exact h0)
  exact ⟨t1, by rw [t2, r2]⟩
/-! E of the LAW, both sides -/
theorem step_summ {t : Nat → Int32} {N o n p i : Nat} {A B s9 s10 : Mem} {rF : Int32 → Mem → Int32} {rM : Int32 → Mem → Mem} {rP : Int32 → Mem → Prop} {sM : Mem → Mem} {sP : Mem → Prop} (hN : N ≤ 150)
    (hs : ∀ n p μc μm, LwS t N A B o n p μc μm → P_X1_readProduct rF rM rP (nI o) μc ∧ P_X10_product sM sP μm ∧ LE t N A B o n p μc (F_X1_readProduct rF rM rP (nI o) μc) (M_X1_readProduct rF rM rP (nI o) μc) (M_X10_product sM sP μm))
    (h : LwS t N A B o n p s9 s10) (hi : i ≤ p) (hb : byt t N (skp t N p) = 43 ∨ byt t N (skp t N p) = 45) (hd : 1 ≤ dpt (s9 27) n) :
    i < 150 ∧ ((Cb_X1_readSum_13 rF rM rP (nI o) i s9 = true ∧ Pb_X1_readSum_13 rF rM rP (nI o) i s9 ∧ Cb_X10_sum_4 sM sP i s10 = true ∧ Pb_X10_sum_4 sM sP i s10 ∧ ∃ n' p', LwS t N A B o n' p' (g_X1_readSum_13 rF rM rP (nI o) i s9) (g_X10_sum_4 sM sP i s10) ∧ n ≤ n' ∧ n' + p ≤ n + p' ∧ p + 1 ≤ p' ∧ dpt (g_X1_readSum_13 rF rM rP (nI o) i s9 27) n' = dpt (s9 27) n) ∨
      (Cb_X1_readSum_13 rF rM rP (nI o) i s9 = false ∧ Cb_X10_sum_4 sM sP i s10 = true ∧ Pb_X10_sum_4 sM sP i s10 ∧
        ((F_X8_peek s9 = 43 ∧ P_X1_readProduct rF rM rP (nI o) (M_X8_skipSign (M_X8_peek s9)) ∧ F_X1_readProduct rF rM rP (nI o) (M_X8_skipSign (M_X8_peek s9)) = 0) ∨ (¬ F_X8_peek s9 = 43 ∧ F_X8_peek s9 = 45 ∧ P_X1_readProduct rF rM rP (nI o) (M_X8_skipSign (M_X8_peek s9)) ∧ F_X1_readProduct rF rM rP (nI o) (M_X8_skipSign (M_X8_peek s9)) = 0)) ∧ P_X8_peek s9 ∧
        Flt t N A B (M_X1_readProduct rF rM rP (nI o) (M_X8_skipSign (M_X8_peek s9))) (g_X10_sum_4 sM sP i s10))) := by
  obtain ⟨k1, k2, h1, d1, pp, qN, N6, ss⟩ := LwS_peek h
  obtain ⟨q, hqd⟩ : ∃ q, q = skp t N p := ⟨_, rfl⟩
  rw [← hqd] at k2 h1 pp qN ss hb
  have qlt : q < N := by
    rcases hb with z | z
    · exact byt_lt z (by decide)
    · exact byt_lt z (by decide)
  have np := h.2.1.2.2
  have i150 : i < 150 := by omega
  refine ⟨i150, ?_⟩
  have ni : ¬ (150 : Int32) ≤ nI i := nI_ge (b := 150) i150 (by omega)
  have h0 := h.1.2.2.1
  -- the sign, by the reference
  obtain ⟨pm, tm, em⟩ := h.1.2.1
  rw [← hqd] at em
  obtain ⟨a1, a2, a3, a4, a5⟩ := sp_takesSign (c := 43) tm h0 (by decide)
  rw [em] at a2 a3
  have e1 : muX10_sum_4_1 sM sP i s10 = M_X10_takesSign 43 s10 := rfl
  rw [← e1] at a3 a4 a5
  have key : ∃ k : Int32, VX10_sum_4_3 sM sP i s10 = k ∧ k ≠ -1 ∧ ((byt t N q = 43 ∧ k = 2) ∨ (byt t N q ≠ 43 ∧ k = 3)) ∧ (((F_X10_takesSign 43 s10) = 0 → P_X10_takesSign 45 (muX10_sum_4_1 sM sP i s10)) ∧ (¬ (F_X10_takesSign 43 s10) = 0 → True)) ∧ TxM t N (q + 1) (VX10_sum_4_4 sM sP i s10) ∧ (∀ k, k ≠ 4 → VX10_sum_4_4 sM sP i s10 57 k = s10 57 k) ∧ ∀ r, r ≠ 57 → VX10_sum_4_4 sM sP i s10 r = s10 r := by
    by_cases y : byt t N q = 43
    · have f : ¬ F_X10_takesSign 43 s10 = 0 := by
        rw [a2, if_pos y]
        decide
      rw [if_pos y] at a3
      refine ⟨2, ?_, by decide, Or.inl ⟨y, rfl⟩, ⟨fun z => absurd z f, fun _ => trivial⟩, ?_, ?_, ?_⟩
      · unfold VX10_sum_4_3
        rw [if_neg f]
      · unfold VX10_sum_4_4
        rw [if_neg f]
        exact a3
      · unfold VX10_sum_4_4
        rw [if_neg f]
        exact a5
      · unfold VX10_sum_4_4
        rw [if_neg f]
        exact a4
    · have f : F_X10_takesSign 43 s10 = 0 := by rw [a2, if_neg y]
      rw [if_neg y] at a3
      have y2 : byt t N q = 45 := by
        rcases hb with z | z
        · exact absurd z y
        · exact z
      obtain ⟨b1, b2, b3, b4, b5⟩ := sp_takesSign (c := 45) a3 (by rw [a5 5 (by decide)]; exact h0) (by decide)
      rw [ss, if_pos y2] at b2 b3
      have f2 : ¬ F_X10_takesSign 45 (muX10_sum_4_1 sM sP i s10) = 0 := by
        rw [b2]
        decide
      have e2 : muX10_sum_4_2 sM sP i s10 = M_X10_takesSign 45 (muX10_sum_4_1 sM sP i s10) := rfl
      rw [← e2] at b3 b4 b5
      refine ⟨3, ?_, by decide, Or.inr ⟨y, rfl⟩, ⟨fun _ => b1, fun _ => trivial⟩, ?_, ?_, ?_⟩
      · unfold VX10_sum_4_3
        rw [if_pos f, if_neg f2]
      · unfold VX10_sum_4_4
        rw [if_pos f]
        exact b3
      · unfold VX10_sum_4_4
        rw [if_pos f]
        exact fun k hk => by rw [b5 k hk, a5 k hk]
      · unfold VX10_sum_4_4
        rw [if_pos f]
        exact fun r hr => by rw [b4 r hr, a4 r hr]
  obtain ⟨k, ek, kn, kc, kP, kx, k57, kr⟩ := key
  have nk : VX10_sum_4_3 sM sP i s10 ≠ -1 := by rw [ek]; exact kn
  have cM : Cb_X10_sum_4 sM sP i s10 = true := by
    unfold Cb_X10_sum_4
    rw [if_neg (not_not_intro h0), if_pos nk]
  -- the class behind the sign
  have c9 : TxC t N (q + 1) (M_X8_skipSign (M_X8_peek s9)) := by
    obtain ⟨c1, c2, c3, c4, c5⟩ := h1.1.1
    have e : M_X8_skipSign (M_X8_peek s9) = upm (M_X8_peek s9) 1 3 (nI (q + 1)) := by
      unfold M_X8_skipSign muX8_skipSign_1
      rw [c4, nI_succ]
    rw [e]
    exact ⟨c1, qlt, by rw [upm_rr, if_neg (by decide), c3], by rw [upm_rr, if_pos rfl], fun k hk => by rw [upm_other (by decide), c5 k hk]⟩
  have o9 : (∀ k, k ≠ 3 → M_X8_skipSign (M_X8_peek s9) 1 k = M_X8_peek s9 1 k) ∧ ∀ r, r ≠ 1 → M_X8_skipSign (M_X8_peek s9) r = M_X8_peek s9 r := by
    unfold M_X8_skipSign muX8_skipSign_1
    exact ⟨fun k hk => by rw [upm_rr, if_neg hk], fun r hr => by rw [upm_other hr]⟩
  have h9 : LwS t N A B o n (q + 1) (M_X8_skipSign (M_X8_peek s9)) (VX10_sum_4_4 sM sP i s10) := LwS_move h1 c9 (by omega) kx rfl (fun k a b c => o9.1 k a) o9.2 k57 kr
  have d9 : M_X8_skipSign (M_X8_peek s9) 27 = s9 27 := by rw [o9.2 27 (by decide), d1]
  obtain ⟨u1, u2, u3⟩ := hs _ _ _ _ h9
  have e5 : muX10_sum_4_5 sM sP i s10 = M_X10_product sM sP (VX10_sum_4_4 sM sP i s10) := rfl
  rw [← e5] at u3
  have eg : g_X10_sum_4 sM sP i s10 = M_X10_notes k 0 (muX10_sum_4_5 sM sP i s10) := by
    show muX10_sum_4_6 sM sP i s10 = _
    unfold muX10_sum_4_6
    rw [ek]
  have hPb : P_X10_notes k 0 (muX10_sum_4_5 sM sP i s10) → Pb_X10_sum_4 sM sP i s10 := fun hn => ⟨fun z => absurd h0 z, fun _ => ⟨a1, kP, fun _ => ⟨u2, by rw [ek]; exact hn⟩, fun z => absurd z nk⟩⟩
  have q2 : muX1_readSum_13_2 rF rM rP (nI o) i s9 = M_X8_skipSign (M_X8_peek s9) := rfl
  have q6 : muX1_readSum_13_6 rF rM rP (nI o) i s9 = M_X8_skipSign (M_X8_peek s9) := rfl
  rcases u3 with ⟨f, n', p', hl, l1, l2, l3⟩ | ⟨f, fl⟩
  · have f' : F_X1_readProduct rF rM rP (nI o) (M_X8_skipSign (M_X8_peek s9)) ≠ 0 := by rw [f]; decide
    have kc' : ∃ c : Int32, 7 < c ∧ c ≤ 13 ∧ k = c - 6 ∧ g_X1_readSum_13 rF rM rP (nI o) i s9 = M_X1_add 26 c (M_X1_readProduct rF rM rP (nI o) (M_X8_skipSign (M_X8_peek s9))) := by
      rcases kc with ⟨y, e⟩ | ⟨y, e⟩
      · refine ⟨8, by decide, by decide, by rw [e]; decide, ?_⟩
        unfold g_X1_readSum_13
        rw [if_pos (by rw [k2]; exact y)]
        unfold muX1_readSum_13_5 VX1_readSum_13_4
        rw [if_neg (not_not_intro (by rw [k2]; exact y))]
        rfl
      · refine ⟨9, by decide, by decide, by rw [e]; decide, ?_⟩
        unfold g_X1_readSum_13
        rw [if_neg (by rw [k2]; exact y)]
        unfold muX1_readSum_13_9 VX1_readSum_13_8
        rw [if_pos (by rw [k2]; exact y)]
        rfl
    obtain ⟨c, c7, c13, ck, eC⟩ := kc'
    obtain ⟨o1, o2, o3⟩ := LwS_op (c := c) (a := k) hl (by omega) hN c7 c13 ck (by rw [l3, d9]; omega)
    refine Or.inl ⟨?_, ?_, cM, hPb o1, n' + 1, p', ?_, by omega, by omega, by omega, ?_⟩
    · unfold Cb_X1_readSum_13
      rw [if_neg ni, q2, q6, if_pos f', k2]
      by_cases y : byt t N q = 43
      · rw [if_pos y]
      · rw [if_neg y, if_pos]
        rcases hb with z | z
        · exact absurd z y
        · exact z
    · refine ⟨fun z => absurd z ni, fun _ => ⟨k1, fun _ => ⟨u1, fun _ => trivial, fun z => absurd z f'⟩, fun z => ⟨fun _ => ⟨u1, fun _ => trivial, fun z => absurd z f'⟩, fun y => ?_⟩⟩⟩
      rw [k2] at z y
      rcases hb with w | w
      · exact absurd w z
      · exact absurd w y
    · rw [eC, eg]
      exact o2
    · rw [eC, o3, l3, d9]
      omega
  · have f' : ¬ F_X1_readProduct rF rM rP (nI o) (M_X8_skipSign (M_X8_peek s9)) ≠ 0 := not_not_intro f
    obtain ⟨o1, o2⟩ := sp_notes_no (a := k) (b := 0) fl.nz
    refine Or.inr ⟨?_, cM, hPb o1, ?_, k1, by rw [eg, o2]; exact fl⟩
    · unfold Cb_X1_readSum_13
      rw [if_neg ni, q2, q6, if_neg f']
      split
      · rfl
      · split <;> rfl
    · by_cases y : byt t N q = 43
      · exact Or.inl ⟨by rw [k2]; exact y, u1, f⟩
      · refine Or.inr ⟨by rw [k2]; exact y, ?_, u1, f⟩
        rw [k2]
        rcases hb with z | z
        · exact absurd z y
        · exact z
theorem summ_ok {t : Nat → Int32} {N o n p : Nat} {A B μc μm : Mem} {rF : Int32 → Mem → Int32} {rM : Int32 → Mem → Mem} {rP : Int32 → Mem → Prop} {sM : Mem → Mem} {sP : Mem → Prop} (hN : N ≤ 150)
    (hs : ∀ n p μc μm, LwS t N A B o n p μc μm → P_X1_readProduct rF rM rP (nI o) μc ∧ P_X10_product sM sP μm ∧ LE t N A B o n p μc (F_X1_readProduct rF rM rP (nI o) μc) (M_X1_readProduct rF rM rP (nI o) μc) (M_X10_product sM sP μm))
    (h : LwS t N A B o n p μc μm) : P_X1_readSum rF rM rP (nI o) μc ∧ P_X10_sum sM sP μm ∧ LE t N A B o n p μc (F_X1_readSum rF rM rP (nI o) μc) (M_X1_readSum rF rM rP (nI o) μc) (M_X10_sum sM sP μm) := by
  obtain ⟨u1, u2, u3⟩ := hs _ _ _ _ h
  have eC1 : muX1_readSum_1 rF rM rP (nI o) μc = M_X1_readProduct rF rM rP (nI o) μc := rfl
  have eM1 : muX10_sum_1 sM sP μm = M_X10_product sM sP μm := rfl
  rcases u3 with ⟨f, n1, p1, hl, l1, l2, l3⟩ | ⟨f, fl⟩
  · have f' : F_X1_readProduct rF rM rP (nI o) μc ≠ 0 := by rw [f]; decide
    rw [← eC1] at hl l3
    rw [← eM1] at hl
    obtain ⟨m, hm, ⟨hc, n2, p2, hS, s1, s2, s3, s4⟩, he⟩ := lock (B := 150)
      (R := fun i => (∀ j, j < i → Cb_X1_readSum_13 rF rM rP (nI o) j (fo j (g_X1_readSum_13 rF rM rP (nI o)) (muX1_readSum_1 rF rM rP (nI o) μc)) = true ∧ Pb_X1_readSum_13 rF rM rP (nI o) j (fo j (g_X1_readSum_13 rF rM rP (nI o)) (muX1_readSum_1 rF rM rP (nI o) μc)) ∧ Cb_X10_sum_4 sM sP j (fo j (g_X10_sum_4 sM sP) (muX10_sum_1 sM sP μm)) = true ∧ Pb_X10_sum_4 sM sP j (fo j (g_X10_sum_4 sM sP) (muX10_sum_1 sM sP μm))) ∧
        ∃ n' p', LwS t N A B o n' p' (fo i (g_X1_readSum_13 rF rM rP (nI o)) (muX1_readSum_1 rF rM rP (nI o) μc)) (fo i (g_X10_sum_4 sM sP) (muX10_sum_1 sM sP μm)) ∧ n1 ≤ n' ∧ n' + p1 ≤ n1 + p' ∧ p1 + i ≤ p' ∧ dpt (fo i (g_X1_readSum_13 rF rM rP (nI o)) (muX1_readSum_1 rF rM rP (nI o) μc) 27) n' = dpt (μc 27) n + 1)
      (E := fun i => ∀ n' p', LwS t N A B o n' p' (fo i (g_X1_readSum_13 rF rM rP (nI o)) (muX1_readSum_1 rF rM rP (nI o) μc)) (fo i (g_X10_sum_4 sM sP) (muX10_sum_1 sM sP μm)) → i ≤ p' → dpt (fo i (g_X1_readSum_13 rF rM rP (nI o)) (muX1_readSum_1 rF rM rP (nI o) μc) 27) n' = dpt (μc 27) n + 1 → (byt t N (skp t N p') ≠ 43 ∧ byt t N (skp t N p') ≠ 45) ∨
        (i < 150 ∧ Cb_X1_readSum_13 rF rM rP (nI o) i (fo i (g_X1_readSum_13 rF rM rP (nI o)) (muX1_readSum_1 rF rM rP (nI o) μc)) = false ∧ Cb_X10_sum_4 sM sP i (fo i (g_X10_sum_4 sM sP) (muX10_sum_1 sM sP μm)) = true ∧ Pb_X10_sum_4 sM sP i (fo i (g_X10_sum_4 sM sP) (muX10_sum_1 sM sP μm)) ∧
          ((F_X8_peek (fo i (g_X1_readSum_13 rF rM rP (nI o)) (muX1_readSum_1 rF rM rP (nI o) μc)) = 43 ∧ P_X1_readProduct rF rM rP (nI o) (M_X8_skipSign (M_X8_peek (fo i (g_X1_readSum_13 rF rM rP (nI o)) (muX1_readSum_1 rF rM rP (nI o) μc)))) ∧ F_X1_readProduct rF rM rP (nI o) (M_X8_skipSign (M_X8_peek (fo i (g_X1_readSum_13 rF rM rP (nI o)) (muX1_readSum_1 rF rM rP (nI o) μc)))) = 0) ∨ (¬ F_X8_peek (fo i (g_X1_readSum_13 rF rM rP (nI o)) (muX1_readSum_1 rF rM rP (nI o) μc)) = 43 ∧ F_X8_peek (fo i (g_X1_readSum_13 rF rM rP (nI o)) (muX1_readSum_1 rF rM rP (nI o) μc)) = 45 ∧ P_X1_readProduct rF rM rP (nI o) (M_X8_skipSign (M_X8_peek (fo i (g_X1_readSum_13 rF rM rP (nI o)) (muX1_readSum_1 rF rM rP (nI o) μc)))) ∧ F_X1_readProduct rF rM rP (nI o) (M_X8_skipSign (M_X8_peek (fo i (g_X1_readSum_13 rF rM rP (nI o)) (muX1_readSum_1 rF rM rP (nI o) μc)))) = 0)) ∧ P_X8_peek (fo i (g_X1_readSum_13 rF rM rP (nI o)) (muX1_readSum_1 rF rM rP (nI o) μc)) ∧
          Flt t N A B (M_X1_readProduct rF rM rP (nI o) (M_X8_skipSign (M_X8_peek (fo i (g_X1_readSum_13 rF rM rP (nI o)) (muX1_readSum_1 rF rM rP (nI o) μc))))) (g_X10_sum_4 sM sP i (fo i (g_X10_sum_4 sM sP) (muX10_sum_1 sM sP μm)))))
      ⟨fun j hj => absurd hj (by omega), n1, p1, by rw [fo_z, fo_z]; exact hl, Nat.le_refl _, Nat.le_refl _, Nat.le_refl _, by rw [fo_z]; exact l3⟩ (fun ⟨_, n', p', hl', _, _, z, _⟩ => by have := hl'.1.1.2.1; omega) (fun i ⟨h1, n', p', hl', z1, z2, z3, z4⟩ => by
        by_cases y : byt t N (skp t N p') = 43 ∨ byt t N (skp t N p') = 45
        · obtain ⟨i150, w⟩ := step_summ (i := i) hN hs hl' (by omega) y (by omega)
          rcases w with ⟨a1, a2, a3, a4, n3, p3, b1, b2, b3, b4, b5⟩ | w
          · refine Or.inr ⟨fun j hj => ?_, n3, p3, by rw [fo_succ, fo_succ]; exact b1, by omega, by omega, by omega, by rw [fo_succ]; exact b5.trans z4⟩
            by_cases z : j = i
            · rw [z]
              exact ⟨a1, a2, a3, a4⟩
            · exact h1 j (by omega)
          · refine Or.inl fun n4 p4 h4 i4 d4 => Or.inr ?_
            exact ⟨i150, w⟩
        · refine Or.inl fun n4 p4 h4 i4 d4 => Or.inl ?_
          have e : p4 = p' := (nI_eq (by have := h4.1.1.2.1; omega) (by have := hl'.1.1.2.1; omega)).mp (h4.1.1.2.2.2.1.symm.trans hl'.1.1.2.2.2.1)
          rw [e]
          exact ⟨fun z => y (Or.inl z), fun z => y (Or.inr z)⟩)
    have he' := he n2 p2 hS (by omega) s4
    have h5 := hS.1.2.2.1
    rcases he' with ⟨y1, y2⟩ | ⟨i150, y1, y2, y3, y4, y5, y6⟩
    · obtain ⟨k1, k2, h1, d1, pp, qN, N6, ss⟩ := LwS_peek hS
      have np1 : ¬ F_X8_peek (fo m (g_X1_readSum_13 rF rM rP (nI o)) (muX1_readSum_1 rF rM rP (nI o) μc)) = 43 := by rw [k2]; exact y1
      have np2 : ¬ F_X8_peek (fo m (g_X1_readSum_13 rF rM rP (nI o)) (muX1_readSum_1 rF rM rP (nI o) μc)) = 45 := by rw [k2]; exact y2
      have cC : Cb_X1_readSum_13 rF rM rP (nI o) m (fo m (g_X1_readSum_13 rF rM rP (nI o)) (muX1_readSum_1 rF rM rP (nI o) μc)) = false := by
        unfold Cb_X1_readSum_13
        rw [if_neg np1, if_neg np2]
        split <;> rfl
      have nC : NX1_readSum_13 rF rM rP (nI o) μc = m := fst_eq (by omega) (by show (!Cb_X1_readSum_13 rF rM rP (nI o) m (fo m (g_X1_readSum_13 rF rM rP (nI o)) (muX1_readSum_1 rF rM rP (nI o) μc))) = true; rw [cC]; rfl) fun j hj => by
        show (!Cb_X1_readSum_13 rF rM rP (nI o) j (fo j (g_X1_readSum_13 rF rM rP (nI o)) (muX1_readSum_1 rF rM rP (nI o) μc))) = false
        rw [(hc j hj).1]
        rfl
      have sC : SX1_readSum_13 rF rM rP (nI o) μc = fo m (g_X1_readSum_13 rF rM rP (nI o)) (muX1_readSum_1 rF rM rP (nI o) μc) := by
        unfold SX1_readSum_13
        rw [nC]
      obtain ⟨pm, tm, em⟩ := hS.1.2.1
      obtain ⟨a1, a2, a3, a4, a5⟩ := sp_takesSign (c := 43) tm h5 (by decide)
      rw [em, if_neg y1] at a2 a3
      obtain ⟨b1, b2, b3, b4, b5⟩ := sp_takesSign (c := 45) a3 (by rw [a5 5 (by decide)]; exact h5) (by decide)
      rw [ss, if_neg y2] at b2 b3
      have cM : Cb_X10_sum_4 sM sP m (fo m (g_X10_sum_4 sM sP) (muX10_sum_1 sM sP μm)) = false := by
        unfold Cb_X10_sum_4 VX10_sum_4_3 muX10_sum_4_1
        rw [if_neg (not_not_intro h5), if_pos a2, if_pos b2, if_neg (not_not_intro rfl)]
      have nM : NX10_sum_4 sM sP μm = m := fst_eq (by omega) (by show (!Cb_X10_sum_4 sM sP m (fo m (g_X10_sum_4 sM sP) (muX10_sum_1 sM sP μm))) = true; rw [cM]; rfl) fun j hj => by
        show (!Cb_X10_sum_4 sM sP j (fo j (g_X10_sum_4 sM sP) (muX10_sum_1 sM sP μm))) = false
        rw [(hc j hj).2.2.1]
        rfl
      have sMe : SX10_sum_4 sM sP μm = fo m (g_X10_sum_4 sM sP) (muX10_sum_1 sM sP μm) := by
        unfold SX10_sum_4
        rw [nM]
      have h5' : (SX10_sum_4 sM sP μm) 57 5 = 0 := by rw [sMe]; exact h5
      have a2' : F_X10_takesSign 43 (SX10_sum_4 sM sP μm) = 0 := by rw [sMe]; exact a2
      have b2' : F_X10_takesSign 45 (muX10_sum_2 sM sP μm) = 0 := by
        unfold muX10_sum_2
        rw [sMe]
        exact b2
      have eV : VX10_sum_4 sM sP μm = -1 := by
        unfold VX10_sum_4
        rw [if_pos a2', if_pos b2']
      have eM : M_X10_sum sM sP μm = M_X10_takesSign 45 (M_X10_takesSign 43 (fo m (g_X10_sum_4 sM sP) (muX10_sum_1 sM sP μm))) := by
        unfold M_X10_sum VX10_sum_5
        rw [if_neg (not_not_intro h5'), if_pos a2']
        unfold muX10_sum_3 muX10_sum_2
        rw [sMe]
      have hm2 : LwS t N A B o n2 p2 (fo m (g_X1_readSum_13 rF rM rP (nI o)) (muX1_readSum_1 rF rM rP (nI o) μc)) (M_X10_sum sM sP μm) := by
        rw [eM]
        exact LwS_move hS hS.1.1 (Nat.le_refl _) b3 ss (fun _ _ _ _ => rfl) (fun _ _ => rfl) (fun k hk => by rw [b5 k hk, a5 k hk]) (fun r hr => by rw [b4 r hr, a4 r hr])
      have hPM : P_X10_sum sM sP μm := ⟨u2, fun j hj => (hc j (by rw [nM] at hj; exact hj)).2.2.2, fun z => absurd h5' z, fun _ => ⟨by rw [sMe]; exact a1, ⟨fun _ => by unfold muX10_sum_2; rw [sMe]; exact b1, fun _ => trivial⟩, fun z => absurd eV z, fun _ => trivial⟩⟩
      have hPC : P_X1_readSum rF rM rP (nI o) μc := ⟨u1, fun _ => ⟨fun j hj => (hc j (by rw [nC] at hj; exact hj)).2.1, fun _ => trivial, fun _ => ⟨by rw [sC]; exact k1, fun z => absurd z (by rw [sC]; exact np1), fun _ => ⟨fun z => absurd z (by rw [sC]; exact np2), fun _ => trivial⟩⟩⟩, fun z => absurd z f'⟩
      refine ⟨hPC, hPM, Or.inl ?_⟩
      by_cases w : 150 ≤ m
      · have w' : (150 : Int32) ≤ nI (NX1_readSum_13 rF rM rP (nI o) μc) := by rw [nC]; exact nI_le (a := 150) w (by omega)
        have eMC : M_X1_readSum rF rM rP (nI o) μc = fo m (g_X1_readSum_13 rF rM rP (nI o)) (muX1_readSum_1 rF rM rP (nI o) μc) := by
          unfold M_X1_readSum
          rw [if_pos f', if_pos w', sC]
        rw [eMC]
        refine ⟨?_, n2, p2, hm2, by omega, by omega, s4⟩
        unfold F_X1_readSum
        rw [if_pos f', if_pos w']
      · have w' : ¬ (150 : Int32) ≤ nI (NX1_readSum_13 rF rM rP (nI o) μc) := by rw [nC]; exact nI_ge (b := 150) (by omega) (by omega)
        have eMC : M_X1_readSum rF rM rP (nI o) μc = M_X8_peek (fo m (g_X1_readSum_13 rF rM rP (nI o)) (muX1_readSum_1 rF rM rP (nI o) μc)) := by
          unfold M_X1_readSum muX1_readSum_2
          rw [if_pos f', if_neg w', sC, if_neg np1, if_neg np2]
        obtain ⟨k1', k2', h1', d1', pp', -⟩ := LwS_peek hm2
        rw [eMC]
        refine ⟨?_, n2, _, h1', by omega, by omega, by rw [d1', s4]⟩
        unfold F_X1_readSum
        rw [if_pos f', if_neg w', sC, if_neg np1, if_neg np2]
    · have nC : NX1_readSum_13 rF rM rP (nI o) μc = m := fst_eq (by omega) (by show (!Cb_X1_readSum_13 rF rM rP (nI o) m (fo m (g_X1_readSum_13 rF rM rP (nI o)) (muX1_readSum_1 rF rM rP (nI o) μc))) = true; rw [y1]; rfl) fun j hj => by
        show (!Cb_X1_readSum_13 rF rM rP (nI o) j (fo j (g_X1_readSum_13 rF rM rP (nI o)) (muX1_readSum_1 rF rM rP (nI o) μc))) = false
        rw [(hc j hj).1]
        rfl
      have sC : SX1_readSum_13 rF rM rP (nI o) μc = fo m (g_X1_readSum_13 rF rM rP (nI o)) (muX1_readSum_1 rF rM rP (nI o) μc) := by
        unfold SX1_readSum_13
        rw [nC]
      have w' : ¬ (150 : Int32) ≤ nI (NX1_readSum_13 rF rM rP (nI o) μc) := by rw [nC]; exact nI_ge (b := 150) (by omega) (by omega)
      have eg : g_X10_sum_4 sM sP m (fo m (g_X10_sum_4 sM sP) (muX10_sum_1 sM sP μm)) = fo (m + 1) (g_X10_sum_4 sM sP) (muX10_sum_1 sM sP μm) := by rw [fo_succ]
      rw [eg] at y6
      have cM : Cb_X10_sum_4 sM sP (m + 1) (fo (m + 1) (g_X10_sum_4 sM sP) (muX10_sum_1 sM sP μm)) = false := by
        unfold Cb_X10_sum_4
        rw [if_pos y6.nz]
      have nM : NX10_sum_4 sM sP μm = m + 1 := fst_eq (by omega) (by show (!Cb_X10_sum_4 sM sP (m + 1) (fo (m + 1) (g_X10_sum_4 sM sP) (muX10_sum_1 sM sP μm))) = true; rw [cM]; rfl) fun j hj => by
        show (!Cb_X10_sum_4 sM sP j (fo j (g_X10_sum_4 sM sP) (muX10_sum_1 sM sP μm))) = false
        by_cases z : j = m
        · rw [z, y2]
          rfl
        · rw [(hc j (by omega)).2.2.1]
          rfl
      have sMe : SX10_sum_4 sM sP μm = fo (m + 1) (g_X10_sum_4 sM sP) (muX10_sum_1 sM sP μm) := by
        unfold SX10_sum_4
        rw [nM]
      have h5' : (SX10_sum_4 sM sP μm) 57 5 ≠ 0 := by rw [sMe]; exact y6.nz
      have eM : M_X10_sum sM sP μm = fo (m + 1) (g_X10_sum_4 sM sP) (muX10_sum_1 sM sP μm) := by
        unfold M_X10_sum
        rw [if_pos h5', sMe]
      have hPM : P_X10_sum sM sP μm := by
        refine ⟨u2, fun j hj => ?_, fun _ => trivial, fun z => absurd z h5'⟩
        rw [nM] at hj
        by_cases z : j = m
        · rw [z]
          exact y3
        · exact (hc j (by omega)).2.2.2
      have q3 : muX1_readSum_3 rF rM rP (nI o) μc = M_X8_skipSign (M_X8_peek (fo m (g_X1_readSum_13 rF rM rP (nI o)) (muX1_readSum_1 rF rM rP (nI o) μc))) := by
        unfold muX1_readSum_3 muX1_readSum_2
        rw [sC]
      have q7 : muX1_readSum_7 rF rM rP (nI o) μc = M_X8_skipSign (M_X8_peek (fo m (g_X1_readSum_13 rF rM rP (nI o)) (muX1_readSum_1 rF rM rP (nI o) μc))) := by
        unfold muX1_readSum_7 muX1_readSum_2
        rw [sC]
      refine ⟨?_, hPM, Or.inr ?_⟩
      · refine ⟨u1, fun _ => ⟨fun j hj => (hc j (by rw [nC] at hj; exact hj)).2.1, fun _ => trivial, fun _ => ⟨by rw [sC]; exact y5, ?_⟩⟩, fun z => absurd z f'⟩
        rw [sC, q3, q7]
        rcases y4 with ⟨v1, v2, v3⟩ | ⟨v1, v2, v3, v4⟩
        · exact ⟨fun _ => ⟨v2, fun z => absurd v3 z, fun _ => trivial⟩, fun z => absurd v1 z⟩
        · exact ⟨fun z => absurd z v1, fun _ => ⟨fun _ => ⟨v3, fun z => absurd v4 z, fun _ => trivial⟩, fun z => absurd v2 z⟩⟩
      · rw [eM]
        rcases y4 with ⟨v1, v2, v3⟩ | ⟨v1, v2, v3, v4⟩
        · refine ⟨?_, ?_⟩
          · unfold F_X1_readSum
            rw [if_pos f', if_neg w', sC, if_pos v1]
          · unfold M_X1_readSum muX1_readSum_4
            rw [if_pos f', if_neg w', sC, if_pos v1, q3]
            exact y6
        · refine ⟨?_, ?_⟩
          · unfold F_X1_readSum
            rw [if_pos f', if_neg w', sC, if_neg v1, if_pos v2]
          · unfold M_X1_readSum muX1_readSum_8
            rw [if_pos f', if_neg w', sC, if_neg v1, if_pos v2, q7]
            exact y6
  · have f' : ¬ F_X1_readProduct rF rM rP (nI o) μc ≠ 0 := not_not_intro f
    obtain ⟨r1, r2⟩ := summ_tail (sM := sM) (sP := sP) (μ := μm) u2 fl.nz
    refine ⟨⟨u1, fun z => absurd f z, fun _ => trivial⟩, r1, Or.inr ⟨?_, ?_⟩⟩
    · unfold F_X1_readSum
      rw [if_neg f']
    · rw [r2]
      unfold M_X1_readSum muX1_readSum_1
      rw [if_neg f']
      exact fl
