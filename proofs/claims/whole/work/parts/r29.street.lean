/-! a STREET's text, both sides -/
def evN : EV := ((0, 0, 0, 0), (fun _ => 0), (fun _ => 0), (fun _ _ => 0), (fun _ _ => 0), 10, 3)
theorem evN_ok : EvOK evN := ⟨⟨Nat.zero_le _, Nat.zero_le _, Nat.zero_le _, Nat.zero_le _⟩, fun h hh => absurd hh (Nat.not_lt_zero _), fun h hh => absurd hh (Nat.not_lt_zero _), fun h hh => absurd hh (Nat.not_lt_zero _), fun h hh => absurd hh (Nat.not_lt_zero _), ⟨by decide, by decide⟩, by decide, by decide⟩
theorem sp_tellsNothing {μ : Mem} : P_X10_tellsNothing μ ∧ (M_X10_tellsNothing μ 60 0 = 0 ∧ M_X10_tellsNothing μ 60 1 = 0 ∧ M_X10_tellsNothing μ 60 2 = 0 ∧ M_X10_tellsNothing μ 60 3 = 0 ∧ M_X10_tellsNothing μ 60 4 = 10 ∧ M_X10_tellsNothing μ 60 5 = 3) ∧ ∀ r, r ≠ 60 → M_X10_tellsNothing μ r = μ r := by
  have st : ∀ n, n ≤ 4 → (∀ k, k < n → fo n g_X10_tellsNothing_2 μ 60 k = 0) ∧ ∀ r, r ≠ 60 → fo n g_X10_tellsNothing_2 μ r = μ r := by
    intro n
    induction n with
    | zero => exact fun _ => ⟨fun k hk => absurd hk (Nat.not_lt_zero _), fun _ _ => rfl⟩
    | succ n ih =>
      intro hn
      obtain ⟨i1, i2⟩ := ih (by omega)
      have e : fo (n + 1) g_X10_tellsNothing_2 μ = upm (fo n g_X10_tellsNothing_2 μ) 60 n 0 := by
        show upm (fo n g_X10_tellsNothing_2 μ) 60 (ix (nI n)) 0 = _
        rw [nI_ix (by omega)]
      rw [e]
      refine ⟨fun k hk => ?_, fun r hr => by rw [upm_other hr, i2 r hr]⟩
      rw [upm_rr]
      by_cases y : k = n
      · rw [if_pos y]
      · rw [if_neg y, i1 k (by omega)]
  obtain ⟨s1, s2⟩ := st 4 (Nat.le_refl _)
  have eM : M_X10_tellsNothing μ = upm (upm (fo 4 g_X10_tellsNothing_2 μ) 60 4 10) 60 5 3 := rfl
  refine ⟨⟨fun j hj => ⟨fun z => absurd z (nI_ge (b := 4) hj (by omega)), fun _ => vp_in_nI (Nat.lt_trans (show j < 4 from hj) (by decide)) (by decide)⟩, fun _ => trivial, fun z => absurd z (show ¬ (nI 4 : Int32) < 4 by decide)⟩, ⟨?_, ?_, ?_, ?_, ?_, ?_⟩, fun r hr => ?_⟩
  · rw [eM, upm_rr, if_neg (by decide), upm_rr, if_neg (by decide), s1 0 (by decide)]
  · rw [eM, upm_rr, if_neg (by decide), upm_rr, if_neg (by decide), s1 1 (by decide)]
  · rw [eM, upm_rr, if_neg (by decide), upm_rr, if_neg (by decide), s1 2 (by decide)]
  · rw [eM, upm_rr, if_neg (by decide), upm_rr, if_neg (by decide), s1 3 (by decide)]
  · rw [eM, upm_rr, if_neg (by decide), upm_rr, if_pos rfl]
  · rw [eM, upm_rr, if_pos rfl]
  · rw [eM, upm_other hr, upm_other hr, s2 r hr]
/-- i clauses are read -/
def SR (t : Nat → Int32) (N : Nat) (A B : Mem) (i p : Nat) (μ9 s : Mem) : Prop :=
  i ≤ 60 ∧ (∃ E, EvOK E ∧ RdR E μ9 s) ∧ TxC t N p μ9 ∧ TxM t N (skp t N p) s ∧ s 57 5 = 0 ∧ s 57 7 = nI i ∧ GC A μ9 ∧ GM B s ∧ (i ≤ p)
/-- one clause more, or the end of all -/
theorem SR_step {t : Nat → Int32} {N i p : Nat} {A B μ9 s : Mem} {v : Int32} (ho : TxO t N) (h : SR t N A B i p μ9 s) (hq : skp t N p < N) :
    (P_X8_isEnded μ9 ∧ F_X8_isEnded μ9 = 0 ∧ CP i (M_X8_isEnded μ9) s ∧ P_X10_blanks (M_X10_clause s)) ∧ (Cb_X10_street_42 v i s = true ∧ Pb_X10_street_42 v i s) ∧
    ((Cb_X7_read_33 i μ9 = true ∧ Pb_X7_read_33 i μ9 ∧ ∃ p', SR t N A B (i + 1) p' (g_X7_read_33 i μ9) (g_X10_street_42 v i s)) ∨
     (Cb_X7_read_33 i μ9 = false ∧ ∃ Mc k a, k ≠ 0 ∧ Mc 1 6 = k ∧ Mc 1 7 = a ∧ g_X10_street_42 v i s 57 5 = k ∧ g_X10_street_42 v i s 57 6 = a ∧ GCx A Mc ∧ GMx B (g_X10_street_42 v i s) ∧
       ((F_X8_takeWord (M_X8_isEnded μ9) = 0 ∧ Mc = M_X8_takeWord (M_X8_isEnded μ9)) ∨ (¬ F_X8_takeWord (M_X8_isEnded μ9) = 0 ∧ F_X7_readClause (if nI i ≠ 60 then 0 else 1) (M_X8_takeWord (M_X8_isEnded μ9)) = 0 ∧ Mc = M_X7_readClause (if nI i ≠ 60 then 0 else 1) (M_X8_takeWord (M_X8_isEnded μ9))) ∨
        (¬ F_X8_takeWord (M_X8_isEnded μ9) = 0 ∧ ¬ F_X7_readClause (if nI i ≠ 60 then 0 else 1) (M_X8_takeWord (M_X8_isEnded μ9)) = 0 ∧ F_X8_takeSign 59 (M_X7_readClause (if nI i ≠ 60 then 0 else 1) (M_X8_takeWord (M_X8_isEnded μ9))) = 0 ∧ Mc = M_X8_takeSign 59 (M_X7_readClause (if nI i ≠ 60 then 0 else 1) (M_X8_takeWord (M_X8_isEnded μ9))))))) := by
  obtain ⟨hi, ⟨E, hO, hR⟩, tc, tm, h5, h7, gc, gm, hip⟩ := h
  have hN := tc.1
  have hpN := tc.2.1
  obtain ⟨q1, q2, -, -⟩ := skp_ok (t := t) hN hpN
  obtain ⟨e1, e2, e3, e4, e5⟩ := sp_isEnded ho tc
  rw [if_pos hq] at e2
  have gce : GC μ9 (M_X8_isEnded μ9) := ⟨fun k a _ _ => e5 k a, fun r a _ => e4 r a⟩
  have hRe : RdR E (M_X8_isEnded μ9) s := hR.mono hO (fun r u v => e4 r (by omega)) (fun _ _ _ => rfl)
  have hss := skp_skp (t := t) hN hpN
  obtain ⟨cp, co⟩ := clause_ok (q := skp t N p) (i := i) (pm := skp t N p) hO hRe e3 tm hss h5 hss h7 hi
  have ne : ¬ (60 : Int32) < nI i := Int32.not_lt.mpr (nI_le (b := 60) hi (by omega))
  have lt : nI (skp t N p) < nI N := nI_lt hq (by omega)
  have nle : ¬ s 57 2 ≤ s 57 4 := by
    rw [tm.2.2.1, tm.2.2.2.1]
    exact Int32.not_le.mpr lt
  have CbM : Cb_X10_street_42 v i s = true := by
    unfold Cb_X10_street_42
    rw [if_neg (not_not_intro h5), if_neg nle]
  have tx : ∃ pm, TxM t N pm (M_X10_clause s) := by
    rcases co with ⟨-, -, -, -, E', p', -, -, tt, -⟩ | ⟨Mc, tf, -⟩
    · exact ⟨_, tt.2.1.choose_spec.1⟩
    · exact tf.tx
  obtain ⟨pm, tx⟩ := tx
  obtain ⟨b1, b2, b3, b4⟩ := sp_blanks tx
  have eg : g_X10_street_42 v i s = M_X10_blanks (M_X10_clause s) := rfl
  have gmb : GM (M_X10_clause s) (M_X10_blanks (M_X10_clause s)) := ⟨fun k a _ => b4 k a, fun r a => b3 r a.1⟩
  have PbM : Pb_X10_street_42 v i s := ⟨fun z => absurd h5 z, fun _ => ⟨fun z => absurd z nle, fun _ => ⟨cp.2.2, b1⟩⟩⟩
  have q1' : muX7_read_33_1 i μ9 = M_X8_isEnded μ9 := rfl
  have q2' : muX7_read_33_2 i μ9 = M_X8_takeWord (M_X8_isEnded μ9) := rfl
  have q3' : VX7_read_33_3 i μ9 = (if nI i ≠ 60 then 0 else 1) := rfl
  have q4' : muX7_read_33_4 i μ9 = M_X7_readClause (if nI i ≠ 60 then 0 else 1) (M_X8_takeWord (M_X8_isEnded μ9)) := rfl
  refine ⟨⟨e1, e2, cp, b1⟩, ⟨CbM, PbM⟩, ?_⟩
  rcases co with ⟨f1, f2, f3, hi60, E', p', hO', hR', tt, pp, g1, g2, g7⟩ | ⟨Mc, tf, g1, g2, hcase⟩
  · refine Or.inl ⟨?_, ?_, p', ?_⟩
    · unfold Cb_X7_read_33
      rw [if_neg ne, if_pos e2, q1', q2', q3', q4', if_neg f1, if_neg f2, if_pos f3]
    · exact ⟨fun z => absurd z ne, fun _ => ⟨e1, fun _ => ⟨cp.1, fun z => absurd z f1, fun _ => ⟨(cp.2.1 f1).1, fun z => absurd z f2, fun _ => ⟨(cp.2.1 f1).2 f2, fun _ => trivial, fun z => absurd z f3⟩⟩⟩, fun z => absurd e2 z⟩⟩
    · obtain ⟨c1, ⟨pm', c2, c3⟩, c5⟩ := tt
      obtain ⟨-, d2, d3, d4⟩ := sp_blanks c2
      rw [c3] at d2
      refine ⟨by omega, ⟨E', hO', ?_⟩, c1, d2, by rw [eg, d4 5 (by decide)]; exact c5, by rw [eg, d4 7 (by decide)]; exact g7, gc.trans (gce.trans g1), gm.trans (g2.trans gmb), by omega⟩
      exact hR'.mono hO' (fun _ _ _ => rfl) (fun r _ w => d3 r w)
  · refine Or.inr ⟨?_, Mc, ?_⟩
    · unfold Cb_X7_read_33
      rw [if_neg ne, if_pos e2, q1', q2', q3', q4']
      rcases hcase with ⟨z, -⟩ | ⟨z1, z2, -⟩ | ⟨z1, z2, z3, -⟩
      · exact if_pos z
      · rw [if_neg z1]
        exact if_pos z2
      · rw [if_neg z1]
        refine (if_neg z2).trans ?_
        exact if_neg (not_not_intro z3)
    · obtain ⟨k, a, k0, m1, m2, m3, m4, -⟩ := tf
      exact ⟨k, a, k0, m1, m2, by rw [eg, b4 5 (by decide)]; exact m3, by rw [eg, b4 6 (by decide)]; exact m4, gc.x.trans (gce.x.trans g1), gm.x.trans (g2.trans gmb.x), hcase⟩
theorem sp_streetRead {t : Nat → Int32} {N : Nat} {μ B : Mem} {v : Int32} (ho : TxO t N) (hA : TxC t N 0 μ) (hB : TxM t N (skp t N 0) B) (h5 : B 57 5 = 0) (h7 : B 57 7 = 0) (h60 : B 60 0 = 0 ∧ B 60 1 = 0 ∧ B 60 2 = 0 ∧ B 60 3 = 0 ∧ B 60 4 = 10 ∧ B 60 5 = 3) :
    P_X7_read μ ∧ ∃ n, fst 602 (fun j => !Cb_X10_street_42 v j (fo j (g_X10_street_42 v) B)) = n ∧ (∀ j, j < n → Pb_X10_street_42 v j (fo j (g_X10_street_42 v) B)) ∧ GCx μ (M_X7_read μ) ∧ GMx B (fo n (g_X10_street_42 v) B) ∧
    ((F_X7_read μ ≠ 0 ∧ ∃ E, EvOK E ∧ RdR E (M_X7_read μ) (fo n (g_X10_street_42 v) B) ∧ GC μ (M_X7_read μ) ∧ fo n (g_X10_street_42 v) B 57 5 = 0 ∧ fo n (g_X10_street_42 v) B 57 2 ≤ fo n (g_X10_street_42 v) B 57 4) ∨
     (F_X7_read μ = 0 ∧ ∃ k a, k ≠ 0 ∧ M_X7_read μ 1 6 = k ∧ M_X7_read μ 1 7 = a ∧ fo n (g_X10_street_42 v) B 57 5 = k ∧ fo n (g_X10_street_42 v) B 57 6 = a)) := by
  have hN := hA.1
  have eA : muX7_read_6 μ = upm (upm (upm (upm (upm (upm μ 12 8 0) 12 9 0) 12 10 0) 12 11 0) 12 12 10) 12 13 3 := rfl
  have oA : ∀ r, r ≠ 12 → muX7_read_6 μ r = μ r := fun r hr => by rw [eA, upm_other hr, upm_other hr, upm_other hr, upm_other hr, upm_other hr, upm_other hr]
  have gA0 : GC μ (muX7_read_6 μ) := ⟨fun k _ _ _ => by rw [oA 1 (by decide)], fun r _ b => oA r (by omega)⟩
  have rd0 : RdR evN (muX7_read_6 μ) B := by
    refine ⟨⟨?_, ?_, ?_, ?_, ?_, ?_⟩, h60, fun h hh => absurd hh (Nat.not_lt_zero _), fun h hh => absurd hh (Nat.not_lt_zero _), fun h hh => absurd hh (Nat.not_lt_zero _), fun h hh => absurd hh (Nat.not_lt_zero _)⟩ <;> simp [eA, upm_rr, evN, eH, eT, eD, eF, eR, eP, nI]
  have s0 : SR t N (muX7_read_6 μ) B 0 0 (muX7_read_6 μ) B := ⟨by omega, ⟨evN, evN_ok, rd0⟩, hA.mono (by rw [oA 1 (by decide)]) (by rw [oA 1 (by decide)]) (oA 2 (by decide)), hB, h5, h7, ⟨fun _ _ _ _ => rfl, fun _ _ _ => rfl⟩, ⟨fun _ _ _ => rfl, fun _ _ => rfl⟩, Nat.le_refl _⟩
  obtain ⟨n, hn, ⟨hc, p, hS⟩, he⟩ := lock (B := 60)
    (R := fun i => (∀ j, j < i → Cb_X7_read_33 j (fo j g_X7_read_33 (muX7_read_6 μ)) = true ∧ Pb_X7_read_33 j (fo j g_X7_read_33 (muX7_read_6 μ)) ∧ Cb_X10_street_42 v j (fo j (g_X10_street_42 v) B) = true ∧ Pb_X10_street_42 v j (fo j (g_X10_street_42 v) B)) ∧ ∃ p, SR t N (muX7_read_6 μ) B i p (fo i g_X7_read_33 (muX7_read_6 μ)) (fo i (g_X10_street_42 v) B))
    (E := fun i => Cb_X7_read_33 i (fo i g_X7_read_33 (muX7_read_6 μ)) = false)
    ⟨fun j hj => absurd hj (by omega), 0, s0⟩ (fun q => by obtain ⟨-, p, h⟩ := q; have := h.1; omega) (fun i ⟨h1, p, h2⟩ => by
      by_cases q : skp t N p < N
      · obtain ⟨-, ⟨a3, a4⟩, a5⟩ := SR_step (v := v) ho h2 q
        rcases a5 with ⟨a1, a2, p', a5⟩ | ⟨a1, -⟩
        · refine Or.inr ⟨fun j hj => ?_, p', by rw [fo_succ, fo_succ]; exact a5⟩
          by_cases z : j = i
          · rw [z]
            exact ⟨a1, a2, a3, a4⟩
          · exact h1 j (by omega)
        · exact Or.inl a1
      · refine Or.inl ?_
        obtain ⟨-, e2, -⟩ := sp_isEnded ho h2.2.2.1
        rw [if_neg q] at e2
        have ne : ¬ (60 : Int32) < nI i := Int32.not_lt.mpr (nI_le (b := 60) h2.1 (by omega))
        unfold Cb_X7_read_33
        rw [if_neg ne, e2, if_neg (by decide)])
  have nC : NX7_read_33 μ = n := fst_eq (by omega) (by show (!Cb_X7_read_33 n (fo n g_X7_read_33 (muX7_read_6 μ))) = true; rw [he]; rfl) fun j hj => by
    show (!Cb_X7_read_33 j (fo j g_X7_read_33 (muX7_read_6 μ))) = false
    rw [(hc j hj).1]
    rfl
  have sC : SX7_read_33 μ = fo n g_X7_read_33 (muX7_read_6 μ) := by
    unfold SX7_read_33
    rw [nC]
  have hS' := hS
  obtain ⟨hi, ⟨E, hO, hR⟩, tc, tm, h5', h7', gc, gm, hip⟩ := hS'
  have ne : ¬ (60 : Int32) < nI n := Int32.not_lt.mpr (nI_le (b := 60) hi (by omega))
  obtain ⟨e1, e2, e3, e4, e5⟩ := sp_isEnded ho tc
  have pN := tc.2.1
  by_cases q : skp t N p < N
  · obtain ⟨⟨-, f2, cp, -⟩, ⟨a3, a4⟩, a5⟩ := SR_step (v := v) ho hS q
    rcases a5 with ⟨a1, -⟩ | ⟨-, Mc, k, a, k0, m1, m2, m3, m4, g1, g2, hcase⟩
    · rw [he] at a1
      exact absurd a1 (by decide)
    · have e7 : muX7_read_7 μ = M_X8_isEnded (fo n g_X7_read_33 (muX7_read_6 μ)) := by
        unfold muX7_read_7
        rw [sC]
      have e8 : muX7_read_8 μ = M_X8_takeWord (M_X8_isEnded (fo n g_X7_read_33 (muX7_read_6 μ))) := by
        unfold muX7_read_8
        rw [e7]
      have e9 : VX7_read_9 μ = (if nI n ≠ 60 then 0 else 1) := by
        unfold VX7_read_9
        rw [nC]
      have e10 : muX7_read_10 μ = M_X7_readClause (if nI n ≠ 60 then 0 else 1) (M_X8_takeWord (M_X8_isEnded (fo n g_X7_read_33 (muX7_read_6 μ)))) := by
        unfold muX7_read_10
        rw [e8, e9]
      have eF : F_X7_read μ = 0 := by
        unfold F_X7_read
        rw [nC, if_neg ne, sC, if_pos f2]
      have eM : M_X7_read μ = Mc := by
        unfold M_X7_read
        rw [nC, if_neg ne, sC, if_pos f2, e7, e8, e9, e10]
        rcases hcase with ⟨z, w⟩ | ⟨z1, z2, w⟩ | ⟨z1, z2, z3, w⟩
        · rw [if_pos z, w]
        · rw [if_neg z1, if_pos z2, w]
        · rw [if_neg z1, if_neg z2, w]
          unfold muX7_read_11
          rw [e10]
      have eg : fo (n + 1) (g_X10_street_42 v) B = g_X10_street_42 v n (fo n (g_X10_street_42 v) B) := by rw [fo_succ]
      have cM : Cb_X10_street_42 v (n + 1) (fo (n + 1) (g_X10_street_42 v) B) = false := by
        unfold Cb_X10_street_42
        rw [eg, m3, if_pos k0]
      have nM : fst 602 (fun j => !Cb_X10_street_42 v j (fo j (g_X10_street_42 v) B)) = n + 1 := fst_eq (by omega) (by rw [cM]; rfl) fun j hj => by
        by_cases z : j = n
        · rw [z, a3]
          rfl
        · rw [(hc j (by omega)).2.2.1]
          rfl
      refine ⟨⟨fun j hj => (hc j (by rw [nC] at hj; exact hj)).2.1, fun z => absurd z (by rw [nC]; exact ne), fun _ => ⟨by rw [sC]; exact e1, fun _ => ?_, fun _ => trivial⟩⟩, n + 1, nM, fun j hj => ?_, ?_, ?_, Or.inr ⟨eF, k, a, k0, by rw [eM]; exact m1, by rw [eM]; exact m2, by rw [eg]; exact m3, by rw [eg]; exact m4⟩⟩
      · refine ⟨by rw [e7]; exact cp.1, fun _ => trivial, fun z => ?_⟩
        rw [e7] at z
        refine ⟨by rw [e8, e9]; exact (cp.2.1 z).1, fun _ => trivial, fun z2 => ?_⟩
        rw [e8, e9] at z2
        refine ⟨by rw [e10]; exact (cp.2.1 z).2 z2, fun z3 => ?_, fun _ => trivial⟩
        rw [e10] at z3
        rcases hcase with ⟨w, -⟩ | ⟨-, w, -⟩ | ⟨-, -, w, -⟩
        · exact absurd w z
        · exact absurd w z2
        · exact absurd w z3
      · by_cases z : j = n
        · rw [z]
          exact a4
        · exact (hc j (by omega)).2.2.2
      · rw [eM]
        exact gA0.x.trans g1
      · rw [eg]
        exact g2
  · rw [if_neg q] at e2
    have e2' : ¬ F_X8_isEnded (SX7_read_33 μ) = 0 := by
      rw [sC, e2]
      decide
    have eM : M_X7_read μ = M_X8_isEnded (fo n g_X7_read_33 (muX7_read_6 μ)) := by
      unfold M_X7_read muX7_read_7
      rw [nC, if_neg ne, if_neg e2', sC]
    have cM : Cb_X10_street_42 v n (fo n (g_X10_street_42 v) B) = false := by
      unfold Cb_X10_street_42
      rw [if_neg (not_not_intro h5'), tm.2.2.1, tm.2.2.2.1, if_pos (nI_le (by omega) (by have := tm.2.1; omega))]
    have nM : fst 602 (fun j => !Cb_X10_street_42 v j (fo j (g_X10_street_42 v) B)) = n := fst_eq (by omega) (by rw [cM]; rfl) fun j hj => by
      rw [(hc j hj).2.2.1]
      rfl
    have gE : GC (fo n g_X7_read_33 (muX7_read_6 μ)) (M_X8_isEnded (fo n g_X7_read_33 (muX7_read_6 μ))) := ⟨fun k a _ _ => e5 k a, fun r a _ => e4 r a⟩
    refine ⟨⟨fun j hj => (hc j (by rw [nC] at hj; exact hj)).2.1, fun z => absurd z (by rw [nC]; exact ne), fun _ => ⟨by rw [sC]; exact e1, fun z => absurd z e2', fun _ => trivial⟩⟩, n, nM, fun j hj => (hc j hj).2.2.2, ?_, gm.x, Or.inl ⟨?_, E, hO, ?_, ?_, h5', ?_⟩⟩
    · rw [eM]
      exact (gA0.trans (gc.trans gE)).x
    · unfold F_X7_read
      rw [nC, if_neg ne, if_neg e2']
      decide
    · rw [eM]
      exact hR.mono hO (fun r u w => e4 r (by omega)) (fun _ _ _ => rfl)
    · rw [eM]
      exact gA0.trans (gc.trans gE)
    · rw [tm.2.2.1, tm.2.2.2.1]
      exact nI_le (by omega) (by have := tm.2.1; omega)
