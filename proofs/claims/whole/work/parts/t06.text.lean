/-! WORK's whole text, both sides -/
theorem sp_workRead {t : Nat → Int32} {N : Nat} {μ B : Mem} {E : EV} {v : Int32} (ho : TxO t N) (hN : N ≤ 150) (hO : EvOK E) (hE : EL E (muX6_read_2 μ) B) (hA : TxC t N 0 μ) (hB : TxM t N (skp t N 0) B) (h5 : B 57 5 = 0) (h8 : B 57 8 = 0) (h30 : B 57 30 = 0) :
    P_X6_read μ ∧ ∃ k, fst 152 (fun j => !Cb_X10_work_72 v j (fo j (g_X10_work_72 v) B)) = k ∧ (∀ j, j < k → Pb_X10_work_72 v j (fo j (g_X10_work_72 v) B)) ∧ WCx (muX6_read_2 μ) (M_X6_read μ) ∧ WMx B (fo k (g_X10_work_72 v) B) ∧
    ((F_X6_read μ = 1 ∧ fo k (g_X10_work_72 v) B 57 5 = 0 ∧ fo k (g_X10_work_72 v) B 57 2 ≤ fo k (g_X10_work_72 v) B 57 4 ∧ WC (muX6_read_2 μ) (M_X6_read μ) ∧ WM B (fo k (g_X10_work_72 v) B) ∧
        ∃ n s f, n ≤ 150 ∧ s < 80 ∧ M_X6_read μ 31 5 = nI n ∧ fo k (g_X10_work_72 v) B 57 30 = nI s ∧ Sg E (M_X6_read μ 32) (M_X6_read μ 33) (M_X6_read μ 34) (fun x => fo k (g_X10_work_72 v) B (441 + x)) f 6 0 n 0 s) ∨
     (F_X6_read μ = 0 ∧ ∃ k' a, k' ≠ 0 ∧ M_X6_read μ 1 6 = k' ∧ M_X6_read μ 1 7 = a ∧ fo k (g_X10_work_72 v) B 57 5 = k' ∧ fo k (g_X10_work_72 v) B 57 6 = a)) := by
  have eA : muX6_read_2 μ = upm (upm μ 31 5 0) 31 6 0 := rfl
  have tA : TxC t N 0 (muX6_read_2 μ) := hA.mono (by rw [eA, upm_other (by decide), upm_other (by decide)]) (by rw [eA, upm_other (by decide), upm_other (by decide)]) (by rw [eA, upm_other (by decide), upm_other (by decide)])
  have N6 := hA.1
  have s00 := skp_skp (t := t) N6 (Nat.zero_le N)
  have rd0 : Rd t N (muX6_read_2 μ) B 0 0 0 0 (muX6_read_2 μ) B := by
    refine ⟨⟨tA, ⟨_, hB, s00⟩, h5⟩, ⟨?_, ?_, by rw [h30]; rfl, by rw [h8]; rfl⟩, ⟨Nat.le_refl _, Nat.le_refl _⟩, ⟨fun _ _ _ _ => rfl, fun _ _ _ => rfl, fun _ _ _ => rfl⟩, ⟨fun _ _ _ _ => rfl, fun _ _ _ => rfl⟩⟩
    · rw [eA, upm_rr, if_neg (by decide), upm_rr, if_pos rfl]
      rfl
    · rw [eA, upm_rr, if_pos rfl]
      rfl
  have si : SI t N (muX6_read_2 μ) B E (muX6_read_2 μ) 0 MstepM PstepM := si_rec hE hO hN ho 7 0 (Nat.zero_le _) (by decide)
  obtain ⟨k, hk, ⟨hj, hR⟩, he⟩ := lock (B := 151)
    (R := fun i => (∀ j, j < i → Cb_X10_work_72 v j (fo j (g_X10_work_72 v) B) = true ∧ Pb_X10_work_72 v j (fo j (g_X10_work_72 v) B)) ∧
      ((∃ n s p μc f, CR (muX6_read_2 μ) n μc ∧ Rd t N (muX6_read_2 μ) B 0 n s p μc (fo i (g_X10_work_72 v) B) ∧ TxM t N (skp t N p) (fo i (g_X10_work_72 v) B) ∧ i ≤ p ∧ Sg E (μc 32) (μc 33) (μc 34) (fun x => fo i (g_X10_work_72 v) B (441 + x)) f 6 0 n 0 s) ∨
       (i ≤ 151 ∧ ∃ n' μc' Mc, CR (muX6_read_2 μ) n' μc' ∧ Tl n' μc' Mc ∧ TF t N Mc (fo i (g_X10_work_72 v) B) ∧ WCx (muX6_read_2 μ) Mc ∧ WMx B (fo i (g_X10_work_72 v) B))))
    (E := fun i => Cb_X10_work_72 v i (fo i (g_X10_work_72 v) B) = false)
    ⟨fun j hj => absurd hj (Nat.not_lt_zero _), Or.inl ⟨0, 0, 0, _, 0, ⟨fun j hj => absurd hj (Nat.not_lt_zero _), rfl⟩, rd0, hB, Nat.le_refl _, ⟨rfl, rfl⟩⟩⟩
    (fun q => by
      rcases q.2 with ⟨n', s', p', μc', f, -, hr, -, g1, -⟩ | ⟨g, -⟩
      · have := hr.1.1.2.1
        omega
      · omega)
    (fun i ⟨h1, h2⟩ => by
      rcases h2 with ⟨n, s, p, μc, f, r1, r2, r3, r4, r5⟩ | ⟨-, n', μc', Mc, r1, r2, r3, r4, r5⟩
      · have z5 := r2.1.2.2
        have pN : p ≤ N := r2.1.1.2.1
        have z2 := r3.2.2.1
        have z4 := r3.2.2.2.1
        by_cases q : skp t N p < N
        · have nle : ¬ fo i (g_X10_work_72 v) B 57 2 ≤ fo i (g_X10_work_72 v) B 57 4 := by
            rw [z2, z4]
            exact Int32.not_le.mpr (nI_lt q (by omega))
          obtain ⟨i1, i2⟩ := si n s p μc _ r1 r2 (fun _ => q) (fun w => absurd rfl w)
          have eg : fo (i + 1) (g_X10_work_72 v) B = M_X10_blanks (MstepM (fo i (g_X10_work_72 v) B)) := by
            rw [fo_succ]
            rfl
          have cb : Cb_X10_work_72 v i (fo i (g_X10_work_72 v) B) = true := by
            unfold Cb_X10_work_72
            rw [if_neg (not_not_intro z5), if_neg nle]
          have pb : P_X10_blanks (MstepM (fo i (g_X10_work_72 v) B)) → Pb_X10_work_72 v i (fo i (g_X10_work_72 v) B) := fun w =>
            ⟨fun u => absurd z5 u, fun _ => ⟨fun u => absurd u nle, fun _ => ⟨i1, w⟩⟩⟩
          rcases i2 with ⟨n2, s2, p2, c2, f2, g1, g2, g3, g4, g5, g6, g7⟩ | ⟨n2, c2, Mc, g1, g2, g3, g4, g5⟩
          · obtain ⟨b1, b2, b3, b4⟩ := g2.blanks
            refine Or.inr ⟨fun j hj => ?_, Or.inl ⟨n2, s2, p2, c2, f + f2, g1, ?_, ?_, by omega, ?_⟩⟩
            · by_cases w : j = i
              · rw [w]
                exact ⟨cb, pb b1⟩
              · exact h1 j (by omega)
            · rw [eg]
              exact b2
            · rw [eg]
              exact b3
            · rw [eg]
              have eT : (fun x => M_X10_blanks (MstepM (fo i (g_X10_work_72 v) B)) (441 + x)) = fun x => MstepM (fo i (g_X10_work_72 v) B) (441 + x) := funext fun x => b4 _ (by omega)
              rw [eT]
              exact Sg.app _ _ _ _ _ _ (Sg.congr _ _ _ _ _ _ r5 (fun j _ hj => g7.1 j hj) (fun j _ hj => g7.2.2 j hj)) g6
          · obtain ⟨b1, b2, b3⟩ := g3.blanks g5
            refine Or.inr ⟨fun j hj => ?_, Or.inr ⟨by omega, n2, c2, Mc, g1, g2, ?_, g4, ?_⟩⟩
            · by_cases w : j = i
              · rw [w]
                exact ⟨cb, pb b1⟩
              · exact h1 j (by omega)
            · rw [eg]
              exact b2
            · rw [eg]
              exact b3
        · refine Or.inl ?_
          unfold Cb_X10_work_72
          rw [if_neg (not_not_intro z5), z2, z4, if_pos (nI_le (by omega) (by have := r3.2.1; omega))]
      · refine Or.inl ?_
        unfold Cb_X10_work_72
        rw [if_pos r3.nz])
  have eN : fst 152 (fun j => !Cb_X10_work_72 v j (fo j (g_X10_work_72 v) B)) = k := fst_eq (by omega) (by rw [he]; rfl) (fun j hj' => by rw [(hj j hj').1]; rfl)
  rcases hR with ⟨n, s, p, μc, f, r1, r2, r3, r4, r5⟩ | ⟨-, n', μc', Mc, r1, r2, r3, r4, r5⟩
  · have r2' := r2
    obtain ⟨⟨tc, -, z5⟩, ⟨c5, c6, x30, x8⟩, ⟨hnp, hsp⟩, wA, wB⟩ := r2'
    have pN : p ≤ N := tc.2.1
    have z2 := r3.2.2.1
    have z4 := r3.2.2.2.1
    have q : ¬ skp t N p < N := fun q => by
      have nle : ¬ fo k (g_X10_work_72 v) B 57 2 ≤ fo k (g_X10_work_72 v) B 57 4 := by
        rw [z2, z4]
        exact Int32.not_le.mpr (nI_lt q (by omega))
      unfold Cb_X10_work_72 at he
      rw [if_neg (not_not_intro z5), if_neg nle] at he
      exact absurd he (by decide)
    obtain ⟨e1, e2, e3, e4, e5⟩ := sp_isEnded ho tc
    rw [if_neg q] at e2
    have e2' : ¬ F_X8_isEnded μc = 0 := by rw [e2]; decide
    have fce : FC μc (M_X8_isEnded μc) := ⟨fun j a _ _ => e5 j a, e4⟩
    obtain ⟨g1, g2, g3⟩ := read_good r1 (by omega) e1 e2' (by rw [e4 31 (by decide), c6]; rfl)
    refine ⟨g1, k, eN, fun j hj' => (hj j hj').2, ?_, wB.x, Or.inl ⟨g2, z5, ?_, ?_, wB, n, s, f, by omega, by omega, ?_, x30, ?_⟩⟩
    · rw [g3]
      exact (wA.trans fce.w).x
    · rw [z2, z4]
      exact nI_le (by omega) (by have := r3.2.1; omega)
    · rw [g3]
      exact wA.trans fce.w
    · rw [g3, e4 31 (by decide), c5]
    · rw [g3, e4 32 (by decide), e4 33 (by decide), e4 34 (by decide)]
      exact r5
  · obtain ⟨g1, g2, g3⟩ := read_bad r1 r2
    obtain ⟨k', a, k0, m1, m2, m3, m4, -⟩ := r3
    exact ⟨g1, k, eN, fun j hj' => (hj j hj').2, by rw [g3]; exact r4, r5, Or.inr ⟨g2, k', a, k0, by rw [g3]; exact m1, by rw [g3]; exact m2, m3, m4⟩⟩
