/-! the brackets close: what the recursion reads, the class's rounds read -/
def SRes (t : Nat → Int32) (N : Nat) (A B : Mem) (E : EV) (s0 : Mem) (o n s p : Nat) (μc μm Mm : Mem) : Prop :=
  (∃ n' s' p' μc' f, CR s0 n' μc' ∧ Rd t N A B o n' s' p' μc' Mm ∧ p + 1 ≤ p' ∧ n ≤ n' ∧ s ≤ s' ∧ Sg E (μc' 32) (μc' 33) (μc' 34) (fun x => Mm (441 + x)) f (6 - o) n n' s s' ∧ Old o n s μc μm μc' Mm) ∨
  (∃ n' μc' Mc, CR s0 n' μc' ∧ Tl n' μc' Mc ∧ TF t N Mc Mm ∧ WCx A Mc ∧ WMx B Mm)
def SI (t : Nat → Int32) (N : Nat) (A B : Mem) (E : EV) (s0 : Mem) (o : Nat) (sM : Mem → Mem) (sP : Mem → Prop) : Prop :=
  ∀ n s p μc μm, CR s0 n μc → Rd t N A B o n s p μc μm → (o = 0 → skp t N p < N) → (o ≠ 0 → byt t N (skp t N p) ≠ 93) → sP μm ∧ SRes t N A B E s0 o n s p μc μm (sM μm)
theorem Rd.tx {t : Nat → Int32} {N o n s p : Nat} {A B μc μm : Mem} (h : Rd t N A B o n s p μc μm) : ∃ pm, TxM t N pm μm ∧ skp t N pm = skp t N p := h.1.2.1
theorem Rd.blanks {t : Nat → Int32} {N o n s p : Nat} {A B μc μm : Mem} (h : Rd t N A B o n s p μc μm) : P_X10_blanks μm ∧ Rd t N A B o n s p μc (M_X10_blanks μm) ∧ TxM t N (skp t N p) (M_X10_blanks μm) ∧ (∀ r, r ≠ 57 → M_X10_blanks μm r = μm r) := by
  obtain ⟨⟨tc, ⟨pm, tm, em⟩, h5⟩, ⟨c5, c6, x30, x8⟩, hns, hA, hB⟩ := h
  obtain ⟨u1, u2, u3, u4⟩ := sp_blanks tm
  rw [em] at u2
  refine ⟨u1, ⟨⟨tc, ⟨_, u2, ?_⟩, by rw [u4 5 (by decide)]; exact h5⟩, ⟨c5, c6, by rw [u4 30 (by decide)]; exact x30, by rw [u4 8 (by decide)]; exact x8⟩, hns, hA, hB.trans (FM.w ⟨u4, u3⟩)⟩, u2, u3⟩
  exact skp_skp tc.1 tc.2.1
theorem TF.blanks {t : Nat → Int32} {N : Nat} {B Mc μm : Mem} (h : TF t N Mc μm) (hB : WMx B μm) : P_X10_blanks μm ∧ TF t N Mc (M_X10_blanks μm) ∧ WMx B (M_X10_blanks μm) := by
  obtain ⟨k, a, h0, h1, h2, h3, h4, pm, hx⟩ := h
  obtain ⟨u1, u2, u3, u4⟩ := sp_blanks hx
  exact ⟨u1, ⟨k, a, h0, h1, h2, by rw [u4 5 (by decide)]; exact h3, by rw [u4 6 (by decide)]; exact h4, _, u2⟩, hB.trans (FMx.w (FM.x ⟨u4, u3⟩))⟩
/-- the class's round at a bracket that closes -/
theorem end_round {t : Nat → Int32} {N o n n0 q : Nat} {w : Mem} (hn : n < 150) (hn0 : n0 < 150) (ho : o < 6) (tc : TxC t N q w) (hq : q < N) (c5 : w 31 5 = nI n) (c6 : w 31 6 = nI (o + 1)) (c35 : w 35 o = nI n0) :
    muX6_readEnd_5 w = upm (upm (upm (upm (upm (upm (upm w 1 3 (nI (q + 1))) 31 6 (nI o)) 34 n0 (nI n)) 34 n (nI n0)) 32 n 7) 33 n 0) 31 5 (nI (n + 1)) ∧ TxC t N (q + 1) (muX6_readEnd_5 w) := by
  have e1 : muX6_readEnd_1 w = upm w 1 3 (nI (q + 1)) := by
    unfold muX6_readEnd_1 M_X8_skipSign muX8_skipSign_1
    rw [tc.2.2.2.1, nI_succ]
  have e2 : muX6_readEnd_2 w = upm (upm w 1 3 (nI (q + 1))) 31 6 (nI o) := by
    unfold muX6_readEnd_2
    rw [e1, upm_other (by decide), c6, nI_pred]
  have a6 : muX6_readEnd_2 w 31 6 = nI o := by rw [e2, upm_rr, if_pos rfl]
  have a5 : muX6_readEnd_2 w 31 5 = nI n := by rw [e2, upm_rr, if_neg (by decide), upm_other (by decide), c5]
  have aA : F_X9_at 35 6 (muX6_readEnd_2 w 31 6) (muX6_readEnd_2 w) = nI n0 := by
    rw [a6]
    refine (at_k ho (by omega)).trans ?_
    rw [e2, upm_other (by decide), upm_other (by decide), c35]
  have e3 : muX6_readEnd_3 w = upm (upm (upm w 1 3 (nI (q + 1))) 31 6 (nI o)) 34 n0 (nI n) := by
    unfold muX6_readEnd_3
    rw [aA, a5]
    refine (put_k hn0 (by omega)).trans ?_
    rw [e2]
  have e4 : muX6_readEnd_4 w = upm (upm (upm (upm w 1 3 (nI (q + 1))) 31 6 (nI o)) 34 n0 (nI n)) 34 n (nI n0) := by
    unfold muX6_readEnd_4
    rw [aA, show muX6_readEnd_3 w 31 5 = nI n by rw [e3, upm_other (by decide), upm_rr, if_neg (by decide), upm_other (by decide), c5]]
    refine (put_k hn (by omega)).trans ?_
    rw [e3]
  have e5 : muX6_readEnd_5 w = upm (upm (upm (upm (upm (upm (upm w 1 3 (nI (q + 1))) 31 6 (nI o)) 34 n0 (nI n)) 34 n (nI n0)) 32 n 7) 33 n 0) 31 5 (nI (n + 1)) := by
    unfold muX6_readEnd_5
    rw [sp_addS hn (by rw [e4, upm_other (by decide), upm_other (by decide), upm_rr, if_neg (by decide), upm_other (by decide), c5]), e4]
  refine ⟨e5, tc.1, by omega, ?_, ?_, fun k hk => ?_⟩
  · rw [e5, upm_other (by decide), upm_other (by decide), upm_other (by decide), upm_other (by decide), upm_other (by decide), upm_other (by decide), upm_rr, if_neg (by decide)]
    exact tc.2.2.1
  · rw [e5, upm_other (by decide), upm_other (by decide), upm_other (by decide), upm_other (by decide), upm_other (by decide), upm_other (by decide), upm_rr, if_pos rfl]
  · rw [e5, upm_other (by decide), upm_other (by decide), upm_other (by decide), upm_other (by decide), upm_other (by decide), upm_other (by decide), upm_other (by decide)]
    exact tc.2.2.2.2 k hk
/-- what lies in the bracket -/
theorem loop_ok {t : Nat → Int32} {N o n s p1 : Nat} {A B s0 c1 m1 : Mem} {E : EV} {rM : Mem → Mem} {rP : Mem → Prop} {rw2 : Nat} {v1 : Int32} (hN : N ≤ 150) (ih : SI t N A B E s0 (o + 1) rM rP) (hc : CR s0 n c1) (h : Rd t N A B (o + 1) n s p1 c1 m1) (tx : TxM t N (skp t N p1) m1) :
    ∃ k, fst 152 (fun j => !Cb_X10_readsStep_137 rM rP rw2 v1 j (fo j (g_X10_readsStep_137 rM rP rw2 v1) m1)) = k ∧ (∀ j, j < k → Pb_X10_readsStep_137 rM rP rw2 v1 j (fo j (g_X10_readsStep_137 rM rP rw2 v1) m1)) ∧
    ((fo k (g_X10_readsStep_137 rM rP rw2 v1) m1 57 5 = 0 ∧ P_X10_byteAt (fo k (g_X10_readsStep_137 rM rP rw2 v1) m1 57 4) (fo k (g_X10_readsStep_137 rM rP rw2 v1) m1) ∧ F_X10_byteAt (fo k (g_X10_readsStep_137 rM rP rw2 v1) m1 57 4) (fo k (g_X10_readsStep_137 rM rP rw2 v1) m1) = 93 ∧
      ∃ n' s' p' μc' f, CR s0 n' μc' ∧ Rd t N A B (o + 1) n' s' p' μc' (fo k (g_X10_readsStep_137 rM rP rw2 v1) m1) ∧ TxM t N (skp t N p') (fo k (g_X10_readsStep_137 rM rP rw2 v1) m1) ∧ byt t N (skp t N p') = 93 ∧ p1 ≤ p' ∧ n ≤ n' ∧ s ≤ s' ∧ Sg E (μc' 32) (μc' 33) (μc' 34) (fun x => fo k (g_X10_readsStep_137 rM rP rw2 v1) m1 (441 + x)) f (6 - (o + 1)) n n' s s' ∧ Old (o + 1) n s c1 m1 μc' (fo k (g_X10_readsStep_137 rM rP rw2 v1) m1)) ∨
     ∃ n' μc' Mc, CR s0 n' μc' ∧ Tl n' μc' Mc ∧ TF t N Mc (fo k (g_X10_readsStep_137 rM rP rw2 v1) m1) ∧ WCx A Mc ∧ WMx B (fo k (g_X10_readsStep_137 rM rP rw2 v1) m1)) := by
  obtain ⟨k, hk, ⟨hj, hR⟩, he⟩ := lock (B := 151)
    (R := fun i => (∀ j, j < i → Cb_X10_readsStep_137 rM rP rw2 v1 j (fo j (g_X10_readsStep_137 rM rP rw2 v1) m1) = true ∧ Pb_X10_readsStep_137 rM rP rw2 v1 j (fo j (g_X10_readsStep_137 rM rP rw2 v1) m1)) ∧
      ((∃ n' s' p' μc' f, CR s0 n' μc' ∧ Rd t N A B (o + 1) n' s' p' μc' (fo i (g_X10_readsStep_137 rM rP rw2 v1) m1) ∧ TxM t N (skp t N p') (fo i (g_X10_readsStep_137 rM rP rw2 v1) m1) ∧ p1 + i ≤ p' ∧ n ≤ n' ∧ s ≤ s' ∧ Sg E (μc' 32) (μc' 33) (μc' 34) (fun x => fo i (g_X10_readsStep_137 rM rP rw2 v1) m1 (441 + x)) f (6 - (o + 1)) n n' s s' ∧ Old (o + 1) n s c1 m1 μc' (fo i (g_X10_readsStep_137 rM rP rw2 v1) m1)) ∨
       (i ≤ 151 ∧ ∃ n' μc' Mc, CR s0 n' μc' ∧ Tl n' μc' Mc ∧ TF t N Mc (fo i (g_X10_readsStep_137 rM rP rw2 v1) m1) ∧ WCx A Mc ∧ WMx B (fo i (g_X10_readsStep_137 rM rP rw2 v1) m1))))
    (E := fun i => Cb_X10_readsStep_137 rM rP rw2 v1 i (fo i (g_X10_readsStep_137 rM rP rw2 v1) m1) = false)
    ⟨fun j hj => absurd hj (Nat.not_lt_zero _), Or.inl ⟨n, s, p1, c1, 0, hc, h, tx, Nat.le_refl _, Nat.le_refl _, Nat.le_refl _, ⟨rfl, rfl⟩, fun i _ => ⟨rfl, rfl, rfl⟩, fun _ _ => rfl, fun _ _ => rfl⟩⟩
    (fun q => by
      rcases q.2 with ⟨n', s', p', μc', f, -, hr, -, g1, -⟩ | ⟨g, -⟩
      · have := hr.1.1.2.1
        omega
      · omega)
    (fun i ⟨h1, h2⟩ => by
      rcases h2 with ⟨n', s', p', μc', f, r1, r2, r3, r4, r5, r6, r7, r8⟩ | ⟨-, n', μc', Mc, r1, r2, r3, r4, r5⟩
      · have h5 := r2.1.2.2
        obtain ⟨y1, y2⟩ := sp_byteAt (k := skp t N p') r3 (by have := r3.2.1; omega)
        have y4 := r3.2.2.2.1
        by_cases z : byt t N (skp t N p') = 93
        · refine Or.inl ?_
          unfold Cb_X10_readsStep_137
          rw [if_neg (not_not_intro h5), y4, y2, if_pos z]
        · obtain ⟨i1, i2⟩ := ih n' s' p' μc' _ r1 r2 (fun w => absurd w (by omega)) (fun _ => z)
          have eg : fo (i + 1) (g_X10_readsStep_137 rM rP rw2 v1) m1 = M_X10_blanks (rM (fo i (g_X10_readsStep_137 rM rP rw2 v1) m1)) := by
            rw [fo_succ]
            rfl
          have cb : Cb_X10_readsStep_137 rM rP rw2 v1 i (fo i (g_X10_readsStep_137 rM rP rw2 v1) m1) = true := by
            unfold Cb_X10_readsStep_137
            rw [if_neg (not_not_intro h5), y4, y2, if_neg z]
          have pb : P_X10_blanks (rM (fo i (g_X10_readsStep_137 rM rP rw2 v1) m1)) → Pb_X10_readsStep_137 rM rP rw2 v1 i (fo i (g_X10_readsStep_137 rM rP rw2 v1) m1) := fun w =>
            ⟨fun u => absurd h5 u, fun _ => ⟨by rw [y4]; exact y1, fun u => absurd u (by rw [y4, y2]; exact z), fun _ => ⟨i1, w⟩⟩⟩
          have pN : p' ≤ N := r2.1.1.2.1
          rcases i2 with ⟨n2, s2, p2, c2, f2, g1, g2, g3, g4, g5, g6, g7⟩ | ⟨n2, c2, Mc, g1, g2, g3, g4, g5⟩
          · obtain ⟨b1, b2, b3, b4⟩ := g2.blanks
            refine Or.inr ⟨fun j hj => ?_, Or.inl ⟨n2, s2, p2, c2, f + f2, g1, ?_, ?_, by omega, by omega, by omega, ?_, ?_⟩⟩
            · by_cases w : j = i
              · rw [w]
                exact ⟨cb, pb b1⟩
              · exact h1 j (by omega)
            · rw [eg]
              exact b2
            · rw [eg]
              exact b3
            · rw [eg]
              have eT : (fun x => M_X10_blanks (rM (fo i (g_X10_readsStep_137 rM rP rw2 v1) m1)) (441 + x)) = fun x => rM (fo i (g_X10_readsStep_137 rM rP rw2 v1) m1) (441 + x) := funext fun x => b4 _ (by omega)
              rw [eT]
              exact Sg.app _ _ _ _ _ _ (Sg.congr _ _ _ _ _ _ r7 (fun j _ hj => g7.1 j hj) (fun j _ hj => g7.2.2 j hj)) g6
            · rw [eg]
              refine (r8.trans g7 r5 r6).trans (Old.of (n := n) (s := s) (fun r _ _ => rfl) (fun r hr => b4 r (by omega))) (Nat.le_refl _) (Nat.le_refl _)
          · obtain ⟨b1, b2, b3⟩ := g3.blanks g5
            refine Or.inr ⟨fun j hj => ?_, Or.inr ⟨by omega, n2, c2, Mc, g1, g2, ?_, g4, ?_⟩⟩
            · by_cases w : j = i
              · rw [w]
                exact ⟨cb, pb b1⟩
              · exact h1 j (by omega)
            · rw [eg]
              exact b2
            · rw [eg]
              exact b3
      · refine Or.inl ?_
        unfold Cb_X10_readsStep_137
        rw [if_pos r3.nz])
  refine ⟨k, fst_eq (by omega) (by rw [he]; rfl) (fun j hj' => by rw [(hj j hj').1]; rfl), fun j hj' => (hj j hj').2, ?_⟩
  rcases hR with ⟨n', s', p', μc', f, r1, r2, r3, r4, r5, r6, r7, r8⟩ | ⟨-, r⟩
  · have h5 := r2.1.2.2
    obtain ⟨y1, y2⟩ := sp_byteAt (k := skp t N p') r3 (by have := r3.2.1; omega)
    have y4 := r3.2.2.2.1
    have z : byt t N (skp t N p') = 93 := Decidable.byContradiction fun z => by
      unfold Cb_X10_readsStep_137 at he
      rw [if_neg (not_not_intro h5), y4, y2, if_neg z] at he
      exact absurd he (by decide)
    exact Or.inl ⟨h5, by rw [y4]; exact y1, by rw [y4, y2]; exact z, n', s', p', μc', f, r1, r2, r3, z, by omega, r5, r6, r7, r8⟩
  · exact Or.inr r
