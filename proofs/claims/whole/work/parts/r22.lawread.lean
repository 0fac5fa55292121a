/-! the LAW: the case -/
theorem sp_laysL {μ : Mem} {n : Nat} (hn : n ≤ 150) : P_X10_lays_L (nI n) μ ∧ (∀ i, i < n → ∀ j, j < 2 → M_X10_lays_L (nI n) μ (103 + i) j = μ (264 + i) j) ∧ ∀ r, (r < 103 ∨ 252 < r) → M_X10_lays_L (nI n) μ r = μ r := by
  have ixn : ix (nI n) = n := nI_ix (by omega)
  have inn : ∀ i, i < 150 → ∀ (s : Mem) j, j ≤ 2 → (∀ k, k < j → fo j (g_X10_lays_L_10 (nI n) (nI i)) s (103 + i) k = s (264 + i) k) ∧ ∀ r, r ≠ 103 + i → fo j (g_X10_lays_L_10 (nI n) (nI i)) s r = s r := by
    intro i hi s j
    induction j with
    | zero => exact fun _ => ⟨fun k hk => absurd hk (by omega), fun _ _ => rfl⟩
    | succ j ih =>
      intro hj
      obtain ⟨i1, i2⟩ := ih (by omega)
      have e : fo (j + 1) (g_X10_lays_L_10 (nI n) (nI i)) s = upm (fo j (g_X10_lays_L_10 (nI n) (nI i)) s) (103 + i) j (fo j (g_X10_lays_L_10 (nI n) (nI i)) s (264 + i) j) := by
        show muX10_lays_L_10_1 (nI n) (nI i) j (fo j (g_X10_lays_L_10 (nI n) (nI i)) s) = _
        unfold muX10_lays_L_10_1
        rw [nI_ix (by omega), nI_ix (by omega)]
      rw [e]
      refine ⟨fun k hk => ?_, fun r hr => by rw [upm_other hr, i2 r hr]⟩
      rw [upm_rr]
      by_cases y : k = j
      · rw [if_pos y, i2 (264 + i) (by omega), y]
      · rw [if_neg y, i1 k (by omega)]
  have st : ∀ i, i ≤ n → (∀ k, k < i → ∀ j, j < 2 → fo i (g_X10_lays_L_2 (nI n)) μ (103 + k) j = μ (264 + k) j) ∧ ∀ r, (r < 103 ∨ 252 < r) → fo i (g_X10_lays_L_2 (nI n)) μ r = μ r := by
    intro i
    induction i with
    | zero => exact fun _ => ⟨fun k hk => absurd hk (by omega), fun _ _ => rfl⟩
    | succ i ih =>
      intro hi
      obtain ⟨i1, i2⟩ := ih (by omega)
      have e : fo (i + 1) (g_X10_lays_L_2 (nI n)) μ = fo 2 (g_X10_lays_L_10 (nI n) (nI i)) (fo i (g_X10_lays_L_2 (nI n)) μ) := rfl
      obtain ⟨a1, a2⟩ := inn i (by omega) (fo i (g_X10_lays_L_2 (nI n)) μ) 2 (Nat.le_refl _)
      rw [e]
      refine ⟨fun k hk j hj => ?_, fun r hr => by rw [a2 r (by omega), i2 r hr]⟩
      by_cases y : k = i
      · rw [y, a1 j hj, i2 (264 + i) (by omega)]
      · rw [a2 (103 + k) (by omega), i1 k (by omega) j hj]
  have eN : NX10_lays_L_2 (nI n) μ = n := ixn
  have eM : M_X10_lays_L (nI n) μ = fo n (g_X10_lays_L_2 (nI n)) μ := by
    unfold M_X10_lays_L SX10_lays_L_2
    rw [eN]
  obtain ⟨s1, s2⟩ := st n (Nat.le_refl _)
  rw [eM]
  refine ⟨⟨fun j hj => ?_, fun _ => trivial, fun z => absurd z (by rw [eN]; exact Int32.not_lt.mpr (Int32.le_refl _))⟩, s1, s2⟩
  rw [eN] at hj
  have v : vp_in (nI j) 160 := vp_in_nI (by omega) (by decide)
  refine ⟨fun z => absurd z (nI_ge hj (by omega)), fun _ => ⟨fun k hk => ?_, v, fun _ => trivial, fun z => absurd z (show ¬ (nI 2 : Int32) < 2 by decide)⟩⟩
  have hk' : k < 2 := hk
  have v2 : vp_in (nI k) 2 := vp_in_nI hk' (by decide)
  exact ⟨v, fun z => absurd z (nI_ge (b := 2) hk' (by decide)), fun _ => ⟨v, v, v2, v2⟩⟩
theorem TsumM_s (l : Nat) : TsumM (l + 1) = (M_X10_sum (TsumM l).1 (TsumM l).2, P_X10_sum (TsumM l).1 (TsumM l).2) := rfl
theorem rec_step {t : Nat → Int32} {N o : Nat} {A B : Mem} {rF : Int32 → Mem → Int32} {rM : Int32 → Mem → Mem} {rP : Int32 → Mem → Prop} {sM : Mem → Mem} {sP : Mem → Prop} (hN : N ≤ 150) (ho : o ≤ 6) (ih : o < 6 → IH t N A B (o + 1) rF rM rP sM sP) : IH t N A B o (F_X1_readSum rF rM rP) (M_X1_readSum rF rM rP) (P_X1_readSum rF rM rP) (M_X10_sum sM sP) (P_X10_sum sM sP) :=
  ⟨fun n p μc μm h => summ_ok hN (fun n p μc μm h => prod_ok hN (fun n p μc μm h => unit_ok hN ho ih h) h) h, fun μ h0 => summ_no h0⟩
theorem rec_ok {t : Nat → Int32} {N : Nat} {A B : Mem} (hN : N ≤ 150) : ∀ d o, o ≤ 6 → 6 ≤ o + d → IH t N A B o (TsumC (d + 1)).1 (TsumC (d + 1)).2.1 (TsumC (d + 1)).2.2 (TsumM (d + 1)).1 (TsumM (d + 1)).2 := by
  intro d
  induction d with
  | zero =>
    intro o ho h6
    have ih : o < 6 → IH t N A B (o + 1) (TsumC 0).1 (TsumC 0).2.1 (TsumC 0).2.2 (TsumM 0).1 (TsumM 0).2 := fun z => absurd z (by omega)
    rw [TsumC_s 0, TsumM_s 0]
    dsimp only
    exact rec_step hN ho ih
  | succ d ihd =>
    intro o ho h6
    have ih : o < 6 → IH t N A B (o + 1) (TsumC (d + 1)).1 (TsumC (d + 1)).2.1 (TsumC (d + 1)).2.2 (TsumM (d + 1)).1 (TsumM (d + 1)).2 := fun z => ihd (o + 1) (by omega) (by omega)
    rw [TsumC_s (d + 1), TsumM_s (d + 1)]
    dsimp only
    exact rec_step hN ho ih
/-- what a LAW changes -/
theorem Inv.lawd {E : EV} {L L' : LW} {μ μ' : Mem} (hI : Inv E L μ) (o : ∀ h, h ≠ 1 → (h < 21 ∨ 28 < h) → h ≠ 57 → (h < 103 ∨ 423 < h) → h ≠ 548 → μ' h = μ h) (o57 : ∀ k, 9 ≤ k → k ≠ 21 → k ≠ 22 → μ' 57 k = μ 57 k) (hT : TxR μ') (hL : LwOK L') (hC : LwC L' μ') (hR : LwR L' μ') : Inv E L' μ' := by
  obtain ⟨hO, hM, hEC, -, -, -, -, hMk, hP, hS, hN, h43, h44⟩ := hI
  have o' : ∀ h, (h = 0 ∨ (2 ≤ h ∧ h ≤ 20) ∨ (29 ≤ h ∧ h ≤ 56) ∨ (58 ≤ h ∧ h ≤ 102) ∨ (424 ≤ h ∧ h ≤ 547)) → μ' h = μ h := fun h q => o h (by omega) (by omega) (by omega) (by omega) (by omega)
  refine ⟨hO, hM.mono (fun h q => o' h (by omega)) hO, hEC.mono fun h q => o' h (by omega), hL, hC, hR, hT, ?_, ?_, ?_, ?_, ?_, ?_⟩
  · obtain ⟨n, n1, n2, n3, n4, n5⟩ := hMk
    refine ⟨n, n1, by rw [o' 37 (by omega)]; exact n2, by rw [o57 38 (by omega) (by omega) (by omega)]; exact n3, fun k hk => ?_, fun h hh hne => ?_⟩
    · rw [o' (425 + k) (by omega), o' 38 (by omega)]
      exact n4 k hk
    · rw [o' 38 (by omega)] at hne
      obtain ⟨k, hk, e⟩ := n5 h hh hne
      exact ⟨k, hk, by rw [o' (425 + k) (by omega)]; exact e⟩
  · obtain ⟨w, m, p1, p2, p3, p4, p5, p6, p7, p8⟩ := hP
    refine ⟨w, m, p1, p2, by rw [o' 48 (by omega)]; exact p3, by rw [o57 39 (by omega) (by omega) (by omega)]; exact p4, by rw [o' 48 (by omega)]; exact p5, by rw [o57 41 (by omega) (by omega) (by omega)]; exact p6, fun i hi => ?_, fun j hj => ?_⟩
    · rw [o' 49 (by omega), o' (527 + i) (by omega)]
      exact p7 i hi
    · rw [o' 50 (by omega), o' (544 + j) (by omega)]
      exact p8 j hj
  · unfold StR at hS ⊢
    rw [o' 44 (by omega), o' 521 (by omega)]
    exact hS
  · unfold CnR at hN ⊢
    rw [o' 0 (by omega), o57 40 (by omega) (by omega) (by omega), o' 59 (by omega)]
    exact hN
  · rw [o57 43 (by omega) (by omega) (by omega)]
    exact h43
  · rw [o57 44 (by omega) (by omega) (by omega)]
    exact h44
/-- the LAW's text as both read it -/
theorem sp_lawRead {t : Nat → Int32} {N : Nat} {μ B : Mem} (hN : N ≤ 150) (ho : TxO t N) (hA : TxC t N 0 μ) (hB : TxM t N (skp t N 0) B) (h5 : B 57 5 = 0) (h8 : B 57 8 = 0) :
    P_X1_read μ ∧ PsumM (upm B 57 22 0) ∧ P_X10_blanks (MsumM (upm B 57 22 0)) ∧
    ((F_X1_read μ ≠ 0 ∧ ∃ n p, LwS t N (upm μ 26 4 0) (upm B 57 22 0) 0 n p (M_X1_read μ) (M_X10_blanks (MsumM (upm B 57 22 0))) ∧ 1 ≤ n ∧ n ≤ 150 ∧ dpt (M_X1_read μ 27) n = 1 ∧ M_X10_blanks (MsumM (upm B 57 22 0)) 57 2 ≤ M_X10_blanks (MsumM (upm B 57 22 0)) 57 4) ∨
     (F_X1_read μ = 0 ∧ ((Flt t N (upm μ 26 4 0) (upm B 57 22 0) (M_X1_read μ) (M_X10_blanks (MsumM (upm B 57 22 0)))) ∨ (M_X10_blanks (MsumM (upm B 57 22 0)) 57 5 = 0 ∧ ¬ M_X10_blanks (MsumM (upm B 57 22 0)) 57 2 ≤ M_X10_blanks (MsumM (upm B 57 22 0)) 57 4 ∧ Flt t N (upm μ 26 4 0) (upm B 57 22 0) (M_X1_read μ) (M_X10_wrong 1 (M_X10_blanks (MsumM (upm B 57 22 0)) 57 4) (M_X10_blanks (MsumM (upm B 57 22 0)))))))) := by
  have s0 : LwS t N (upm μ 26 4 0) (upm B 57 22 0) 0 0 0 (upm μ 26 4 0) (upm B 57 22 0) := by
    refine ⟨⟨hA.mono (by rw [upm_other (by decide)]) (by rw [upm_other (by decide)]) (by rw [upm_other (by decide)]), ⟨_, hB.mono (by rw [upm_rr, if_neg (by decide)]) (by rw [upm_rr, if_neg (by decide)]) (by rw [upm_other (by decide)]), skp_skp hA.1 hA.2.1⟩, by rw [upm_rr, if_neg (by decide)]; exact h5, by rw [upm_rr, if_neg (by decide)]; exact h8⟩, ⟨by rw [upm_rr, if_pos rfl]; rfl, by rw [upm_rr, if_pos rfl]; rfl, Nat.le_refl _⟩, fun i hi => absurd hi (by omega), fun i hi => absurd hi (by omega), ⟨fun _ _ _ _ => rfl, fun _ _ _ _ _ => rfl⟩, ⟨fun _ _ _ _ => rfl, fun _ _ _ => rfl⟩⟩
  obtain ⟨i1, -⟩ := rec_ok (t := t) (N := N) (A := upm μ 26 4 0) (B := upm B 57 22 0) hN 7 0 (by omega) (by omega)
  obtain ⟨a1, a2, a3⟩ := i1 _ _ _ _ s0
  have e1 : muX1_read_1 μ = upm μ 26 4 0 := rfl
  have eP : PsumC 0 (muX1_read_1 μ) := a1
  have eF : (TsumC (7 + 1)).1 (nI 0) (upm μ 26 4 0) = FsumC 0 (muX1_read_1 μ) := rfl
  have eM : (TsumC (7 + 1)).2.1 (nI 0) (upm μ 26 4 0) = muX1_read_2 μ := rfl
  have eMM : (TsumM (7 + 1)).1 (upm B 57 22 0) = MsumM (upm B 57 22 0) := rfl
  rw [eF, eM, eMM] at a3
  rcases a3 with ⟨f, n, p, hl, l1, l2, l3⟩ | ⟨f, fl⟩
  · have f' : ¬ FsumC 0 (muX1_read_1 μ) = 0 := by rw [f]; decide
    obtain ⟨b1, b2, b3⟩ := LwS_blanks hl
    have tc := b2.1.1
    obtain ⟨c1, c2, c3, c4, c5⟩ := sp_isEnded ho tc
    have pn := b2.2.1.2.2
    have pN := tc.2.1
    obtain ⟨q1, q2, -, -⟩ := skp_ok (t := t) tc.1 tc.2.1
    have dz : dpt (upm μ 26 4 0 27) 0 = 0 := rfl
    refine ⟨⟨eP, fun z => absurd z f', fun _ => c1⟩, a2, b1, ?_⟩
    by_cases y : skp t N p < N
    · rw [if_pos y] at c2
      have y' : ¬ F_X8_isEnded (muX1_read_2 μ) ≠ 0 := not_not_intro c2
      have eMr : M_X1_read μ = M_X8_failHere 1 (M_X8_isEnded (muX1_read_2 μ)) := by
        unfold M_X1_read
        rw [if_neg f', if_neg y']
        rfl
      obtain ⟨t1, t2, t3, t4⟩ := sp_failHere (k := 1) (μ := M_X8_isEnded (muX1_read_2 μ))
      have z5 : M_X10_blanks (MsumM (upm B 57 22 0)) 57 5 = 0 := b2.1.2.2.1
      refine Or.inr ⟨?_, Or.inr ⟨z5, ?_, ?_⟩⟩
      · unfold F_X1_read F_X8_failHere
        rw [if_neg f', if_neg y', if_pos rfl]
      · rw [b3.2.2.1, b3.2.2.2.1]
        exact nI_ge y (by have := tc.1; omega)
      · rw [eMr, sp_wrong z5]
        exact LwS_flt (k := 1) (a := nI (skp t N p)) b2 (by decide) (b3.mono (by simp [upm_rr]) (by simp [upm_rr]) (by rw [upm_other (by decide), upm_other (by decide)])) t1 (by rw [t2]; exact c3.2.2.2.1) (by simp [upm_rr]) (by rw [upm_rr, if_pos rfl]; exact b3.2.2.2.1) (fun j q3 q4 q5 q6 q7 => by rw [t3 j q6 q7]; exact c5 j q3) (fun r hr => by rw [t4 r hr]; exact c4 r hr) (fun j q4 q5 q6 => by rw [upm_rr, if_neg q6, upm_rr, if_neg q5]) (fun r hr => by rw [upm_other hr, upm_other hr])
    · rw [if_neg y] at c2
      have y' : F_X8_isEnded (muX1_read_2 μ) ≠ 0 := by rw [c2]; decide
      have eMr : M_X1_read μ = M_X8_isEnded (muX1_read_2 μ) := by
        unfold M_X1_read
        rw [if_neg f', if_pos y']
        rfl
      refine Or.inl ⟨?_, n, skp t N p, ?_, by omega, by omega, ?_, ?_⟩
      · unfold F_X1_read
        rw [if_neg f', if_pos y']
        decide
      · rw [eMr]
        exact LwS_move b2 c3 q2 b3 rfl (fun k a b c => c5 k a) c4 (fun _ _ => rfl) (fun _ _ => rfl)
      · rw [eMr, c4 27 (by decide), l3, dz]
      · rw [b3.2.2.1, b3.2.2.2.1]
        exact nI_le (by omega) (by have := tc.1; omega)
  · obtain ⟨b1, b2, b3, b4⟩ : P_X10_blanks (MsumM (upm B 57 22 0)) ∧ (∃ pm, TxM t N pm (M_X10_blanks (MsumM (upm B 57 22 0)))) ∧ (∀ q, q ≠ 57 → M_X10_blanks (MsumM (upm B 57 22 0)) q = MsumM (upm B 57 22 0) q) ∧ ∀ k, k ≠ 4 → M_X10_blanks (MsumM (upm B 57 22 0)) 57 k = MsumM (upm B 57 22 0) 57 k := by
      obtain ⟨k, a, -, -, -, -, -, ⟨pm, hx⟩, -⟩ := fl
      obtain ⟨c1, c2, c3, c4⟩ := sp_blanks hx
      exact ⟨c1, ⟨_, c2⟩, c3, c4⟩
    refine ⟨⟨eP, fun _ => trivial, fun z => absurd f z⟩, a2, b1, Or.inr ⟨?_, Or.inl ?_⟩⟩
    · unfold F_X1_read
      rw [if_pos f]
    · have eMr : M_X1_read μ = muX1_read_2 μ := by
        unfold M_X1_read
        rw [if_pos f]
      rw [eMr]
      obtain ⟨k, a, h0, h1, h2, h3, h4, -, hc, h6, h7⟩ := fl
      exact ⟨k, a, h0, h1, h2, by rw [b4 5 (by decide)]; exact h3, by rw [b4 6 (by decide)]; exact h4, b2, hc, fun k q4 q5 q6 q8 q22 => by rw [b4 k q4]; exact h6 k q4 q5 q6 q8 q22, fun r q1 q2 => by rw [b3 r q1]; exact h7 r q1 q2⟩
