/-! fault, status, count; what the works change -/
theorem case_fault {E : EV} {L : LW} {μ : Mem} (hI : Inv E L μ) : P_W_5 μ ∧ Inv E L (M_W_5 μ) := by
  have hT := hI.2.2.2.2.2.2.1
  refine ⟨⟨fun _ => trivial, fun q => q ?_⟩, ?_⟩
  · show μ 1 7 = upm μ 57 0 0 57 3
    rw [upm_rr, if_neg (by decide), hT.2.2.2]
  · show Inv E L (upm μ 57 0 0)
    exact hI.keep zero57
theorem case_status {E : EV} {L : LW} {μ : Mem} (hI : Inv E L μ) (a : Int32) : P_W_39 a μ ∧ Inv E L (M_W_39 a μ) := by
  have hN := hI.2.2.2.2.2.2.2.2.2.2.1
  have key : P_X10_status a μ ∧ F_X9_status a μ = F_X10_status a μ := by
    unfold P_X10_status F_X10_status F_X9_status muX10_status_1
    rw [isIn_eq]
    by_cases h0 : a = 0
    · rw [h0, if_neg (not_not_intro rfl)]
      have hi : inR (0 : Int32) 0 1 = true := by decide
      rw [hi, if_pos rfl, if_neg (by decide), upm_other (by decide), hN.2.1]
      exact ⟨⟨fun q => absurd q (by decide), fun _ => vp_of (by decide) (by decide)⟩, rfl⟩
    · rw [if_pos h0]
      by_cases h1 : a = 1
      · rw [h1, if_neg (not_not_intro rfl)]
        have hi : inR (1 : Int32) 0 1 = true := by decide
        rw [hi, if_pos rfl, if_neg (by decide), upm_other (by decide), hN.2.2]
        exact ⟨⟨fun q => absurd q (by decide), fun _ => vp_of (by decide) (by decide)⟩, rfl⟩
      · rw [if_pos h1]
        have hi : inR a 0 1 = false := by
          cases q : inR a 0 1 with
          | false => rfl
          | true =>
            obtain ⟨n, hn, rfl⟩ := inR_n (n := 1) q (by decide) (by decide)
            rcases (show n = 0 ∨ n = 1 by omega) with rfl | rfl
            · exact absurd rfl h0
            · exact absurd rfl h1
        rw [hi, if_neg (by decide), if_pos rfl]
        exact ⟨⟨fun _ => trivial, fun q => absurd rfl q⟩, rfl⟩
  refine ⟨⟨key.1, fun _ => trivial, fun q => q key.2⟩, ?_⟩
  show Inv E L (upm μ 57 0 0)
  exact hI.keep zero57
theorem case_count {E : EV} {L : LW} {μ : Mem} (hI : Inv E L μ) (a : Int32) : P_W_40 a μ ∧ Inv E L (M_W_40 a μ) := by
  have hT := hI.2.2.2.2.2.2.1
  obtain ⟨w, m, -, -, p3, p4, p5, p6, -⟩ := hI.2.2.2.2.2.2.2.2.1
  refine ⟨⟨fun _ => trivial, fun q => q ?_⟩, ?_⟩
  · unfold F_X9_count F_X10_count muX10_count_1
    have e : ∀ k, k ≠ 0 → upm μ 57 0 0 57 k = μ 57 k := fun k hk => by rw [upm_rr, if_neg hk]
    rw [e 39 (by decide), e 1 (by decide), e 41 (by decide), p3, p4, p5, p6, hT.1]
  · show Inv E L (upm μ 57 0 0)
    exact hI.keep zero57
theorem RwR.same {E : EV} {c c' r r' : Nat → Int32} (hO : EvOK E) (h : RwR E c r) (ec : ∀ k, k < 69 → c' k = c k) (er : ∀ k, k < 63 → r' k = r k) : RwR E c' r' := by
  obtain ⟨⟨a1, a2, a3, a4⟩, b, d⟩ := h
  have hd := hO.1.1
  have h0 : RC0 E c' r := ⟨fun k hk => by rw [ec k (by omega)]; exact a1 k hk, fun h hl => by rw [ec _ (by omega)]; exact a2 h hl, fun h hl => by rw [ec _ (by omega)]; exact a3 h hl, by rw [ec _ (by omega)]; exact a4⟩
  have hp : RCP c' r := fun h hl => by rw [ec _ (by omega)]; exact b h hl
  exact ⟨h0.congr hO er, hp.congr er, d.congr hO er⟩
/-- what the works change: the rows, the counts -/
theorem Inv.works {E : EV} {L : LW} {μ μ' : Mem} (hI : Inv E L μ) (o : ∀ h, (1 ≤ h ∧ h ≤ 23 ∨ 26 ≤ h ∧ h ≤ 38 ∨ 40 ≤ h ∧ h ≤ 43 ∨ 58 ≤ h ∧ h ≤ 437 ∨ 440 ≤ h ∧ h ≤ 520) → μ' h = μ h) (o57 : ∀ k, k ≠ 0 → k ≠ 39 → k ≠ 40 → k ≠ 41 → k ≠ 42 → k ≠ 48 → k ≠ 49 → μ' 57 k = μ 57 k) (o12 : μ' 0 12 = μ 0 12) (o13 : μ' 0 13 = μ 0 13) (hP : PsR E μ') (hS : StR E μ') (hN : μ' 0 11 = μ' 57 40) : Inv E L μ' := by
  obtain ⟨hO, hM, hC, hL, hLC, hLR, hT, hMk, -, -, hCn, h43, h44⟩ := hI
  have q57 : ∀ k, k ≤ 38 → k ≠ 0 → μ' 57 k = μ 57 k := fun k h1 h2 => o57 k h2 (by omega) (by omega) (by omega) (by omega) (by omega) (by omega)
  refine ⟨hO, hM.mono (fun h q => o h (by omega)) hO, hC.mono fun h q => o h (by omega), hL, hLC.mono (by rw [o 21 (by omega)]) (o 22 (by omega)) (o 23 (by omega)), hLR.mono hL (q57 21 (by omega) (by omega)) fun q _ _ => o q (by omega), ?_, ?_, hP, hS, ?_, ?_, ?_⟩
  · unfold TxR at hT ⊢
    rw [q57 1 (by omega) (by omega), q57 3 (by omega) (by omega), o 1 (by omega), o 58 (by omega), o 2 (by omega)]
    exact hT
  · obtain ⟨n, n1, n2, n3, n4, n5⟩ := hMk
    refine ⟨n, n1, by rw [o 37 (by omega)]; exact n2, by rw [q57 38 (by omega) (by omega)]; exact n3, fun k hk => ?_, fun h hh hne => ?_⟩
    · rw [o (425 + k) (by omega), o 38 (by omega)]
      exact n4 k hk
    · rw [o 38 (by omega)] at hne
      obtain ⟨k, hk, e⟩ := n5 h hh hne
      exact ⟨k, hk, by rw [o (425 + k) (by omega)]; exact e⟩
  · exact ⟨hN, by rw [o12, o 59 (by omega)]; exact hCn.2.1, by rw [o13, o 59 (by omega)]; exact hCn.2.2⟩
  · rw [o57 43 (by omega) (by omega) (by omega) (by omega) (by omega) (by omega) (by omega)]
    exact h43
  · rw [o57 44 (by omega) (by omega) (by omega) (by omega) (by omega) (by omega) (by omega)]
    exact h44
