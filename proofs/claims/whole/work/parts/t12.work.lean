/-! WORK, both sides -/
theorem sp_doAll {E : EV} {L : LW} {μ B : Mem} {n s f : Nat} (hO : EvOK E) (hL : LwOK L) (hn : n ≤ 150) (hs : s ≤ 80) (h5 : μ 31 5 = nI n) (hdr : DR E L μ B) (h45 : B 57 45 = 0) (h46 : B 57 46 = 0) (h40 : B 57 40 = 0) (hg : Sg E (μ 32) (μ 33) (μ 34) (fun y => B (441 + y)) f 6 0 n 0 s) :
    P_X6_doAll μ ∧ PgoM 0 (nI s) B ∧ F_X6_doAll μ = MgoM 0 (nI s) B 57 46 ∧ M_X6_doAll μ 31 7 = MgoM 0 (nI s) B 57 40 ∧ DR E L (M_X6_doAll μ) (MgoM 0 (nI s) B) ∧ XC μ (M_X6_doAll μ) ∧ XM B (MgoM 0 (nI s) B) := by
  have e1 : muX6_doAll_1 μ = upm μ 31 7 0 := rfl
  have o1 : ∀ r, r ≠ 31 → upm μ 31 7 0 r = μ r := fun r hr => upm_other hr
  have c31 : upm μ 31 7 0 31 5 = nI n := by rw [upm_rr, if_neg (by decide), h5]
  have hx0 : XR E L (upm μ 31 7 0) B 0 0 0 (0, 0, 0, 0, upm μ 31 7 0) B := by
    refine ⟨hdr.keep hO hL (fun r a _ => o1 r a) (fun _ _ => rfl) (fun _ _ _ _ => rfl), ⟨h46.symm, ?_⟩, ⟨rfl, h45, by omega⟩, ⟨rfl, rfl⟩, ⟨fun _ _ _ _ _ _ => rfl, fun _ _ => rfl⟩, ⟨fun _ _ _ _ => rfl, fun _ _ _ _ _ _ => rfl⟩⟩
    show upm μ 31 7 0 31 7 = _
    rw [upm_rr, if_pos rfl, h40]
  have ex := exd_rec (x0 := (0, 0, 0, 0, upm μ 31 7 0)) (A := upm μ 31 7 0) (B := B) hO hL hn c31 7 6 (by decide)
  obtain ⟨p1, i', x', bg', a1, a2, a3, a4⟩ := ex f 0 n 0 s 0 0 0 _ B (by omega) (Nat.le_refl _) hs (by rw [o1 32 (by decide), o1 33 (by decide), o1 34 (by decide)]; exact hg) ⟨fun j hj => absurd hj (Nat.not_lt_zero _), rfl⟩ (Nat.le_refl _) hx0
  have key : ∃ dp' c', XR E L (upm μ 31 7 0) B dp' bg' c' x' (MgoM 0 (nI s) B) ∧ Cb_X6_doAll_20 i' x' = false := by
    rcases a4 with ⟨a4, -⟩ | ⟨b1, b2, c', dp', b3⟩
    · obtain ⟨-, -, -, r5⟩ := a4.r32
      exact ⟨0, n, a4, mv_stop (n := n) (c := n) (bg := bg') (Or.inl (Nat.le_refl _)) hn hn (by rw [r5, c31]) a4.2.2.2.1.2 a4.2.2.1.1⟩
    · subst b1
      exact ⟨dp', c', b3, b2⟩
  obtain ⟨dp', c', hx, he⟩ := key
  have b200 := hx.2.2.1.2.2
  have eN : NX6_doAll_20 μ = i' := fst_eq (by omega) (by show (!Cb_X6_doAll_20 i' (fo i' g_X6_doAll_20 (0, 0, 0, 0, upm μ 31 7 0))) = true; rw [← a1.2, he]; rfl) (fun j hj => by
    show (!Cb_X6_doAll_20 j (fo j g_X6_doAll_20 (0, 0, 0, 0, upm μ 31 7 0))) = false
    rw [(a1.1 j hj).1]
    rfl)
  have eS : SX6_doAll_20 μ = x' := by
    unfold SX6_doAll_20
    rw [eN, e1, ← a1.2]
  have eF : F_X6_doAll μ = x'.1 := by
    unfold F_X6_doAll
    rw [eS]
  have eM : M_X6_doAll μ = x'.2.2.2.2 := by
    unfold M_X6_doAll
    rw [eS]
  have hne : ¬ (10000 : Int32) ≤ nI i' := nI_ge (b := 10000) (by omega) (by omega)
  refine ⟨⟨fun j hj => (a1.1 j (by rw [eN] at hj; exact hj)).2, fun _ => trivial, fun _ => ⟨fun _ => trivial, fun w => ⟨fun k7 => ⟨fun b => ?_, fun _ => trivial⟩, fun k7 => ?_⟩⟩⟩, p1, by rw [eF]; exact hx.2.1.1, by rw [eM]; exact hx.2.1.2, by rw [eM]; exact hx.1, ?_, hx.2.2.2.2.2⟩
  · rw [eS] at w k7 b
    unfold Cb_X6_doAll_20 at he
    rw [if_neg hne, if_neg (Int32.not_le.mpr w), if_pos k7, if_pos b] at he
    exact absurd he (by decide)
  · rw [eS] at w k7
    unfold Cb_X6_doAll_20 at he
    rw [if_neg hne, if_neg (Int32.not_le.mpr w), if_neg (not_not_intro k7)] at he
    exact absurd he (by decide)
  · rw [eM]
    exact ⟨fun r a b c d e => (hx.2.2.2.2.1.1 r a b c d e).trans (o1 r c), fun k hk => (hx.2.2.2.2.1.2 k hk).trans (by rw [upm_rr, if_neg hk])⟩
theorem Inv.wk {E : EV} {L : LW} {μ μ' : Mem} (hI : Inv E L μ) (o : ∀ h, (2 ≤ h ∧ h ≤ 23 ∨ 26 ≤ h ∧ h ≤ 30 ∨ 37 ≤ h ∧ h ≤ 38 ∨ 40 ≤ h ∧ h ≤ 43 ∨ 58 ≤ h ∧ h ≤ 437) → h ≠ 59 → μ' h = μ h) (o57 : ∀ k, 9 ≤ k → k ≠ 30 → k ≠ 39 → k ≠ 40 → k ≠ 45 → k ≠ 46 → μ' 57 k = μ 57 k) (hT : TxR μ') (hP : PsR E μ') (hS : StR E μ') (hN : CnR μ') : Inv E L μ' := by
  obtain ⟨hO, hM, hC, hLO, hLC, hLR, -, hK, -, -, -, h43, h44⟩ := hI
  have hd := hO.1
  refine ⟨hO, hM.mono (fun h hh => o h (by omega) (by omega)) hO, hC.mono (fun h hh => o h (by omega) (by omega)), hLO, hLC.mono (by rw [o 21 (by omega) (by omega)]) (o 22 (by omega) (by omega)) (o 23 (by omega) (by omega)), hLR.mono hLO (o57 21 (by omega) (by omega) (by omega) (by omega) (by omega) (by omega)) (fun q h1 h2 => o q (by omega) (by omega)), hT, ?_, hP, hS, hN, by rw [o57 43 (by omega) (by omega) (by omega) (by omega) (by omega) (by omega)]; exact h43, by rw [o57 44 (by omega) (by omega) (by omega) (by omega) (by omega) (by omega)]; exact h44⟩
  obtain ⟨n, n1, n2, n3, n4, n5⟩ := hK
  refine ⟨n, n1, by rw [o 37 (by omega) (by omega)]; exact n2, by rw [o57 38 (by omega) (by omega) (by omega) (by omega) (by omega) (by omega)]; exact n3, fun k hk => ?_, fun h hh hne => ?_⟩
  · obtain ⟨h, a1, a2, a3, a4, a5⟩ := n4 k hk
    exact ⟨h, a1, by rw [o (425 + k) (by omega) (by omega)]; exact a2, by rw [o (425 + k) (by omega) (by omega), o 38 (by omega) (by omega)]; exact a3, by rw [o 38 (by omega) (by omega)]; exact a4, by rw [o 38 (by omega) (by omega)]; exact a5⟩
  · rw [o 38 (by omega) (by omega)] at hne
    obtain ⟨k, k1, k2⟩ := n5 h hh hne
    exact ⟨k, k1, by rw [o (425 + k) (by omega) (by omega)]; exact k2⟩
/-- a stand is kept: the class's, the reference's -/
theorem PsR.push {E : EV} {μ μ' : Mem} {w : Nat} (hO : EvOK E) (hP : PsR E μ) (hS : StR E μ) (hw : μ 48 2 = nI w) (hw16 : w < 16) (a2 : μ' 48 2 = nI (w + 1)) (a3 : μ' 48 3 = μ 48 3) (b39 : μ' 57 39 = nI (w + 1)) (b41 : μ' 57 41 = μ 57 41) (c49 : ∀ k, μ' 49 k = if 69 * w ≤ k ∧ k < 69 * w + 69 then μ 44 (k - 69 * w) else μ 49 k) (c50 : μ' 50 = μ 50) (d : ∀ k, k < 63 → μ' (527 + w) k = μ 521 k) (dO : ∀ r, 527 ≤ r → r ≤ 546 → r ≠ 527 + w → μ' r = μ r) : PsR E μ' := by
  obtain ⟨w', m, p1, p2, p3, p4, p5, p6, p7, p8⟩ := hP
  have e : w' = w := (nI_eq (by omega) (by omega)).mp (p3.symm.trans hw)
  subst e
  refine ⟨w' + 1, m, by omega, p2, a2, b39, by rw [a3]; exact p5, by rw [b41]; exact p6, fun i hi => ?_, fun j hj => ?_⟩
  · by_cases z : i = w'
    · subst z
      refine RwR.same hO hS (fun k hk => ?_) (fun k hk => d k hk)
      show μ' 49 (69 * i + k) = μ 44 k
      rw [c49, if_pos (by omega), Nat.add_sub_cancel_left]
    · refine RwR.same hO (p7 i (by omega)) (fun k hk => ?_) (fun k _ => by rw [dO _ (by omega) (by omega) (by omega)])
      show μ' 49 (69 * i + k) = μ 49 (69 * i + k)
      rw [c49, if_neg (by omega)]
  · obtain ⟨v, v1, v2, v3, v4, v5⟩ := p8 j hj
    have e1 : μ' (544 + j) = μ (544 + j) := dO _ (by omega) (by omega) (by omega)
    exact ⟨v, v1, by rw [c50]; exact v2, by rw [e1]; exact v3, by rw [c50, e1]; exact v4, fun i hi => by rw [c50, e1]; exact v5 i hi⟩
