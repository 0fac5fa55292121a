/-! a CLAUSE, both sides: what is read so far -/
def RdR (E : EV) (μc μm : Mem) : Prop :=
  (μc 12 8 = nI (eH E) ∧ μc 12 9 = nI (eT E) ∧ μc 12 10 = nI (eD E) ∧ μc 12 11 = nI (eF E) ∧ μc 12 12 = eR E ∧ μc 12 13 = eP E) ∧
  (μm 60 0 = nI (eH E) ∧ μm 60 1 = nI (eT E) ∧ μm 60 2 = nI (eD E) ∧ μm 60 3 = nI (eF E) ∧ μm 60 4 = eR E ∧ μm 60 5 = eP E) ∧
  (∀ h, h < eH E → μc 13 h = eS E h ∧ μm 62 h = eS E h) ∧ (∀ k, k < eD E → μc 18 k = eG E k ∧ μm 64 k = eG E k) ∧
  (∀ t, t < eT E → (μc 14 t = eX E t 0 ∧ μc 15 t = eX E t 1 ∧ μc 16 t = eX E t 2 ∧ μc 17 t = eX E t 3) ∧ ∀ i, i < 4 → μm (67 + t) i = eX E t i) ∧
  (∀ f, f < eF E → (μc 19 f = eY E f 0 ∧ μc 20 f = eY E f 1) ∧ ∀ i, i < 2 → μm (89 + f) i = eY E f i)
def GC (μ μ' : Mem) : Prop := (∀ k, k ≠ 3 → k ≠ 4 → k ≠ 5 → μ' 1 k = μ 1 k) ∧ ∀ r, r ≠ 1 → (r < 12 ∨ 20 < r) → μ' r = μ r
def GCx (μ μ' : Mem) : Prop := (∀ k, k ≠ 3 → k ≠ 4 → k ≠ 5 → k ≠ 6 → k ≠ 7 → μ' 1 k = μ 1 k) ∧ ∀ r, r ≠ 1 → (r < 12 ∨ 20 < r) → μ' r = μ r
def rdF (r : Nat) : Prop := r ≠ 57 ∧ r ≠ 60 ∧ r ≠ 62 ∧ r ≠ 64 ∧ (r < 67 ∨ 76 < r) ∧ (r < 89 ∨ 94 < r)
def GM (μ μ' : Mem) : Prop := (∀ k, k ≠ 4 → k ≠ 7 → μ' 57 k = μ 57 k) ∧ ∀ r, rdF r → μ' r = μ r
def GMx (μ μ' : Mem) : Prop := (∀ k, k ≠ 4 → k ≠ 5 → k ≠ 6 → k ≠ 7 → μ' 57 k = μ 57 k) ∧ ∀ r, rdF r → μ' r = μ r
theorem GC.trans {a b c : Mem} (h : GC a b) (g : GC b c) : GC a c := ⟨fun k x y z => (g.1 k x y z).trans (h.1 k x y z), fun r x y => (g.2 r x y).trans (h.2 r x y)⟩
theorem GM.trans {a b c : Mem} (h : GM a b) (g : GM b c) : GM a c := ⟨fun k x y => (g.1 k x y).trans (h.1 k x y), fun r x => (g.2 r x).trans (h.2 r x)⟩
theorem GCx.trans {a b c : Mem} (h : GCx a b) (g : GCx b c) : GCx a c := ⟨fun k x y z u v => (g.1 k x y z u v).trans (h.1 k x y z u v), fun r x y => (g.2 r x y).trans (h.2 r x y)⟩
theorem GMx.trans {a b c : Mem} (h : GMx a b) (g : GMx b c) : GMx a c := ⟨fun k x y z u => (g.1 k x y z u).trans (h.1 k x y z u), fun r x => (g.2 r x).trans (h.2 r x)⟩
theorem GC.x {μ μ' : Mem} (h : GC μ μ') : GCx μ μ' := ⟨fun k a b c _ _ => h.1 k a b c, h.2⟩
theorem GM.x {μ μ' : Mem} (h : GM μ μ') : GMx μ μ' := ⟨fun k a _ _ b => h.1 k a b, h.2⟩
theorem FC.g {μ μ' : Mem} (h : FC μ μ') : GC μ μ' := ⟨h.1, fun r a _ => h.2 r a⟩
theorem FM.g {μ μ' : Mem} (h : FM μ μ') : GM μ μ' := ⟨fun k a _ => h.1 k a, fun r a => h.2 r a.1⟩
theorem FCx.g {μ μ' : Mem} (h : FCx μ μ') : GCx μ μ' := ⟨h.1, fun r a _ => h.2 r a⟩
theorem FMx.g {μ μ' : Mem} (h : FMx μ μ') : GMx μ μ' := ⟨fun k a b c _ => h.1 k a b c, fun r a => h.2 r a.1⟩
theorem GC.up {μ : Mem} {r i : Nat} {x : Int32} (h1 : 12 ≤ r) (h2 : r ≤ 20) : GC μ (upm μ r i x) := ⟨fun k _ _ _ => by rw [upm_other (by omega)], fun q _ b => by rw [upm_other (by omega)]⟩
theorem GM.up {μ : Mem} {r i : Nat} {x : Int32} (h : ¬ rdF r) (h57 : r ≠ 57) : GM μ (upm μ r i x) := ⟨fun k _ _ => by rw [upm_other h57.symm], fun q a => by rw [upm_other fun z => h (by rw [← z]; exact a)]⟩
theorem rdF_60 : ¬ rdF 60 := fun h => h.2.1 rfl
theorem rdF_62 : ¬ rdF 62 := fun h => h.2.2.1 rfl
theorem rdF_64 : ¬ rdF 64 := fun h => h.2.2.2.1 rfl
theorem rdF_67 {t : Nat} (h : t < 10) : ¬ rdF (67 + t) := fun z => by
  have := z.2.2.2.2.1
  omega
theorem rdF_89 {t : Nat} (h : t < 6) : ¬ rdF (89 + t) := fun z => by
  have := z.2.2.2.2.2
  omega
/-- a clause's numbers: the outcome -/
def ClO (t : Nat → Int32) (N p : Nat) (μc μm : Mem) (F : Int32) (Mc x : Mem) : Prop :=
  (F = 1 ∧ ∃ E' p', EvOK E' ∧ RdR E' Mc x ∧ TT t N p' Mc x ∧ p ≤ p' ∧ GC μc Mc ∧ GM μm x) ∨ (F = 0 ∧ TF t N Mc x ∧ GCx μc Mc ∧ GMx μm x)
theorem sp_readInto {t : Nat → Int32} {N p row nrow n : Nat} {lo hi : Int32} {μc μm : Mem} (h : TT t N p μc μm) (hlo : 0 ≤ lo) (h1 : 12 ≤ row) (h2 : row ≤ 20) (hn : n < nrow) (hw : nrow < 2 ^ 31) : P_X7_readInto row nrow (nI n) lo hi μc ∧ P_X10_number lo hi μm ∧
    ((∃ v p', F_X7_readInto row nrow (nI n) lo hi μc = 1 ∧ F_X10_number lo hi μm = v ∧ lo ≤ v ∧ v ≤ hi ∧ M_X7_readInto row nrow (nI n) lo hi μc = upm (M_X8_takeNumber lo hi μc) row n v ∧ TT t N p' (upm (M_X8_takeNumber lo hi μc) row n v) (M_X10_number lo hi μm) ∧ p + 1 ≤ p' ∧ FC μc (M_X8_takeNumber lo hi μc) ∧ FM μm (M_X10_number lo hi μm)) ∨
     (F_X7_readInto row nrow (nI n) lo hi μc = 0 ∧ TF t N (M_X7_readInto row nrow (nI n) lo hi μc) (M_X10_number lo hi μm) ∧ GCx μc (M_X7_readInto row nrow (nI n) lo hi μc) ∧ FMx μm (M_X10_number lo hi μm))) := by
  obtain ⟨a1, a2, a3⟩ := TT_num (lo := lo) (hi := hi) h hlo
  refine ⟨a1, a2, ?_⟩
  have eM : M_X7_readInto row nrow (nI n) lo hi μc = upm (M_X8_takeNumber lo hi μc) row n (F_X8_takeNumber lo hi μc) := put_k hn hw
  rcases a3 with ⟨v, p', b1, b2, b3, b4, b5, b6, b7, b8, b9⟩ | ⟨b1, b2, b3, b4⟩
  · refine Or.inl ⟨v, p', ?_, b2, b4, b5, by rw [eM, b1], b6.mono (by rw [upm_other (by omega)]) (by rw [upm_other (by omega)]) rfl rfl rfl rfl, b7, b8, b9⟩
    unfold F_X7_readInto
    rw [b1, if_neg b3]
  · refine Or.inr ⟨?_, ?_, ?_, b4⟩
    · unfold F_X7_readInto
      rw [if_pos b1]
    · rw [eM]
      exact b2.mono (by rw [upm_other (by omega)]) rfl rfl rfl rfl rfl
    · rw [eM]
      exact b3.g.trans (GC.up h1 h2).x
theorem cl_house {t : Nat → Int32} {N p : Nat} {E : EV} {μc μm : Mem} (hO : EvOK E) (hR : RdR E μc μm) (ht : TT t N p μc μm) (hm : eH E ≠ 6) : P_X7_readHouse μc ∧ P_X10_number 0 40 μm ∧ ∀ x y z : Mem, x = M_X10_number 0 40 μm → y = upm x 62 (eH E) (F_X10_number 0 40 μm) → z = upm y 60 0 (y 60 0 + (if y 57 5 ≠ 0 then 0 else 1)) → ClO t N p μc μm (F_X7_readHouse μc) (M_X7_readHouse μc) z := by
  obtain ⟨o1, o2, o3, o4, o5, o6⟩ := hO
  obtain ⟨r1, r2, r3, r4, r5, r6⟩ := hR
  have l1 := o1.1
  have h6 : eH E < 6 := by omega
  obtain ⟨a1, a2, a3⟩ := sp_readInto (row := 13) (nrow := 6) (n := eH E) (lo := 0) (hi := 40) ht (by decide) (by decide) (by decide) h6 (by decide)
  have zP : P_X7_readHouse μc := by
    show P_X7_readInto 13 6 (μc 12 8) 0 40 μc
    rw [r1.1]
    exact a1
  refine ⟨zP, a2, fun x y z ex ey ez => ?_⟩
  have zF : F_X7_readHouse μc = F_X7_readInto 13 6 (nI (eH E)) 0 40 μc := by
    unfold F_X7_readHouse
    rw [r1.1]
  have e1 : muX7_readHouse_1 μc = M_X7_readInto 13 6 (nI (eH E)) 0 40 μc := by
    unfold muX7_readHouse_1
    rw [r1.1]
  rw [← ex] at a3
  rcases a3 with ⟨v, p', b1, b2, b3, b4, b5, b6, b7, b8, b9⟩ | ⟨b1, b2, b3, b4⟩
  · have x5 : x 57 5 = 0 := b6.2.2
    have ey' : y = upm x 62 (eH E) v := by rw [ey, b2]
    have y5 : y 57 5 = 0 := by rw [ey', upm_other (by decide)]; exact x5
    have y60 : y 60 0 = nI (eH E) := by rw [ey', upm_other (by decide), b9.2 60 (by decide)]; exact r2.1
    have ez' : z = upm y 60 0 (nI (eH E + 1)) := by rw [ez, if_neg (not_not_intro y5), y60, nI_succ]
    have eM : M_X7_readHouse μc = upm (upm (M_X8_takeNumber 0 40 μc) 13 (eH E) v) 12 8 (nI (eH E + 1)) := by
      show upm (muX7_readHouse_1 μc) 12 8 (muX7_readHouse_1 μc 12 8 + 1) = _
      rw [e1, b5, upm_other (show (12 : Nat) ≠ 13 by decide), b8.2 12 (by decide), r1.1, nI_succ]
    have oc : ∀ r, r ≠ 1 → r ≠ 12 → r ≠ 13 → M_X7_readHouse μc r = μc r := fun r u v w => by rw [eM, upm_other v, upm_other w, b8.2 r u]
    have oz : ∀ r, r ≠ 57 → r ≠ 60 → r ≠ 62 → z r = μm r := fun r u v w => by rw [ez', upm_other v, ey', upm_other w, b9.2 r u]
    refine Or.inl ⟨by rw [zF, b1], ((eH E + 1, eT E, eD E, eF E), fun h => if h = eH E then v else eS E h, eG E, eX E, eY E, eR E, eP E), p', ⟨⟨?_, o1.2.1, o1.2.2.1, o1.2.2.2⟩, fun h hh => ?_, o3, fun k hk => ?_, o5, o6⟩, ⟨⟨?_, ?_, ?_, ?_, ?_, ?_⟩, ⟨?_, ?_, ?_, ?_, ?_, ?_⟩, fun h hh => ?_, fun k hk => ?_, fun k hk => ?_, fun k hk => ?_⟩, ?_, by omega, ?_, ?_⟩
    · show eH E + 1 ≤ 6
      omega
    · show 0 ≤ (if h = eH E then v else eS E h) ∧ (if h = eH E then v else eS E h) ≤ 40
      have hh' : h < eH E + 1 := hh
      by_cases q : h = eH E
      · rw [if_pos q]
        exact ⟨b3, b4⟩
      · rw [if_neg q]
        exact o2 h (by omega)
    · obtain ⟨⟨w, w1, w2⟩, rest⟩ := o4 k hk
      exact ⟨⟨w, (show w < eH E + 1 by omega), w2⟩, rest⟩
    · rw [eM, upm_rr, if_pos rfl]
      rfl
    · rw [eM, upm_rr, if_neg (by decide), upm_other (by decide), b8.2 12 (by decide)]
      exact r1.2.1
    · rw [eM, upm_rr, if_neg (by decide), upm_other (by decide), b8.2 12 (by decide)]
      exact r1.2.2.1
    · rw [eM, upm_rr, if_neg (by decide), upm_other (by decide), b8.2 12 (by decide)]
      exact r1.2.2.2.1
    · rw [eM, upm_rr, if_neg (by decide), upm_other (by decide), b8.2 12 (by decide)]
      exact r1.2.2.2.2.1
    · rw [eM, upm_rr, if_neg (by decide), upm_other (by decide), b8.2 12 (by decide)]
      exact r1.2.2.2.2.2
    · rw [ez', upm_rr, if_pos rfl]
      rfl
    · rw [ez', upm_rr, if_neg (by decide), ey', upm_other (by decide), b9.2 60 (by decide)]
      exact r2.2.1
    · rw [ez', upm_rr, if_neg (by decide), ey', upm_other (by decide), b9.2 60 (by decide)]
      exact r2.2.2.1
    · rw [ez', upm_rr, if_neg (by decide), ey', upm_other (by decide), b9.2 60 (by decide)]
      exact r2.2.2.2.1
    · rw [ez', upm_rr, if_neg (by decide), ey', upm_other (by decide), b9.2 60 (by decide)]
      exact r2.2.2.2.2.1
    · rw [ez', upm_rr, if_neg (by decide), ey', upm_other (by decide), b9.2 60 (by decide)]
      exact r2.2.2.2.2.2
    · have hh' : h < eH E + 1 := hh
      show M_X7_readHouse μc 13 h = (if h = eH E then v else eS E h) ∧ z 62 h = (if h = eH E then v else eS E h)
      rw [eM, upm_other (by decide), upm_rr, b8.2 13 (by decide), ez', upm_other (by decide), ey', upm_rr, b9.2 62 (by decide)]
      by_cases q : h = eH E
      · rw [if_pos q, if_pos q, if_pos q]
        exact ⟨rfl, rfl⟩
      · rw [if_neg q, if_neg q, if_neg q]
        exact r3 h (by omega)
    · rw [oc 18 (by decide) (by decide) (by decide), oz 64 (by decide) (by decide) (by decide)]
      exact r4 k hk
    · have hk' : k < eT E := hk
      have l10 := o1.2.1
      rw [oc 14 (by decide) (by decide) (by decide), oc 15 (by decide) (by decide) (by decide), oc 16 (by decide) (by decide) (by decide), oc 17 (by decide) (by decide) (by decide), oz (67 + k) (by omega) (by omega) (by omega)]
      exact r5 k hk
    · have hk' : k < eF E := hk
      have l10 := o1.2.2.2
      rw [oc 19 (by decide) (by decide) (by decide), oc 20 (by decide) (by decide) (by decide), oz (89 + k) (by omega) (by omega) (by omega)]
      exact r6 k hk
    · exact b6.mono (by rw [eM, upm_other (by decide)]) (by rw [eM, upm_other (by decide)]) (by rw [ez', upm_other (by decide), ey', upm_other (by decide)]) (by rw [ez', upm_other (by decide), ey', upm_other (by decide)]) (by rw [ez', upm_other (by decide), ey', upm_other (by decide)]) (by rw [ez', upm_other (by decide), ey', upm_other (by decide)])
    · rw [eM]
      exact b8.g.trans ((GC.up (by decide) (by decide)).trans (GC.up (by decide) (by decide)))
    · rw [ez', ey']
      exact b9.g.trans ((GM.up rdF_62 (by decide)).trans (GM.up rdF_60 (by decide)))
  · have eM : M_X7_readHouse μc = upm (muX7_readHouse_1 μc) 12 8 (muX7_readHouse_1 μc 12 8 + 1) := rfl
    rw [← e1] at b2 b3
    refine Or.inr ⟨by rw [zF, b1], ?_, ?_, ?_⟩
    · rw [eM]
      exact b2.mono (by rw [upm_other (by decide)]) (by rw [ez, upm_other (by decide), ey, upm_other (by decide)]) (by rw [ez, upm_other (by decide), ey, upm_other (by decide)]) (by rw [ez, upm_other (by decide), ey, upm_other (by decide)]) (by rw [ez, upm_other (by decide), ey, upm_other (by decide)]) (by rw [ez, upm_other (by decide), ey, upm_other (by decide)])
    · rw [eM]
      exact b3.trans (GC.up (by decide) (by decide)).x
    · rw [ez]
      refine GMx.trans ?_ (GM.up rdF_60 (by decide)).x
      rw [ey]
      exact b4.g.trans (GM.up rdF_62 (by decide)).x
theorem cl_tide {t : Nat → Int32} {N p : Nat} {E : EV} {μc μm : Mem} (hO : EvOK E) (hR : RdR E μc μm) (ht : TT t N p μc μm) (hm : eD E ≠ 12) : P_X7_readTide μc ∧ P_X10_number 0 60 μm ∧ ∀ x y z : Mem, x = M_X10_number 0 60 μm → y = upm x 64 (eD E) (F_X10_number 0 60 μm) → z = upm y 60 2 (y 60 2 + (if y 57 5 ≠ 0 then 0 else 1)) → ClO t N p μc μm (F_X7_readTide μc) (M_X7_readTide μc) z := by
  obtain ⟨o1, o2, o3, o4, o5, o6⟩ := hO
  obtain ⟨r1, r2, r3, r4, r5, r6⟩ := hR
  have l1 := o1.2.2.1
  have h6 : eD E < 12 := by omega
  obtain ⟨a1, a2, a3⟩ := sp_readInto (row := 18) (nrow := 12) (n := eD E) (lo := 0) (hi := 60) ht (by decide) (by decide) (by decide) h6 (by decide)
  have zP : P_X7_readTide μc := by
    show P_X7_readInto 18 12 (μc 12 10) 0 60 μc
    rw [r1.2.2.1]
    exact a1
  refine ⟨zP, a2, fun x y z ex ey ez => ?_⟩
  have zF : F_X7_readTide μc = F_X7_readInto 18 12 (nI (eD E)) 0 60 μc := by
    unfold F_X7_readTide
    rw [r1.2.2.1]
  have e1 : muX7_readTide_1 μc = M_X7_readInto 18 12 (nI (eD E)) 0 60 μc := by
    unfold muX7_readTide_1
    rw [r1.2.2.1]
  rw [← ex] at a3
  rcases a3 with ⟨v, p', b1, b2, b3, b4, b5, b6, b7, b8, b9⟩ | ⟨b1, b2, b3, b4⟩
  · have x5 : x 57 5 = 0 := b6.2.2
    have ey' : y = upm x 64 (eD E) v := by rw [ey, b2]
    have y5 : y 57 5 = 0 := by rw [ey', upm_other (by decide)]; exact x5
    have y60 : y 60 2 = nI (eD E) := by rw [ey', upm_other (by decide), b9.2 60 (by decide)]; exact r2.2.2.1
    have ez' : z = upm y 60 2 (nI (eD E + 1)) := by rw [ez, if_neg (not_not_intro y5), y60, nI_succ]
    have eM : M_X7_readTide μc = upm (upm (M_X8_takeNumber 0 60 μc) 18 (eD E) v) 12 10 (nI (eD E + 1)) := by
      show upm (muX7_readTide_1 μc) 12 10 (muX7_readTide_1 μc 12 10 + 1) = _
      rw [e1, b5, upm_other (show (12 : Nat) ≠ 18 by decide), b8.2 12 (by decide), r1.2.2.1, nI_succ]
    have oc : ∀ r, r ≠ 1 → r ≠ 12 → r ≠ 18 → M_X7_readTide μc r = μc r := fun r u v w => by rw [eM, upm_other v, upm_other w, b8.2 r u]
    have oz : ∀ r, r ≠ 57 → r ≠ 60 → r ≠ 64 → z r = μm r := fun r u v w => by rw [ez', upm_other v, ey', upm_other w, b9.2 r u]
    refine Or.inl ⟨by rw [zF, b1], ((eH E, eT E, eD E + 1, eF E), eS E, fun h => if h = eD E then v else eG E h, eX E, eY E, eR E, eP E), p', ⟨⟨o1.1, o1.2.1, ?_, o1.2.2.2⟩, o2, fun h hh => ?_, o4, o5, o6⟩, ⟨⟨?_, ?_, ?_, ?_, ?_, ?_⟩, ⟨?_, ?_, ?_, ?_, ?_, ?_⟩, fun h hh => ?_, fun k hk => ?_, fun k hk => ?_, fun k hk => ?_⟩, ?_, by omega, ?_, ?_⟩
    · show eD E + 1 ≤ 12
      omega
    · show 0 ≤ (if h = eD E then v else eG E h) ∧ (if h = eD E then v else eG E h) ≤ 60
      have hh' : h < eD E + 1 := hh
      by_cases q : h = eD E
      · rw [if_pos q]
        exact ⟨b3, b4⟩
      · rw [if_neg q]
        exact o3 h (by omega)
    · rw [eM, upm_rr, if_neg (by decide), upm_other (by decide), b8.2 12 (by decide)]
      exact r1.1
    · rw [eM, upm_rr, if_neg (by decide), upm_other (by decide), b8.2 12 (by decide)]
      exact r1.2.1
    · rw [eM, upm_rr, if_pos rfl]
      rfl
    · rw [eM, upm_rr, if_neg (by decide), upm_other (by decide), b8.2 12 (by decide)]
      exact r1.2.2.2.1
    · rw [eM, upm_rr, if_neg (by decide), upm_other (by decide), b8.2 12 (by decide)]
      exact r1.2.2.2.2.1
    · rw [eM, upm_rr, if_neg (by decide), upm_other (by decide), b8.2 12 (by decide)]
      exact r1.2.2.2.2.2
    · rw [ez', upm_rr, if_neg (by decide), ey', upm_other (by decide), b9.2 60 (by decide)]
      exact r2.1
    · rw [ez', upm_rr, if_neg (by decide), ey', upm_other (by decide), b9.2 60 (by decide)]
      exact r2.2.1
    · rw [ez', upm_rr, if_pos rfl]
      rfl
    · rw [ez', upm_rr, if_neg (by decide), ey', upm_other (by decide), b9.2 60 (by decide)]
      exact r2.2.2.2.1
    · rw [ez', upm_rr, if_neg (by decide), ey', upm_other (by decide), b9.2 60 (by decide)]
      exact r2.2.2.2.2.1
    · rw [ez', upm_rr, if_neg (by decide), ey', upm_other (by decide), b9.2 60 (by decide)]
      exact r2.2.2.2.2.2
    · rw [oc 13 (by decide) (by decide) (by decide), oz 62 (by decide) (by decide) (by decide)]
      exact r3 h hh
    · have hh' : k < eD E + 1 := hk
      show M_X7_readTide μc 18 k = (if k = eD E then v else eG E k) ∧ z 64 k = (if k = eD E then v else eG E k)
      rw [eM, upm_other (by decide), upm_rr, b8.2 18 (by decide), ez', upm_other (by decide), ey', upm_rr, b9.2 64 (by decide)]
      by_cases q : k = eD E
      · rw [if_pos q, if_pos q, if_pos q]
        exact ⟨rfl, rfl⟩
      · rw [if_neg q, if_neg q, if_neg q]
        exact r4 k (by omega)
    · have hk' : k < eT E := hk
      have l10 := o1.2.1
      rw [oc 14 (by decide) (by decide) (by decide), oc 15 (by decide) (by decide) (by decide), oc 16 (by decide) (by decide) (by decide), oc 17 (by decide) (by decide) (by decide), oz (67 + k) (by omega) (by omega) (by omega)]
      exact r5 k hk
    · have hk' : k < eF E := hk
      have l10 := o1.2.2.2
      rw [oc 19 (by decide) (by decide) (by decide), oc 20 (by decide) (by decide) (by decide), oz (89 + k) (by omega) (by omega) (by omega)]
      exact r6 k hk
    · exact b6.mono (by rw [eM, upm_other (by decide)]) (by rw [eM, upm_other (by decide)]) (by rw [ez', upm_other (by decide), ey', upm_other (by decide)]) (by rw [ez', upm_other (by decide), ey', upm_other (by decide)]) (by rw [ez', upm_other (by decide), ey', upm_other (by decide)]) (by rw [ez', upm_other (by decide), ey', upm_other (by decide)])
    · rw [eM]
      exact b8.g.trans ((GC.up (by decide) (by decide)).trans (GC.up (by decide) (by decide)))
    · rw [ez', ey']
      exact b9.g.trans ((GM.up rdF_64 (by decide)).trans (GM.up rdF_60 (by decide)))
  · have eM : M_X7_readTide μc = upm (muX7_readTide_1 μc) 12 10 (muX7_readTide_1 μc 12 10 + 1) := rfl
    rw [← e1] at b2 b3
    refine Or.inr ⟨by rw [zF, b1], ?_, ?_, ?_⟩
    · rw [eM]
      exact b2.mono (by rw [upm_other (by decide)]) (by rw [ez, upm_other (by decide), ey, upm_other (by decide)]) (by rw [ez, upm_other (by decide), ey, upm_other (by decide)]) (by rw [ez, upm_other (by decide), ey, upm_other (by decide)]) (by rw [ez, upm_other (by decide), ey, upm_other (by decide)]) (by rw [ez, upm_other (by decide), ey, upm_other (by decide)])
    · rw [eM]
      exact b3.trans (GC.up (by decide) (by decide)).x
    · rw [ez]
      refine GMx.trans ?_ (GM.up rdF_60 (by decide)).x
      rw [ey]
      exact b4.g.trans (GM.up rdF_64 (by decide)).x
theorem cl_rent {t : Nat → Int32} {N p : Nat} {E : EV} {μc μm : Mem} (hO : EvOK E) (hR : RdR E μc μm) (ht : TT t N p μc μm) : P_X7_readRent μc ∧ P_X10_number 0 40 μm ∧ ∀ x z : Mem, x = M_X10_number 0 40 μm → z = (if x 57 5 ≠ 0 then x else upm x 60 4 (F_X10_number 0 40 μm)) → ClO t N p μc μm (F_X7_readRent μc) (M_X7_readRent μc) z := by
  obtain ⟨o1, o2, o3, o4, o5, o6⟩ := hO
  obtain ⟨r1, r2, r3, r4, r5, r6⟩ := hR
  obtain ⟨a1, a2, a3⟩ := TT_num (lo := 0) (hi := 40) ht (by decide)
  refine ⟨a1, a2, fun x z ex ez => ?_⟩
  have eM : M_X7_readRent μc = upm (M_X8_takeNumber 0 40 μc) 12 12 (F_X8_takeNumber 0 40 μc) := rfl
  have zF : F_X7_readRent μc = if F_X8_takeNumber 0 40 μc = -1 then 0 else 1 := by
    show (if upm (M_X8_takeNumber 0 40 μc) 12 12 (F_X8_takeNumber 0 40 μc) 12 12 = -1 then 0 else 1) = _
    rw [upm_rr, if_pos rfl]
  rw [← ex] at a3
  rcases a3 with ⟨v, p', b1, b2, b3, b4, b5, b6, b7, b8, b9⟩ | ⟨b1, b2, b3, b4⟩
  · have x5 : x 57 5 = 0 := b6.2.2
    have ez' : z = upm x 60 4 v := by rw [ez, if_neg (not_not_intro x5), b2]
    rw [b1] at eM
    have oc : ∀ r, r ≠ 1 → r ≠ 12 → M_X7_readRent μc r = μc r := fun r u v => by rw [eM, upm_other v, b8.2 r u]
    have oz : ∀ r, r ≠ 57 → r ≠ 60 → z r = μm r := fun r u v => by rw [ez', upm_other v, b9.2 r u]
    refine Or.inl ⟨by rw [zF, b1, if_neg b3], ((eH E, eT E, eD E, eF E), eS E, eG E, eX E, eY E, v, eP E), p', ⟨o1, o2, o3, o4, o5, ⟨b4, b5⟩, o6.2⟩, ⟨⟨?_, ?_, ?_, ?_, ?_, ?_⟩, ⟨?_, ?_, ?_, ?_, ?_, ?_⟩, fun h hh => ?_, fun k hk => ?_, fun k hk => ?_, fun k hk => ?_⟩, ?_, by omega, ?_, ?_⟩
    · rw [eM, upm_rr, if_neg (by decide), b8.2 12 (by decide)]
      exact r1.1
    · rw [eM, upm_rr, if_neg (by decide), b8.2 12 (by decide)]
      exact r1.2.1
    · rw [eM, upm_rr, if_neg (by decide), b8.2 12 (by decide)]
      exact r1.2.2.1
    · rw [eM, upm_rr, if_neg (by decide), b8.2 12 (by decide)]
      exact r1.2.2.2.1
    · rw [eM, upm_rr, if_pos rfl]
      rfl
    · rw [eM, upm_rr, if_neg (by decide), b8.2 12 (by decide)]
      exact r1.2.2.2.2.2
    · rw [ez', upm_rr, if_neg (by decide), b9.2 60 (by decide)]
      exact r2.1
    · rw [ez', upm_rr, if_neg (by decide), b9.2 60 (by decide)]
      exact r2.2.1
    · rw [ez', upm_rr, if_neg (by decide), b9.2 60 (by decide)]
      exact r2.2.2.1
    · rw [ez', upm_rr, if_neg (by decide), b9.2 60 (by decide)]
      exact r2.2.2.2.1
    · rw [ez', upm_rr, if_pos rfl]
      rfl
    · rw [ez', upm_rr, if_neg (by decide), b9.2 60 (by decide)]
      exact r2.2.2.2.2.2
    · rw [oc 13 (by decide) (by decide), oz 62 (by decide) (by decide)]
      exact r3 h hh
    · rw [oc 18 (by decide) (by decide), oz 64 (by decide) (by decide)]
      exact r4 k hk
    · have hk' : k < eT E := hk
      have l10 := o1.2.1
      rw [oc 14 (by decide) (by decide), oc 15 (by decide) (by decide), oc 16 (by decide) (by decide), oc 17 (by decide) (by decide), oz (67 + k) (by omega) (by omega)]
      exact r5 k hk
    · have hk' : k < eF E := hk
      have l10 := o1.2.2.2
      rw [oc 19 (by decide) (by decide), oc 20 (by decide) (by decide), oz (89 + k) (by omega) (by omega)]
      exact r6 k hk
    · exact b6.mono (by rw [eM, upm_other (by decide)]) (by rw [eM, upm_other (by decide)]) (by rw [ez', upm_other (by decide)]) (by rw [ez', upm_other (by decide)]) (by rw [ez', upm_other (by decide)]) (by rw [ez', upm_other (by decide)])
    · rw [eM]
      exact b8.g.trans (GC.up (by decide) (by decide))
    · rw [ez']
      exact b9.g.trans (GM.up rdF_60 (by decide))
  · have ez' : z = x := by rw [ez, if_pos b2.nz]
    rw [ez']
    refine Or.inr ⟨by rw [zF, b1, if_pos rfl], ?_, ?_, b4.g⟩
    · rw [eM]
      exact b2.mono (by rw [upm_other (by decide)]) rfl rfl rfl rfl rfl
    · rw [eM]
      exact b3.g.trans (GC.up (by decide) (by decide)).x
theorem cl_rope {t : Nat → Int32} {N p : Nat} {E : EV} {μc μm : Mem} (hO : EvOK E) (hR : RdR E μc μm) (ht : TT t N p μc μm) : P_X7_readRope μc ∧ P_X10_number 1 9 μm ∧ ∀ x z : Mem, x = M_X10_number 1 9 μm → z = (if x 57 5 ≠ 0 then x else upm x 60 5 (F_X10_number 1 9 μm)) → ClO t N p μc μm (F_X7_readRope μc) (M_X7_readRope μc) z := by
  obtain ⟨o1, o2, o3, o4, o5, o6⟩ := hO
  obtain ⟨r1, r2, r3, r4, r5, r6⟩ := hR
  obtain ⟨a1, a2, a3⟩ := TT_num (lo := 1) (hi := 9) ht (by decide)
  refine ⟨a1, a2, fun x z ex ez => ?_⟩
  have eM : M_X7_readRope μc = upm (M_X8_takeNumber 1 9 μc) 12 13 (F_X8_takeNumber 1 9 μc) := rfl
  have zF : F_X7_readRope μc = if F_X8_takeNumber 1 9 μc = -1 then 0 else 1 := by
    show (if upm (M_X8_takeNumber 1 9 μc) 12 13 (F_X8_takeNumber 1 9 μc) 12 13 = -1 then 0 else 1) = _
    rw [upm_rr, if_pos rfl]
  rw [← ex] at a3
  rcases a3 with ⟨v, p', b1, b2, b3, b4, b5, b6, b7, b8, b9⟩ | ⟨b1, b2, b3, b4⟩
  · have x5 : x 57 5 = 0 := b6.2.2
    have ez' : z = upm x 60 5 v := by rw [ez, if_neg (not_not_intro x5), b2]
    rw [b1] at eM
    have oc : ∀ r, r ≠ 1 → r ≠ 12 → M_X7_readRope μc r = μc r := fun r u v => by rw [eM, upm_other v, b8.2 r u]
    have oz : ∀ r, r ≠ 57 → r ≠ 60 → z r = μm r := fun r u v => by rw [ez', upm_other v, b9.2 r u]
    refine Or.inl ⟨by rw [zF, b1, if_neg b3], ((eH E, eT E, eD E, eF E), eS E, eG E, eX E, eY E, eR E, v), p', ⟨o1, o2, o3, o4, o5, o6.1, ⟨b4, b5⟩⟩, ⟨⟨?_, ?_, ?_, ?_, ?_, ?_⟩, ⟨?_, ?_, ?_, ?_, ?_, ?_⟩, fun h hh => ?_, fun k hk => ?_, fun k hk => ?_, fun k hk => ?_⟩, ?_, by omega, ?_, ?_⟩
    · rw [eM, upm_rr, if_neg (by decide), b8.2 12 (by decide)]
      exact r1.1
    · rw [eM, upm_rr, if_neg (by decide), b8.2 12 (by decide)]
      exact r1.2.1
    · rw [eM, upm_rr, if_neg (by decide), b8.2 12 (by decide)]
      exact r1.2.2.1
    · rw [eM, upm_rr, if_neg (by decide), b8.2 12 (by decide)]
      exact r1.2.2.2.1
    · rw [eM, upm_rr, if_neg (by decide), b8.2 12 (by decide)]
      exact r1.2.2.2.2.1
    · rw [eM, upm_rr, if_pos rfl]
      rfl
    · rw [ez', upm_rr, if_neg (by decide), b9.2 60 (by decide)]
      exact r2.1
    · rw [ez', upm_rr, if_neg (by decide), b9.2 60 (by decide)]
      exact r2.2.1
    · rw [ez', upm_rr, if_neg (by decide), b9.2 60 (by decide)]
      exact r2.2.2.1
    · rw [ez', upm_rr, if_neg (by decide), b9.2 60 (by decide)]
      exact r2.2.2.2.1
    · rw [ez', upm_rr, if_neg (by decide), b9.2 60 (by decide)]
      exact r2.2.2.2.2.1
    · rw [ez', upm_rr, if_pos rfl]
      rfl
    · rw [oc 13 (by decide) (by decide), oz 62 (by decide) (by decide)]
      exact r3 h hh
    · rw [oc 18 (by decide) (by decide), oz 64 (by decide) (by decide)]
      exact r4 k hk
    · have hk' : k < eT E := hk
      have l10 := o1.2.1
      rw [oc 14 (by decide) (by decide), oc 15 (by decide) (by decide), oc 16 (by decide) (by decide), oc 17 (by decide) (by decide), oz (67 + k) (by omega) (by omega)]
      exact r5 k hk
    · have hk' : k < eF E := hk
      have l10 := o1.2.2.2
      rw [oc 19 (by decide) (by decide), oc 20 (by decide) (by decide), oz (89 + k) (by omega) (by omega)]
      exact r6 k hk
    · exact b6.mono (by rw [eM, upm_other (by decide)]) (by rw [eM, upm_other (by decide)]) (by rw [ez', upm_other (by decide)]) (by rw [ez', upm_other (by decide)]) (by rw [ez', upm_other (by decide)]) (by rw [ez', upm_other (by decide)])
    · rw [eM]
      exact b8.g.trans (GC.up (by decide) (by decide))
    · rw [ez']
      exact b9.g.trans (GM.up rdF_60 (by decide))
  · have ez' : z = x := by rw [ez, if_pos b2.nz]
    rw [ez']
    refine Or.inr ⟨by rw [zF, b1, if_pos rfl], ?_, ?_, b4.g⟩
    · rw [eM]
      exact b2.mono (by rw [upm_other (by decide)]) rfl rfl rfl rfl rfl
    · rw [eM]
      exact b3.g.trans (GC.up (by decide) (by decide)).x
