/-! both sides at a place of a text -/
def TT (t : Nat → Int32) (N p : Nat) (μc μm : Mem) : Prop := TxC t N p μc ∧ (∃ pm, TxM t N pm μm ∧ skp t N pm = skp t N p) ∧ μm 57 5 = 0
def TF (t : Nat → Int32) (N : Nat) (μc μm : Mem) : Prop := ∃ k a, k ≠ 0 ∧ μc 1 6 = k ∧ μc 1 7 = a ∧ μm 57 5 = k ∧ μm 57 6 = a ∧ ∃ pm, TxM t N pm μm
/-- what reading changes -/
def FC (μ μ' : Mem) : Prop := (∀ k, k ≠ 3 → k ≠ 4 → k ≠ 5 → μ' 1 k = μ 1 k) ∧ ∀ r, r ≠ 1 → μ' r = μ r
def FCx (μ μ' : Mem) : Prop := (∀ k, k ≠ 3 → k ≠ 4 → k ≠ 5 → k ≠ 6 → k ≠ 7 → μ' 1 k = μ 1 k) ∧ ∀ r, r ≠ 1 → μ' r = μ r
def FM (μ μ' : Mem) : Prop := (∀ k, k ≠ 4 → μ' 57 k = μ 57 k) ∧ ∀ r, r ≠ 57 → μ' r = μ r
def FMx (μ μ' : Mem) : Prop := (∀ k, k ≠ 4 → k ≠ 5 → k ≠ 6 → μ' 57 k = μ 57 k) ∧ ∀ r, r ≠ 57 → μ' r = μ r
theorem TF.nz {t : Nat → Int32} {N : Nat} {μc μm : Mem} (h : TF t N μc μm) : μm 57 5 ≠ 0 := by
  obtain ⟨k, a, h0, -, -, h5, -⟩ := h
  rw [h5]
  exact h0
theorem TF.tx {t : Nat → Int32} {N : Nat} {μc μm : Mem} (h : TF t N μc μm) : ∃ pm, TxM t N pm μm := by
  obtain ⟨k, a, -, -, -, -, -, h⟩ := h
  exact h
theorem TT.mono {t : Nat → Int32} {N p : Nat} {μc μm μc' μm' : Mem} (h : TT t N p μc μm) (c1 : μc' 1 = μc 1) (c2 : μc' 2 = μc 2) (m2 : μm' 57 2 = μm 57 2) (m4 : μm' 57 4 = μm 57 4) (m5 : μm' 57 5 = μm 57 5) (m58 : μm' 58 = μm 58) : TT t N p μc' μm' := by
  obtain ⟨h1, ⟨pm, h2, h3⟩, h5⟩ := h
  exact ⟨h1.mono (by rw [c1]) (by rw [c1]) c2, ⟨pm, h2.mono m2 m4 m58, h3⟩, by rw [m5]; exact h5⟩
theorem TF.mono {t : Nat → Int32} {N : Nat} {μc μm μc' μm' : Mem} (h : TF t N μc μm) (c1 : μc' 1 = μc 1) (m2 : μm' 57 2 = μm 57 2) (m4 : μm' 57 4 = μm 57 4) (m5 : μm' 57 5 = μm 57 5) (m6 : μm' 57 6 = μm 57 6) (m58 : μm' 58 = μm 58) : TF t N μc' μm' := by
  obtain ⟨k, a, h0, h1, h2, h3, h4, pm, hx⟩ := h
  exact ⟨k, a, h0, by rw [c1, h1], by rw [c1, h2], by rw [m5, h3], by rw [m6, h4], pm, hx.mono m2 m4 m58⟩
/-- a number, both sides -/
theorem TT_num {t : Nat → Int32} {N p : Nat} {lo hi : Int32} {μc μm : Mem} (h : TT t N p μc μm) (hlo : 0 ≤ lo) : P_X8_takeNumber lo hi μc ∧ P_X10_number lo hi μm ∧
    ((∃ v p', F_X8_takeNumber lo hi μc = v ∧ F_X10_number lo hi μm = v ∧ v ≠ -1 ∧ lo ≤ v ∧ v ≤ hi ∧ TT t N p' (M_X8_takeNumber lo hi μc) (M_X10_number lo hi μm) ∧ p + 1 ≤ p' ∧ FC μc (M_X8_takeNumber lo hi μc) ∧ FM μm (M_X10_number lo hi μm)) ∨
     (F_X8_takeNumber lo hi μc = -1 ∧ TF t N (M_X8_takeNumber lo hi μc) (M_X10_number lo hi μm) ∧ FCx μc (M_X8_takeNumber lo hi μc) ∧ FMx μm (M_X10_number lo hi μm))) := by
  obtain ⟨t1, ⟨pm, t2, t2'⟩, t3⟩ := h
  obtain ⟨a1, a2, a3, a4⟩ := sp_takeNumber (lo := lo) (hi := hi) t1
  obtain ⟨b1, b2, b3, b4, b5, b6, b7⟩ := sp_number (lo := lo) (hi := hi) t2 t3
  have eK : nmK t N pm lo hi = nmK t N p lo hi := by
    unfold nmK nmV
    rw [t2']
  have eV : nmV t N pm = nmV t N p := by
    unfold nmV
    rw [t2']
  have eE : nmE t N pm = nmE t N p := by
    unfold nmE
    rw [t2']
  rw [eK] at b3 b4 b5
  rw [eV] at b4
  rw [eE] at b2
  rw [t2'] at b5
  refine ⟨a1, b1, ?_⟩
  by_cases k0 : nmK t N p lo hi = 0
  · obtain ⟨c1, c2, c3, c4, c5, c6⟩ := a2 k0
    obtain ⟨d1, d2⟩ := b4 k0
    have pE : p + 1 ≤ nmE t N p := by
      have hd : dg (byt t N (skp t N p)) = true := by
        refine Decidable.byContradiction fun z => ?_
        unfold nmK at k0
        rw [if_neg z] at k0
        exact absurd k0 (by decide)
      have q := skp_ok (t := t) t1.1 t1.2.1
      have : dgn t N (skp t N p) ≠ 0 := fun z => by
        have := (dgn_ok (t := t) t1.1 q.1).2.2.1
        rw [z, Nat.add_zero, hd] at this
        cases this
      unfold nmE
      omega
    refine Or.inl ⟨nmV t N p, nmE t N p, c1, d1, ne_m1 (Int32.le_trans hlo c2), c2, c3, ⟨c4, ⟨_, b2, rfl⟩, by rw [b3, k0]⟩, pE, ⟨c6, a4⟩, ⟨fun k hk => ?_, b7⟩⟩
    by_cases q5 : k = 5
    · rw [q5, b3, k0, t3]
    · by_cases q6 : k = 6
      · rw [q6, d2]
      · exact b6 k hk q5 q6
  · obtain ⟨c1, c2, c3, c4⟩ := a3 k0
    obtain ⟨d1, d2⟩ := b5 k0
    exact Or.inr ⟨c1, ⟨_, _, k0, c2, c3, b3, d2, _, b2⟩, ⟨c4, a4⟩, ⟨b6, b7⟩⟩
/-- a sign, both sides -/
theorem TT_sign {t : Nat → Int32} {N p : Nat} {c : Int32} {μc μm : Mem} (h : TT t N p μc μm) (hc : c ≠ -1) : P_X8_takeSign c μc ∧ P_X10_sign c μm ∧
    ((F_X8_takeSign c μc = 1 ∧ ∃ p', TT t N p' (M_X8_takeSign c μc) (M_X10_sign c μm) ∧ p + 1 ≤ p' ∧ FC μc (M_X8_takeSign c μc) ∧ FM μm (M_X10_sign c μm)) ∨
     (F_X8_takeSign c μc = 0 ∧ TF t N (M_X8_takeSign c μc) (M_X10_sign c μm) ∧ FCx μc (M_X8_takeSign c μc) ∧ FMx μm (M_X10_sign c μm))) := by
  obtain ⟨t1, ⟨pm, t2, t2'⟩, t3⟩ := h
  obtain ⟨a1, a2, a3, a4⟩ := sp_takeSign t1 hc
  obtain ⟨b1, b2, b3, b4⟩ := sp_sign t2 t3 hc
  rw [t2'] at b2 b3
  obtain ⟨q1, q2, -, -⟩ := skp_ok (t := t) t1.1 t1.2.1
  refine ⟨a1, b1, ?_⟩
  by_cases y : byt t N (skp t N p) = c
  · obtain ⟨x1, x2, x3⟩ := a2 y
    obtain ⟨y1, y2⟩ := b2 y
    exact Or.inl ⟨x1, _, ⟨x2, ⟨_, y1, rfl⟩, by rw [y2 5 (by decide)]; exact t3⟩, by omega, ⟨fun k u _ _ => x3 k u, a4⟩, ⟨y2, b4⟩⟩
  · obtain ⟨x1, x2, x3, x4⟩ := a3 y
    obtain ⟨y1, y2, y3⟩ := b3 y
    have tx := sp_sign_tx (c := c) t2 t3 (by rw [t2']; exact y)
    exact Or.inr ⟨x1, ⟨1, nI (skp t N p), by decide, x2, x3, y1, y2, _, tx⟩, ⟨fun k q3 _ _ q6 q7 => x4 k q3 q6 q7, a4⟩, ⟨y3, b4⟩⟩
theorem FC.x {μ μ' : Mem} (h : FC μ μ') : FCx μ μ' := ⟨fun k a b c _ _ => h.1 k a b c, h.2⟩
theorem FM.x {μ μ' : Mem} (h : FM μ μ') : FMx μ μ' := ⟨fun k a _ _ => h.1 k a, h.2⟩
theorem FC.rfl (μ : Mem) : FC μ μ := ⟨fun _ _ _ _ => Eq.refl _, fun _ _ => Eq.refl _⟩
theorem FM.rfl (μ : Mem) : FM μ μ := ⟨fun _ _ => Eq.refl _, fun _ _ => Eq.refl _⟩
theorem FC.trans {a b c : Mem} (h : FC a b) (g : FC b c) : FC a c := ⟨fun k x y z => (g.1 k x y z).trans (h.1 k x y z), fun r hr => (g.2 r hr).trans (h.2 r hr)⟩
theorem FM.trans {a b c : Mem} (h : FM a b) (g : FM b c) : FM a c := ⟨fun k x => (g.1 k x).trans (h.1 k x), fun r hr => (g.2 r hr).trans (h.2 r hr)⟩
theorem FCx.trans {a b c : Mem} (h : FCx a b) (g : FCx b c) : FCx a c := ⟨fun k x y z u v => (g.1 k x y z u v).trans (h.1 k x y z u v), fun r hr => (g.2 r hr).trans (h.2 r hr)⟩
theorem FMx.trans {a b c : Mem} (h : FMx a b) (g : FMx b c) : FMx a c := ⟨fun k x y z => (g.1 k x y z).trans (h.1 k x y z), fun r hr => (g.2 r hr).trans (h.2 r hr)⟩
theorem FMx.of {μ μ' : Mem} (e : μ' = μ) : FMx μ μ' := by
  rw [e]
  exact (FM.rfl μ).x
