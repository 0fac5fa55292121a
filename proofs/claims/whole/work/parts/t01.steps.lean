/-! WORK's text: its STEPS by both sides, by program -/
theorem upd_at {f : Nat → Int32} {k : Nat} {x : Int32} : upd f k x k = x := if_pos rfl
theorem upd_ne {f : Nat → Int32} {k j : Nat} (x : Int32) (h : j ≠ k) : upd f k x j = f j := if_neg h
/-- one step that opens nothing: the class's place a, the reference's place x -/
def Sm (E : EV) (K V : Nat → Int32) (T : Nat → Nat → Int32) (a x : Nat) : Prop :=
  ∃ k, k < 6 ∧ K a = nI k ∧ T x 0 = nI k ∧ T x 2 = nI (x + 1) ∧ (k ≠ 5 → ∃ v, V a = nI v ∧ T x 1 = nI v ∧ (k = 4 → v < eH E) ∧ (k ≠ 4 → v < eT E))
/-- the class's places a to b are the reference's x to y, d deep at most -/
def Sg (E : EV) (K V P : Nat → Int32) (T : Nat → Nat → Int32) : Nat → Nat → Nat → Nat → Nat → Nat → Prop
  | 0, _, a, b, x, y => a = b ∧ x = y
  | f + 1, d, a, b, x, y => (a = b ∧ x = y) ∨ (Sm E K V T a x ∧ Sg E K V P T f d (a + 1) b (x + 1) y) ∨
    ∃ c z v e, d = e + 1 ∧ v ≤ 20 ∧ K a = 6 ∧ V a = nI v ∧ P a = nI c ∧ K c = 7 ∧ P c = nI a ∧ T x 0 = 6 ∧ T x 1 = nI v ∧ T x 2 = nI z ∧ Sg E K V P T f e (a + 1) c (x + 1) z ∧ Sg E K V P T f d (c + 1) b z y
theorem Sg.le {E : EV} {K V P : Nat → Int32} {T : Nat → Nat → Int32} : ∀ (f d a b x y : Nat), Sg E K V P T f d a b x y → a ≤ b ∧ x ≤ y
  | 0, _, _, _, _, _, h => ⟨Nat.le_of_eq h.1, Nat.le_of_eq h.2⟩
  | f + 1, d, a, b, x, y, h => by
    rcases h with ⟨h1, h2⟩ | ⟨-, h⟩ | ⟨c, z, v, e, -, -, -, -, -, -, -, -, -, -, h1, h2⟩
    · exact ⟨Nat.le_of_eq h1, Nat.le_of_eq h2⟩
    · have := Sg.le f d _ _ _ _ h
      omega
    · have q1 := Sg.le f e _ _ _ _ h1
      have q2 := Sg.le f d _ _ _ _ h2
      omega
theorem Sg.up {E : EV} {K V P : Nat → Int32} {T : Nat → Nat → Int32} : ∀ (f d a b x y : Nat), Sg E K V P T f d a b x y → Sg E K V P T (f + 1) d a b x y
  | 0, _, _, _, _, _, h => Or.inl h
  | f + 1, d, a, b, x, y, h => by
    rcases h with h | ⟨h1, h2⟩ | ⟨c, z, v, e, g1, g2, g3, g4, g5, g6, g7, g8, g9, g10, h1, h2⟩
    · exact Or.inl h
    · exact Or.inr (Or.inl ⟨h1, Sg.up f d _ _ _ _ h2⟩)
    · exact Or.inr (Or.inr ⟨c, z, v, e, g1, g2, g3, g4, g5, g6, g7, g8, g9, g10, Sg.up f e _ _ _ _ h1, Sg.up f d _ _ _ _ h2⟩)
theorem Sg.ups {E : EV} {K V P : Nat → Int32} {T : Nat → Nat → Int32} {f d a b x y : Nat} (h : Sg E K V P T f d a b x y) (g : Nat) : Sg E K V P T (f + g) d a b x y := by
  induction g with
  | zero => exact h
  | succ g ih => exact Sg.up _ _ _ _ _ _ ih
theorem Sg.app {E : EV} {K V P : Nat → Int32} {T : Nat → Nat → Int32} {g c z : Nat} : ∀ (f d a b x y : Nat), Sg E K V P T f d a b x y → Sg E K V P T g d b c y z → Sg E K V P T (f + g) d a c x z
  | 0, d, a, b, x, y, h, h' => by
    obtain ⟨h1, h2⟩ := h
    subst h1
    subst h2
    rw [Nat.zero_add]
    exact h'
  | f + 1, d, a, b, x, y, h, h' => by
    rw [show f + 1 + g = f + g + 1 by omega]
    rcases h with ⟨h1, h2⟩ | ⟨h1, h2⟩ | ⟨c', z', v, e, g1, g2, g3, g4, g5, g6, g7, g8, g9, g10, h1, h2⟩
    · subst h1
      subst h2
      have q := Sg.ups h' (f + 1)
      rw [show g + (f + 1) = f + g + 1 by omega] at q
      exact q
    · exact Or.inr (Or.inl ⟨h1, Sg.app f d _ _ _ _ h2 h'⟩)
    · exact Or.inr (Or.inr ⟨c', z', v, e, g1, g2, g3, g4, g5, g6, g7, g8, g9, g10, Sg.ups h1 g, Sg.app f d _ _ _ _ h2 h'⟩)
theorem Sg.congr {E : EV} {K V P K' V' P' : Nat → Int32} {T T' : Nat → Nat → Int32} : ∀ (f d a b x y : Nat), Sg E K V P T f d a b x y → (∀ i, a ≤ i → i < b → K' i = K i ∧ V' i = V i ∧ P' i = P i) → (∀ i, x ≤ i → i < y → T' i = T i) → Sg E K' V' P' T' f d a b x y
  | 0, _, _, _, _, _, h, _, _ => h
  | f + 1, d, a, b, x, y, h, hc, ht => by
    rcases h with h | ⟨⟨k, k1, k2, k3, k4, k5⟩, h2⟩ | ⟨c, z, v, e, g1, g2, g3, g4, g5, g6, g7, g8, g9, g10, h1, h2⟩
    · exact Or.inl h
    · have q := Sg.le f d _ _ _ _ h2
      obtain ⟨c1, c2, c3⟩ := hc a (Nat.le_refl _) (by omega)
      have t1 := ht x (Nat.le_refl _) (by omega)
      refine Or.inr (Or.inl ⟨⟨k, k1, by rw [c1]; exact k2, by rw [t1]; exact k3, by rw [t1]; exact k4, fun z => ?_⟩, Sg.congr f d _ _ _ _ h2 (fun i u w => hc i (by omega) w) (fun i u w => ht i (by omega) w)⟩)
      obtain ⟨v, v1, v2, v3⟩ := k5 z
      exact ⟨v, by rw [c2]; exact v1, by rw [t1]; exact v2, v3⟩
    · have q1 := Sg.le f e _ _ _ _ h1
      have q2 := Sg.le f d _ _ _ _ h2
      obtain ⟨c1, c2, c3⟩ := hc a (Nat.le_refl _) (by omega)
      obtain ⟨d1, d2, d3⟩ := hc c (by omega) (by omega)
      have t1 := ht x (Nat.le_refl _) (by omega)
      exact Or.inr (Or.inr ⟨c, z, v, e, g1, g2, by rw [c1]; exact g3, by rw [c2]; exact g4, by rw [c3]; exact g5, by rw [d1]; exact g6, by rw [d3]; exact g7, by rw [t1]; exact g8, by rw [t1]; exact g9, by rw [t1]; exact g10,
        Sg.congr f e _ _ _ _ h1 (fun i u w => hc i (by omega) (by omega)) (fun i u w => ht i (by omega) (by omega)), Sg.congr f d _ _ _ _ h2 (fun i u w => hc i (by omega) w) (fun i u w => ht i (by omega) w)⟩)
/-- what reading STEPS changes, besides the text's place -/
def WC (A μ : Mem) : Prop := (∀ k, k ≠ 3 → k ≠ 4 → k ≠ 5 → μ 1 k = A 1 k) ∧ (∀ k, k ≠ 5 → k ≠ 6 → μ 31 k = A 31 k) ∧ ∀ r, r ≠ 1 → (r < 31 ∨ 35 < r) → μ r = A r
def WCx (A μ : Mem) : Prop := (∀ k, k ≠ 3 → k ≠ 4 → k ≠ 5 → k ≠ 6 → k ≠ 7 → μ 1 k = A 1 k) ∧ (∀ k, k ≠ 5 → k ≠ 6 → μ 31 k = A 31 k) ∧ ∀ r, r ≠ 1 → (r < 31 ∨ 35 < r) → μ r = A r
def WM (B μ : Mem) : Prop := (∀ k, k ≠ 4 → k ≠ 8 → k ≠ 30 → μ 57 k = B 57 k) ∧ ∀ r, r ≠ 57 → (r < 441 ∨ 520 < r) → μ r = B r
def WMx (B μ : Mem) : Prop := (∀ k, k ≠ 4 → k ≠ 5 → k ≠ 6 → k ≠ 8 → k ≠ 30 → μ 57 k = B 57 k) ∧ ∀ r, r ≠ 57 → (r < 441 ∨ 520 < r) → μ r = B r
theorem WC.trans {a b c : Mem} (h : WC a b) (g : WC b c) : WC a c := ⟨fun k x y z => (g.1 k x y z).trans (h.1 k x y z), fun k x y => (g.2.1 k x y).trans (h.2.1 k x y), fun r x y => (g.2.2 r x y).trans (h.2.2 r x y)⟩
theorem WCx.trans {a b c : Mem} (h : WCx a b) (g : WCx b c) : WCx a c := ⟨fun k x y z u v => (g.1 k x y z u v).trans (h.1 k x y z u v), fun k x y => (g.2.1 k x y).trans (h.2.1 k x y), fun r x y => (g.2.2 r x y).trans (h.2.2 r x y)⟩
theorem WM.trans {a b c : Mem} (h : WM a b) (g : WM b c) : WM a c := ⟨fun k x y z => (g.1 k x y z).trans (h.1 k x y z), fun r x y => (g.2 r x y).trans (h.2 r x y)⟩
theorem WMx.trans {a b c : Mem} (h : WMx a b) (g : WMx b c) : WMx a c := ⟨fun k x y z u v => (g.1 k x y z u v).trans (h.1 k x y z u v), fun r x y => (g.2 r x y).trans (h.2 r x y)⟩
theorem WC.x {a b : Mem} (h : WC a b) : WCx a b := ⟨fun k x y z _ _ => h.1 k x y z, h.2⟩
theorem WM.x {a b : Mem} (h : WM a b) : WMx a b := ⟨fun k x _ _ y z => h.1 k x y z, h.2⟩
theorem FC.w {a b : Mem} (h : FC a b) : WC a b := ⟨h.1, fun k _ _ => by rw [h.2 31 (by decide)], fun r x _ => h.2 r x⟩
theorem FCx.w {a b : Mem} (h : FCx a b) : WCx a b := ⟨h.1, fun k _ _ => by rw [h.2 31 (by decide)], fun r x _ => h.2 r x⟩
theorem FM.w {a b : Mem} (h : FM a b) : WM a b := ⟨fun k x _ _ => h.1 k x, fun r x _ => h.2 r x⟩
theorem FMx.w {a b : Mem} (h : FMx a b) : WMx a b := ⟨fun k x y z _ _ => h.1 k x y z, fun r x _ => h.2 r x⟩
theorem WC.up {μ : Mem} {r i : Nat} {x : Int32} (h : (32 ≤ r ∧ r ≤ 35) ∨ (r = 31 ∧ (i = 5 ∨ i = 6))) : WC μ (upm μ r i x) := by
  refine ⟨fun k _ _ _ => by rw [upm_other (by omega)], fun k a b => ?_, fun q _ b => by rw [upm_other (by omega)]⟩
  rcases h with h | ⟨h1, h2⟩
  · rw [upm_other (by omega)]
  · subst h1
    rw [upm_rr, if_neg (by omega)]
theorem WM.up {μ : Mem} {r i : Nat} {x : Int32} (h : (441 ≤ r ∧ r ≤ 520) ∨ (r = 57 ∧ (i = 8 ∨ i = 30))) : WM μ (upm μ r i x) := by
  refine ⟨fun k a b c => ?_, fun q a b => by rw [upm_other (by omega)]⟩
  rcases h with h | ⟨h1, h2⟩
  · rw [upm_other (by omega)]
  · subst h1
    rw [upm_rr, if_neg (by omega)]
/-- what stands already stands on -/
def Old (o n s : Nat) (μc μm μc' μm' : Mem) : Prop := (∀ i, i < n → μc' 32 i = μc 32 i ∧ μc' 33 i = μc 33 i ∧ μc' 34 i = μc 34 i) ∧ (∀ j, j < o → μc' 35 j = μc 35 j) ∧ ∀ i, i < s → μm' (441 + i) = μm (441 + i)
theorem Old.trans {o n s n' s' : Nat} {a b a' b' a2 b2 : Mem} (h : Old o n s a b a' b') (g : Old o n' s' a' b' a2 b2) (hn : n ≤ n') (hs : s ≤ s') : Old o n s a b a2 b2 :=
  ⟨fun i hi => ⟨((g.1 i (by omega)).1).trans (h.1 i hi).1, ((g.1 i (by omega)).2.1).trans (h.1 i hi).2.1, ((g.1 i (by omega)).2.2).trans (h.1 i hi).2.2⟩, fun j hj => (g.2.1 j hj).trans (h.2.1 j hj), fun i hi => (g.2.2 i (by omega)).trans (h.2.2 i hi)⟩
theorem Old.lo {o o' n s : Nat} {a b a' b' : Mem} (h : Old o n s a b a' b') (ho : o' ≤ o) : Old o' n s a b a' b' := ⟨h.1, fun j hj => h.2.1 j (by omega), h.2.2⟩
/-- n of the class's rounds are done, o of its steps stand open, s of the reference's are written, the text is read to p -/
def Rd (t : Nat → Int32) (N : Nat) (A B : Mem) (o n s p : Nat) (μc μm : Mem) : Prop :=
  TT t N p μc μm ∧ (μc 31 5 = nI n ∧ μc 31 6 = nI o ∧ μm 57 30 = nI s ∧ μm 57 8 = nI o) ∧ (n ≤ p ∧ 2 * s ≤ p) ∧ WC A μc ∧ WM B μm
/-- the class's one round over a step: what it leaves beside the reference's -/
def SO (t : Nat → Int32) (N : Nat) (A B : Mem) (E : EV) (o n s q : Nat) (μc μm : Mem) (F : Int32) (Mc Mm : Mem) : Prop :=
  (F ≠ 0 ∧ ∃ p', Rd t N A B o (n + 1) (s + 1) p' Mc Mm ∧ q + 1 ≤ p' ∧ Sm E (Mc 32) (Mc 33) (fun x => Mm (441 + x)) n s ∧ Old o n s μc μm Mc Mm) ∨
  (F = 0 ∧ TF t N Mc Mm ∧ WCx A Mc ∧ WMx B Mm)
theorem sp_addS {n : Nat} {a b : Int32} {μ : Mem} (hn : n < 150) (h : μ 31 5 = nI n) : M_X6_add a b μ = upm (upm (upm μ 32 n a) 33 n b) 31 5 (nI (n + 1)) := by
  have e1 : muX6_add_1 a b μ = upm μ 32 n a := by
    unfold muX6_add_1
    rw [h]
    exact put_k hn (by omega)
  have e2 : muX6_add_2 a b μ = upm (upm μ 32 n a) 33 n b := by
    unfold muX6_add_2
    rw [e1, upm_other (by decide), h]
    exact put_k hn (by omega)
  unfold M_X6_add muX6_add_3
  rw [e2, upm_other (by decide), upm_other (by decide), h, nI_succ]
theorem Old.of {o n s : Nat} {a b a' b' : Mem} (h : ∀ r, 32 ≤ r → r ≤ 35 → a' r = a r) (g : ∀ r, 441 ≤ r → b' r = b r) : Old o n s a b a' b' :=
  ⟨fun i _ => ⟨by rw [h 32 (by decide) (by decide)], by rw [h 33 (by decide) (by decide)], by rw [h 34 (by decide) (by decide)]⟩, fun j _ => by rw [h 35 (by decide) (by decide)], fun i _ => g _ (by omega)⟩
theorem step_tail {t : Nat → Int32} {N o n s q p2 k : Nat} {A B μc μm c2 c3 x x3 : Mem} {E : EV} {v : Int32} (htt : TT t N p2 c2 x) (qp : q + 2 ≤ p2) (hn : n < 150) (hs : s < 80) (hnq : n ≤ q) (hsn : 2 * s ≤ q) (c5 : c2 31 5 = nI n) (c6 : c2 31 6 = nI o) (x30 : x 57 30 = nI (s + 1)) (x8 : x 57 8 = nI o) (wc : WC A c2) (wm : WM B x)
    (hk : k < 6) (x0 : x (441 + s) 0 = nI k) (hv : k ≠ 5 → ∃ v', v = nI v' ∧ x (441 + s) 1 = nI v' ∧ (k = 4 → v' < eH E) ∧ (k ≠ 4 → v' < eT E)) (old : Old o n s μc μm c2 x) (e3 : c3 = M_X6_add (nI k) v c2) (ex : x3 = upm x (441 + s) 2 (x 57 30)) :
    P_X8_takeSign 59 c3 ∧ P_X10_sign 59 x3 ∧ SO t N A B E o n s q μc μm (if F_X8_takeSign 59 c3 = 0 then 0 else 1) (M_X8_takeSign 59 c3) (M_X10_sign 59 x3) := by
  rw [sp_addS hn c5] at e3
  rw [x30] at ex
  have tt : TT t N p2 c3 x3 := htt.mono (by rw [e3, upm_other (by decide), upm_other (by decide), upm_other (by decide)]) (by rw [e3, upm_other (by decide), upm_other (by decide), upm_other (by decide)]) (by rw [ex, upm_other (by omega)]) (by rw [ex, upm_other (by omega)]) (by rw [ex, upm_other (by omega)]) (by rw [ex, upm_other (by omega)])
  have wc3 : WC A c3 := by
    rw [e3]
    exact wc.trans ((WC.up (Or.inl ⟨by decide, by decide⟩)).trans ((WC.up (Or.inl ⟨by decide, by decide⟩)).trans (WC.up (Or.inr ⟨rfl, Or.inl rfl⟩))))
  have wm3 : WM B x3 := by
    rw [ex]
    exact wm.trans (WM.up (Or.inl ⟨by omega, by omega⟩))
  obtain ⟨a1, a2, a3⟩ := TT_sign (c := 59) tt (by decide)
  refine ⟨a1, a2, ?_⟩
  rcases a3 with ⟨b1, p3, b2, b3, b4, b5⟩ | ⟨b1, b2, b3, b4⟩
  · have r32 : M_X8_takeSign 59 c3 32 = upd (c2 32) n (nI k) := by
      rw [b4.2 32 (by decide), e3, upm_other (by decide), upm_other (by decide)]
      exact upm_row
    have r33 : M_X8_takeSign 59 c3 33 = upd (c2 33) n v := by
      rw [b4.2 33 (by decide), e3, upm_other (by decide)]
      refine upm_row.trans ?_
      rw [upm_other (by decide)]
    have rT : ∀ i, M_X10_sign 59 x3 (441 + s) i = if i = 2 then nI (s + 1) else x (441 + s) i := fun i => by
      rw [b5.2 _ (by omega), ex, upm_rr]
    refine Or.inl ⟨by rw [b1]; decide, p3, ⟨b2, ⟨?_, ?_, ?_, ?_⟩, ⟨by omega, by omega⟩, wc3.trans b4.w, wm3.trans b5.w⟩, by omega, ⟨k, hk, ?_, ?_, ?_, fun z => ?_⟩, ?_⟩
    · rw [b4.2 31 (by decide), e3, upm_rr, if_pos rfl]
    · rw [b4.2 31 (by decide), e3, upm_rr, if_neg (by decide), upm_other (by decide), upm_other (by decide), c6]
    · rw [b5.1 30 (by decide), ex, upm_other (by omega), x30]
    · rw [b5.1 8 (by decide), ex, upm_other (by omega), x8]
    · rw [r32, upd_at]
    · exact (rT 0).trans ((if_neg (by decide)).trans x0)
    · exact (rT 2).trans (if_pos rfl)
    · obtain ⟨v', v1, v2, v3⟩ := hv z
      refine ⟨v', by rw [r33, upd_at, v1], ?_, v3⟩
      show M_X10_sign 59 x3 (441 + s) 1 = _
      rw [rT, if_neg (by decide), v2]
    · refine Old.trans old ?_ (Nat.le_refl _) (Nat.le_refl _)
      refine ⟨fun i hi => ⟨?_, ?_, ?_⟩, fun j hj => ?_, fun i hi => ?_⟩
      · rw [r32, upd_ne _ (by omega)]
      · rw [r33, upd_ne _ (by omega)]
      · rw [b4.2 34 (by decide), e3, upm_other (by decide), upm_other (by decide), upm_other (by decide)]
      · rw [b4.2 35 (by decide), e3, upm_other (by decide), upm_other (by decide), upm_other (by decide)]
      · rw [b5.2 _ (by omega), ex, upm_other (by omega)]
  · exact Or.inr ⟨by rw [b1]; rfl, b2, wc3.x.trans b3.w, wm3.x.trans b4.w⟩
/-- what the class and the reference tell of the STREET -/
def EL (E : EV) (A B : Mem) : Prop := A 3 8 = nI (eH E) ∧ A 3 9 = nI (eT E) ∧ B 61 0 = nI (eH E) ∧ B 61 1 = nI (eT E)
theorem step_num {t : Nat → Int32} {N o n s q p2 k H : Nat} {A B μc μm w m6 x m13 : Mem} {E : EV} (htt : TT t N p2 w m6) (qp : q + 2 ≤ p2) (hn : n < 150) (hs : s < 80) (hnq : n ≤ q) (hsn : 2 * s ≤ q) (c5 : w 31 5 = nI n) (c6 : w 31 6 = nI o) (x30 : m6 57 30 = nI (s + 1)) (x8 : m6 57 8 = nI o) (wc : WC A w) (wm : WM B m6)
    (hk : k < 5) (x0 : m6 (441 + s) 0 = nI k) (hH : H ≤ 10) (h4 : k = 4 → H = eH E) (h3 : k ≠ 4 → H = eT E) (old : Old o n s μc μm w m6) (ex : x = upm (M_X10_number 0 (nI H - 1) m6) (441 + s) 1 (F_X10_number 0 (nI H - 1) m6)) (e13 : m13 = upm x (441 + s) 2 (x 57 30)) :
    P_X8_takeNumber 0 (nI H - 1) w ∧ P_X10_number 0 (nI H - 1) m6 ∧ (¬ F_X8_takeNumber 0 (nI H - 1) w = -1 → P_X8_takeSign 59 (M_X6_add (nI k) (F_X8_takeNumber 0 (nI H - 1) w) (M_X8_takeNumber 0 (nI H - 1) w))) ∧ P_X10_sign 59 m13 ∧
    SO t N A B E o n s q μc μm (if F_X8_takeNumber 0 (nI H - 1) w = -1 then 0 else (if F_X8_takeSign 59 (M_X6_add (nI k) (F_X8_takeNumber 0 (nI H - 1) w) (M_X8_takeNumber 0 (nI H - 1) w)) = 0 then 0 else 1))
      (if F_X8_takeNumber 0 (nI H - 1) w = -1 then M_X6_add (nI k) (F_X8_takeNumber 0 (nI H - 1) w) (M_X8_takeNumber 0 (nI H - 1) w) else M_X8_takeSign 59 (M_X6_add (nI k) (F_X8_takeNumber 0 (nI H - 1) w) (M_X8_takeNumber 0 (nI H - 1) w))) (M_X10_sign 59 m13) := by
  obtain ⟨a1, a2, a3⟩ := TT_num (lo := 0) (hi := nI H - 1) htt (by decide)
  refine ⟨a1, a2, ?_⟩
  rcases a3 with ⟨v, p3, f1, f2, v0, v1, v2, tt, pp, fc, fm⟩ | ⟨f1, tf, fc, fm⟩
  · obtain ⟨v', hv', ev⟩ := inR_el (n := H) (by omega) (decide_eq_true ⟨v1, v2⟩)
    rw [f1, if_neg v0, if_neg v0]
    rw [f2] at ex
    have tt2 : TT t N p3 (M_X8_takeNumber 0 (nI H - 1) w) x := tt.mono rfl rfl (by rw [ex, upm_other (by omega)]) (by rw [ex, upm_other (by omega)]) (by rw [ex, upm_other (by omega)]) (by rw [ex, upm_other (by omega)])
    have wm2 : WM B x := by
      rw [ex]
      exact wm.trans (fm.w.trans (WM.up (Or.inl ⟨by omega, by omega⟩)))
    have old2 : Old o n s μc μm (M_X8_takeNumber 0 (nI H - 1) w) x := by
      refine old.trans ⟨fun i hi => ⟨?_, ?_, ?_⟩, fun j hj => ?_, fun i hi => ?_⟩ (Nat.le_refl _) (Nat.le_refl _)
      · rw [fc.2 32 (by decide)]
      · rw [fc.2 33 (by decide)]
      · rw [fc.2 34 (by decide)]
      · rw [fc.2 35 (by decide)]
      · rw [ex, upm_other (by omega), fm.2 _ (by omega)]
    obtain ⟨b1, b2, b3⟩ := step_tail (t := t) (N := N) (o := o) (n := n) (s := s) (q := q) (k := k) (A := A) (B := B) (E := E) (v := v) (x3 := m13) tt2 (by omega) hn hs hnq hsn (by rw [fc.2 31 (by decide), c5]) (by rw [fc.2 31 (by decide), c6]) (by rw [ex, upm_other (by omega), fm.1 30 (by decide), x30]) (by rw [ex, upm_other (by omega), fm.1 8 (by decide), x8]) (wc.trans fc.w) wm2 (by omega)
      (by rw [ex, upm_rr, if_neg (by decide), fm.2 _ (by omega), x0]) (fun _ => ⟨v', ev, by rw [ex, upm_rr, if_pos rfl, ev], fun z => by rw [← h4 z]; exact hv', fun z => by rw [← h3 z]; exact hv'⟩) old2 rfl e13
    exact ⟨fun _ => b1, b2, b3⟩
  · rw [if_pos f1, if_pos f1]
    have nz : m13 57 5 ≠ 0 := by
      rw [e13, upm_other (by omega), ex, upm_other (by omega)]
      exact tf.nz
    obtain ⟨s1, s2⟩ := sp_sign_no (c := 59) nz
    refine ⟨fun z => absurd f1 z, s1, Or.inr ⟨rfl, ?_, ?_, ?_⟩⟩
    · rw [s2]
      have ea := sp_addS (n := n) (a := nI k) (b := F_X8_takeNumber 0 (nI H - 1) w) (μ := M_X8_takeNumber 0 (nI H - 1) w) hn (by rw [fc.2 31 (by decide), c5])
      refine tf.mono (by rw [ea, upm_other (by decide), upm_other (by decide), upm_other (by decide)]) ?_ ?_ ?_ ?_ ?_ <;> rw [e13, upm_other (by omega), ex, upm_other (by omega)]
    · have ea := sp_addS (n := n) (a := nI k) (b := F_X8_takeNumber 0 (nI H - 1) w) (μ := M_X8_takeNumber 0 (nI H - 1) w) hn (by rw [fc.2 31 (by decide), c5])
      rw [ea]
      exact wc.x.trans (fc.w.trans ((WC.up (Or.inl ⟨by decide, by decide⟩)).trans ((WC.up (Or.inl ⟨by decide, by decide⟩)).trans (WC.up (Or.inr ⟨rfl, Or.inl rfl⟩)))).x)
    · rw [s2, e13, ex]
      exact wm.x.trans (fm.w.trans ((WM.up (Or.inl ⟨by omega, by omega⟩)).trans (WM.up (Or.inl ⟨by omega, by omega⟩))).x)
/-- both sides fault at a word -/
theorem ref_bad {t : Nat → Int32} {N q : Nat} {μm m1 : Mem} {f : Int32} (hf : f ≠ 0) (h5 : μm 57 5 = 0) (kk : At t N q μm m1) {V : Mem} (ev : V = M_X10_wrong f (m1 57 4) m1) : ¬ V 57 5 = 0 ∧ ∀ Mc : Mem, Mc 1 6 = f → Mc 1 7 = nI q → TF t N Mc V ∧ FMx μm V := by
  have c5 : m1 57 5 = 0 := by rw [kk.2.2 5 (by decide), h5]
  have c4 : m1 57 4 = nI q := kk.1.2.2.2.1
  rw [sp_wrong c5, c4] at ev
  have v5 : ¬ V 57 5 = 0 := by
    rw [ev, upm_rr, if_neg (by decide), upm_rr, if_pos rfl]
    exact hf
  refine ⟨v5, fun Mc m6 m7 => ⟨⟨f, nI q, hf, m6, m7, ?_, ?_, _, kk.1.mono ?_ ?_ ?_⟩, ?_⟩⟩
  · rw [ev, upm_rr, if_neg (by decide), upm_rr, if_pos rfl]
  · rw [ev, upm_rr, if_pos rfl]
  · rw [ev, upm_rr, if_neg (by decide), upm_rr, if_neg (by decide)]
  · rw [ev, upm_rr, if_neg (by decide), upm_rr, if_neg (by decide)]
  · rw [ev, upm_other (by decide), upm_other (by decide)]
  · rw [ev]
    exact ⟨fun k a b c => by rw [upm_rr, if_neg c, upm_rr, if_neg b, kk.2.2 k a], fun r a => by rw [upm_other a, upm_other a, kk.2.1 r a]⟩
/-- one step that opens nothing, both sides -/
theorem step_one {t : Nat → Int32} {N o n s q : Nat} {A B μc μm : Mem} {E : EV} {rM : Mem → Mem} {rP : Mem → Prop} (hE : EL E A B) (hO : EvOK E) (hN : N ≤ 150) (h : Rd t N A B o n s q μc μm) (hq : skp t N q = q) (h6 : stK t N q ≠ 6) :
    P_X6_readStep μc ∧ P_X10_readsStep rM rP μm ∧ SO t N A B E o n s q μc μm (F_X6_readStep μc) (M_X6_readStep μc) (M_X10_readsStep rM rP μm) := by
  obtain ⟨⟨tc, ⟨pm, tm, em⟩, h5⟩, ⟨c5, c6, x30, x8⟩, ⟨hnq, hsn⟩, hA, hB⟩ := h
  rw [hq] at em
  have hN6 := tc.1
  have hqN := tc.2.1
  obtain ⟨w1, w2, w3, w4⟩ := sp_takeWord tc
  rw [hq] at w2 w3
  obtain ⟨k1, k2, k3⟩ := sp_stepHere tm h5
  rw [em] at k2 k3
  have kk : At t N q μm (muX10_readsStep_1 rM rP μm) := k3
  have n6 : F_X10_stepHere μm ≠ 6 := by rw [k2]; exact h6
  have e1 : muX6_readStep_1 μc = M_X8_takeWord μc := rfl
  -- a fault of the reference
  have bad : ∀ f : Int32, f ≠ 0 → VX10_readsStep_3 rM rP μm = M_X10_wrong f (muX10_readsStep_1 rM rP μm 57 4) (muX10_readsStep_1 rM rP μm) → P_X10_readsStep rM rP μm ∧ ∀ Mc : Mem, Mc 1 6 = f → Mc 1 7 = nI q → TF t N Mc (M_X10_readsStep rM rP μm) ∧ WMx B (M_X10_readsStep rM rP μm) := by
    intro f hf ev
    obtain ⟨v5, hb⟩ := ref_bad hf h5 kk ev
    have eM : M_X10_readsStep rM rP μm = VX10_readsStep_3 rM rP μm := by
      unfold M_X10_readsStep
      rw [if_pos n6, if_neg v5]
    refine ⟨⟨k1, ⟨fun _ => ⟨fun z => absurd z v5, fun _ => trivial⟩, fun z => absurd z n6⟩⟩, fun Mc m6 m7 => ?_⟩
    obtain ⟨b1, b2⟩ := hb Mc m6 m7
    rw [eM]
    exact ⟨b1, hB.x.trans b2.w⟩
  by_cases L0 : ltn t N q = 0
  · have kz : stK t N q = -1 := stK_no (by omega)
    obtain ⟨g1, g2, g3, g4⟩ := w3 L0
    have ev : VX10_readsStep_3 rM rP μm = M_X10_wrong 1 (muX10_readsStep_1 rM rP μm 57 4) (muX10_readsStep_1 rM rP μm) := by
      unfold VX10_readsStep_3 muX10_readsStep_2
      rw [k2, kz, if_neg (by decide)]
    obtain ⟨b1, b2⟩ := bad 1 (by decide) ev
    have nf : ¬ F_X8_takeWord μc ≠ 0 := not_not_intro g1
    have eF : F_X6_readStep μc = 0 := by
      unfold F_X6_readStep
      rw [if_neg nf]
    have eM : M_X6_readStep μc = M_X8_takeWord μc := by
      unfold M_X6_readStep
      rw [if_neg nf, e1]
    obtain ⟨b3, b4⟩ := b2 _ g2 g3
    refine ⟨⟨w1, ⟨fun z => absurd g1 z, fun _ => trivial⟩⟩, b1, Or.inr ⟨eF, ?_, ?_, b4⟩⟩
    · rw [eM]
      exact b3
    · rw [eM]
      exact hA.x.trans (FCx.w ⟨fun k a b c d e => g4 k a d e, w4⟩)
  obtain ⟨g1, g2, g3, g4, g5⟩ := w2 L0
  have hw : F_X8_takeWord μc ≠ 0 := by rw [g1]; decide
  have wd : WdC t N q (M_X8_takeWord μc) := ⟨hN6, hqN, g3, g4, fun k hk => g2.2.2.2.2 k hk⟩
  obtain ⟨d1, d2⟩ := sp_kindOf wd
  have fcw : FC μc (M_X8_takeWord μc) := ⟨g5, w4⟩
  obtain ⟨l1, l2, -, -⟩ := ltn_ok (t := t) hN6 hqN
  have hn : n < 150 := by omega
  have hs : s < 80 := by omega
  by_cases kz : stK t N q = -1
  · have ev : VX10_readsStep_3 rM rP μm = M_X10_wrong 1 (muX10_readsStep_1 rM rP μm 57 4) (muX10_readsStep_1 rM rP μm) := by
      unfold VX10_readsStep_3 muX10_readsStep_2
      rw [k2, kz, if_neg (by decide)]
    obtain ⟨b1, b2⟩ := bad 1 (by decide) ev
    have nk : ¬ F_X6_kindOf (muX6_readStep_1 μc) ≠ -1 := by
      rw [e1, d2]
      exact not_not_intro kz
    have eF : F_X6_readStep μc = 0 := by
      unfold F_X6_readStep
      rw [if_pos hw, if_neg nk]
      rfl
    have eM : M_X6_readStep μc = M_X8_failToken 1 (M_X8_takeWord μc) := by
      unfold M_X6_readStep muX6_readStep_9
      rw [if_pos hw, if_neg nk, e1]
    obtain ⟨t1, t2, t3, t4⟩ := sp_failToken (k := 1) (μ := M_X8_takeWord μc)
    obtain ⟨b3, b4⟩ := b2 (M_X6_readStep μc) (by rw [eM, t1]) (by rw [eM, t2, g3])
    refine ⟨⟨w1, ⟨fun _ => ⟨d1, ⟨fun z => absurd z nk, fun _ => trivial⟩⟩, fun z => absurd z hw⟩⟩, b1, Or.inr ⟨eF, b3, ?_, b4⟩⟩
    rw [eM]
    exact hA.x.trans (fcw.x.trans ⟨fun k _ _ _ d e => t3 k d e, t4⟩).w
  have L3 : 3 ≤ ltn t N q := Decidable.byContradiction fun z => kz (stK_no (by omega))
  have k1' : F_X6_kindOf (M_X8_takeWord μc) ≠ -1 := by rw [d2]; exact kz
  have k6' : F_X6_kindOf (M_X8_takeWord μc) ≠ 6 := by rw [d2]; exact h6
  have ev : VX10_readsStep_3 rM rP μm = muX10_readsStep_1 rM rP μm := by
    unfold VX10_readsStep_3
    rw [k2, if_pos kz]
  have v5 : VX10_readsStep_3 rM rP μm 57 5 = 0 := by rw [ev, kk.2.2 5 (by decide), h5]
  have e4 : muX10_readsStep_4 rM rP μm = M_X10_skipWord (muX10_readsStep_1 rM rP μm) := by
    unfold muX10_readsStep_4
    rw [ev]
  obtain ⟨s1, s2, s3, s4⟩ := sp_skipWord kk.1
  rw [← e4] at s2 s3 s4
  have m430 : muX10_readsStep_4 rM rP μm 57 30 = nI s := by rw [s4 30 (by decide), kk.2.2 30 (by decide), x30]
  have er : ix (muX10_readsStep_4 rM rP μm 57 30) = s := by rw [m430, nI_ix (by omega)]
  have e6 : muX10_readsStep_6 rM rP μm = upm (upm (muX10_readsStep_4 rM rP μm) 57 30 (nI (s + 1))) (441 + s) 0 (stK t N q) := by
    unfold muX10_readsStep_6 muX10_readsStep_5
    rw [er, m430, nI_succ, k2]
  have fm4 : FM μm (muX10_readsStep_4 rM rP μm) := ⟨fun k a => by rw [s4 k a, kk.2.2 k a], fun r a => by rw [s3 r a, kk.2.1 r a]⟩
  have wm6 : WM B (muX10_readsStep_6 rM rP μm) := by
    rw [e6]
    exact hB.trans (fm4.w.trans ((WM.up (Or.inr ⟨rfl, Or.inr rfl⟩)).trans (WM.up (Or.inl ⟨by omega, by omega⟩))))
  have tt6 : TT t N (q + ltn t N q) (M_X8_takeWord μc) (muX10_readsStep_6 rM rP μm) := by
    refine ⟨g2, ⟨_, s2.mono ?_ ?_ ?_, rfl⟩, ?_⟩
    · rw [e6, upm_other (by omega), upm_rr, if_neg (by decide)]
    · rw [e6, upm_other (by omega), upm_rr, if_neg (by decide)]
    · rw [e6, upm_other (by omega), upm_other (by decide)]
    · rw [e6, upm_other (by omega), upm_rr, if_neg (by decide), s4 5 (by decide), kk.2.2 5 (by decide), h5]
  have c5' : M_X8_takeWord μc 31 5 = nI n := by rw [w4 31 (by decide), c5]
  have c6' : M_X8_takeWord μc 31 6 = nI o := by rw [w4 31 (by decide), c6]
  have x30' : muX10_readsStep_6 rM rP μm 57 30 = nI (s + 1) := by rw [e6, upm_other (by omega), upm_rr, if_pos rfl]
  have x8' : muX10_readsStep_6 rM rP μm 57 8 = nI o := by rw [e6, upm_other (by omega), upm_rr, if_neg (by decide), s4 8 (by decide), kk.2.2 8 (by decide), x8]
  have x0' : muX10_readsStep_6 rM rP μm (441 + s) 0 = stK t N q := by rw [e6, upm_rr, if_pos rfl]
  have old6 : Old o n s μc μm (M_X8_takeWord μc) (muX10_readsStep_6 rM rP μm) := by
    refine ⟨fun i hi => ⟨?_, ?_, ?_⟩, fun j hj => ?_, fun i hi => ?_⟩
    · rw [w4 32 (by decide)]
    · rw [w4 33 (by decide)]
    · rw [w4 34 (by decide)]
    · rw [w4 35 (by decide)]
    · rw [e6, upm_other (by omega), upm_other (by omega), fm4.2 _ (by omega)]
  have wcw : WC A (M_X8_takeWord μc) := hA.trans fcw.w
  have h61 : ∀ i, muX10_readsStep_6 rM rP μm 61 i = B 61 i := fun i => by rw [wm6.2 61 (by decide) (by decide)]
  have hc3 : ∀ i, M_X8_takeWord μc 3 i = A 3 i := fun i => by rw [wcw.2.2 3 (by decide) (by decide)]
  have eMM : M_X10_readsStep rM rP μm = M_X10_sign 59 (muX10_readsStep_13 rM rP μm) := by
    unfold M_X10_readsStep muX10_readsStep_14
    rw [if_pos n6, if_pos v5, if_pos n6]
  have e13 : muX10_readsStep_13 rM rP μm = upm (VX10_readsStep_12 rM rP μm) (441 + s) 2 (VX10_readsStep_12 rM rP μm 57 30) := by
    unfold muX10_readsStep_13
    rw [er]
  have vin : vp_in (muX10_readsStep_4 rM rP μm 57 30) 80 := by rw [m430]; exact vp_in_nI hs (by decide)
  have P4 : P_X10_skipWord (VX10_readsStep_3 rM rP μm) := by rw [ev]; exact s1
  -- a step with a number
  have num : ∀ k H : Nat, stK t N q = nI k → k < 5 → H ≤ 10 → (k = 4 → H = eH E) → (k ≠ 4 → H = eT E) → VX6_readStep_2 μc = nI H →
      VX10_readsStep_12 rM rP μm = upm (M_X10_number 0 (nI H - 1) (muX10_readsStep_6 rM rP μm)) (441 + s) 1 (F_X10_number 0 (nI H - 1) (muX10_readsStep_6 rM rP μm)) →
      ((F_X10_stepHere μm < 4 → P_X10_number 0 (nI H - 1) (muX10_readsStep_6 rM rP μm) → P_X10_number 0 ((muX10_readsStep_6 rM rP μm) 61 1 - 1) (muX10_readsStep_6 rM rP μm))) →
      ((F_X10_stepHere μm = 4 → P_X10_number 0 (nI H - 1) (muX10_readsStep_6 rM rP μm) → P_X10_number 0 ((VX10_readsStep_9 rM rP μm) 61 0 - 1) (VX10_readsStep_9 rM rP μm))) →
      P_X6_readStep μc ∧ P_X10_readsStep rM rP μm ∧ SO t N A B E o n s q μc μm (F_X6_readStep μc) (M_X6_readStep μc) (M_X10_readsStep rM rP μm) := by
    intro k H ek hk hH h4 h3 e2 e12 p7 p10
    have k5 : ¬ F_X6_kindOf (muX6_readStep_1 μc) = 5 := by
      rw [e1, d2, ek]
      exact fun z => absurd ((nI_eq (b := 5) (by omega) (by omega)).mp z) (by omega)
    obtain ⟨a1, a2, a3, a4, a5⟩ := step_num (t := t) (N := N) (o := o) (n := n) (s := s) (q := q) (A := A) (B := B) (μc := μc) (μm := μm) (E := E) tt6 (by omega) hn hs hnq hsn c5' c6' x30' x8' wcw wm6 hk (by rw [x0', ek]) hH h4 h3 old6 e12 e13
    have v4 : VX6_readStep_4 μc = F_X8_takeNumber 0 (nI H - 1) (M_X8_takeWord μc) := by
      unfold VX6_readStep_4
      rw [if_neg k5, e2, e1]
    have v5' : VX6_readStep_5 μc = M_X8_takeNumber 0 (nI H - 1) (M_X8_takeWord μc) := by
      unfold VX6_readStep_5 muX6_readStep_3
      rw [if_neg k5, e2, e1]
    have m6 : muX6_readStep_6 μc = M_X6_add (nI k) (F_X8_takeNumber 0 (nI H - 1) (M_X8_takeWord μc)) (M_X8_takeNumber 0 (nI H - 1) (M_X8_takeWord μc)) := by
      unfold muX6_readStep_6
      rw [v4, v5', e1, d2, ek]
    have eF : F_X6_readStep μc = (if F_X8_takeNumber 0 (nI H - 1) (M_X8_takeWord μc) = -1 then 0 else (if F_X8_takeSign 59 (M_X6_add (nI k) (F_X8_takeNumber 0 (nI H - 1) (M_X8_takeWord μc)) (M_X8_takeNumber 0 (nI H - 1) (M_X8_takeWord μc))) = 0 then 0 else 1)) := by
      unfold F_X6_readStep
      rw [if_pos hw, e1, if_pos k1', if_pos k6', v4, m6]
    have eM : M_X6_readStep μc = (if F_X8_takeNumber 0 (nI H - 1) (M_X8_takeWord μc) = -1 then M_X6_add (nI k) (F_X8_takeNumber 0 (nI H - 1) (M_X8_takeWord μc)) (M_X8_takeNumber 0 (nI H - 1) (M_X8_takeWord μc)) else M_X8_takeSign 59 (M_X6_add (nI k) (F_X8_takeNumber 0 (nI H - 1) (M_X8_takeWord μc)) (M_X8_takeNumber 0 (nI H - 1) (M_X8_takeWord μc)))) := by
      unfold M_X6_readStep muX6_readStep_7
      rw [if_pos hw, e1, if_pos k1', if_pos k6', v4, m6]
    refine ⟨⟨w1, ⟨fun _ => ⟨d1, ⟨fun _ => ⟨fun _ => ⟨⟨fun z => absurd z k5, fun _ => ?_⟩, ⟨fun _ => trivial, fun z => ?_⟩⟩, fun z => absurd z k6'⟩, fun _ => trivial⟩⟩, fun z => absurd z hw⟩⟩, ⟨k1, ⟨fun _ => ⟨fun _ => ⟨P4, vin, ⟨fun _ => trivial, fun z => p7 z a2⟩, ⟨fun _ => trivial, fun z => p10 z a2⟩, fun _ => a4, fun z => absurd z n6⟩, fun z => absurd v5 z⟩, fun z => absurd z n6⟩⟩, ?_⟩
    · rw [e2, e1]
      exact a1
    · rw [m6]
      rw [v4] at z
      exact a3 z
    · rw [eF, eM, eMM]
      exact a5
  have hd := hO.1.1
  have hd1 := hO.1.2.1
  have K0 : ∀ k : Nat, stK t N q = nI k → k < 4 → P_X6_readStep μc ∧ P_X10_readsStep rM rP μm ∧ SO t N A B E o n s q μc μm (F_X6_readStep μc) (M_X6_readStep μc) (M_X10_readsStep rM rP μm) := by
    intro k ek hk
    have lt4 : ¬ (4 : Int32) ≤ F_X10_stepHere μm := by
      rw [k2, ek]
      exact nI_ge (b := 4) hk (by omega)
    have ne4 : F_X10_stepHere μm ≠ 4 := by
      rw [k2, ek]
      exact fun z => absurd ((nI_eq (b := 4) (by omega) (by omega)).mp z) (by omega)
    have e9 : VX10_readsStep_9 rM rP μm = muX10_readsStep_8 rM rP μm := by
      unfold VX10_readsStep_9
      rw [if_neg lt4]
    have h1 : muX10_readsStep_6 rM rP μm 61 1 = nI (eT E) := by rw [h61 1, hE.2.2.2]
    refine num k (eT E) ek (by omega) hd1 (fun z => absurd z (by omega)) (fun _ => rfl) ?_ ?_ (fun _ z => by rw [h1]; exact z) (fun z => absurd z ne4)
    · unfold VX6_readStep_2
      rw [e1, d2, ek, if_pos (show nI k ≠ 4 from fun z => absurd ((nI_eq (b := 4) (by omega) (by omega)).mp z) (by omega)), hc3 9, hE.2.1]
    · unfold VX10_readsStep_12
      rw [if_pos ne4, e9]
      unfold muX10_readsStep_8 muX10_readsStep_7
      rw [er, h1]
  rcases stK_of (t := t) (N := N) (q := q) with ⟨z, -⟩ | ⟨z, -⟩ | ⟨z, -⟩ | ⟨z, -⟩ | ⟨z, -⟩ | ⟨z, -⟩ | ⟨z, -⟩ | ⟨z, -⟩
  · exact absurd z kz
  · exact K0 0 z (by decide)
  · exact K0 1 z (by decide)
  · exact K0 2 z (by decide)
  · exact K0 3 z (by decide)
  · have ek : stK t N q = nI 4 := z
    have z4 : F_X10_stepHere μm = 4 := by rw [k2, z]
    have ge4 : (4 : Int32) ≤ F_X10_stepHere μm := by rw [z4]; decide
    have n4 : ¬ F_X10_stepHere μm ≠ 4 := not_not_intro z4
    have e9 : VX10_readsStep_9 rM rP μm = muX10_readsStep_6 rM rP μm := by
      unfold VX10_readsStep_9
      rw [if_pos ge4]
    have h1 : muX10_readsStep_6 rM rP μm 61 0 = nI (eH E) := by rw [h61 0, hE.2.2.1]
    refine num 4 (eH E) ek (by omega) (by omega) (fun _ => rfl) (fun z => absurd rfl z) ?_ ?_ (fun y => absurd y (Int32.not_lt.mpr ge4)) (fun _ y => by rw [e9, h1]; exact y)
    · unfold VX6_readStep_2
      rw [e1, d2, z, if_neg (not_not_intro rfl), hc3 8, hE.1]
    · unfold VX10_readsStep_12
      rw [if_neg n4]
      unfold muX10_readsStep_11 muX10_readsStep_10
      rw [er, e9, h1]
  · have ek : stK t N q = nI 5 := z
    have z5 : F_X10_stepHere μm = 5 := by rw [k2, z]
    have ge4 : (4 : Int32) ≤ F_X10_stepHere μm := by rw [z5]; decide
    have ne4 : F_X10_stepHere μm ≠ 4 := by rw [z5]; decide
    have k5 : F_X6_kindOf (muX6_readStep_1 μc) = 5 := by rw [e1, d2, z]
    have e12 : VX10_readsStep_12 rM rP μm = muX10_readsStep_6 rM rP μm := by
      unfold VX10_readsStep_12 VX10_readsStep_9
      rw [if_pos ne4, if_pos ge4]
    rw [e12] at e13
    obtain ⟨a1, a2, a3⟩ := step_tail (t := t) (N := N) (o := o) (n := n) (s := s) (q := q) (k := 5) (A := A) (B := B) (μc := μc) (μm := μm) (E := E) (v := 0) tt6 (by omega) hn hs hnq hsn c5' c6' x30' x8' wcw wm6 (by decide) (by rw [x0', ek]) (fun y => absurd rfl y) old6 rfl e13
    have v4 : VX6_readStep_4 μc = 0 := by
      unfold VX6_readStep_4
      rw [if_pos k5]
    have v5' : VX6_readStep_5 μc = M_X8_takeWord μc := by
      unfold VX6_readStep_5
      rw [if_pos k5, e1]
    have m6 : muX6_readStep_6 μc = M_X6_add (nI 5) 0 (M_X8_takeWord μc) := by
      unfold muX6_readStep_6
      rw [v4, v5', k5]
      rfl
    have eF : F_X6_readStep μc = (if F_X8_takeSign 59 (M_X6_add (nI 5) 0 (M_X8_takeWord μc)) = 0 then 0 else 1) := by
      unfold F_X6_readStep
      rw [if_pos hw, e1, if_pos k1', if_pos k6', v4, m6, if_neg (show ¬ (0 : Int32) = -1 by decide)]
    have eM : M_X6_readStep μc = M_X8_takeSign 59 (M_X6_add (nI 5) 0 (M_X8_takeWord μc)) := by
      unfold M_X6_readStep muX6_readStep_7
      rw [if_pos hw, e1, if_pos k1', if_pos k6', v4, m6, if_neg (show ¬ (0 : Int32) = -1 by decide)]
    refine ⟨⟨w1, ⟨fun _ => ⟨d1, ⟨fun _ => ⟨fun _ => ⟨⟨fun _ => trivial, fun y => absurd k5 y⟩, ⟨fun _ => trivial, fun _ => ?_⟩⟩, fun y => absurd y k6'⟩, fun _ => trivial⟩⟩, fun y => absurd y hw⟩⟩, ⟨k1, ⟨fun _ => ⟨fun _ => ⟨P4, vin, ⟨fun _ => trivial, fun y => absurd y (Int32.not_lt.mpr ge4)⟩, ⟨fun _ => trivial, fun y => absurd y ne4⟩, fun _ => a2, fun y => absurd y n6⟩, fun y => absurd v5 y⟩, fun y => absurd y n6⟩⟩, ?_⟩
    · rw [m6]
      exact a1
    · rw [eF, eM, eMM]
      exact a3
  · exact absurd z h6
