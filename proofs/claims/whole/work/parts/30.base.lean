/-! pure rows: loops, places, cells -/
theorem fo_inv {α : Type} (I : Nat → α → Prop) (n : Nat) (g : Nat → α → α) (a : α) (h0 : I 0 a) (hs : ∀ i, i < n → ∀ s, I i s → I (i + 1) (g i s)) : I n (fo n g a) := by
  induction n with
  | zero => exact h0
  | succ n ih => exact hs n (Nat.lt_succ_self n) _ (ih fun i hi s h => hs i (Nat.lt_succ_of_lt hi) s h)
theorem fo_all {α : Type} (I : Nat → α → Prop) (Pb : Nat → α → Prop) (n : Nat) (g : Nat → α → α) (a : α) (h0 : I 0 a) (hs : ∀ i, i < n → ∀ s, I i s → Pb i s ∧ I (i + 1) (g i s)) : (∀ j, j < n → Pb j (fo j g a)) ∧ I n (fo n g a) := by
  refine ⟨fun j hj => ?_, fo_inv I n g a h0 fun i hi s h => (hs i hi s h).2⟩
  exact (hs j hj _ (fo_inv I j g a h0 fun i hi s h => (hs i (Nat.lt_trans hi hj) s h).2)).1
theorem fo_congr {α : Type} (n : Nat) (g g' : Nat → α → α) (a : α) (h : ∀ i, i < n → ∀ s, g i s = g' i s) : fo n g a = fo n g' a := by
  induction n with
  | zero => rfl
  | succ n ih => rw [fo_succ, fo_succ, ih fun i hi s => h i (Nat.lt_succ_of_lt hi) s, h n (Nat.lt_succ_self n)]
theorem fo_add {α : Type} (m n : Nat) (g : Nat → α → α) (a : α) : fo (m + n) g a = fo n (fun i => g (m + i)) (fo m g a) := by
  induction n with
  | zero => rfl
  | succ n ih => rw [← Nat.add_assoc, fo_succ, fo_succ, ih]
theorem fo_head {α : Type} (n : Nat) (g : Nat → α → α) (a : α) : fo (n + 1) g a = fo n (fun i => g (i + 1)) (g 0 a) := by
  induction n with
  | zero => rfl
  | succ n ih => rw [fo_succ, ih, fo_succ]
theorem fst_le (n : Nat) (c : Nat → Bool) : fst n c ≤ n := by
  induction n generalizing c with
  | zero => exact Nat.le_refl 0
  | succ n ih =>
    unfold fst
    split
    · exact Nat.zero_le _
    · exact Nat.succ_le_succ (ih _)
theorem fst_hit {n : Nat} {c : Nat → Bool} (h : fst n c < n) : c (fst n c) = true := by
  induction n generalizing c with
  | zero => exact absurd h (Nat.not_lt_zero _)
  | succ n ih =>
    by_cases h0 : c 0 = true
    · have e : fst (n + 1) c = 0 := by unfold fst; rw [if_pos h0]
      rw [e]
      exact h0
    · have e : fst (n + 1) c = fst n (fun i => c (i + 1)) + 1 := by rw [fst]; rw [if_neg h0]
      rw [e] at h ⊢
      exact ih (c := fun i => c (i + 1)) (Nat.lt_of_succ_lt_succ h)
theorem fst_min {n : Nat} {c : Nat → Bool} {j : Nat} (h : j < fst n c) : c j = false := by
  induction n generalizing c j with
  | zero => exact absurd h (Nat.not_lt_zero _)
  | succ n ih =>
    by_cases h0 : c 0 = true
    · have e : fst (n + 1) c = 0 := by unfold fst; rw [if_pos h0]
      rw [e] at h
      exact absurd h (Nat.not_lt_zero _)
    · have e : fst (n + 1) c = fst n (fun i => c (i + 1)) + 1 := by rw [fst]; rw [if_neg h0]
      rw [e] at h
      cases j with
      | zero => exact Bool.eq_false_iff.mpr h0
      | succ j => exact ih (c := fun i => c (i + 1)) (Nat.lt_of_succ_lt_succ h)
theorem fst_eq {n : Nat} {c : Nat → Bool} {k : Nat} (hk : k < n) (hc : c k = true) (hm : ∀ j, j < k → c j = false) : fst n c = k := by
  rcases Nat.lt_trichotomy (fst n c) k with h | h | h
  · have := hm _ h
    rw [fst_hit (Nat.lt_trans h hk)] at this
    cases this
  · exact h
  · have := fst_min h
    rw [hc] at this
    cases this
theorem fst_end {n : Nat} {c : Nat → Bool} (hm : ∀ j, j < n → c j = false) : fst n c = n := by
  rcases Nat.lt_or_ge (fst n c) n with h | h
  · have := hm _ h
    rw [fst_hit h] at this
    cases this
  · exact Nat.le_antisymm (fst_le n c) h
theorem upm_ap (μ : Mem) (h i : Nat) (x : Int32) (h' i' : Nat) : upm μ h i x h' i' = if h' = h ∧ i' = i then x else μ h' i' := rfl
theorem upr_ap (μ : Mem) (h : Nat) (f : Nat → Int32) (h' : Nat) : upr μ h f h' = if h' = h then f else μ h' := rfl
/-! numbers -/
theorem c0 (i : Nat) : (0 : Int32) + nI i = nI i := by
  have := nI_add 0 i
  rw [Nat.zero_add] at this
  exact this
theorem c10 (i : Nat) : (10 : Int32) + nI i = nI (10 + i) := nI_add 10 i
theorem c20 (i : Nat) : (20 : Int32) + nI i = nI (20 + i) := nI_add 20 i
theorem c30 (i : Nat) : (30 : Int32) + nI i = nI (30 + i) := nI_add 30 i
theorem c40 (i : Nat) : (40 : Int32) + nI i = nI (40 + i) := nI_add 40 i
theorem c50 (i : Nat) : (50 : Int32) + nI i = nI (50 + i) := nI_add 50 i
theorem c56 (i : Nat) : (56 : Int32) + nI i = nI (56 + i) := nI_add 56 i
theorem c62 (i : Nat) : (62 : Int32) + nI i = nI (62 + i) := nI_add 62 i
theorem nI_ix {n : Nat} (h : n < 2 ^ 31) : ix (nI n) = n := nI_clamp h
theorem nI_ixi {x : Int32} (h : 0 ≤ x) : nI (ix x) = x := by
  obtain ⟨j, hj, rfl⟩ := nI_of (Int32.not_lt.mpr h)
  rw [nI_ix hj]
theorem more_eq (x y : Int32) (μ : Mem) : F_X10_more x y μ = imax x y := by
  unfold F_X10_more imax
  split <;> split <;> grind
theorem less_eq (x y : Int32) (μ : Mem) : F_X10_less x y μ = imin x y := by
  unfold F_X10_less imin
  split <;> split <;> grind
theorem imax_comm (x y : Int32) : imax x y = imax y x := by
  unfold imax
  split <;> split <;> grind
theorem imin_comm (x y : Int32) : imin x y = imin y x := by
  unfold imin
  split <;> split <;> grind
theorem imax0 (x : Int32) : 0 ≤ imax 0 x := by
  unfold imax
  split <;> grind
/-! a stand's cells by the class -/
theorem of_k {th k : Nat} {a b : Int32} {μ : Mem} (e : a + b = nI k) (hk : k < 69) : F_X5_of th a b μ = μ (th + 1) k := by
  have h9 : ¬ (69 : Int32) ≤ nI k := nI_ge (b := 69) hk (by omega)
  unfold F_X5_of
  rw [e, if_neg (nI_pos (by omega)), if_neg h9, nI_ix (by omega)]
theorem of0 {th t : Nat} {μ : Mem} (h : t < 69) : F_X5_of th 0 (nI t) μ = μ (th + 1) t := of_k (c0 t) h
theorem of10 {th t : Nat} {μ : Mem} (h : t < 59) : F_X5_of th 10 (nI t) μ = μ (th + 1) (10 + t) := of_k (c10 t) (by omega)
theorem of20 {th t : Nat} {μ : Mem} (h : t < 49) : F_X5_of th 20 (nI t) μ = μ (th + 1) (20 + t) := of_k (c20 t) (by omega)
theorem of30 {th t : Nat} {μ : Mem} (h : t < 39) : F_X5_of th 30 (nI t) μ = μ (th + 1) (30 + t) := of_k (c30 t) (by omega)
theorem of40 {th t : Nat} {μ : Mem} (h : t < 29) : F_X5_of th 40 (nI t) μ = μ (th + 1) (40 + t) := of_k (c40 t) (by omega)
theorem of50 {th t : Nat} {μ : Mem} (h : t < 19) : F_X5_of th 50 (nI t) μ = μ (th + 1) (50 + t) := of_k (c50 t) (by omega)
theorem of56 {th t : Nat} {μ : Mem} (h : t < 13) : F_X5_of th 56 (nI t) μ = μ (th + 1) (56 + t) := of_k (c56 t) (by omega)
theorem of62 {th t : Nat} {μ : Mem} (h : t < 7) : F_X5_of th 62 (nI t) μ = μ (th + 1) (62 + t) := of_k (c62 t) (by omega)
theorem ofT {th : Nat} {μ : Mem} : F_X5_tideToCome th μ = μ (th + 1) 68 := of_k (k := 68) rfl (by omega)
theorem set_k {th k : Nat} {a b v : Int32} {μ : Mem} (e : a + b = nI k) (hk : k < 69) : M_X5_set th a b v μ = upm μ (th + 1) k v := by
  have h9 : ¬ (69 : Int32) ≤ nI k := nI_ge (b := 69) hk (by omega)
  unfold M_X5_set muX5_set_1
  rw [e, if_neg (nI_pos (by omega)), if_neg h9, nI_ix (by omega)]
theorem set0 {th t : Nat} {v : Int32} {μ : Mem} (h : t < 69) : M_X5_set th 0 (nI t) v μ = upm μ (th + 1) t v := set_k (c0 t) h
theorem set10 {th t : Nat} {v : Int32} {μ : Mem} (h : t < 59) : M_X5_set th 10 (nI t) v μ = upm μ (th + 1) (10 + t) v := set_k (c10 t) (by omega)
theorem set20 {th t : Nat} {v : Int32} {μ : Mem} (h : t < 49) : M_X5_set th 20 (nI t) v μ = upm μ (th + 1) (20 + t) v := set_k (c20 t) (by omega)
theorem set30 {th t : Nat} {v : Int32} {μ : Mem} (h : t < 39) : M_X5_set th 30 (nI t) v μ = upm μ (th + 1) (30 + t) v := set_k (c30 t) (by omega)
theorem set40 {th t : Nat} {v : Int32} {μ : Mem} (h : t < 29) : M_X5_set th 40 (nI t) v μ = upm μ (th + 1) (40 + t) v := set_k (c40 t) (by omega)
theorem set50 {th t : Nat} {v : Int32} {μ : Mem} (h : t < 19) : M_X5_set th 50 (nI t) v μ = upm μ (th + 1) (50 + t) v := set_k (c50 t) (by omega)
theorem set56 {th t : Nat} {v : Int32} {μ : Mem} (h : t < 13) : M_X5_set th 56 (nI t) v μ = upm μ (th + 1) (56 + t) v := set_k (c56 t) (by omega)
theorem set62 {th t : Nat} {v : Int32} {μ : Mem} (h : t < 7) : M_X5_set th 62 (nI t) v μ = upm μ (th + 1) (62 + t) v := set_k (c62 t) (by omega)
theorem setT {th : Nat} {v : Int32} {μ : Mem} : M_X5_set th 68 0 v μ = upm μ (th + 1) 68 v := set_k (k := 68) rfl (by omega)
theorem at_k {row n k : Nat} {μ : Mem} (hk : k < n) (hn : n < 2 ^ 31) : F_X9_at row n (nI k) μ = μ row k := by
  unfold F_X9_at
  rw [if_neg (nI_pos (by omega)), if_neg (nI_ge hk hn), nI_ix (by omega)]
theorem put_k {row n k : Nat} {v : Int32} {μ : Mem} (hk : k < n) (hn : n < 2 ^ 31) : M_X9_put row n (nI k) v μ = upm μ row k v := by
  unfold M_X9_put muX9_put_1
  rw [if_neg (nI_pos (by omega)), if_neg (nI_ge hk hn), nI_ix (by omega)]
/-! what a STREET tells: houses, things, tides, finds; sills, heights, things' four, finds' two; rent, rope -/
abbrev EV : Type := (Nat × Nat × Nat × Nat) × (Nat → Int32) × (Nat → Int32) × (Nat → Nat → Int32) × (Nat → Nat → Int32) × Int32 × Int32
def eH (E : EV) : Nat := E.1.1
def eT (E : EV) : Nat := E.1.2.1
def eD (E : EV) : Nat := E.1.2.2.1
def eF (E : EV) : Nat := E.1.2.2.2
def eS (E : EV) : Nat → Int32 := E.2.1
def eG (E : EV) : Nat → Int32 := E.2.2.1
def eX (E : EV) : Nat → Nat → Int32 := E.2.2.2.1
def eY (E : EV) : Nat → Nat → Int32 := E.2.2.2.2.1
def eR (E : EV) : Int32 := E.2.2.2.2.2.1
def eP (E : EV) : Int32 := E.2.2.2.2.2.2
def EvOK (E : EV) : Prop := (eH E ≤ 6 ∧ eT E ≤ 10 ∧ eD E ≤ 12 ∧ eF E ≤ 6) ∧ (∀ h, h < eH E → 0 ≤ eS E h ∧ eS E h ≤ 40) ∧ (∀ k, k < eD E → 0 ≤ eG E k ∧ eG E k ≤ 60) ∧
  (∀ t, t < eT E → (∃ h, h < eH E ∧ eX E t 0 = nI h) ∧ (1 ≤ eX E t 1 ∧ eX E t 1 ≤ 9) ∧ (1 ≤ eX E t 2 ∧ eX E t 2 ≤ 20) ∧ (0 ≤ eX E t 3 ∧ eX E t 3 ≤ 40)) ∧
  (∀ f, f < eF E → (1 ≤ eY E f 0 ∧ eY E f 0 ≤ 40) ∧ (0 ≤ eY E f 1 ∧ eY E f 1 ≤ 16)) ∧ (0 ≤ eR E ∧ eR E ≤ 40) ∧ (1 ≤ eP E ∧ eP E ≤ 9)
/-- the reference's cells tell it -/
def EvM (E : EV) (μ : Mem) : Prop := μ 61 0 = nI (eH E) ∧ μ 61 1 = nI (eT E) ∧ μ 61 2 = nI (eD E) ∧ μ 61 3 = nI (eF E) ∧ μ 61 4 = eR E ∧ μ 61 5 = eP E ∧
  (∀ h, h < eH E → μ 63 h = eS E h) ∧ (∀ k, k < eD E → μ 65 k = eG E k) ∧ (∀ t, t < eT E → ∀ i, i < 4 → μ (78 + t) i = eX E t i) ∧ (∀ f, f < eF E → ∀ i, i < 2 → μ (96 + f) i = eY E f i)
/-- the class's cells tell it -/
def EvC (E : EV) (μ : Mem) : Prop := μ 3 8 = nI (eH E) ∧ μ 3 9 = nI (eT E) ∧ μ 3 10 = nI (eD E) ∧ μ 3 11 = nI (eF E) ∧ μ 3 12 = eR E ∧ μ 3 13 = eP E ∧
  (∀ h, h < eH E → μ 4 h = eS E h) ∧ (∀ k, k < eD E → μ 9 k = eG E k) ∧ (∀ t, t < eT E → μ 5 t = eX E t 0 ∧ μ 6 t = eX E t 1 ∧ μ 7 t = eX E t 2 ∧ μ 8 t = eX E t 3) ∧ (∀ f, f < eF E → μ 10 f = eY E f 0 ∧ μ 11 f = eY E f 1)
theorem EvM.mono {E : EV} {μ μ' : Mem} (hE : EvM E μ) (h : ∀ h, (h = 61 ∨ h = 63 ∨ h = 65 ∨ (78 ≤ h ∧ h ≤ 87) ∨ (96 ≤ h ∧ h ≤ 101)) → μ' h = μ h) (hO : EvOK E) : EvM E μ' := by
  obtain ⟨⟨o1, o2, o3, o4⟩, -⟩ := hO
  unfold EvM at hE ⊢
  rw [h 61 (by omega), h 63 (by omega), h 65 (by omega)]
  obtain ⟨e0, e1, e2, e3, e4, e5, e6, e7, e8, e9⟩ := hE
  refine ⟨e0, e1, e2, e3, e4, e5, e6, e7, fun t ht i hi => ?_, fun f hf i hi => ?_⟩
  · rw [h (78 + t) (by omega)]
    exact e8 t ht i hi
  · rw [h (96 + f) (by omega)]
    exact e9 f hf i hi
theorem EvC.mono {E : EV} {μ μ' : Mem} (hE : EvC E μ) (h : ∀ h, 3 ≤ h ∧ h ≤ 11 → μ' h = μ h) : EvC E μ' := by
  unfold EvC at hE ⊢
  rw [h 3 (by omega), h 4 (by omega), h 5 (by omega), h 6 (by omega), h 7 (by omega), h 8 (by omega), h 9 (by omega), h 10 (by omega), h 11 (by omega)]
  exact hE
/-! a LAW: how many codes, the codes (as the class has them), their numbers -/
abbrev LW : Type := Nat × (Nat → Int32) × (Nat → Int32)
def lwN (L : LW) : Nat := L.1
def lwC (L : LW) : Nat → Int32 := L.2.1
def lwV (L : LW) : Nat → Int32 := L.2.2
/-- how many stand on the stack ahead of code i -/
def lwD (L : LW) (n : Nat) : Nat := fo n (fun i d => if lwC L i ≤ 7 then d + 1 else d - 1) 0
def LwOK (L : LW) : Prop := 0 < lwN L ∧ lwN L ≤ 150 ∧ (∀ i, i < lwN L → 0 ≤ lwC L i ∧ lwC L i ≤ 13 ∧ (¬ lwC L i ≤ 7 → 2 ≤ lwD L i)) ∧ 1 ≤ lwD L (lwN L)
def LwC (L : LW) (μ : Mem) : Prop := μ 21 4 = nI (lwN L) ∧ (∀ i, i < lwN L → μ 22 i = lwC L i) ∧ (∀ i, i < lwN L → lwC L i = 7 → μ 23 i = lwV L i)
def LwM (L : LW) (μ : Mem) : Prop := μ 57 21 = nI (lwN L) ∧ (∀ i, i < lwN L → (lwC L i < 7 → μ (103 + i) 0 = 1 ∧ μ (103 + i) 1 = lwC L i) ∧ (lwC L i = 7 → μ (103 + i) 0 = 0 ∧ μ (103 + i) 1 = lwV L i) ∧ (7 < lwC L i → μ (103 + i) 0 = lwC L i - 6))
/-- the law that holds without one -/
def lwZ : LW := (9, fun i => [0, 7, 11, 1, 7, 10, 8, 5, 9].getD i 0, fun i => [0, 4, 0, 0, 3, 0, 0, 0, 0].getD i 0)
def LwR (L : LW) (μ : Mem) : Prop := (L = lwZ ∧ μ 57 21 = 0) ∨ LwM L μ
def outO (c x y : Int32) : Int32 := if c = 8 then x + y else if c = 9 then x - y else if c = 10 then x * y else if c = 11 then (if y = 0 then 0 else x / y) else if c = 12 then imin x y else imax x y
def stp (L : LW) (gv : Nat → Int32) (i : Nat) (s : Nat × (Nat → Int32)) : Nat × (Nat → Int32) :=
  if lwC L i ≤ 7 then (s.1 + 1, upd s.2 s.1 (if lwC L i = 7 then lwV L i else gv (ix (lwC L i)))) else (s.1 - 1, upd s.2 (s.1 - 2) (outO (lwC L i) (s.2 (s.1 - 2)) (s.2 (s.1 - 1))))
def gvO (d l w t r h : Int32) : Nat → Int32 := fun k => if k = 0 then d else if k = 1 then l else if k = 2 then w else if k = 3 then t else if k = 4 then t - t / 8 * 8 else if k = 5 then r else h
def dueL (L : LW) (d l w t r h : Int32) : Int32 := imax 0 (imin 99 ((fo (lwN L) (stp L (gvO d l w t r h)) (0, fun _ => 0)).2 0))
/-! a row: how all stands that WORK changes, as the reference has it -/
def hgt (E : EV) (a : Nat) : Int32 := if eD E = 0 then 0 else eG E (a % eD E)
def wat (E : EV) (r : Nat → Int32) (hh : Int32) (h : Nat) : Int32 := imax 0 (hh - (eS E h + 2 * r (50 + h)))
def isW (E : EV) (r : Nat → Int32) (hh : Int32) (t : Nat) : Bool := decide (r t ≠ -1 ∧ r (10 + t) = 0 ∧ 0 < wat E r hh (ix (r t)))
def isA (E : EV) (r : Nat → Int32) (hh : Int32) (t : Nat) : Bool := isW E r hh t && decide (eX E t 2 ≤ wat E r hh (ix (r t)))
def wetN (E : EV) (r : Nat → Int32) (hh : Int32) (n h : Nat) : Int32 := fo n (fun t s => if isW E r hh t = true ∧ r t = nI h then s + 1 else s) 0
def lostN (E : EV) (r : Nat → Int32) (hh : Int32) (n h : Nat) : Int32 := fo n (fun t s => if isA E r hh t = true ∧ r (20 + t) = 0 ∧ r t = nI h then s + 1 else s) 0
def dueR (E : EV) (L : LW) (r : Nat → Int32) (hh rn : Int32) (h : Nat) : Int32 := if wat E r hh h = 0 then 0 else dueL L (wat E r hh h) (lostN E r hh (eT E) h) (wetN E r hh (eT E) h) (r 62) rn (nI h)
/-- a TIDE goes by, all but its dues -/
def passR (E : EV) (hh : Int32) (r : Nat → Int32) : Nat → Int32 := fun k =>
  if k < 10 then (if k < eT E ∧ isA E r hh k = true ∧ r (20 + k) = 0 then (if nI (eH E) ≤ r k + 1 then -1 else r k + 1) else r k)
  else if k < 20 then r k
  else if k < 30 then (if k - 20 < eT E ∧ isA E r hh (k - 20) = true ∧ r k ≠ 0 then (if eP E ≤ r (k + 10) + 1 then 0 else r k) else r k)
  else if k < 40 then (if k - 30 < eT E ∧ isA E r hh (k - 30) = true ∧ r (k - 10) ≠ 0 then (if eP E ≤ r k + 1 then 0 else r k + 1) else r k)
  else if k < 50 then (if k - 40 < eT E ∧ isW E r hh (k - 40) = true then imax 0 (r k - 1) else r k)
  else if k = 62 then r 62 + 1 else r k
def tideR (E : EV) (L : LW) (hh rn : Int32) (r : Nat → Int32) : Nat → Int32 := fun k => if 56 ≤ k ∧ k < 62 ∧ k - 56 < eH E then r k + dueR E L r hh rn (k - 56) else passR E hh r k
def RowOK (E : EV) (b : Nat) (r : Nat → Int32) : Prop := (∀ t, t < eT E → r t = -1 ∨ ∃ h, h < eH E ∧ r t = nI h) ∧ (∀ t, t < eT E → r (10 + t) = 0 ∨ r (10 + t) = 1) ∧ (∀ t, t < eT E → r (20 + t) = 0 ∨ r (20 + t) = 1) ∧
  (∀ t, t < eT E → 0 ≤ r (40 + t) ∧ r (40 + t) ≤ 40) ∧ (∀ h, h < eH E → 0 ≤ r (50 + h) ∧ r (50 + h) ≤ 9) ∧ ((∀ h, h < eH E → ∃ p a, (p ≤ 99 * a ∧ a ≤ b ∧ r 62 = nI a) ∧ r (56 + h) = nI p) ∧ ∀ t, t < eT E → r (20 + t) = 0 → r (30 + t) = 0) ∧ (∃ a, a ≤ b ∧ r 62 = nI a)
