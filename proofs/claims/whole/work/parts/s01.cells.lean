/-! THE START: the cells, made one by one -/
/-- the same, with k handles -/
def gK (G : SG) (k : Nat) : SG := (G.1, G.2.1, G.2.2.1, G.2.2.2.1, G.2.2.2.2.1, G.2.2.2.2.2.1, G.2.2.2.2.2.2.1, G.2.2.2.2.2.2.2.1, k)
/-- the handles lie one behind the other -/
def GA (G : SG) : Prop := ∀ h, h < 549 → ga G h = gN G + h
def wE (G : SG) (k : Nat) (En : Nat → va_E) : va_W := (List.range k).map (fun h => (ga G h, En h))
def WE (G : SG) (k : Nat) (En : Nat → va_E) (H : Heap) : Prop := va_P (gD G) CLX (wE G k En) H
def upE (En : Nat → va_E) (h : Nat) (e : va_E) : Nat → va_E := fun x => if x = h then e else En x
theorem wE_at {G : SG} {k h : Nat} {En : Nat → va_E} (hh : h < k) : (wE G k En)[h]? = some (ga G h, En h) := by
  unfold wE
  rw [List.getElem?_map, List.getElem?_range hh]
  rfl
theorem wE_len {G : SG} {k : Nat} {En : Nat → va_E} : (wE G k En).length = k := by
  unfold wE
  rw [List.length_map, List.length_range]
theorem wE_congr {G : SG} {k : Nat} {En En' : Nat → va_E} (h : ∀ x, x < k → En x = En' x) : wE G k En = wE G k En' := by
  unfold wE
  refine List.map_congr_left fun x hx => ?_
  rw [h x (List.mem_range.mp hx)]
theorem wE_set {G : SG} {k h : Nat} {En : Nat → va_E} {e : va_E} (hh : h < k) : (wE G k En).set h (ga G h, e) = wE G k (upE En h e) := by
  apply List.ext_getElem?
  intro j
  by_cases hj : j = h
  · subst hj
    rw [List.getElem?_set_self (by rw [wE_len]; exact hh), wE_at hh]
    unfold upE
    rw [if_pos rfl]
  · rw [List.getElem?_set_ne (Ne.symm hj)]
    by_cases hl : j < k
    · rw [wE_at hl, wE_at hl]
      unfold upE
      rw [if_neg hj]
    · rw [List.getElem?_eq_none (by rw [wE_len]; omega), List.getElem?_eq_none (by rw [wE_len]; omega)]
theorem wE_push {G : SG} {k : Nat} {En : Nat → va_E} {e : va_E} : wE G k En ++ [(ga G k, e)] = wE G (k + 1) (upE En k e) := by
  have h1 : wE G k En = wE G k (upE En k e) := wE_congr fun x hx => by
    unfold upE
    rw [if_neg (Nat.ne_of_lt hx)]
  rw [h1]
  unfold wE
  rw [List.range_succ, List.map_append]
  unfold upE
  simp
theorem wE_D {G : SG} {k : Nat} {En : Nat → va_E} (hG : GA G) (hk : k ≤ 549) : va_D (fun q => gN G ≤ q) (wE G k En) := by
  have key : ∀ (i : Nat) (q : Nat × va_E), (wE G k En)[i]? = some q → i < k ∧ q.1 = gN G + i := by
    intro i q hq
    have hi : i < k := by
      have := (List.getElem?_eq_some_iff.mp hq).1
      rw [wE_len] at this
      exact this
    rw [wE_at hi] at hq
    cases hq
    exact ⟨hi, hG i (by omega)⟩
  refine ⟨fun i j x y hi hj e => ?_, fun i q hq => ?_⟩
  · have h1 := key i x hi
    have h2 := key j y hj
    omega
  · have h1 := (key i q hq).2
    show gN G ≤ q.1
    omega
theorem WE.congr {G : SG} {k : Nat} {En En' : Nat → va_E} {H : Heap} (h : WE G k En H) (e : ∀ x, x < k → En x = En' x) : WE G k En' H := by
  unfold WE at h ⊢
  rw [← wE_congr e]
  exact h
theorem WE.toR {G : SG} {k : Nat} {μ : Mem} {H : Heap} (hG : GA G) (hk : k ≤ 549) (h : WE G k (ent G μ) H) : WH (gK G k) μ H := ⟨h, wE_D hG hk⟩
theorem CX.sub {G : SG} {mt : MT} {p : Program} {Rm : Room} {s : State} {m : MethodId} {args : Array Value} {c : Code} {Ct St k : Nat} (hg : gh G = 549) (hk : k ≤ 549) (C : CX G mt p Rm s m args c Ct St) : CX (gK G k) mt p Rm s m args c Ct St := by
  obtain ⟨c1, c2, c3, c4, c5, c6, c7, c8⟩ := C
  refine ⟨c1, c2, c3, c4, c5, ⟨c6.1, fun i q hq => ?_⟩, c7, c8⟩
  obtain ⟨h, h1, h2⟩ := List.mem_filterMap.mp (List.mem_of_getElem? hq)
  have h3 : h < k := List.mem_range.mp h1
  obtain ⟨j, hj⟩ := ty_at (G := G) (h := h) (by rw [hg]; omega) h2
  exact c6.2 j q hj
theorem WE.low {G : SG} {k : Nat} {En : Nat → va_E} {H : Heap} (hG : GA G) (hk : k ≤ 549) (h : WE G k En H) (h0 : 0 < k) : gN G + k ≤ H.size := by
  have h1 := (h (k - 1) _ (wE_at (by omega))).lt
  rw [show ga G (k - 1) = gN G + (k - 1) from hG _ (by omega)] at h1
  omega
