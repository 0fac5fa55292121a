/-! rows that touch the cells; returns; calls; a method's contract out of its body -/
section RW2
variable {G : SG} {mt : MT} {pc : Nat} {lv : List (Nat × Value)} {st : List Value} {μ : Mem} {t : Nat} {Q : PQ} {X : PX}
theorem ent_obj {h c : Nat} (hs : shp h = (0, c, 0)) : ent G μ h = .inr (c, (fsh h).mapIdx (fldV G μ h)) := by unfold ent; rw [hs]; rfl
theorem ent_int {h n : Nat} (hs : shp h = (1, n, 0)) : ent G μ h = .inl (gA G h, n, .inl (μ h)) := by unfold ent; rw [hs]; rfl
theorem ent_ref {h n k : Nat} (hs : shp h = (2, n, k)) : ent G μ h = .inl (gA G h, n, .inr (.inr (.inr (.inr (fun i => if i < n then some (ga G (k + i)) else none))))) := by unfold ent; rw [hs]; rfl
theorem ent_long {h n : Nat} (hs : shp h = (3, n, 0)) : ent G μ h = .inl (gA G h, n, .inr (.inl (fun i => (μ h i).toInt64))) := by unfold ent; rw [hs]; rfl
/-- a place of a class's pool names field k of class c (of CLX) -/
def FLD (own : String) (idx c k : Nat) : Prop := ∃ (C : String) (T : u_T) (N : Nat) (ty0 : Nat → FieldType), CLX[c]? = some (C, T, N) ∧ k < N ∧ (∀ w ∈ u_ws C T N, w ∈ BIG) ∧ (∀ j, j < N → parseFieldDescriptor (T j).2.2.1 = some (ty0 j)) ∧ (∀ a, a < N → ∀ b, b < N → a ≠ b → (T a).2.1 ≠ (T b).2.1) ∧
  (Cond.fieldLink own idx (T k).1 (T k).2.1 (T k).2.2.1 ∈ BIG ∨ ∃ host, Cond.fieldLinkNest own idx (T k).1 (T k).2.1 (T k).2.2.1 host ∈ NSTW)
def FLDI (own : String) (idx c k : Nat) : Prop := FLD own idx c k ∧ ∀ (C : String) (T : u_T) (N : Nat), CLX[c]? = some (C, T, N) → (T k).2.2.2 = false ∧ parseFieldDescriptor (T k).2.2.1 = some .int
theorem CX.env {p : Program} {Rm : Room} {s : State} {m : MethodId} {args : Array Value} {c : Code} {Ct St : Nat} (C : CX G mt p Rm s m args c Ct St) : ENV G s s.heap := C.2.2.2.2.2.2.1
theorem CX.k {p : Program} {Rm : Room} {s : State} {m : MethodId} {args : Array Value} {c : Code} {Ct St : Nat} (C : CX G mt p Rm s m args c Ct St) : va_K (gD G) CLX (tysL G) s := C.2.2.2.2.2.1
theorem CX.big {p : Program} {Rm : Room} {s : State} {m : MethodId} {args : Array Value} {c : Code} {Ct St : Nat} (C : CX G mt p Rm s m args c Ct St) : ∀ w ∈ BIG, w.before args s = true := C.2.2.2.2.1
theorem CX.own {p : Program} {Rm : Room} {s : State} {m : MethodId} {args : Array Value} {c : Code} {Ct St : Nat} (C : CX G mt p Rm s m args c Ct St) : s.vm.findClass (mN mt).cls = some m.cls := C.2.2.2.1
theorem ENV.nest {U : State} {H : Heap} (h : ENV G U H) : ∀ w ∈ NSTW, va_Nw w U := h.2.2.2.2.2.2.2.2.1
theorem ENV.low {U : State} {H : Heap} (h : ENV G U H) : gN G ≤ H.size := h.2.2.2.2.2.2.2.1
theorem ENV.scr {U : State} {H : Heap} (h : ENV G U H) : va_X (gb G) (gs G) (gx G) U H := h.2.2.2.2.2.1
theorem ENV.scl {U : State} {H : Heap} (h : ENV G U H) : gb G < gN G := h.2.2.2.2.2.2.1
theorem r_get {i c k h : Nat} {o : Option Nat} (hf : FLD (mN mt).cls i c k) (hh : h < gh G) (hs : shp h = (0, c, 0)) (hk : (fsh h)[k]? = some o) (hd : decode (mB mt) pc = .ok (.getfield i, 3))
    (kk : R G mt (pc + 3) lv (fldV G μ h k o :: st) μ t Q X) : R G mt pc lv (.ref (ga G h) :: st) μ t Q X := by
  intro p e Rm s m args below meth cd Ct St QQ H locs cells slots ls C E EX hW hS hc hs' hl
  obtain ⟨Cn, T, N, ty0, e1, e2, e3, -, -, e5⟩ := hf
  have he := wl_at (G := G) (μ := μ) hh
  rw [ent_obj hs] at he
  have hv : ((fsh h).mapIdx (fldV G μ h))[k]? = some (fldV G μ h k o) := by rw [List.getElem?_mapIdx, hk]; rfl
  have hk2 := kk p e Rm s m args below meth cd Ct St QQ H locs cells slots ls C E EX hW hS hc hs' hl
  rcases e5 with e5 | ⟨host, e5⟩
  · exact va_get C.1 C.2.1 C.big e3 C.own C.k hW.1 h he e1 k e2 (C.big _ e5) (fun _ q => q) hv hd hk2
  · exact va_getN C.1 C.2.1 C.big e3 C.own C.k hW.1 h he e1 k e2 (va_Nw.use rfl (C.env.nest _ e5)) (fun _ q => q) hv hd hk2
theorem r_getI {i c k h : Nat} (hf : FLD (mN mt).cls i c k) (hh : h < gh G) (hs : shp h = (0, c, 0)) (hk : (fsh h)[k]? = some none) (hd : decode (mB mt) pc = .ok (.getfield i, 3))
    (kk : R G mt (pc + 3) lv (.int (μ h k) :: st) μ t Q X) : R G mt pc lv (.ref (ga G h) :: st) μ t Q X := r_get hf hh hs hk hd kk
theorem r_getR {i c k h : Nat} (j : Nat) (hf : FLD (mN mt).cls i c k) (hh : h < gh G) (hs : shp h = (0, c, 0)) (hk : (fsh h)[k]? = some (some j)) (hd : decode (mB mt) pc = .ok (.getfield i, 3))
    (kk : R G mt (pc + 3) lv (.ref (ga G j) :: st) μ t Q X) : R G mt pc lv (.ref (ga G h) :: st) μ t Q X := r_get hf hh hs hk hd kk
theorem r_put {i c k h : Nat} {x : Int32} (hf : FLDI (mN mt).cls i c k) (hh : h < gh G) (hs : shp h = (0, c, 0)) (hk : (fsh h)[k]? = some none) (hd : decode (mB mt) pc = .ok (.putfield i, 3))
    (kk : R G mt (pc + 3) lv st (upm μ h k x) t Q X) : R G mt pc lv (.int x :: .ref (ga G h) :: st) μ t Q X := by
  intro p e Rm s m args below meth cd Ct St QQ H locs cells slots ls C E EX hW hS hc hs' hl
  obtain ⟨⟨Cn, T, N, ty0, e1, e2, e3, e4, e6, e5⟩, hI⟩ := hf
  obtain ⟨i1, i2⟩ := hI Cn T N e1
  have he := wl_at (G := G) (μ := μ) hh
  rw [ent_obj hs] at he
  have hlen : k < ((fsh h).mapIdx (fldV G μ h)).length := by rw [List.length_mapIdx]; exact (List.getElem?_eq_some_iff.mp hk).1
  have hset : ((fsh h).mapIdx (fldV G μ h)).set k (.int x) = (fsh h).mapIdx (fldV G (upm μ h k x) h) := by
    apply List.ext_getElem?
    intro j
    by_cases hj : j = k
    · subst hj
      rw [List.getElem?_set_self hlen, List.getElem?_mapIdx, hk]
      simp [fldV, upm_same]
    · rw [List.getElem?_set_ne (Ne.symm hj), List.getElem?_mapIdx, List.getElem?_mapIdx]
      cases (fsh h)[j]? with
      | none => rfl
      | some o =>
        cases o with
        | some j' => rfl
        | none => simp [fldV, upm_row, upd, hj]
  have hw : (wl G μ).set h (ga G h, .inr (c, ((fsh h).mapIdx (fldV G μ h)).set k (.int x))) = wl G (upm μ h k x) := by
    rw [hset, ← ent_obj hs]
    exact wl_set hh fun h' hn => upm_other hn
  have fin : ∀ (H1 : Heap) (locs1 : List Loc), va_P (gD G) CLX ((wl G μ).set h (ga G h, .inr (c, ((fsh h).mapIdx (fldV G μ h)).set k (.int x)))) H1 → va_D (fun q => gN G ≤ q) ((wl G μ).set h (ga G h, .inr (c, ((fsh h).mapIdx (fldV G μ h)).set k (.int x)))) → va_S (fun q => gN G ≤ q) s.heap H1 locs1 → W p (gL G) e Rm s m args below meth cd H1 locs1 cells slots QQ (F0 m (pc + 3) ls st) := by
    intro H1 locs1 q1 q2 q3
    rw [hw] at q1 q2
    exact kk p e Rm s m args below meth cd Ct St QQ H1 locs1 cells slots ls C E EX ⟨q1, q2⟩ q3 hc hs' hl
  rcases e5 with e5 | ⟨host, e5⟩
  · exact va_put C.1 C.2.1 C.big e3 ty0 e4 e6 C.own C.k hW.1 hW.2 hS h he e1 k e2 (C.big _ e5) (fun _ q => q) i1 i2 rfl rfl hlen hd fin
  · exact va_putN C.1 C.2.1 C.big e3 ty0 e4 e6 C.own C.k hW.1 hW.2 hS h he e1 k e2 (va_Nw.use rfl (C.env.nest _ e5)) (fun _ q => q) i1 i2 rfl rfl hlen hd fin
theorem r_iald {h n : Nat} {i : Int32} (hh : h < gh G) (hs : shp h = (1, n, 0)) (hi : vp_in i n) (hd : decode (mB mt) pc = .ok (.iaload, 1))
    (kk : R G mt (pc + 1) lv (.int (μ h i.toNatClampNeg) :: st) μ t Q X) : R G mt pc lv (.int i :: .ref (ga G h) :: st) μ t Q X := by
  intro p e Rm s m args below meth cd Ct St QQ H locs cells slots ls C E EX hW hS hc hs' hl
  obtain ⟨t0, ht0⟩ := ty_at (G := G) hh (q := (gA G h, .int)) (by unfold tyE; rw [hs]; rfl)
  have he := wl_at (G := G) (μ := μ) hh
  rw [ent_int hs] at he
  exact va_iald C.1 C.2.1 C.k hW.1 h t0 he ht0 hi hd (kk p e Rm s m args below meth cd Ct St QQ H locs cells slots ls C E EX hW hS hc hs' hl)
theorem r_iast {h n : Nat} {i x : Int32} (hh : h < gh G) (hs : shp h = (1, n, 0)) (hi : vp_in i n) (hd : decode (mB mt) pc = .ok (.iastore, 1))
    (kk : R G mt (pc + 1) lv st (upm μ h i.toNatClampNeg x) t Q X) : R G mt pc lv (.int x :: .int i :: .ref (ga G h) :: st) μ t Q X := by
  intro p e Rm s m args below meth cd Ct St QQ H locs cells slots ls C E EX hW hS hc hs' hl
  obtain ⟨t0, ht0⟩ := ty_at (G := G) hh (q := (gA G h, .int)) (by unfold tyE; rw [hs]; rfl)
  have he := wl_at (G := G) (μ := μ) hh
  rw [ent_int hs] at he
  have hw : (wl G μ).set h (ga G h, .inl (gA G h, n, .inl (upd (μ h) i.toNatClampNeg x))) = wl G (upm μ h i.toNatClampNeg x) := by
    rw [← upm_row, ← ent_int (μ := upm μ h i.toNatClampNeg x) hs]
    exact wl_set hh fun h' hn => upm_other hn
  refine va_iast C.1 C.2.1 C.k hW.1 hW.2 hS h t0 he ht0 hi hd fun H1 locs1 q1 q2 q3 => ?_
  rw [hw] at q1 q2
  exact kk p e Rm s m args below meth cd Ct St QQ H1 locs1 cells slots ls C E EX ⟨q1, q2⟩ q3 hc hs' hl
theorem r_alen {h n a : Nat} (v : Int32) (hh : h < gh G) (hs : shp h = (a + 1, n, 0)) (hv : Int32.ofNat n = v) (hd : decode (mB mt) pc = .ok (.arraylength, 1))
    (kk : R G mt (pc + 1) lv (.int v :: st) μ t Q X) : R G mt pc lv (.ref (ga G h) :: st) μ t Q X := by
  intro p e Rm s m args below meth cd Ct St QQ H locs cells slots ls C E EX hW hS hc hs' hl
  have he := wl_at (G := G) (μ := μ) hh
  have hk := kk p e Rm s m args below meth cd Ct St QQ H locs cells slots ls C E EX hW hS hc hs' hl
  match a, hs with
  | 0, hs =>
    obtain ⟨t0, ht0⟩ := ty_at (G := G) hh (q := (gA G h, .int)) (by unfold tyE; rw [hs]; rfl)
    rw [ent_int hs] at he
    exact va_alen C.1 C.2.1 C.k hW.1 h t0 he ht0 hv hd hk
  | 1, hs =>
    obtain ⟨t0, ht0⟩ := ty_at (G := G) hh (q := (gA G h, .array .int)) (by unfold tyE; rw [hs]; rfl)
    rw [ent_ref hs] at he
    exact va_alen C.1 C.2.1 C.k hW.1 h t0 he ht0 hv hd hk
  | a + 2, hs =>
    obtain ⟨t0, ht0⟩ := ty_at (G := G) hh (q := (gA G h, .long)) (by unfold tyE; rw [hs]; rfl)
    have e2 : ent G μ h = .inl (gA G h, n, .inr (.inl (fun i => (μ h i).toInt64))) := by unfold ent; rw [hs]; rfl
    rw [e2] at he
    exact va_alen C.1 C.2.1 C.k hW.1 h t0 he ht0 hv hd hk
theorem r_aald {h n k : Nat} {i : Int32} (hh : h < gh G) (hs : shp h = (2, n, k)) (hi : vp_in i n) (hd : decode (mB mt) pc = .ok (.aaload, 1))
    (kk : R G mt (pc + 1) lv (.ref (ga G (k + i.toNatClampNeg)) :: st) μ t Q X) : R G mt pc lv (.int i :: .ref (ga G h) :: st) μ t Q X := by
  intro p e Rm s m args below meth cd Ct St QQ H locs cells slots ls C E EX hW hS hc hs' hl
  obtain ⟨t0, ht0⟩ := ty_at (G := G) hh (q := (gA G h, .array .int)) (by unfold tyE; rw [hs]; rfl)
  have he := wl_at (G := G) (μ := μ) hh
  rw [ent_ref hs] at he
  have hlt : i.toNatClampNeg < n := Nat.not_le.mp fun q => hi (Or.inr q)
  have hk := kk p e Rm s m args below meth cd Ct St QQ H locs cells slots ls C E EX hW hS hc hs' hl
  refine W.aald (v := .ref (ga G (k + i.toNatClampNeg))) (ty := .array .int) C.1 C.2.1 (hW.1 h _ he) ((C.k.2 t0 _ ht0).1 n (fun j => va_rf (if j < n then some (ga G (k + j)) else none))) rfl (fun q => by cases q) (by show ¬ (i < 0 ∨ (arrV _ _ _).slots.size ≤ _); rw [arrV_size]; exact hi) (by show (arrV _ _ _).slots[_]? = _; rw [arrV_read _ _ hlt]; simp [hlt, va_rf]) rfl rfl hd hk
theorem r_lald {h n : Nat} {i : Int32} (hh : h < gh G) (hs : shp h = (3, n, 0)) (hi : vp_in i n) (hd : decode (mB mt) pc = .ok (.laload, 1))
    (kk : R G mt (pc + 1) lv (.long (μ h i.toNatClampNeg).toInt64 :: st) μ t Q X) : R G mt pc lv (.int i :: .ref (ga G h) :: st) μ t Q X := by
  intro p e Rm s m args below meth cd Ct St QQ H locs cells slots ls C E EX hW hS hc hs' hl
  obtain ⟨t0, ht0⟩ := ty_at (G := G) hh (q := (gA G h, .long)) (by unfold tyE; rw [hs]; rfl)
  have he := wl_at (G := G) (μ := μ) hh
  rw [ent_long hs] at he
  exact va_lald C.1 C.2.1 C.k hW.1 h t0 he ht0 hi hd (kk p e Rm s m args below meth cd Ct St QQ H locs cells slots ls C E EX hW hS hc hs' hl)
theorem r_last {h n : Nat} {i x : Int32} (hh : h < gh G) (hs : shp h = (3, n, 0)) (hi : vp_in i n) (hd : decode (mB mt) pc = .ok (.lastore, 1))
    (kk : R G mt (pc + 1) lv st (upm μ h i.toNatClampNeg x) t Q X) : R G mt pc lv (.long x.toInt64 :: .int i :: .ref (ga G h) :: st) μ t Q X := by
  intro p e Rm s m args below meth cd Ct St QQ H locs cells slots ls C E EX hW hS hc hs' hl
  obtain ⟨t0, ht0⟩ := ty_at (G := G) hh (q := (gA G h, .long)) (by unfold tyE; rw [hs]; rfl)
  have he := wl_at (G := G) (μ := μ) hh
  rw [ent_long hs] at he
  have hw : (wl G μ).set h (ga G h, .inl (gA G h, n, .inr (.inl (vp_updL (fun j => (μ h j).toInt64) i.toNatClampNeg x.toInt64)))) = wl G (upm μ h i.toNatClampNeg x) := by
    have e1 : vp_updL (fun j => (μ h j).toInt64) i.toNatClampNeg x.toInt64 = fun j => (upm μ h i.toNatClampNeg x h j).toInt64 := by
      funext j
      unfold vp_updL upm
      by_cases hj : j = i.toNatClampNeg <;> simp [hj]
    rw [e1, ← ent_long (μ := upm μ h i.toNatClampNeg x) hs]
    exact wl_set hh fun h' hn => upm_other hn
  refine va_last C.1 C.2.1 C.k hW.1 hW.2 hS h t0 he ht0 hi hd fun H1 locs1 q1 q2 q3 => ?_
  rw [hw] at q1 q2
  exact kk p e Rm s m args below meth cd Ct St QQ H1 locs1 cells slots ls C E EX ⟨q1, q2⟩ q3 hc hs' hl
theorem r_slen (hd : decode (mB mt) pc = .ok (.arraylength, 1)) (kk : R G mt (pc + 1) lv (.int (Int32.ofNat (gs G)) :: st) μ t Q X) : R G mt pc lv (.ref (gb G) :: st) μ t Q X := by
  intro p e Rm s m args below meth cd Ct St QQ H locs cells slots ls C E EX hW hS hc hs' hl
  exact va_slen C.1 C.2.1 C.env.scr (Nat.lt_of_lt_of_le C.env.scl C.env.low) (Nat.not_le.mpr C.env.scl) hS hd (kk p e Rm s m args below meth cd Ct St QQ H locs cells slots ls C E EX hW hS hc hs' hl)
theorem r_sld {i : Int32} (hi : vp_in i (gs G)) (hd : decode (mB mt) pc = .ok (.iaload, 1)) (kk : R G mt (pc + 1) lv (.int (gx G i.toNatClampNeg) :: st) μ t Q X) : R G mt pc lv (.int i :: .ref (gb G) :: st) μ t Q X := by
  intro p e Rm s m args below meth cd Ct St QQ H locs cells slots ls C E EX hW hS hc hs' hl
  exact va_sld C.1 C.2.1 C.env.scr (Nat.lt_of_lt_of_le C.env.scl C.env.low) (Nat.not_le.mpr C.env.scl) hS hi hd (kk p e Rm s m args below meth cd Ct St QQ H locs cells slots ls C E EX hW hS hc hs' hl)
/-! ends -/
theorem r_ireturn {x : Int32} (ty : FieldType) (hd : decode (mB mt) pc = .ok (.ireturn, 1)) (hr : mR mt = some ty) (hn : narrow ty (.int x) = .int x) (hq : Q (some (.int x)) μ) : R G mt pc lv [.int x] μ t Q X :=
  fun _ _ _ _ _ _ _ _ _ _ _ _ H locs cells slots ls _ E _ hW hS hc hs _ => E (some (.int x)) μ H locs cells slots pc ls hW hS (by omega) (by omega) hq ⟨hd, ty, hr, hn⟩
theorem r_lreturn {x : Int64} (hd : decode (mB mt) pc = .ok (.lreturn, 1)) (hr : mR mt = some .long) (hq : Q (some (.long x)) μ) : R G mt pc lv [.long x] μ t Q X :=
  fun _ _ _ _ _ _ _ _ _ _ _ _ H locs cells slots ls _ E _ hW hS hc hs _ => E (some (.long x)) μ H locs cells slots pc ls hW hS (by omega) (by omega) hq ⟨hd, hr⟩
theorem r_return (hd : decode (mB mt) pc = .ok (.return_, 1)) (hr : mR mt = none) (hq : Q none μ) : R G mt pc lv [] μ t Q X :=
  fun _ _ _ _ _ _ _ _ _ _ _ _ H locs cells slots ls _ E _ hW hS hc hs _ => E none μ H locs cells slots pc ls hW hS (by omega) (by omega) hq ⟨hr, hd⟩
/-! fewer locals, other words for the same -/
theorem r_sub {lv' : List (Nat × Value)} (ks : List Nat) (hk : lv_pick lv ks = lv') (kk : R G mt pc lv' st μ t Q X) : R G mt pc lv st μ t Q X :=
  fun p e Rm s m args below meth cd Ct St QQ H locs cells slots ls C E EX hW hS hc hs hl => kk p e Rm s m args below meth cd Ct St QQ H locs cells slots ls C E EX hW hS hc hs (lv_sub hl ks hk)
theorem r_weak {Q' : PQ} {X' : PX} {t' : Nat} (ht : t' ≤ t) (hQ : ∀ v μ, Q' v μ → Q v μ) (hX : ∀ E μ, X' E μ → X E μ) (kk : R G mt pc lv st μ t' Q' X') : R G mt pc lv st μ t Q X :=
  fun p e Rm s m args below meth cd Ct St QQ H locs cells slots ls C E EX hW hS hc hs hl => kk p e Rm s m args below meth cd Ct St QQ H locs cells slots ls C
    (fun v μ H locs cells slots pc ls a1 a2 a3 a4 a5 a6 => E v μ H locs cells slots pc ls a1 a2 a3 a4 (hQ _ _ a5) a6) (fun E' ce q μ H locs cells slots pc ls rest a1 a2 a3 a4 a5 => EX E' ce q μ H locs cells slots pc ls rest a1 a2 a3 a4 (hX _ _ a5)) hW hS (by omega) (by omega) hl
end RW2
