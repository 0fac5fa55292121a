/-! THE START: rows that make cells; a constructor's contract -/
/-- the class of rows of int rows: its components are the int rows -/
def ARR (G : SG) (U : State) : Prop := ∃ kA : Class, U.vm.classes[gA G 66]? = some kA ∧ kA.kind = .array (gA G 58) (.array .int)
theorem ARR.moved {G : SG} {u U : State} (hvm : u.vm.Alike U.vm) (h : ARR G u) : ARR G U := by
  obtain ⟨kA, h1, h2⟩ := h
  obtain ⟨k', hk', he⟩ := hvm.2.2 _ _ h1
  exact ⟨k', hk', by rw [he]; exact h2⟩
theorem CX.cel {G : SG} {mt : MT} {p : Program} {Rm : Room} {s : State} {m : MethodId} {args : Array Value} {c : Code} {Ct St : Nat} (C : CX G mt p Rm s m args c Ct St) : Ct ≤ Rm.cells ∧ St ≤ Rm.slots ∧ mD mt + 8 ≤ Rm.frames ∧ 40 * mD mt + 200 ≤ Rm.locals := ⟨C.2.2.2.2.2.2.2.2.2.1, C.2.2.2.2.2.2.2.2.2.2.1, C.2.2.2.2.2.2.2.1, C.2.2.2.2.2.2.2.2.1⟩
/-- RM: as RK, with the class of rows of rows known -/
def RM (G : SG) (mt : MT) (pc : Nat) (lv : List (Nat × Value)) (st : List Value) (k : Nat) (En : Nat → va_E) (pf : Nat) (lf : List (Nat × Value)) (kF : Nat) (EF : Nat → va_E) : Prop :=
  ∀ (p : Program) (e : Env) (Rm : Room) (s : State) (m : MethodId) (args : Array Value) (below : List Frame) (meth : Method) (c : Code) (Ct St : Nat) (QQ : State → Prop) (H : Heap) (locs : List Loc) (cells slots : Nat) (ls : Array Slot),
    CX G mt p Rm s m args c Ct St → ((mN mt).name = "<init>" → meth.name = "<init>") → ARR G s →
    (∀ (H : Heap) (locs : List Loc) (cells slots : Nat) (ls : Array Slot), WE G kF EF H → va_S (fun q => gN G ≤ q) s.heap H locs → s.heap.size + cells = gN G + kF → cells ≤ Ct → slots ≤ St → lv_has ls (mL mt) lf → W p (gL G) e Rm s m args below meth c H locs cells slots QQ (F0 m pf ls [])) →
    WE G k En H → va_S (fun q => gN G ≤ q) s.heap H locs → (s.heap.size + cells = gN G + k ∧ gN G + kF ≤ s.heap.size + Ct) → slots + 4000 * (kF - k) ≤ St → lv_has ls (mL mt) lv →
    W p (gL G) e Rm s m args below meth c H locs cells slots QQ (F0 m pc ls st)
section RKT
variable {G : SG} {mt mk : MT} {pc pf : Nat} {lv lf : List (Nat × Value)} {st : List Value} {k kF : Nat} {En EF : Nat → va_E}
theorem rk_aload {j : Fin 4} {x : Nat} (hd : decode (mB mt) pc = .ok (.aload_n j, 1)) (i : Nat) (hi : lv[i]? = some ((j : Nat), .ref x)) (h : RM G mt (pc + 1) lv (.ref x :: st) k En pf lf kF EF) : RM G mt pc lv st k En pf lf kF EF :=
  fun p e Rm s m args below meth c Ct St QQ H locs cells slots ls C hn hA X hW hS hc hs hl => lv_aload_n C.1 C.2.1 hd rfl (lv_at hl i hi) (h p e Rm s m args below meth c Ct St QQ H locs cells slots ls C hn hA X hW hS hc hs hl)
theorem rk_iconst {n : Int} (v : Int32) (hd : decode (mB mt) pc = .ok (.iconst n, 1)) (hv : Int32.ofInt n = v) (h : RM G mt (pc + 1) lv (.int v :: st) k En pf lf kF EF) : RM G mt pc lv st k En pf lf kF EF :=
  fun p e Rm s m args below meth c Ct St QQ H locs cells slots ls C hn hA X hW hS hc hs hl => lv_iconst C.1 C.2.1 hd hv (h p e Rm s m args below meth c Ct St QQ H locs cells slots ls C hn hA X hW hS hc hs hl)
theorem rk_bipush {n : Int} (v : Int32) (hd : decode (mB mt) pc = .ok (.bipush n, 2)) (hv : (Int8.ofInt n).toInt32 = v) (h : RM G mt (pc + 2) lv (.int v :: st) k En pf lf kF EF) : RM G mt pc lv st k En pf lf kF EF :=
  fun p e Rm s m args below meth c Ct St QQ H locs cells slots ls C hn hA X hW hS hc hs hl => lv_bipush C.1 C.2.1 hd hv (h p e Rm s m args below meth c Ct St QQ H locs cells slots ls C hn hA X hW hS hc hs hl)
theorem rk_sipush {n : Int} (v : Int32) (hd : decode (mB mt) pc = .ok (.sipush n, 3)) (hv : (Int16.ofInt n).toInt32 = v) (h : RM G mt (pc + 3) lv (.int v :: st) k En pf lf kF EF) : RM G mt pc lv st k En pf lf kF EF :=
  fun p e Rm s m args below meth c Ct St QQ H locs cells slots ls C hn hA X hW hS hc hs hl => lv_sipush C.1 C.2.1 hd hv (h p e Rm s m args below meth c Ct St QQ H locs cells slots ls C hn hA X hW hS hc hs hl)
theorem rk_dup {v : Value} (hd : decode (mB mt) pc = .ok (.dup, 1)) (hv : v.category = 1) (h : RM G mt (pc + 1) lv (v :: v :: st) k En pf lf kF EF) : RM G mt pc lv (v :: st) k En pf lf kF EF :=
  fun p e Rm s m args below meth c Ct St QQ H locs cells slots ls C hn hA X hW hS hc hs hl => lv_dup C.1 C.2.1 hd hv (h p e Rm s m args below meth c Ct St QQ H locs cells slots ls C hn hA X hW hS hc hs hl)
theorem rk_astore {j : Fin 4} {x : Nat} (lv' : List (Nat × Value)) (hd : decode (mB mt) pc = .ok (.astore_n j, 1)) (hn : (j : Nat) < mL mt) (hq : ((j : Nat), Value.ref x) :: lv.filter (fun q => !(q.1 == (j : Nat)) && !(q.1 + 1 == (j : Nat) && q.2.category == 2)) = lv') (h : RM G mt (pc + 1) lv' st k En pf lf kF EF) : RM G mt pc lv (.ref x :: st) k En pf lf kF EF :=
  fun p e Rm s m args below meth c Ct St QQ H locs cells slots ls C hn' hA X hW hS hc hs hl => lv_astore_n C.1 C.2.1 hd rfl hl hn hq (fun ls hl => h p e Rm s m args below meth c Ct St QQ H locs cells slots ls C hn' hA X hW hS hc hs hl)
theorem rk_istore {i : Nat} {x : Int32} (lv' : List (Nat × Value)) (hd : decode (mB mt) pc = .ok (.istore i, 2)) (hn : i < mL mt) (hq : (i, Value.int x) :: lv.filter (fun q => !(q.1 == i) && !(q.1 + 1 == i && q.2.category == 2)) = lv') (h : RM G mt (pc + 2) lv' st k En pf lf kF EF) : RM G mt pc lv (.int x :: st) k En pf lf kF EF :=
  fun p e Rm s m args below meth c Ct St QQ H locs cells slots ls C hn' hA X hW hS hc hs hl => lv_istore C.1 C.2.1 hd hl hn hq (fun ls hl => h p e Rm s m args below meth c Ct St QQ H locs cells slots ls C hn' hA X hW hS hc hs hl)
theorem rk_end (is : List Nat) (hs' : lv_pick lv is = lf) (hk : k = kF) (hE : ∀ x, x < kF → En x = EF x) : RM G mt pf lv [] k En pf lf kF EF := by
  intro p e Rm s m args below meth c Ct St QQ H locs cells slots ls C hn hA X hW hS hc hs hl
  subst hk
  exact X H locs cells slots ls (hW.congr hE) hS hc.1 (by omega) (by omega) (lv_sub hl is hs')
/-- how large the heap is -/
theorem rm_size {p : Program} {l : Launch} {e : Env} {Rm : Room} {s : State} {m : MethodId} {args : Array Value} {below : List Frame} {meth : Method} {c : Code} {Ct St : Nat} {H : Heap} {locs : List Loc} {cells slots : Nat} {T : State} (hG : GA G) (hk : k ≤ 549) (C : CX G mt p Rm s m args c Ct St) (hW : WE G k En H) (hS : va_S (fun q => gN G ≤ q) s.heap H locs) (hc : s.heap.size + cells = gN G + k) (hT : T.heap = H) (X : Stand p l e Rm s m args below meth c T locs cells slots) : H.size = gN G + k := by
  have h1 : T.heap.size ≤ s.heap.size + cells := X.same.2.2.1
  rw [hT] at h1
  have h2 := C.env.low
  have h3 := hS.1
  rcases Nat.eq_zero_or_pos k with h0 | h0
  · omega
  · have := hW.low hG hk h0
    omega
/-- one cell more -/
theorem WE.push {H H1 : Heap} {e : va_E} (hz : H.size = gN G + k) (hW : WE G k En H) (o1 : ∀ q : Nat, q < gN G + k → H1[q]? = H[q]?) (h : va_at (gD G) CLX (ga G k, e) H1) : WE G (k + 1) (upE En k e) H1 := by
  unfold WE
  rw [← wE_push]
  refine va_P.app (va_P.kept hW fun i q hq => o1 q.1 ?_) (fun i q hq => ?_)
  · have := (hW i q hq).lt
    rw [hz] at this
    exact this
  · have hz : i < 1 := (List.getElem?_eq_some_iff.mp hq).1
    rw [show i = 0 by omega] at hq
    cases hq
    exact h
theorem vaS_push {s : State} {H H1 : Heap} {locs : List Loc} (hS : va_S (fun q => gN G ≤ q) s.heap H locs) (hz : H.size ≤ H1.size) (o1 : ∀ q : Nat, q < H.size → H1[q]? = H[q]?) : va_S (fun q => gN G ≤ q) s.heap H1 locs :=
  ⟨Nat.le_trans hS.1 hz, fun x h1 h2 => (o1 x (Nat.lt_of_lt_of_le h1 hS.1)).trans (hS.2.1 x h1 h2), hS.2.2⟩
theorem rk_newa {n : Int32} {N : Nat} (hG : GA G) (hg : gh G = 549) (hs0 : shp k = (1, N, 0)) (hd : decode (mB mt) pc = .ok (.newarray .int, 2)) (hn : ¬ n < 0) (hN : n.toNatClampNeg = N) (hb : N ≤ 4000) (hkF : k < kF) (hF : kF ≤ 549) (hw : Cond.arrayClass .int ∈ BIG)
    (h : RM G mt (pc + 2) lv (.ref (ga G k) :: st) (k + 1) (upE En k (.inl (gA G k, N, .inl (fun _ => 0)))) pf lf kF EF) : RM G mt pc lv (.int n :: st) k En pf lf kF EF := by
  intro p e Rm s m args below meth c Ct St QQ H locs cells slots ls C hn' hA X hW hS hc hs hl T0 hT0 X0
  have hz := rm_size hG (by omega) C hW hS hc.1 hT0 X0
  obtain ⟨c1, c2, -, -⟩ := C.cel
  obtain ⟨t0, ht0⟩ := ty_at (G := G) (h := k) (by omega) (q := (gA G k, .int)) (by unfold tyE; rw [hs0]; rfl)
  have hfc : s.vm.findClass ("[" ++ FieldType.int.toString) = some (gA G k) := (C.k.2 t0 _ ht0).2
  have eg : ga G k = gN G + k := hG k (by omega)
  have hbt : componentBytes (newarray.typeOf .int) = 4 := rfl
  have key : W p (gL G) e Rm s m args below meth c H locs cells slots QQ (F0 m pc ls (.int n :: st)) := by
    refine va_newaK (atype := .int) C.1 C.2.1 (C.big _ hw) rfl hd rfl hn hN (by rw [hbt]; omega) (by omega) (by omega) hz (fun H1 cA e1 z1 o1 hAr hNm => ?_)
    have ec : cA = gA G k := Option.some.inj (hNm.symm.trans hfc)
    rw [ec] at e1
    rw [eg] at h
    have hW1 : WE G (k + 1) (upE En k (.inl (gA G k, N, .inl (fun _ => 0)))) H1 := by
      refine hW.push hz o1 ?_
      show H1[ga G k]? = some (vp_cell (gA G k) (N, .inl (fun _ => 0)))
      rw [eg, e1, vp_cell_i]
      rfl
    exact h p e Rm s m args below meth c Ct St QQ H1 locs (cells + 1) (slots + N) ls C hn' hA X hW1 (vaS_push hS (by omega) fun q hq => o1 q (by rw [← hz]; exact hq)) (by omega) (by omega) hl
  exact key T0 hT0 X0
theorem rk_newJ {n : Int32} {N : Nat} (hG : GA G) (hg : gh G = 549) (hs0 : shp k = (3, N, 0)) (hd : decode (mB mt) pc = .ok (.newarray .long, 2)) (hn : ¬ n < 0) (hN : n.toNatClampNeg = N) (hb : N ≤ 4000) (hkF : k < kF) (hF : kF ≤ 549) (hw : Cond.arrayClass .long ∈ BIG)
    (h : RM G mt (pc + 2) lv (.ref (ga G k) :: st) (k + 1) (upE En k (.inl (gA G k, N, .inr (.inl (fun _ => 0))))) pf lf kF EF) : RM G mt pc lv (.int n :: st) k En pf lf kF EF := by
  intro p e Rm s m args below meth c Ct St QQ H locs cells slots ls C hn' hA X hW hS hc hs hl T0 hT0 X0
  have hz := rm_size hG (by omega) C hW hS hc.1 hT0 X0
  obtain ⟨c1, c2, -, -⟩ := C.cel
  obtain ⟨t0, ht0⟩ := ty_at (G := G) (h := k) (by omega) (q := (gA G k, .long)) (by unfold tyE; rw [hs0]; rfl)
  have hfc : s.vm.findClass ("[" ++ FieldType.long.toString) = some (gA G k) := (C.k.2 t0 _ ht0).2
  have eg : ga G k = gN G + k := hG k (by omega)
  have hbt : componentBytes (newarray.typeOf .long) = 8 := rfl
  have key : W p (gL G) e Rm s m args below meth c H locs cells slots QQ (F0 m pc ls (.int n :: st)) := by
    refine va_newaK (atype := .long) C.1 C.2.1 (C.big _ hw) rfl hd rfl hn hN (by rw [hbt]; omega) (by omega) (by omega) hz (fun H1 cA e1 z1 o1 hAr hNm => ?_)
    have ec : cA = gA G k := Option.some.inj (hNm.symm.trans hfc)
    rw [ec] at e1
    rw [eg] at h
    have hW1 : WE G (k + 1) (upE En k (.inl (gA G k, N, .inr (.inl (fun _ => 0))))) H1 := by
      refine hW.push hz o1 ?_
      show H1[ga G k]? = some (vp_cell (gA G k) (N, .inr (.inl (fun _ => 0))))
      rw [eg, e1, vp_cell_l]
      rfl
    exact h p e Rm s m args below meth c Ct St QQ H1 locs (cells + 1) (slots + N) ls C hn' hA X hW1 (vaS_push hS (by omega) fun q hq => o1 q (by rw [← hz]; exact hq)) (by omega) (by omega) hl
  exact key T0 hT0 X0
theorem rk_new {ci idx N : Nat} {Cn : String} {T : u_T} {ty : Nat → FieldType} {fs : List Value} (hG : GA G) (hcl : CLX[ci]? = some (Cn, T, N)) (hin : ∀ w ∈ u_ws Cn T N, w ∈ BIG) (hty : ∀ j, j < N → parseFieldDescriptor (T j).2.2.1 = some (ty j)) (hlk : Cond.classLink (mN mt).cls idx Cn ∈ BIG) (hins : Cond.instantiable Cn N ∈ BIG) (hini : Cond.initialized Cn ∈ BIG)
    (hfs : ∀ j, j < N → defaultValue (ty j) = vp_V fs j) (hb : N ≤ 4000) (hkF : k < kF) (hF : kF ≤ 549) (hd : decode (mB mt) pc = .ok (.new idx, 3))
    (h : RM G mt (pc + 3) lv (.ref (ga G k) :: st) (k + 1) (upE En k (.inr (ci, fs))) pf lf kF EF) : RM G mt pc lv st k En pf lf kF EF := by
  intro p e Rm s m args below meth c Ct St QQ H locs cells slots ls C hn' hA X hW hS hc hs hl T0 hT0 X0
  have hz := rm_size hG (by omega) C hW hS hc.1 hT0 X0
  obtain ⟨c1, c2, -, -⟩ := C.cel
  have eg : ga G k = gN G + k := hG k (by omega)
  have hKn := C.k.1 ci _ hcl
  have key : W p (gL G) e Rm s m args below meth c H locs cells slots QQ (F0 m pc ls st) := by
    refine W.newcK C.1 C.2.1 C.own (C.big _ hlk) (C.big _ hins) (C.big _ hini) rfl hd (by omega) (by omega) hKn.2.1 hz (fun H1 kC hkC e1 z1 o1 => ?_)
    have hW1 : WE G (k + 1) (upE En k (.inr (ci, fs))) H1 := by
      refine hW.push hz o1 ⟨_, hcl, ?_⟩
      rw [← eg] at e1
      exact (u_born ty C.big hin hKn hkC e1 hty).to hfs
    rw [eg] at h
    exact h p e Rm s m args below meth c Ct St QQ H1 locs (cells + 1) (slots + N) ls C hn' hA X hW1 (vaS_push hS (by omega) fun q hq => o1 q (by rw [← hz]; exact hq)) (by omega) (by omega) hl
  exact key T0 hT0 X0
theorem rk_putF {i ci kf h N : Nat} {v : Value} {fs : List Value} {Cn : String} {T : u_T} {ty0 : Nat → FieldType} {ty : FieldType} (hG : GA G) (hkk : k ≤ 549) (hh : h < k) (hE : En h = .inr (ci, fs)) (hcl : CLX[ci]? = some (Cn, T, N)) (hin : ∀ w ∈ u_ws Cn T N, w ∈ BIG) (hty : ∀ j, j < N → parseFieldDescriptor (T j).2.2.1 = some (ty0 j)) (hnm : ∀ a, a < N → ∀ b, b < N → a ≠ b → (T a).2.1 ≠ (T b).2.1) (hkN : kf < N) (hlk : Cond.fieldLink (mN mt).cls i (T kf).1 (T kf).2.1 (T kf).2.2.1 ∈ BIG)
    (hfin : (T kf).2.2.2 = true) (hdecl : (T kf).1 = (mN mt).cls) (hname : (mN mt).name = "<init>") (hp : parseFieldDescriptor (T kf).2.2.1 = some ty) (hnw : narrow ty v = v) (hft : fits ty v = true) (hl0 : kf < fs.length) (hd : decode (mB mt) pc = .ok (.putfield i, 3))
    (kk : RM G mt (pc + 3) lv st k (upE En h (.inr (ci, fs.set kf v))) pf lf kF EF) : RM G mt pc lv (v :: .ref (ga G h) :: st) k En pf lf kF EF := by
  intro p e Rm s m args below meth c Ct St QQ H locs cells slots ls C hn' hA X hW hS hc hs hl
  have he : (wE G k En)[h]? = some (ga G h, .inr (ci, fs)) := by rw [wE_at hh, hE]
  refine va_putF C.1 C.2.1 C.big hin ty0 hty hnm C.own C.k hW (wE_D hG hkk) hS h he hcl kf hkN (C.big _ hlk) (fun _ q => q) hfin (hn' hname) hdecl hp hnw hft hl0 hd (fun H1 locs1 q1 q2 q3 => ?_)
  rw [wE_set hh] at q1
  exact kk p e Rm s m args below meth c Ct St QQ H1 locs1 cells slots ls C hn' hA X q1 q3 hc hs hl
theorem rk_putI {i ci kf h : Nat} {x : Int32} {fs : List Value} (hG : GA G) (hkk : k ≤ 549) (hh : h < k) (hE : En h = .inr (ci, fs)) (hf : FLDI (mN mt).cls i ci kf) (hl0 : kf < fs.length) (hd : decode (mB mt) pc = .ok (.putfield i, 3))
    (kk : RM G mt (pc + 3) lv st k (upE En h (.inr (ci, fs.set kf (.int x)))) pf lf kF EF) : RM G mt pc lv (.int x :: .ref (ga G h) :: st) k En pf lf kF EF := by
  intro p e Rm s m args below meth c Ct St QQ H locs cells slots ls C hn' hA X hW hS hc hs hl
  obtain ⟨⟨Cn, T, N, ty0, e1, e2, e3, e4, e6, e5⟩, hI⟩ := hf
  obtain ⟨i1, i2⟩ := hI Cn T N e1
  have he : (wE G k En)[h]? = some (ga G h, .inr (ci, fs)) := by rw [wE_at hh, hE]
  have fin : ∀ (H1 : Heap) (locs1 : List Loc), va_P (gD G) CLX ((wE G k En).set h (ga G h, .inr (ci, fs.set kf (.int x)))) H1 → va_D (fun q => gN G ≤ q) ((wE G k En).set h (ga G h, .inr (ci, fs.set kf (.int x)))) → va_S (fun q => gN G ≤ q) s.heap H1 locs1 → W p (gL G) e Rm s m args below meth c H1 locs1 cells slots QQ (F0 m (pc + 3) ls st) := by
    intro H1 locs1 q1 q2 q3
    rw [wE_set hh] at q1
    exact kk p e Rm s m args below meth c Ct St QQ H1 locs1 cells slots ls C hn' hA X q1 q3 hc hs hl
  rcases e5 with e5 | ⟨host, e5⟩
  · exact va_put C.1 C.2.1 C.big e3 ty0 e4 e6 C.own C.k hW (wE_D hG hkk) hS h he e1 kf e2 (C.big _ e5) (fun _ q => q) i1 i2 rfl rfl hl0 hd fin
  · exact va_putN C.1 C.2.1 C.big e3 ty0 e4 e6 C.own C.k hW (wE_D hG hkk) hS h he e1 kf e2 (va_Nw.use rfl (C.env.nest _ e5)) (fun _ q => q) i1 i2 rfl rfl hl0 hd fin
theorem rk_get {i ci kf h : Nat} {v : Value} {fs : List Value} (hh : h < k) (hE : En h = .inr (ci, fs)) (hf : FLD (mN mt).cls i ci kf) (hv : fs[kf]? = some v) (hd : decode (mB mt) pc = .ok (.getfield i, 3))
    (kk : RM G mt (pc + 3) lv (v :: st) k En pf lf kF EF) : RM G mt pc lv (.ref (ga G h) :: st) k En pf lf kF EF := by
  intro p e Rm s m args below meth c Ct St QQ H locs cells slots ls C hn' hA X hW hS hc hs hl
  obtain ⟨Cn, T, N, ty0, e1, e2, e3, -, -, e5⟩ := hf
  have he : (wE G k En)[h]? = some (ga G h, .inr (ci, fs)) := by rw [wE_at hh, hE]
  have hk2 := kk p e Rm s m args below meth c Ct St QQ H locs cells slots ls C hn' hA X hW hS hc hs hl
  rcases e5 with e5 | ⟨host, e5⟩
  · exact va_get C.1 C.2.1 C.big e3 C.own C.k hW h he e1 kf e2 (C.big _ e5) (fun _ q => q) hv hd hk2
  · exact va_getN C.1 C.2.1 C.big e3 C.own C.k hW h he e1 kf e2 (va_Nw.use rfl (C.env.nest _ e5)) (fun _ q => q) hv hd hk2
theorem rk_obj {idx a : Nat} (hlk : Cond.methodLink (mN mt).cls idx Lib.objectInit ∈ BIG) (hin : Cond.instanceMethod Lib.objectInit ∈ BIG) (hcd : Cond.code Lib.objectInit ⟨#[0xb1]⟩ 1 none ∈ BIG) (hd : decode (mB mt) pc = .ok (.invokespecial idx, 3))
    (kk : RM G mt (pc + 3) lv [] k En pf lf kF EF) : RM G mt pc lv [.ref a] k En pf lf kF EF := by
  intro p e Rm s m args below meth c Ct St QQ H locs cells slots ls C hn' hA X hW hS hc hs hl
  obtain ⟨c1, c2, c3, c4⟩ := C.cel
  have hr := lv_room (m := m) (pc := pc) (ls := ls) (rest := [Value.ref a]) (st := []) (by decide)
  exact W.objInit C.1 C.2.1 C.own (C.big _ hlk) (C.big _ hin) (C.big _ hcd) rfl (hl.1.trans C.2.2.1.symm) rfl hd (by omega) (Nat.le_trans (Nat.add_le_add_right hr 12) (by omega)) (kk p e Rm s m args below meth c Ct St QQ H locs cells slots ls C hn' hA X hW hS hc hs hl)
end RKT
/-- a constructor's contract: it finds the k cells En, it leaves the kF cells EF -/
def OkN (G : SG) (mt : MT) (args : List Value) (k : Nat) (En : Nat → va_E) (kF : Nat) (EF : Nat → va_E) : Prop :=
  vx_Met (gL G) (mN mt) (wsM mt) { frames := mD mt + 8, cells := kF - k, slots := 4000 * (kF - k), locals := 40 * mD mt + 200 } (va_Pc args (fun U => (WE G k En U.heap ∧ U.heap.size = gN G + k) ∧ ARR G U ∧ va_K (gD G) CLX (tysL G) U ∧ ENV G U U.heap))
    (fun _ st o t => (o = .returned none ∧ WE G kF EF t.heap) ∧ va_F (fun q => gN G ≤ q) st t) (fun _ _ _ => False) (kF - k) (4000 * (kF - k)) (fun q => gN G ≤ q)
section RKC
variable {G : SG} {mt mk : MT} {pc pf : Nat} {lv lf : List (Nat × Value)} {st : List Value} {k kF : Nat} {En EF : Nat → va_E}
theorem rk_call {idx k1 b : Nat} {E1 : Nat → va_E} {As rest stk : List Value} (hG : GA G) (hok : OkN G mk (.ref b :: As) k En k1 E1) (hlk : Cond.methodLink (mN mt).cls idx (mN mk) ∈ BIG ∨ ∃ host, Cond.methodLinkNest (mN mt).cls idx (mN mk) host ∈ NSTW) (hini : Cond.initialized (mN mk).cls ∈ BIG)
    (hd3 : (mN mk).cls ≠ "java/lang/invoke/MethodHandle" ∧ (mN mk).cls ≠ "java/lang/invoke/VarHandle" ∧ (parseMethodDescriptor (mN mk).desc).map (fun d => d.parameters.length) = some As.length) (hcd : Cond.code (mN mk) (mB mk) (mL mk) (mR mk) ∈ BIG) (hin : Cond.instanceMethod (mN mk) ∈ BIG) (hname : (mN mk).name = "<init>") (hret : mR mk = none)
    (hd : decode (mB mt) pc = .ok (.invokespecial idx, 3)) (hdep : mD mk + 1 ≤ mD mt) (hml : mL mk ≤ 21) (hstk : stk = As.reverse ++ .ref b :: rest) (hcat : (rest.map fun v => v.category).sum ≤ 8) (hk0 : k ≤ k1) (hk1 : k1 ≤ kF) (hF : kF ≤ 549)
    (kk : RM G mt (pc + 3) lv rest k1 E1 pf lf kF EF) : RM G mt pc lv stk k En pf lf kF EF := by
  intro p e Rm s m args below meth c Ct St QQ H locs cells slots ls C hn' hA X hW hS hc hs hl T0 hT0 X0
  have hz := rm_size hG (by omega) C hW hS hc.1 hT0 X0
  obtain ⟨c1, c2, c3, c4⟩ := C.cel
  have hpre : PreS s H (va_Pc (.ref b :: As) (fun U => (WE G k En U.heap ∧ U.heap.size = gN G + k) ∧ ARR G U ∧ va_K (gD G) CLX (tysL G) U ∧ ENV G U U.heap)) (.ref b :: As) := by
    refine ⟨fun a U g mk' h => ⟨h.1, h.2.1, ARR.moved (u := U) (U := U.calling g mk' a) (State.WarmedH.refl U).alike h.2.2.1, va_K.moved (u := U) (U := U.calling g mk' a) (State.WarmedH.refl U).alike h.2.2.2.1, ENV.warm (u := U) (U := U.calling g mk' a) (State.WarmedH.refl U) h.2.2.2.2⟩, fun U hU hWm => ⟨rfl, by rw [hU]; exact ⟨hW, hz⟩, ARR.moved hWm.alike hA, va_K.moved hWm.alike C.k, by rw [hU]; exact (C.env.warm hWm).kept hS.1 hS.2.1⟩⟩
  have hroom : mD mk + 8 + 1 ≤ Rm.frames ∧ 8 + (mL mk + 11) + (40 * mD mk + 200) ≤ Rm.locals := by
    constructor <;> omega
  have hf : cells + (k1 - k) ≤ Rm.cells ∧ slots + 4000 * (k1 - k) ≤ Rm.slots := by
    constructor <;> omega
  have hcd' : Cond.code (mN mk) (mB mk) (mL mk) none ∈ BIG := by
    rw [← hret]
    exact hcd
  have hgood : GoodIn BIG (wsM mk) := ws_good hcd
  have hwe : wsM mk = Cond.code (mN mk) (mB mk) (mL mk) none :: BIG := by
    unfold wsM
    rw [hret]
  have hrun : vx_Run p (gL G) e Rm s m args below meth c H locs cells slots (k1 - k) (4000 * (k1 - k)) (F0 m pc ls stk) rest (fun st o t => (o = .returned none ∧ WE G k1 E1 t.heap) ∧ va_F (fun q => gN G ≤ q) st t) (fun _ _ _ => False) (fun q => gN G ≤ q) := by
    rcases hlk with hlk | ⟨host, hlk⟩
    · exact vx_runI (As := As) (rest := rest) ⟨C.1, C.2.1, C.2.2.1, C.own, C.big⟩ hok ⟨callB_of As.length C.big hgood hwe rfl rfl (C.big _ hini) (C.big _ hlk) hd3 hroom, hname, C.big _ hin⟩ hpre rfl rfl hl.1 hstk (lv_room hcat) hd hf
    · exact vx_runIN (As := As) (rest := rest) (host := host) ⟨C.1, C.2.1, C.2.2.1, C.own, C.big⟩ hok ⟨va_cnB As.length C.big hgood hwe rfl rfl (C.env.nest _ hlk) (C.big _ hini) hd3 hroom, hname, C.big _ hin⟩ hpre rfl rfl hl.1 hstk (lv_room hcat) hd hf
  rcases hrun T0 hT0 X0 with ⟨v, st₀, u, T', L, h0, X', hL, e1, e2, ⟨⟨hv, hw⟩, hFr⟩, stp⟩ | ⟨q, st₀, u, T', L, En', ce, h0, X', hL, e1, e2, hx, -⟩
  · cases hv
    obtain ⟨-, -, k3⟩ := vx_keep h0 e1 hS (fun _ _ h => h) (fun _ h => h) hL hFr
    rw [← e1] at hw
    obtain ⟨t2, a1, b1⟩ := kk p e Rm s m args below meth c Ct St QQ T'.heap (locs ++ L) (cells + (k1 - k)) (slots + 4000 * (k1 - k)) ls C hn' hA X hw k3 (by omega) (by omega) hl T' rfl X'
    exact ⟨t2, stp t2 a1, b1⟩
  · exact hx.elim
/-- a constructor's contract out of its body -/
theorem okN_in {args : List Value} {mc ms : Nat} (hfl : (gL G).stackTraces = false) (hH : mH mt = []) (hkk : k ≤ kF) {p : Program} {e : Env} {s : State} {m : MethodId} {args' : Array Value} {below : List Frame} {meth : Method} {c : Code} {s₁ : State} (B : BodyLoose p (gL G) (mN mt) (headSpec (wsM mt) { frames := mD mt + 8, cells := kF - k, slots := 4000 * (kF - k), locals := 40 * mD mt + 200 }) (mB mt) (mL mt) (mR mt) e s m args' below meth c s₁) (hml : c.maxLocals = mL mt) (htab : ∀ x ∈ c.exceptionTable.toList, False)
    (hK : va_K (gD G) CLX (tysL G) s) (hE : ENV G s s.heap) : CX G mt p (headSpec (wsM mt) { frames := mD mt + 8, cells := kF - k, slots := 4000 * (kF - k), locals := 40 * mD mt + 200 }).room s m args' c (kF - k) (4000 * (kF - k)) ∧ ((mN mt).name = "<init>" → meth.name = "<init>") := by
  have hts := atoms_spec (ws := wsM mt) B.pre
  have htl : c.exceptionTable.toList = [] := by
    cases hq : c.exceptionTable.toList with
    | nil => rfl
    | cons a l => exact (htab a (by rw [hq]; exact List.mem_cons_self)).elim
  refine ⟨⟨B.exec, B.bytes, hml, findClass_of_methodNamed B.named, fun w hw => hts w (List.mem_cons_of_mem _ hw), hK, hE, Nat.le_refl _, Nat.le_refl _, Nat.le_refl _, Nat.le_refl _, hfl, by rw [htl, hH]; rfl⟩, fun h => ?_⟩
  rw [← h]
  exact (name_of_methodNamed B.named B.method).1
theorem okN_of {args : List Value} (hfl : (gL G).stackTraces = false) (hH : mH mt = []) (hy : plainName (mN mt).cls = true) (hL : (lg_sl args).length ≤ mL mt) (hret : mR mt = none) (hkk : k ≤ kF) (hdec : decode (mB mt) pf = .ok (.return_, 1)) (h : RM G mt 0 (lv_args 0 args) [] k En pf [] kF EF) : OkN G mt args k En kF EF := by
  refine vx_ofW (cc := mB mt) (maxL := mL mt) (ret := mR mt) hy rfl ?_
  intro p e s m args' below meth c s₁ B hml htab hP
  obtain ⟨rfl, ⟨hWE, hsz⟩, hA, hK, hE⟩ := hP
  obtain ⟨hcx, hn⟩ := okN_in (k := k) (kF := kF) (args := args) (mc := 0) (ms := 0) hfl hH hkk B hml htab hK hE
  rw [lg_entry_eq]
  have hl := lv_entry args (n := mL mt) hL
  generalize (lg_sl args ++ List.replicate (mL mt - (lg_sl args).length) Slot.unset).toArray = ls at hl ⊢
  refine h p e _ s m args.toArray below meth c (kF - k) (4000 * (kF - k)) _ s.heap [] 0 0 ls hcx hn hA ?_ hWE va_S.rf (by omega) (by omega) hl
  intro H locs cells slots ls hW hS hc hs hs' hl
  refine W.widen (k := kF - k) (n := 4000 * (kF - k)) hs hs' ?_
  apply vx_ret
  exact W.vret B.exec B.bytes (B.returns.trans hret) (fun t' ht _ => ⟨⟨rfl, by rw [ht]; exact hW⟩, hS.F ht⟩) hS.2.2 hdec B.notSynchronized
/-- the same, where the last rows need the cells as they lie behind all rows -/
theorem okN_ofR {args : List Value} {μ0 μ1 : Mem} (hG : GA G) (hg : gh G = 549) (hfl : (gL G).stackTraces = false) (hH : mH mt = []) (hy : plainName (mN mt).cls = true) (hL : (lg_sl args).length ≤ mL mt) (hret : mR mt = none) (hkk : k ≤ kF) (hF : kF ≤ 549) (h : RM G mt 0 (lv_args 0 args) [] k En pf lf kF (ent G μ0)) (h2 : R (gK G kF) mt pf lf [] μ0 0 (fun v ν => v = none ∧ ν = μ1) noX) : OkN G mt args k En kF (ent G μ1) := by
  refine vx_ofW (cc := mB mt) (maxL := mL mt) (ret := mR mt) hy rfl ?_
  intro p e s m args' below meth c s₁ B hml htab hP
  obtain ⟨rfl, ⟨hWE, hsz⟩, hA, hK, hE⟩ := hP
  obtain ⟨hcx, hn⟩ := okN_in (k := k) (kF := kF) (args := args) (mc := 0) (ms := 0) hfl hH hkk B hml htab hK hE
  rw [lg_entry_eq]
  have hl := lv_entry args (n := mL mt) hL
  generalize (lg_sl args ++ List.replicate (mL mt - (lg_sl args).length) Slot.unset).toArray = ls at hl ⊢
  refine h p e _ s m args.toArray below meth c (kF - k) (4000 * (kF - k)) _ s.heap [] 0 0 ls hcx hn hA ?_ hWE va_S.rf (by omega) (by omega) hl
  intro H locs cells slots ls hW hS hc hs hs' hl
  refine h2 p e _ s m args.toArray below meth c (kF - k) (4000 * (kF - k)) _ H locs cells slots ls (CX.sub hg hF hcx) ?_ (fun _ _ _ _ _ _ _ _ _ _ _ _ _ _ _ q => False.elim q) (hW.toR hG hF) hS (by omega) (by omega) hl
  intro v μ' H1 locs1 cells1 slots1 pc1 ls1 q1 q2 q3 q4 q5 q6
  obtain ⟨rfl, rfl⟩ := q5
  refine W.widen (k := kF - k) (n := 4000 * (kF - k)) q3 q4 ?_
  apply vx_ret
  exact W.vret B.exec B.bytes (B.returns.trans hret) (fun t' ht _ => ⟨⟨rfl, by rw [ht]; exact q1.1⟩, q2.F ht⟩) q2.2.2 q6.2 B.notSynchronized
end RKC
