/-! THE START: a row of rows -/
def mr0 (h0 i : Nat) : Nat → Value := fun j => if j < i then .ref (h0 + 1 + j) else .null
/-- behind i of the rows -/
def mrS (T : State) (cA cI : ClassId) (N M : Nat) (i : Nat) : State := match i with
  | 0 => T.pushCell (arrV cA N (fun _ => .null))
  | i + 1 => ((mrS T cA cI N M i).pushCell (arrV cI M (fun _ => .int 0))).setCell T.heap.size (arrV cA N (mr0 T.heap.size (i + 1)))
theorem mr_up (h0 i : Nat) : updV (mr0 h0 i) i (.ref (h0 + 1 + i)) = mr0 h0 (i + 1) := by
  funext j
  unfold updV mr0
  by_cases h : j = i
  · subst h
    simp
  · by_cases h2 : j < i
    · simp [h, h2, Nat.lt_succ_of_lt h2]
    · have h3 : ¬ j < i + 1 := by omega
      simp [h, h2, h3]
theorem mr_facts (T : State) (cA cI : ClassId) (N M : Nat) : ∀ i, (mrS T cA cI N M i).heap.size = T.heap.size + 1 + i ∧ (mrS T cA cI N M i).heap[T.heap.size]? = some (arrV cA N (mr0 T.heap.size i)) ∧ (mrS T cA cI N M i).vm = T.vm ∧ (mrS T cA cI N M i).slotsUsed = T.slotsUsed + N + i * M ∧
    (∀ q : Nat, q < T.heap.size → (mrS T cA cI N M i).heap[q]? = T.heap[q]?) ∧ ∀ j, j < i → (mrS T cA cI N M i).heap[T.heap.size + 1 + j]? = some (arrV cI M (fun _ => .int 0)) := by
  intro i
  induction i with
  | zero =>
    have e0 : mr0 T.heap.size 0 = fun _ => Value.null := by
      funext j
      unfold mr0
      rw [if_neg (Nat.not_lt_zero _)]
    refine ⟨size_pushCell _ _, ?_, rfl, ?_, fun q hq => State.heap_pushCell_of_lt _ _ hq, fun j hj => absurd hj (Nat.not_lt_zero _)⟩
    · rw [e0]
      exact State.heap_pushCell_size _ _
    · show T.slotsUsed + (arrV cA N (fun _ => Value.null)).slots.size = _
      rw [arrV_size]
      omega
  | succ i ih =>
    obtain ⟨a, b, c, d, e, f⟩ := ih
    have l0 : T.heap.size < (mrS T cA cI N M i).heap.size := by omega
    refine ⟨?_, ?_, c, ?_, fun q hq => ?_, fun j hj => ?_⟩
    · show (((mrS T cA cI N M i).pushCell _).setCell _ _).heap.size = _
      rw [size_setCell, size_pushCell, a]
      omega
    · show (((mrS T cA cI N M i).pushCell _).setCell _ _).heap[T.heap.size]? = _
      exact heapAt_setCell_self (s := (mrS T cA cI N M i).pushCell (arrV cI M (fun _ => .int 0))) _ (show T.heap.size < ((mrS T cA cI N M i).pushCell (arrV cI M (fun _ => .int 0))).heap.size by rw [size_pushCell]; omega)
    · show (mrS T cA cI N M i).slotsUsed + (arrV cI M (fun _ => Value.int 0)).slots.size = _
      rw [arrV_size, d, Nat.succ_mul]
      omega
    · show (((mrS T cA cI N M i).pushCell _).setCell _ _).heap[q]? = _
      rw [heapAt_setCell_ne _ (Ne.symm (Nat.ne_of_lt hq)), State.heap_pushCell_of_lt (h := (show q < (mrS T cA cI N M i).heap.size by omega))]
      exact e q hq
    · show (((mrS T cA cI N M i).pushCell _).setCell _ _).heap[T.heap.size + 1 + j]? = _
      rw [heapAt_setCell_ne _ (show T.heap.size ≠ T.heap.size + 1 + j by omega)]
      by_cases hji : j < i
      · rw [State.heap_pushCell_of_lt (h := (show T.heap.size + 1 + j < (mrS T cA cI N M i).heap.size by omega))]
        exact f j hji
      · rw [show T.heap.size + 1 + j = (mrS T cA cI N M i).heap.size by omega]
        exact State.heap_pushCell_size _ _
theorem mr_top (T : State) (f : JFrame) (cA cI : ClassId) (N M : Nat) : ∀ i, mrS (T.setTop f) cA cI N M i = (mrS T cA cI N M i).setTop f := by
  intro i
  induction i with
  | zero => rfl
  | succ i ih =>
    show ((mrS (T.setTop f) cA cI N M i).pushCell _).setCell (T.setTop f).heap.size _ = _
    rw [ih]
    simp only [State.heap_setTop, State.pushCell_setTop, State.setCell_setTop]
    rfl
theorem mr_stand {p : Program} {l : Launch} {e : Env} {R : Room} {s : State} {m : MethodId} {args : Array Value} {below : List Frame} {meth : Method} {c : Code} {T : State} {locs : List Loc} {cells slots : Nat} (X : Stand p l e R s m args below meth c T locs cells slots) (cA cI : ClassId) (N M : Nat) :
    ∀ i, ∃ L : List Loc, (∀ q ∈ L, q.base = T.heap.size) ∧ Stand p l e R s m args below meth c (mrS T cA cI N M i) (locs ++ L) (cells + 1 + i) (slots + N + i * M) := by
  intro i
  induction i with
  | zero =>
    refine ⟨[], fun _ h => (by cases h), ?_⟩
    have h := X.pushed (arrV cA N (fun _ => .null))
    rw [arrV_size] at h
    simpa [mrS] using h
  | succ i ih =>
    obtain ⟨L, hL, Xi⟩ := ih
    obtain ⟨a, b, -, -, -, -⟩ := mr_facts T cA cI N M i
    have hc : ((mrS T cA cI N M i).pushCell (arrV cI M (fun _ => .int 0))).heap[T.heap.size]? = some (arrV cA N (mr0 T.heap.size i)) := by
      rw [State.heap_pushCell_of_lt (h := (show T.heap.size < (mrS T cA cI N M i).heap.size by omega))]
      exact b
    have h := (Xi.pushed (arrV cI M (fun _ => .int 0))).stored hc i (.ref (T.heap.size + 1 + i))
    rw [arrV_size, arrV_store, mr_up] at h
    refine ⟨L ++ [⟨T.heap.size, i⟩], fun q hq => ?_, ?_⟩
    · rcases List.mem_append.mp hq with hq | hq
      · exact hL q hq
      · rw [List.mem_singleton.mp hq]
    · rw [← List.append_assoc, show cells + 1 + (i + 1) = cells + 1 + i + 1 by omega, show slots + N + (i + 1) * M = slots + N + i * M + M by rw [Nat.succ_mul]; omega]
      exact h
section MRW
variable {E : CtlPost} {e : Env} {d : Bool} {acts : List Action} {s : State}
theorem mr_new {c comp : ClassId} {k : Class} {type : FieldType} {len : Nat} {init : Value} (hk : s.vm.classes[c]? = some k) (hkind : k.kind = .array comp type) (hlimit : ¬ len > e.platform.arrayLengthLimit) (hheap : ¬ len * componentBytes type > e.platform.maxHeapBytes) (hfit : fits type init = true) (hdef : init.isDefault = true) {Q : Addr → Pre}
    (h1 : s.heap.size < e.platform.maxCells) (h2 : s.slotsUsed + len ≤ e.platform.maxSlots) (hq : Q s.heap.size d acts (s.pushCell (arrV c len (fun _ => init)))) : wp (Jvm.newArray c len init) Q E e d acts s := by
  have hf : ∀ i v, (Array.replicate len init)[i]? = some v → s.fitsSlot c .none i v = true := by
    intro i v hv
    rw [Array.getElem?_replicate] at hv
    split at hv
    · cases hv
      simp [State.fitsSlot, State.slotType?, hk, hkind, hfit]
    · cases hv
  have ha : allocActs (Array.replicate len init) s.heap.size acts = acts := by
    have h : ((Array.replicate len init).all (·.isDefault)) = true := by
      rw [Array.all_replicate]
      split <;> simp [hdef]
    unfold allocActs
    rw [if_pos h]
  rw [← arrV_new] at hq
  simp only [Jvm.newArray, Jvm.arrayFits, wp_bind', _root_.Jvm.W.ask, _root_.Jvm.W.ite, hlimit, if_false, wp_pure', _root_.Jvm.W.theClass, hk, hkind, hheap, _root_.Jvm.W.alloc, _root_.Jvm.W.stop, Option.some.injEq, exists_eq_left', Array.size_replicate, ha]
  rw [if_neg (by omega)]
  exact ⟨h1, h2, hf, hq⟩
theorem mr_in {cI cc : ClassId} {kI : Class} {m : Int32} (hkc : s.vm.classes[cI]? = some kI) (hkind : kI.kind = .array cc .int) (hm : ¬ m < 0) (hl : ¬ m.toNatClampNeg > e.platform.arrayLengthLimit) (hh : ¬ m.toNatClampNeg * componentBytes .int > e.platform.maxHeapBytes)
    (h1 : s.heap.size < e.platform.maxCells) (h2 : s.slotsUsed + m.toNatClampNeg ≤ e.platform.maxSlots) {Q : Addr → Pre} (hq : Q s.heap.size d acts (s.pushCell (arrV cI m.toNatClampNeg (fun _ => .int 0)))) : wp (multianewarray.make cI [m]) Q E e d acts s := by
  rw [multianewarray.make]
  simp only [wp_bind', _root_.Jvm.W.ite, hm, if_false, wp_pure', _root_.Jvm.W.theClass, hkc, hkind, Option.some.injEq, exists_eq_left']
  exact mr_new hkc hkind hl hh rfl rfl h1 h2 hq
theorem mr_out {cA cI cc : ClassId} {kA kI : Class} {n m : Int32} (hk : s.vm.classes[cA]? = some kA) (hkind : kA.kind = .array cI (.array .int)) (hkc : s.vm.classes[cI]? = some kI) (hkindc : kI.kind = .array cc .int) (hn : ¬ n < 0) (hm : ¬ m < 0)
    (hl1 : ¬ n.toNatClampNeg > e.platform.arrayLengthLimit) (hh1 : ¬ n.toNatClampNeg * componentBytes (.array .int) > e.platform.maxHeapBytes) (hl2 : ¬ m.toNatClampNeg > e.platform.arrayLengthLimit) (hh2 : ¬ m.toNatClampNeg * componentBytes .int > e.platform.maxHeapBytes)
    (hc : s.heap.size + 1 + n.toNatClampNeg ≤ e.platform.maxCells) (hs : s.slotsUsed + n.toNatClampNeg + n.toNatClampNeg * m.toNatClampNeg ≤ e.platform.maxSlots)
    {Q : Addr → Pre} (hq : ∀ d' acts', Q s.heap.size d' acts' (mrS s cA cI n.toNatClampNeg m.toNatClampNeg n.toNatClampNeg)) : wp (multianewarray.make cA [n, m]) Q E e d acts s := by
  have hfind : ([m].find? (· < 0)) = none := by simp [hm]
  generalize hN : n.toNatClampNeg = N at *
  generalize hM : m.toNatClampNeg = M at *
  rw [multianewarray.make]
  simp only [wp_bind', _root_.Jvm.W.ite, hn, if_false, wp_pure', _root_.Jvm.W.theClass, hk, hkind, Option.some.injEq, exists_eq_left', hN]
  have hmul : ∀ i, i < N → i * M + M ≤ N * M := fun i hi => by
    have := Nat.mul_le_mul_right M (show i + 1 ≤ N from hi)
    rw [Nat.succ_mul] at this
    exact this
  refine mr_new hk hkind hl1 hh1 rfl rfl (by omega) (by omega) ?_
  simp only [hfind]
  rw [ite_self, wp_bind', Std.Legacy.Range.forIn_eq_forIn_range']
  have hsz : ([:N] : Std.Legacy.Range).size = N := by simp [Std.Legacy.Range.size]
  rw [hsz]
  show wp (forIn (List.range' 0 N 1) PUnit.unit _) _ E e d acts _
  refine wp_forIn_inv (fun rest s' => ∃ i, i ≤ N ∧ rest = List.range' i (N - i) ∧ s' = mrS s cA cI N M i) _ _ ⟨0, Nat.zero_le _, rfl, rfl⟩ ?_ ?_
  · rintro x rest s' d' acts' Q' ⟨i, hi, hl, rfl⟩ hnext
    have hlt : i < N := by
      rcases Nat.lt_or_ge i N with h | h
      · exact h
      · rw [show N - i = 0 by omega] at hl
        cases hl
    have hl' : x :: rest = i :: List.range' (i + 1) (N - (i + 1)) := by
      rw [hl, show N - i = (N - (i + 1)) + 1 by omega, List.range'_succ]
    cases hl'
    obtain ⟨f1, f2, f3, f4, f5, f6⟩ := mr_facts s cA cI N M x
    have := hmul x hlt
    simp only [wp_bind']
    refine mr_in (by rw [f3]; exact hkc) hkindc hm (by rw [hM]; exact hl2) (by rw [hM]; exact hh2) (by rw [f1]; omega) (by rw [f4, hM]; omega) ?_
    rw [hM]
    simp only [wp_bind', _root_.Jvm.W.writeLoc, wp_pure']
    refine ⟨arrV cA N (mr0 s.heap.size x), by rw [State.heap_pushCell_of_lt (h := (show s.heap.size < (mrS s cA cI N M x).heap.size by omega))]; exact f2, by simp [arrV], by rw [arrV_size]; exact hlt, ?_, hnext _ _ _ ⟨x + 1, hlt, rfl, ?_⟩⟩
    · simp [arrV, State.fitsSlot, State.slotType?, f3, hk, hkind, fits]
    · rw [arrV_store, f1, mr_up]
      rfl
  · rintro s' d' acts' ⟨i, hi, hl, rfl⟩
    have hiN : i = N := by
      rcases Nat.lt_or_ge i N with h | h
      · rw [show N - i = (N - (i + 1)) + 1 by omega, List.range'_succ] at hl
        cases hl
      · omega
    subst hiN
    simp only [wp_pure']
    exact hq _ _
end MRW
/-- 'new int[n][k]' -/
theorem mr_go {p : Program} {l : Launch} {e : Env} {R : Room} {s : State} {m : MethodId} {args : Array Value} {below : List Frame} {meth : Method} {c : Code} {H : Heap} {locs : List Loc} {cells slots : Nat} {Q : State → Prop} {cc : ByteArray} {pc index : Nat} {ls : Array Slot} {rest : List Value} {n k : Int32} {N M : Nat} {own : String} {cA cI : ClassId} {kA : Class} (hx : p.tables.exec = Jvm.exec) (hb : c.code = cc) (hown : s.vm.findClass own = some m.cls) (hlk : (Cond.classLink own index "[[I").before args s = true) (hcA : s.vm.findClass "[[I" = some cA) (hkA : s.vm.classes[cA]? = some kA) (hkind : kA.kind = .array cI (.array .int))
    (hcI : s.vm.findClass "[I" = some cI) (harr : (Cond.arrayClass .int).before args s = true) (hd : decode cc pc = .ok (.multianewarray index 2, 4)) (hn : ¬ n < 0) (hk : ¬ k < 0) (hN : n.toNatClampNeg = N) (hM : k.toNatClampNeg = M) (hbN : N ≤ 4000) (hbM : M ≤ 4000) (hcells : cells + (1 + N) ≤ R.cells) (hslots : slots + (N + N * M) ≤ R.slots)
    (kk : ∀ (H1 : Heap) (L : List Loc), (∀ q ∈ L, q.base = H.size) → H1[H.size]? = some (arrV cA N (mr0 H.size N)) → (∀ q : Nat, q < H.size → H1[q]? = H[q]?) → (∀ j, j < N → H1[H.size + 1 + j]? = some (arrV cI M (fun _ => .int 0))) → H1.size = H.size + 1 + N →
      W p l e R s m args below meth c H1 (locs ++ L) (cells + 1 + N) (slots + N + N * M) Q (F0 m (pc + 4) ls (.ref H.size :: rest))) : W p l e R s m args below meth c H locs cells slots Q (F0 m pc ls (.int k :: .int n :: rest)) := by
  intro T hT X
  subst hT
  subst hb
  have hpl : e.platform.magicAccessors = ({} : Platform).magicAccessors := by rw [X.admits.platform]
  obtain ⟨cI', kI, comp, hI1, hI2, hI3⟩ := Cond.arrayClass_spec harr
  have eI : cI' = cI := Option.some.inj (hI1.symm.trans hcI)
  subst eI
  obtain ⟨c0, hf0, hcl⟩ := Cond.classLink_spec hown hlk e.platform hpl
  have e0 : c0 = cA := Option.some.inj (hf0.symm.trans hcA)
  subst e0
  obtain ⟨hg₁, hwarm₁, hready₁⟩ := State.classEntry (e := e) X.warmed hcl
  generalize T.vm.noted m.cls index (.cls c0) = vm₁ at hg₁ hwarm₁ hready₁
  obtain ⟨kA₁, hkA₁, heA⟩ := hwarm₁.alike.2.2 _ _ hkA
  obtain ⟨kI₁, hkI₁, heI⟩ := hwarm₁.alike.2.2 _ _ hI2
  have hkindA₁ : kA₁.kind = .array cI' (.array .int) := by rw [heA]; exact hkind
  have hkindI₁ : kI₁.kind = .array comp .int := by rw [heI]; exact hI3
  have X₁ := X.noted hwarm₁
  obtain ⟨hr1, hr2⟩ := X.roomAbove hcells hslots
  obtain ⟨L, hL, XF⟩ := mr_stand X₁ c0 cI' N M N
  obtain ⟨f1, f2, f3, f4, f5, f6⟩ := mr_facts (T.setVm vm₁) c0 cI' N M N
  obtain ⟨t, a1, b1⟩ := kk (mrS (T.setVm vm₁) c0 cI' N M N).heap L hL f2 f5 f6 f1 _ rfl XF
  refine ⟨t, ?_, b1⟩
  have b4 : componentBytes (.array .int) = 4 := rfl
  have b5 : componentBytes .int = 4 := rfl
  have hl1 : ¬ n.toNatClampNeg > e.platform.arrayLengthLimit := by rw [Launch.admits_arrayLengthLimit X.admits, hN]; omega
  have hh1 : ¬ n.toNatClampNeg * componentBytes (.array .int) > e.platform.maxHeapBytes := by rw [Launch.admits_maxHeapBytes X.admits, hN, b4]; omega
  have hl2 : ¬ k.toNatClampNeg > e.platform.arrayLengthLimit := by rw [Launch.admits_arrayLengthLimit X.admits, hM]; omega
  have hh2 : ¬ k.toNatClampNeg * componentBytes .int > e.platform.maxHeapBytes := by rw [Launch.admits_maxHeapBytes X.admits, hM, b5]; omega
  have hmeth : (T.setTop (F0 m pc ls (.int k :: .int n :: rest))).method? = some m := State.method?_setTop (F0 m pc ls (.int k :: .int n :: rest)) X.here.top
  jvm_step X.here [hx, hd]
  simp only [multianewarray.sem, wp_bind', _root_.Jvm.W.resolveClassAt_links hmeth hg₁]
  rw [_root_.Jvm.W.popN, if_neg (by decide)]
  refine ⟨F0 m pc ls (.int k :: .int n :: rest), State.topJava?_setTop' (s := T.setVm vm₁) _ X.here.top, [.int n, .int k], rest, rfl, rfl, ?_⟩
  simp only [List.mapM_cons, List.mapM_nil, wp_bind', wp_pure']
  refine mr_out (kA := kA₁) (kI := kI₁) (cI := cI') (cc := comp) hkA₁ hkindA₁ hkI₁ hkindI₁ hn hk hl1 hh1 hl2 hh2 (by rw [hN]; show T.heap.size + 1 + N ≤ _; omega) (by rw [hN, hM]; show T.slotsUsed + N + N * M ≤ _; omega) (fun d' acts' => ?_)
  rw [hN, hM]
  have eS : ((T.setTop (F0 m pc ls (.int k :: .int n :: rest))).setVm vm₁).setTop { F0 m pc ls (.int k :: .int n :: rest) with stack := rest } = (T.setVm vm₁).setTop { F0 m pc ls (.int k :: .int n :: rest) with stack := rest } := by
    show ((T.setVm vm₁).setTop _).setTop _ = _
    rw [State.setTop_setTop]
  rw [eS, mr_top]
  simp only [wp_bind', _root_.Jvm.W.mark, _root_.Jvm.W.pushRef, State.topJava?_setTop' _ XF.here.top, Option.some.injEq, exists_eq_left', State.setTop_setTop, State.heap_setTop]
  intro acts
  simp [jvm, XF.here.top]
  exact a1
section MRR
variable {G : SG} {mt : MT} {pc pf : Nat} {lv lf : List (Nat × Value)} {st : List Value} {k kF : Nat} {En EF : Nat → va_E}
/-- the cells of a row of rows -/
def upM (G : SG) (En : Nat → va_E) (k N M : Nat) : Nat → va_E := fun x => if x = k then .inl (gA G k, N, .inr (.inr (.inr (.inr (fun i => if i < N then some (ga G (k + 1 + i)) else none))))) else if k < x ∧ x ≤ k + N then .inl (gA G x, M, .inl (fun _ => 0)) else En x
theorem rk_multi {n m' : Int32} {N M i : Nat} (hG : GA G) (hg : gh G = 549) (hs0 : shp k = (2, N, k + 1)) (hs1 : ∀ j, j < N → shp (k + 1 + j) = (1, M, 0)) (e66 : gA G k = gA G 66) (e58 : ∀ j, j < N → gA G (k + 1 + j) = gA G 58) (hlk : Cond.classLink (mN mt).cls i "[[I" ∈ BIG) (hw : Cond.arrayClass .int ∈ BIG)
    (hd : decode (mB mt) pc = .ok (.multianewarray i 2, 4)) (hn : ¬ n < 0) (hm : ¬ m' < 0) (hN : n.toNatClampNeg = N) (hM : m'.toNatClampNeg = M) (hbN : N ≤ 160) (hbM : M ≤ 3000) (hkF : k + 1 + N ≤ kF) (hF : kF ≤ 549)
    (h : RM G mt (pc + 4) lv (.ref (ga G k) :: st) (k + 1 + N) (upM G En k N M) pf lf kF EF) : RM G mt pc lv (.int m' :: .int n :: st) k En pf lf kF EF := by
  intro p e Rm s m args below meth c Ct St QQ H locs cells slots ls C hn' hA X hW hS hc hs hl T0 hT0 X0
  have hz := rm_size hG (by omega) C hW hS hc.1 hT0 X0
  obtain ⟨c1, c2, -, -⟩ := C.cel
  have eg : ∀ j, j ≤ N → ga G (k + j) = gN G + k + j := fun j hj => by rw [hG (k + j) (by omega)]; omega
  have eg0 := eg 0 (by omega)
  obtain ⟨t0, ht0⟩ := ty_at (G := G) (h := k) (by omega) (q := (gA G k, .array .int)) (by unfold tyE; rw [hs0]; rfl)
  have hcA : s.vm.findClass "[[I" = some (gA G k) := (C.k.2 t0 _ ht0).2
  obtain ⟨t1, ht1⟩ := ty_at (G := G) (h := 58) (by omega) (q := (gA G 58, .int)) (by unfold tyE; rw [show shp 58 = (1, 600, 0) by decide +kernel]; rfl)
  have hcI : s.vm.findClass "[I" = some (gA G 58) := (C.k.2 t1 _ ht1).2
  obtain ⟨kA, hkA, hkind⟩ := hA
  rw [← e66] at hkA
  have hNM : N * M ≤ N * 3000 := Nat.mul_le_mul_left _ hbM
  refine mr_go C.1 C.2.1 C.own (C.big _ hlk) hcA hkA hkind hcI (C.big _ hw) hd hn hm hN hM (by omega) (by omega) (by omega) (by omega) (fun H1 L hL q1 q2 q3 q4 => ?_) T0 hT0 X0
  rw [hz] at hL q1 q2 q3 q4 ⊢
  rw [show ga G k = gN G + k from eg0] at h
  have hW1 : WE G (k + 1 + N) (upM G En k N M) H1 := by
    intro j q hq
    have hj : j < k + 1 + N := by
      have := (List.getElem?_eq_some_iff.mp hq).1
      rw [wE_len] at this
      exact this
    rw [wE_at hj] at hq
    cases hq
    unfold upM
    by_cases y : j = k
    · subst y
      rw [if_pos rfl]
      show H1[ga G j]? = some (vp_cell _ _)
      rw [vp_cell_q, show ga G j = gN G + j from eg0, q1]
      refine congrArg some (congrArg (arrV _ _) ?_)
      funext i
      unfold mr0
      by_cases hi : i < N
      · rw [if_pos hi, if_pos hi]
        show Value.ref _ = Value.ref _
        rw [show j + 1 + i = j + (1 + i) by omega, eg (1 + i) (by omega)]
        refine congrArg Value.ref ?_
        rw [← Nat.add_assoc]
      · rw [if_neg hi, if_neg hi]
        rfl
    · rw [if_neg y]
      by_cases y2 : k < j ∧ j ≤ k + N
      · rw [if_pos y2]
        show H1[ga G j]? = some (vp_cell _ _)
        have ej : j = k + 1 + (j - (k + 1)) := by omega
        rw [vp_cell_i, ej, e58 _ (by omega), show k + 1 + (j - (k + 1)) = k + (1 + (j - (k + 1))) by omega, eg _ (by omega), show gN G + k + (1 + (j - (k + 1))) = gN G + k + 1 + (j - (k + 1)) by omega, q3 _ (by omega)]
      · rw [if_neg y2]
        have hjk : j < k := by omega
        refine (hW j (ga G j, En j) (wE_at hjk)).kept (q2 _ ?_)
        show ga G j < _
        rw [hG j (by omega)]
        omega
  have hS1 : va_S (fun q => gN G ≤ q) s.heap H1 (locs ++ L) := by
    obtain ⟨z1, z2, z3⟩ := vaS_push (G := G) hS (H1 := H1) (by omega) (fun q hq => q2 q (by rw [← hz]; exact hq))
    refine ⟨z1, z2, fun q hq => ?_⟩
    rcases List.mem_append.mp hq with hq | hq
    · exact z3 q hq
    · show gN G ≤ q.base
      rw [hL q hq]
      omega
  exact h p e Rm s m args below meth c Ct St QQ H1 (locs ++ L) (cells + 1 + N) (slots + N + N * M) ls C hn' ⟨kA, by rw [← e66]; exact hkA, hkind⟩ X hW1 hS1 (by omega) (by omega) hl
end MRR
