/-! THE LIGHT JUDGEMENT: R says of a method's point (pc, locals, stack, ints of the shape's cells) that the machine goes on to an end that Q (a return) or X (a throw) allows -/
abbrev Mem : Type := Nat → Nat → Int32
/-- launch; classes' and fields' places; addresses of the handles; array classes; first address of ours; the script's address, length, ints; how many handles are there -/
abbrev SG : Type := Launch × va_G × (Nat → Nat) × (Nat → ClassId) × Nat × Nat × Nat × (Nat → Int32) × Nat
def gL (G : SG) : Launch := G.1
def gD (G : SG) : va_G := G.2.1
def ga (G : SG) : Nat → Nat := G.2.2.1
def gA (G : SG) : Nat → ClassId := G.2.2.2.1
def gN (G : SG) : Nat := G.2.2.2.2.1
def gb (G : SG) : Nat := G.2.2.2.2.2.1
def gs (G : SG) : Nat := G.2.2.2.2.2.2.1
def gx (G : SG) : Nat → Int32 := G.2.2.2.2.2.2.2.1
def gh (G : SG) : Nat := G.2.2.2.2.2.2.2.2
def BIG : List Cond := lw_tbl.filter goodWord
/-- words on a nest mate's private members: kept by the tables, but not 'good' -/
def isNest : Cond → Bool
  | .fieldLinkNest .. => true
  | .methodLinkNest .. => true
  | .castable .. => true
  | .declares .. => true
  | _ => false
def NSTW : List Cond := lw_tbl.filter isNest
theorem nst_at (i : Nat) {w : Cond} (h : lw_tbl[i]? = some w) (g : isNest w = true) : w ∈ NSTW := List.mem_filter.mpr ⟨List.mem_of_getElem? h, g⟩
theorem nst_ot {w : Cond} (hw : w ∈ NSTW) : w.onTables = true := by
  have hn := (List.mem_filter.mp hw).2
  cases w <;> first | rfl | (simp [isNest] at hn)
theorem nst_warm {w : Cond} {s U : State} (hw : w ∈ NSTW) (hW : s.WarmedH U.vm) (h : va_Nw w s) : va_Nw w U := by
  have hn := (List.mem_filter.mp hw).2
  cases w <;> first | exact va_Nw.warmF hW h | exact va_Nw.warmM hW h | exact va_Nw.warmC hW h | exact va_Nw.warmD hW h | (simp [isNest] at hn)
theorem big_at (i : Nat) {w : Cond} (h : lw_tbl[i]? = some w) (g : goodWord w = true) : w ∈ BIG := List.mem_filter.mpr ⟨List.mem_of_getElem? h, g⟩
theorem big_good {ws : List Cond} (h : ∀ w ∈ ws, w ∈ BIG) : GoodIn BIG ws := fun w hw => ⟨h w hw, good_of_word (List.mem_filter.mp (h w hw)).2⟩
/-- what a handle's cell holds -/
def fldV (G : SG) (μ : Mem) (h : Nat) (k : Nat) (o : Option Nat) : Value := match o with
  | some j => .ref (ga G j)
  | none => .int (μ h k)
def ent (G : SG) (μ : Mem) (h : Nat) : va_E := match shp h with
  | (0, c, _) => .inr (c, (fsh h).mapIdx (fldV G μ h))
  | (1, n, _) => .inl (gA G h, n, .inl (μ h))
  | (2, n, k) => .inl (gA G h, n, .inr (.inr (.inr (.inr (fun i => if i < n then some (ga G (k + i)) else none)))))
  | (_, n, _) => .inl (gA G h, n, .inr (.inl (fun i => (μ h i).toInt64)))
def wl (G : SG) (μ : Mem) : va_W := (List.range (gh G)).map (fun h => (ga G h, ent G μ h))
def tyE (G : SG) (h : Nat) : Option (ClassId × FieldType) := match shp h with
  | (0, _, _) => none
  | (1, _, _) => some (gA G h, .int)
  | (2, _, _) => some (gA G h, .array .int)
  | (_, _, _) => some (gA G h, .long)
def tysL (G : SG) : List (ClassId × FieldType) := (List.range (gh G)).filterMap (tyE G)
def WH (G : SG) (μ : Mem) (H : Heap) : Prop := va_P (gD G) CLX (wl G μ) H ∧ va_D (fun q => gN G ≤ q) (wl G μ)
/-- what lies below: the texts, Throwable's statics, String's, the script -/
def ENV (G : SG) (U : State) (H : Heap) : Prop :=
  (∀ q ∈ strL, vk_R q.1 q.2.1 q.2.2.1 (ga G (1000 + q.2.2.2)) U) ∧ vk_S nStr strLen strByt (fun i => ga G (1000 + i)) (fun i => ga G (2000 + i)) (fun q => gN G ≤ q) U H ∧
  vx_Zq Bundle.tN "UNASSIGNED_STACK" Bundle.steD (fun q => gN G ≤ q) U H ∧ vx_Zq Bundle.tN "SUPPRESSED_SENTINEL" Bundle.listD (fun q => gN G ≤ q) U H ∧
  va_Z "java/lang/String" "COMPACT_STRINGS" "Z" (.int 1) (fun q => gN G ≤ q) U H ∧ va_X (gb G) (gs G) (gx G) U H ∧ gb G < gN G ∧ gN G ≤ H.size ∧ (∀ w ∈ NSTW, va_Nw w U) ∧ va_Nc R_IAE R_NSE U ∧ va_Zq "jdk/internal/util/Preconditions" "SIOOBE_FORMATTER" "Ljava/util/function/BiFunction;" (fun q => gN G ≤ q) U H
def WU (G : SG) (μ : Mem) (U : State) : Prop := WH G μ U.heap ∧ va_K (gD G) CLX (tysL G) U ∧ ENV G U U.heap
/-- a method: its name, code, locals, what it returns, its depth (how deep calls go below it), its table of handlers -/
abbrev MT : Type := MethodName × ByteArray × Nat × Option FieldType × Nat × List (Nat × Nat × Nat × Nat)
abbrev mN (mt : MT) : MethodName := mt.1
abbrev mB (mt : MT) : ByteArray := mt.2.1
abbrev mL (mt : MT) : Nat := mt.2.2.1
abbrev mR (mt : MT) : Option FieldType := mt.2.2.2.1
abbrev mD (mt : MT) : Nat := mt.2.2.2.2.1
abbrev mH (mt : MT) : List (Nat × Nat × Nat × Nat) := mt.2.2.2.2.2
def rmM (d t : Nat) : Room := { frames := d + 8, cells := t, slots := 6 * t, locals := 40 * d + 200 }
def wsM (mt : MT) : List Cond := .code (mN mt) (mB mt) (mL mt) (mR mt) :: BIG
def wsH (mt : MT) : List Cond := .codeWith (mN mt) (mB mt) (mL mt) (mR mt) (mH mt) :: BIG
abbrev PQ : Type := Option Value → Mem → Prop
abbrev PX : Type := String → Mem → Prop
def noX : PX := fun _ _ => False
def QcM (G : SG) (Q : PQ) : Array Value → State → Outcome → State → Prop := fun _ st o t => (∃ v μ, o = .returned v ∧ Q v μ ∧ WH G μ t.heap) ∧ va_F (fun q => gN G ≤ q) st t
def XcM (G : SG) (X : PX) : String → State → State → Prop := fun E st t => (∃ μ, X E μ ∧ WH G μ t.heap) ∧ va_F (fun q => gN G ≤ q) st t
/-- the contract of a method: called with args where the cells hold μ, with room for its depth, it returns as Q says or throws as X says; t exceptions at most are made -/
def Ok (G : SG) (mt : MT) (t : Nat) (args : List Value) (μ : Mem) (Q : PQ) (X : PX) : Prop :=
  vx_Met (gL G) (mN mt) (wsM mt) (rmM (mD mt) t) (va_Pc args (WU G μ)) (QcM G Q) (XcM G X) t (6 * t) (fun q => gN G ≤ q)
def OkH (G : SG) (mt : MT) (t : Nat) (args : List Value) (μ : Mem) (Q : PQ) (X : PX) : Prop :=
  vx_Met (gL G) (mN mt) (wsH mt) (rmM (mD mt) t) (va_Pc args (WU G μ)) (QcM G Q) (XcM G X) t (6 * t) (fun q => gN G ≤ q)
def CX (G : SG) (mt : MT) (p : Program) (Rm : Room) (s : State) (m : MethodId) (args : Array Value) (c : Code) (Ct St : Nat) : Prop :=
  p.tables.exec = Jvm.exec ∧ c.code = mB mt ∧ c.maxLocals = mL mt ∧ s.vm.findClass (mN mt).cls = some m.cls ∧ (∀ w ∈ BIG, w.before args s = true) ∧ va_K (gD G) CLX (tysL G) s ∧ ENV G s s.heap ∧
  mD mt + 8 ≤ Rm.frames ∧ 40 * mD mt + 200 ≤ Rm.locals ∧ Ct ≤ Rm.cells ∧ St ≤ Rm.slots ∧ (gL G).stackTraces = false ∧ c.exceptionTable.toList = tableOf (mH mt)
def retI (mt : MT) (pc : Nat) (v : Option Value) : Prop := match v with
  | none => mR mt = none ∧ decode (mB mt) pc = .ok (.return_, 1)
  | some (.int x) => decode (mB mt) pc = .ok (.ireturn, 1) ∧ ∃ ty, mR mt = some ty ∧ narrow ty (.int x) = .int x
  | some (.long _) => decode (mB mt) pc = .ok (.lreturn, 1) ∧ mR mt = some .long
  | _ => False
def EXR (G : SG) (mt : MT) (p : Program) (e : Env) (Rm : Room) (s : State) (m : MethodId) (args : Array Value) (below : List Frame) (meth : Method) (c : Code) (Ct St : Nat) (QQ : State → Prop) (Q : PQ) : Prop :=
  ∀ (v : Option Value) (μ : Mem) (H : Heap) (locs : List Loc) (cells slots pc : Nat) (ls : Array Slot), WH G μ H → va_S (fun q => gN G ≤ q) s.heap H locs → cells ≤ Ct → slots ≤ St → Q v μ → retI mt pc v →
    W p (gL G) e Rm s m args below meth c H locs cells slots QQ (F0 m pc ls v.toList)
def EXX (G : SG) (mt : MT) (p : Program) (e : Env) (Rm : Room) (s : State) (m : MethodId) (args : Array Value) (below : List Frame) (meth : Method) (c : Code) (Ct St : Nat) (QQ : State → Prop) (X : PX) : Prop :=
  ∀ (E : String) (ce : Cell) (q : Addr) (μ : Mem) (H : Heap) (locs : List Loc) (cells slots pc : Nat) (ls : Array Slot) (rest : List Value), WH G μ H → va_S (fun q => gN G ≤ q) s.heap H locs → cells ≤ Ct → slots ≤ St → X E μ →
    H[q]? = some ce → ce.vm = .none → s.vm.findClass E = some ce.cls → (∀ z ∈ tableOf (mH mt), covers z pc = false) → vx_W p (gL G) e Rm s m args below meth c H locs cells slots QQ (F0 m pc ls rest) q
def R (G : SG) (mt : MT) (pc : Nat) (lv : List (Nat × Value)) (st : List Value) (μ : Mem) (t : Nat) (Q : PQ) (X : PX) : Prop :=
  ∀ (p : Program) (e : Env) (Rm : Room) (s : State) (m : MethodId) (args : Array Value) (below : List Frame) (meth : Method) (c : Code) (Ct St : Nat) (QQ : State → Prop) (H : Heap) (locs : List Loc) (cells slots : Nat) (ls : Array Slot),
    CX G mt p Rm s m args c Ct St → EXR G mt p e Rm s m args below meth c Ct St QQ Q → EXX G mt p e Rm s m args below meth c Ct St QQ X → WH G μ H → va_S (fun q => gN G ≤ q) s.heap H locs → cells + t ≤ Ct → slots + 6 * t ≤ St → lv_has ls (mL mt) lv →
    W p (gL G) e Rm s m args below meth c H locs cells slots QQ (F0 m pc ls st)
/-! worlds -/
theorem wl_at {G : SG} {μ : Mem} {h : Nat} (hh : h < gh G) : (wl G μ)[h]? = some (ga G h, ent G μ h) := by
  unfold wl
  rw [List.getElem?_map, List.getElem?_range hh]
  rfl
theorem ty_at {G : SG} {h : Nat} (hh : h < gh G) {q : ClassId × FieldType} (hq : tyE G h = some q) : ∃ k : Nat, (tysL G)[k]? = some q :=
  List.getElem?_of_mem (List.mem_filterMap.mpr ⟨h, List.mem_range.mpr hh, hq⟩)
/-- one cell's ints changed -/
def upm (μ : Mem) (h i : Nat) (x : Int32) : Mem := fun h' i' => if h' = h ∧ i' = i then x else μ h' i'
/-- a whole cell's ints changed -/
def upr (μ : Mem) (h : Nat) (f : Nat → Int32) : Mem := fun h' => if h' = h then f else μ h'
theorem upm_same {μ : Mem} {h i : Nat} {x : Int32} : upm μ h i x h i = x := if_pos ⟨rfl, rfl⟩
theorem upm_row {μ : Mem} {h i : Nat} {x : Int32} : upm μ h i x h = upd (μ h) i x := by
  funext j
  unfold upm upd
  by_cases hj : j = i <;> simp [hj]
theorem upm_other {μ : Mem} {h i h' : Nat} {x : Int32} (hh : h' ≠ h) : upm μ h i x h' = μ h' := by
  funext j
  exact if_neg fun q => hh q.1
theorem upr_same {μ : Mem} {h : Nat} {f : Nat → Int32} : upr μ h f h = f := if_pos rfl
theorem upr_other {μ : Mem} {h h' : Nat} {f : Nat → Int32} (hh : h' ≠ h) : upr μ h f h' = μ h' := if_neg hh
theorem ent_other {G : SG} {μ μ' : Mem} {h : Nat} (hq : μ' h = μ h) : ent G μ' h = ent G μ h := by
  have h1 : fldV G μ' h = fldV G μ h := by
    funext k o
    cases o with
    | some j => rfl
    | none => simp [fldV, hq]
  unfold ent
  rw [hq, h1]
theorem wl_set {G : SG} {μ μ' : Mem} {h : Nat} (hh : h < gh G) (ho : ∀ h', h' ≠ h → μ' h' = μ h') : (wl G μ).set h (ga G h, ent G μ' h) = wl G μ' := by
  apply List.ext_getElem?
  intro k
  by_cases hk : k = h
  · subst hk
    rw [wl_at hh, List.getElem?_set_self (by rw [wl, List.length_map, List.length_range]; exact hh)]
  · rw [List.getElem?_set_ne (Ne.symm hk)]
    by_cases hk2 : k < gh G
    · rw [wl_at hk2, wl_at hk2, ent_other (ho k hk)]
    · have n1 : (wl G μ).length ≤ k := by rw [wl, List.length_map, List.length_range]; exact Nat.le_of_not_lt hk2
      have n2 : (wl G μ').length ≤ k := by rw [wl, List.length_map, List.length_range]; exact Nat.le_of_not_lt hk2
      rw [List.getElem?_eq_none n1, List.getElem?_eq_none n2]
theorem ENV.warm {G : SG} {u U : State} {H : Heap} (hW : u.WarmedH U.vm) (h : ENV G u H) : ENV G U H := by
  obtain ⟨h1, h2, h3, h4, h5, h6, h7, h8, h9⟩ := h
  have hv := hW.alike
  exact ⟨fun q hq => vk_R.warm hW (h1 q hq), vk_S.moved hv h2, vx_Zq.moved hv h3, vx_Zq.moved hv h4, va_Z.moved hv h5, va_X.moved hv h6, h7, h8, fun w hw => nst_warm hw hW (h9.1 w hw), va_Nc.moved hv h9.2.1, va_Zq.moved hv h9.2.2⟩
theorem ENV.kept {G : SG} {U : State} {H H1 : Heap} (h : ENV G U H) (hz : H.size ≤ H1.size) (hq : ∀ q : Nat, q < H.size → ¬ gN G ≤ q → H1[q]? = H[q]?) : ENV G U H1 := by
  obtain ⟨h1, h2, h3, h4, h5, h6, h7, h8, h9⟩ := h
  exact ⟨h1, h2.kept hq, h3.kept hq, h4.kept hq, h5.kept hq, h6.kept (hq _ (Nat.lt_of_lt_of_le h7 h8) (Nat.not_le.mpr h7)), h7, Nat.le_trans h8 hz, h9.1, h9.2.1, h9.2.2.kept hq⟩
theorem WU.warm {G : SG} {μ : Mem} {u U : State} (hh : U.heap = u.heap) (hW : u.WarmedH U.vm) (h : WU G μ u) : WU G μ U := by
  obtain ⟨h1, h2, h3⟩ := h
  refine ⟨by rw [hh]; exact h1, va_K.moved hW.alike h2, ?_⟩
  rw [hh]
  exact h3.warm hW
theorem WU.blind {G : SG} {μ : Mem} {args : List Value} : FrameBlind (va_Pc args (WU G μ)) := by
  intro a U g mk h
  exact ⟨h.1, h.2.warm (u := U) (U := U.calling g mk a) rfl (State.WarmedH.refl U)⟩
