/-! a method's contract out of its body; calls -/
section CL9
variable {G : SG} {mt mk : MT} {pc : Nat} {lv : List (Nat × Value)} {st : List Value} {μ : Mem} {t t' : Nat} {Q Qk : PQ} {X Xk : PX}
theorem ok_exr {p : Program} {e : Env} {Rm : Room} {s : State} {m : MethodId} {below : List Frame} {meth : Method} {c : Code} {args : Array Value} {t : Nat} (hx : p.tables.exec = Jvm.exec) (hb : c.code = mB mt) (hr : meth.sig.returnType = mR mt) (hlk : meth.locks = false) :
    EXR G mt p e Rm s m args below meth c t (6 * t) (vx_MQ below (QcM G Q) (XcM G X) args s t (6 * t) (fun q => gN G ≤ q)) Q := by
  intro v μ' H locs cells slots pc ls hW hS hc hs hq hret
  have key : ∀ w : Option Value, w = v → ∀ t' : State, t'.heap = H → s.WarmedH t'.vm → QcM G Q args s (.returned w) t' := fun w hw t' ht hWm => by
    subst hw
    exact ⟨⟨w, μ', rfl, hq, by rw [ht]; exact hW⟩, hS.F ht⟩
  refine W.widen (k := t) (n := 6 * t) hc hs ?_
  apply vx_ret
  cases v with
  | none => exact W.vret hx hb (hr.trans hret.1) (key none rfl) hS.2.2 hret.2 hlk
  | some v =>
    cases v with
    | int x =>
      obtain ⟨h1, ty, h2, h3⟩ := hret
      exact W.zret hx hb (hr.trans h2) h3 (key _ rfl) hS.2.2 h1 hlk
    | long x => exact W.lret hx hb (hr.trans hret.2) (key _ rfl) hS.2.2 hret.1 hlk
    | _ => exact hret.elim
theorem ok_of {args : List Value} (hfl : (gL G).stackTraces = false) (hH : mH mt = []) (hy : plainName (mN mt).cls = true) (hL : (lg_sl args).length ≤ mL mt) (h : R G mt 0 (lv_args 0 args) [] μ t Q X) : Ok G mt t args μ Q X := by
  refine vx_ofW (cc := mB mt) (maxL := mL mt) (ret := mR mt) hy rfl ?_
  intro p e s m args' below meth c s₁ B hml htab hP
  obtain ⟨rfl, hWU⟩ := hP
  have hts := atoms_spec (ws := wsM mt) B.pre
  have htl : c.exceptionTable.toList = [] := by
    cases hq : c.exceptionTable.toList with
    | nil => rfl
    | cons a l => exact (htab a (by rw [hq]; exact List.mem_cons_self)).elim
  rw [lg_entry_eq]
  have hl := lv_entry args (n := mL mt) hL
  generalize (lg_sl args ++ List.replicate (mL mt - (lg_sl args).length) Slot.unset).toArray = ls at hl ⊢
  have hcx : CX G mt p (headSpec (wsM mt) (rmM (mD mt) t)).room s m args.toArray c t (6 * t) := ⟨B.exec, B.bytes, hml, findClass_of_methodNamed B.named, fun w hw => hts w (List.mem_cons_of_mem _ hw), hWU.2.1, hWU.2.2, Nat.le_refl _, Nat.le_refl _, Nat.le_refl _, Nat.le_refl _, hfl, by rw [htl, hH]; rfl⟩
  refine h p e _ s m args.toArray below meth c t (6 * t) _ s.heap [] 0 0 ls hcx (ok_exr B.exec B.bytes B.returns B.notSynchronized) ?_ hWU.1 va_S.rf (by omega) (by omega) hl
  intro E ce q μ' H locs cells slots pc ls rest hW hS hc hs hx hq hv hcl _
  refine vx_out (fun x hx => (htab x hx).elim) B.notSynchronized hq hv hcl (fun t' ht hA => ⟨⟨μ', hx, by rw [ht]; exact hW⟩, hS.F ht⟩) hS.2.2 hc hs
theorem okh_of {args : List Value} (hfl : (gL G).stackTraces = false) (hcw : Cond.codeWith (mN mt) (mB mt) (mL mt) (mR mt) (mH mt) ∈ BIG) (hy : plainName (mN mt).cls = true) (hL : (lg_sl args).length ≤ mL mt) (h : R G mt 0 (lv_args 0 args) [] μ t Q X) : OkH G mt t args μ Q X := by
  refine vx_ofWH (cc := mB mt) (maxL := mL mt) (ret := mR mt) (hh := mH mt) hy rfl ?_
  intro p e s m args' below meth c s₁ B hml hP
  obtain ⟨rfl, hWU⟩ := hP
  have hts := atoms_spec (ws := wsH mt) B.pre
  have htl : c.exceptionTable.toList = tableOf (mH mt) := vx_table (x := mN mt) B (hts _ (List.mem_cons_of_mem _ hcw))
  rw [lg_entry_eq]
  have hl := lv_entry args (n := mL mt) hL
  generalize (lg_sl args ++ List.replicate (mL mt - (lg_sl args).length) Slot.unset).toArray = ls at hl ⊢
  have hcx : CX G mt p (headSpec (wsH mt) (rmM (mD mt) t)).room s m args.toArray c t (6 * t) := ⟨B.exec, B.bytes, hml, findClass_of_methodNamed B.named, fun w hw => hts w (List.mem_cons_of_mem _ hw), hWU.2.1, hWU.2.2, Nat.le_refl _, Nat.le_refl _, Nat.le_refl _, Nat.le_refl _, hfl, htl⟩
  refine h p e _ s m args.toArray below meth c t (6 * t) _ s.heap [] 0 0 ls hcx (ok_exr B.exec B.bytes B.returns B.notSynchronized) ?_ hWU.1 va_S.rf (by omega) (by omega) hl
  intro E ce q μ' H locs cells slots pc ls rest hW hS hc hs hx hq hv hcl hcov
  refine vx_out (fun x hx => hcov x (by rw [← htl]; exact hx)) B.notSynchronized hq hv hcl (fun t' ht hA => ⟨⟨μ', hx, by rw [ht]; exact hW⟩, hS.F ht⟩) hS.2.2 hc hs
/-! calls -/
def LN0 (own : String) (idx : Nat) (mk : MT) (n : Nat) : Prop := (Cond.methodLink own idx (mN mk) ∈ BIG ∨ ∃ host, Cond.methodLinkNest own idx (mN mk) host ∈ NSTW) ∧ Cond.initialized (mN mk).cls ∈ BIG ∧
  ((mN mk).cls ≠ "java/lang/invoke/MethodHandle" ∧ (mN mk).cls ≠ "java/lang/invoke/VarHandle" ∧ (parseMethodDescriptor (mN mk).desc).map (fun d => d.parameters.length) = some n)
/-- an instance method's link: place idx of own's pool names mk -/
def LNV (own : String) (idx : Nat) (mk : MT) (n : Nat) : Prop := LN0 own idx mk n ∧ Cond.code (mN mk) (mB mk) (mL mk) (mR mk) ∈ BIG ∧ Cond.instanceMethod (mN mk) ∈ BIG ∧ Cond.selects (mN mk).cls (mN mk) (mN mk) ∈ BIG
def LNS (own : String) (idx : Nat) (mk : MT) (n : Nat) : Prop := LN0 own idx mk n ∧ Cond.code (mN mk) (mB mk) (mL mk) (mR mk) ∈ BIG ∧ Cond.static (mN mk) ∈ BIG
def LNH (own : String) (idx : Nat) (mk : MT) (n : Nat) : Prop := Cond.methodLink own idx (mN mk) ∈ BIG ∧ Cond.initialized (mN mk).cls ∈ BIG ∧
  ((mN mk).cls ≠ "java/lang/invoke/MethodHandle" ∧ (mN mk).cls ≠ "java/lang/invoke/VarHandle" ∧ (parseMethodDescriptor (mN mk).desc).map (fun d => d.parameters.length) = some n) ∧ Cond.codeWith (mN mk) (mB mk) (mL mk) (mR mk) (mH mk) ∈ BIG ∧ Cond.static (mN mk) ∈ BIG
theorem ws_good (hc : Cond.code (mN mk) (mB mk) (mL mk) (mR mk) ∈ BIG) : GoodIn BIG (wsM mk) := big_good fun w hw => by
  rcases List.mem_cons.mp hw with rfl | h
  · exact hc
  · exact h
theorem wsh_good (hc : Cond.codeWith (mN mk) (mB mk) (mL mk) (mR mk) (mH mk) ∈ BIG) : GoodIn BIG (wsH mk) := big_good fun w hw => by
  rcases List.mem_cons.mp hw with rfl | h
  · exact hc
  · exact h
/-- what a throw out of a callee leads to: out of this method too (no handler), or into a handler -/
def THR (G : SG) (mt : MT) (pc : Nat) (lv : List (Nat × Value)) (t : Nat) (Q : PQ) (X : PX) (E : String) (μ : Mem) : Prop :=
  ((∀ z ∈ tableOf (mH mt), covers z pc = false) ∧ X E μ) ∨
  ∃ (pre : List ExceptionTableEntry) (x : ExceptionTableEntry) (suf : List ExceptionTableEntry) (name : String), tableOf (mH mt) = pre ++ x :: suf ∧ (∀ z ∈ pre, covers z pc = false ∨ (z.catchType ≠ 0 ∧ ∃ nm : String, Cond.classLink (mN mt).cls z.catchType nm ∈ BIG ∧ E = R_IAE ∧ nm = R_NSE)) ∧ covers x pc = true ∧ x.catchType ≠ 0 ∧
    Cond.classLink (mN mt).cls x.catchType name ∈ BIG ∧ Cond.castable E name ∈ NSTW ∧ ∀ q : Nat, R G mt x.handlerPc lv [.ref q] μ t Q X
theorem r_run {rest stk : List Value} {idx len : Nat} {g0 : Instr}
    (hrun : ∀ (p : Program) (e : Env) (Rm : Room) (s : State) (m : MethodId) (args : Array Value) (below : List Frame) (meth : Method) (cd : Code) (Ct St : Nat) (H : Heap) (locs : List Loc) (cells slots : Nat) (ls : Array Slot),
      CX G mt p Rm s m args cd Ct St → WH G μ H → va_S (fun q => gN G ≤ q) s.heap H locs → cells + t ≤ Ct → slots + 6 * t ≤ St → lv_has ls (mL mt) lv →
      ∃ a : Array Value, vx_Run p (gL G) e Rm s m args below meth cd H locs cells slots t' (6 * t') (F0 m pc ls stk) rest (QcM G Qk a) (XcM G Xk) (fun q => gN G ≤ q))
    (ht : t' ≤ t) (hX : ∀ E μ', Xk E μ' → THR G mt pc lv (t - t') Q X E μ') (kk : ∀ v μ', Qk v μ' → R G mt (pc + 3) lv (v.toList ++ rest) μ' (t - t') Q X) : R G mt pc lv stk μ t Q X := by
  intro p e Rm s m args below meth cd Ct St QQ H locs cells slots ls C E EX hW hS hc hs hl
  obtain ⟨a, hr⟩ := hrun p e Rm s m args below meth cd Ct St H locs cells slots ls C hW hS hc hs hl
  have hA : ∀ q, q < H.size → (fun q => gN G ≤ q) q → (fun q => gN G ≤ q) q := fun _ _ h => h
  intro T hT Xs
  rcases hr T hT Xs with ⟨v, st₀, u, T', L, h0, X', hL, e1, e2, ⟨⟨w, μ', hv, hq, hw⟩, hF⟩, stp⟩ | ⟨q, st₀, u, T', L, En, ce, h0, X', hL, e1, e2, ⟨⟨μ', hx, hw⟩, hF⟩, hce, hcv, hcl, stp⟩
  · cases hv
    obtain ⟨k1, k2, k3⟩ := vx_keep h0 e1 hS hA (fun _ h => h) hL hF
    rw [← e1] at hw
    obtain ⟨t2, a1, b1⟩ := kk v μ' hq p e Rm s m args below meth cd Ct St QQ T'.heap (locs ++ L) (cells + t') (slots + 6 * t') ls C E EX hw k3 (by omega) (by omega) hl T' rfl X'
    exact ⟨t2, stp t2 a1, b1⟩
  · obtain ⟨k1, k2, k3⟩ := vx_keep h0 e1 hS hA (fun _ h => h) hL hF
    rw [← e1] at hw hce
    have key : vx_W p (gL G) e Rm s m args below meth cd T'.heap (locs ++ L) (cells + t') (slots + 6 * t') QQ (F0 m pc ls rest) q := by
      rcases hX En μ' hx with ⟨hcov, hx2⟩ | ⟨pre, x, suf, name, h1, h2, h3, h4, h5, h6, h7⟩
      · exact EX En ce q μ' T'.heap (locs ++ L) (cells + t') (slots + 6 * t') pc ls rest hw k3 (by omega) (by omega) hx2 hce hcv hcl hcov
      · refine vx_catch C.own pre x suf (C.2.2.2.2.2.2.2.2.2.2.2.2.trans h1) (fun z hz => ?_) h3 h4 (C.big _ h5) (va_Nw.use rfl (C.env.nest _ h6)) hce hcv hcl (h7 q p e Rm s m args below meth cd Ct St QQ T'.heap (locs ++ L) (cells + t') (slots + 6 * t') ls C E EX hw k3 (by omega) (by omega) hl)
        rcases h2 z hz with h | ⟨z0, nm, z1, z2, z3⟩
        · exact Or.inl h
        · refine Or.inr ⟨z0, nm, C.big _ z1, ?_⟩
          rw [z2, z3]
          exact C.env.2.2.2.2.2.2.2.2.2.1
    obtain ⟨t2, a1, b1⟩ := key T' rfl X'
    exact ⟨t2, stp.trans a1, b1⟩
theorem r_callV {idx th ck : Nat} {As rest stk : List Value} (hk : Ok G mk t' (.ref (ga G th) :: As) μ Qk Xk) (hln : LNV (mN mt).cls idx mk As.length) (hth : th < gh G) (hs : shp th = (0, ck, 0)) (hcl : ∃ T N, CLX[ck]? = some ((mN mk).cls, T, N))
    (hd : decode (mB mt) pc = .ok (.invokevirtual idx, 3)) (hdep : mD mk + 1 ≤ mD mt) (hml : mL mk ≤ 21) (hstk : stk = As.reverse ++ .ref (ga G th) :: rest) (hcat : (rest.map fun v => v.category).sum ≤ 8) (ht : t' ≤ t) (hX : ∀ E μ', Xk E μ' → THR G mt pc lv (t - t') Q X E μ')
    (kk : ∀ v μ', Qk v μ' → R G mt (pc + 3) lv (v.toList ++ rest) μ' (t - t') Q X) : R G mt pc lv stk μ t Q X := by
  refine r_run (t' := t') (Qk := Qk) (Xk := Xk) (rest := rest) (idx := idx) (len := 3) (g0 := .invokevirtual idx) ?_ ht hX kk
  intro p e Rm s m args below meth cd Ct St H locs cells slots ls C hW hS hc hs' hl
  refine ⟨(Value.ref (ga G th) :: As).toArray, ?_⟩
  obtain ⟨Tn, N, hcl⟩ := hcl
  obtain ⟨⟨hlink, hini, hd3⟩, hcode, hinst, hsel⟩ := hln
  have he := wl_at (G := G) (μ := μ) hth
  rw [ent_obj hs] at he
  have hpre : PreV s H (mN mk).cls (ga G th) (va_Pc (.ref (ga G th) :: As) (WU G μ)) As := ⟨WU.blind, va_recv C.k hW.1 hcl he, fun U hU hWm => ⟨rfl, by rw [hU]; exact hW, va_K.moved hWm.alike C.k, by rw [hU]; exact (C.env.warm hWm).kept hS.1 hS.2.1⟩⟩
  have hroom : (rmM (mD mk) t').frames + 1 ≤ Rm.frames ∧ 8 + (mL mk + 11) + (rmM (mD mk) t').locals ≤ Rm.locals := by
    have h1 := C.2.2.2.2.2.2.2.1
    have h2 := C.2.2.2.2.2.2.2.2.1
    constructor
    · show mD mk + 8 + 1 ≤ Rm.frames; omega
    · show 8 + (mL mk + 11) + (40 * mD mk + 200) ≤ Rm.locals; omega
  have hf : cells + t' ≤ Rm.cells ∧ slots + 6 * t' ≤ Rm.slots := by
    have h1 := C.2.2.2.2.2.2.2.2.2.1
    have h2 := C.2.2.2.2.2.2.2.2.2.2.1
    constructor <;> omega
  rcases hlink with hlink | ⟨host, hlink⟩
  · exact vx_runV (As := As) (rest := rest) ⟨C.1, C.2.1, C.2.2.1, C.own, C.big⟩ hk ⟨callB_of As.length C.big (ws_good hcode) rfl rfl rfl (C.big _ hini) (C.big _ hlink) hd3 hroom, C.big _ hinst, C.big _ hsel⟩ hpre rfl rfl hl.1 hstk (lv_room hcat) hd hf
  · exact vx_runVN (As := As) (rest := rest) (host := host) ⟨C.1, C.2.1, C.2.2.1, C.own, C.big⟩ hk ⟨va_cnB As.length C.big (ws_good hcode) rfl rfl rfl (C.env.nest _ hlink) (C.big _ hini) hd3 hroom, C.big _ hinst, C.big _ hsel⟩ hpre rfl rfl hl.1 hstk (lv_room hcat) hd hf
theorem r_callS {idx : Nat} {As rest stk : List Value} (hk : Ok G mk t' As μ Qk Xk) (hln : LNS (mN mt).cls idx mk As.length)
    (hd : decode (mB mt) pc = .ok (.invokestatic idx, 3)) (hdep : mD mk + 1 ≤ mD mt) (hml : mL mk ≤ 21) (hstk : stk = As.reverse ++ rest) (hcat : (rest.map fun v => v.category).sum ≤ 8) (ht : t' ≤ t) (hX : ∀ E μ', Xk E μ' → THR G mt pc lv (t - t') Q X E μ')
    (kk : ∀ v μ', Qk v μ' → R G mt (pc + 3) lv (v.toList ++ rest) μ' (t - t') Q X) : R G mt pc lv stk μ t Q X := by
  refine r_run (t' := t') (Qk := Qk) (Xk := Xk) (rest := rest) (idx := idx) (len := 3) (g0 := .invokestatic idx) ?_ ht hX kk
  intro p e Rm s m args below meth cd Ct St H locs cells slots ls C hW hS hc hs' hl
  refine ⟨As.toArray, ?_⟩
  obtain ⟨⟨hlink, hini, hd3⟩, hcode, hstat⟩ := hln
  have hpre : PreS s H (va_Pc As (WU G μ)) As := ⟨WU.blind, fun U hU hWm => ⟨rfl, by rw [hU]; exact hW, va_K.moved hWm.alike C.k, by rw [hU]; exact (C.env.warm hWm).kept hS.1 hS.2.1⟩⟩
  have hroom : (rmM (mD mk) t').frames + 1 ≤ Rm.frames ∧ 8 + (mL mk + 11) + (rmM (mD mk) t').locals ≤ Rm.locals := by
    have h1 := C.2.2.2.2.2.2.2.1
    have h2 := C.2.2.2.2.2.2.2.2.1
    constructor
    · show mD mk + 8 + 1 ≤ Rm.frames; omega
    · show 8 + (mL mk + 11) + (40 * mD mk + 200) ≤ Rm.locals; omega
  have hf : cells + t' ≤ Rm.cells ∧ slots + 6 * t' ≤ Rm.slots := by
    have h1 := C.2.2.2.2.2.2.2.2.2.1
    have h2 := C.2.2.2.2.2.2.2.2.2.2.1
    constructor <;> omega
  rcases hlink with hlink | ⟨host, hlink⟩
  · exact vx_runS (As := As) (rest := rest) ⟨C.1, C.2.1, C.2.2.1, C.own, C.big⟩ hk ⟨callB_of As.length C.big (ws_good hcode) rfl rfl rfl (C.big _ hini) (C.big _ hlink) hd3 hroom, C.big _ hstat⟩ hpre rfl rfl hl.1 hstk (lv_room hcat) hd hf
  · exact vx_runSN (As := As) (rest := rest) (host := host) ⟨C.1, C.2.1, C.2.2.1, C.own, C.big⟩ hk ⟨va_cnB As.length C.big (ws_good hcode) rfl rfl rfl (C.env.nest _ hlink) (C.big _ hini) hd3 hroom, C.big _ hstat, trivial⟩ hpre rfl rfl hl.1 hstk (lv_room hcat) hd hf
theorem r_callH {idx : Nat} {As rest stk : List Value} (hk : OkH G mk t' As μ Qk Xk) (hln : LNH (mN mt).cls idx mk As.length)
    (hd : decode (mB mt) pc = .ok (.invokestatic idx, 3)) (hdep : mD mk + 1 ≤ mD mt) (hml : mL mk ≤ 21) (hstk : stk = As.reverse ++ rest) (hcat : (rest.map fun v => v.category).sum ≤ 8) (ht : t' ≤ t) (hX : ∀ E μ', Xk E μ' → THR G mt pc lv (t - t') Q X E μ')
    (kk : ∀ v μ', Qk v μ' → R G mt (pc + 3) lv (v.toList ++ rest) μ' (t - t') Q X) : R G mt pc lv stk μ t Q X := by
  refine r_run (t' := t') (Qk := Qk) (Xk := Xk) (rest := rest) (idx := idx) (len := 3) (g0 := .invokestatic idx) ?_ ht hX kk
  intro p e Rm s m args below meth cd Ct St H locs cells slots ls C hW hS hc hs' hl
  refine ⟨As.toArray, ?_⟩
  obtain ⟨hlink, hini, hd3, hcode, hstat⟩ := hln
  have hpre : PreS s H (va_Pc As (WU G μ)) As := ⟨WU.blind, fun U hU hWm => ⟨rfl, by rw [hU]; exact hW, va_K.moved hWm.alike C.k, by rw [hU]; exact (C.env.warm hWm).kept hS.1 hS.2.1⟩⟩
  have hroom : (rmM (mD mk) t').frames + 1 ≤ Rm.frames ∧ 8 + (mL mk + 11) + (rmM (mD mk) t').locals ≤ Rm.locals := by
    have h1 := C.2.2.2.2.2.2.2.1
    have h2 := C.2.2.2.2.2.2.2.2.1
    constructor
    · show mD mk + 8 + 1 ≤ Rm.frames; omega
    · show 8 + (mL mk + 11) + (40 * mD mk + 200) ≤ Rm.locals; omega
  have hf : cells + t' ≤ Rm.cells ∧ slots + 6 * t' ≤ Rm.slots := by
    have h1 := C.2.2.2.2.2.2.2.2.2.1
    have h2 := C.2.2.2.2.2.2.2.2.2.2.1
    constructor <;> omega
  refine vx_runSX (hh := mH mk) (bytes := mB mk) (maxL := mL mk) (ret := mR mk) (As := As) (rest := rest) ⟨C.1, C.2.1, C.2.2.1, C.own, C.big⟩ hk ?_ hpre rfl rfl hl.1 hstk (lv_room hcat) hd hf
  refine vx_cwSW As.length C.big ?_ rfl rfl rfl ⟨hd3.1, hd3.2.1, hd3.2.2⟩ hroom
  refine goodIn_app (big_good fun w hw => ?_) (wsh_good hcode)
  simp only [List.mem_cons, List.not_mem_nil, or_false] at hw
  rcases hw with rfl | rfl | rfl
  · exact hlink
  · exact hstat
  · exact hini
end CL9
