/-! throw new E("text"), the text by a wide place: sw_makeS is the kit's vx_makeS with ldc_w -/
section SWK
variable {p : Program} {l : Launch} {e : Env} {R : Room} {s : State} {m : MethodId} {args : Array Value} {below : List Frame} {meth : Method} {c : Code} {H : Heap} {locs : List Loc} {cells slots : Nat} {Q : State → Prop}
variable {ls : Array Slot} {rest : List Value} {D : va_G} {cl : List vw_C} {tys : List (ClassId × FieldType)} {ws : va_W}
theorem sw_makeS {cc : ByteArray} {pc : Nat} (hexec : p.tables.exec = Jvm.exec) (hb : c.code = cc) (hl : l.stackTraces = false) {own cls text : String} {names : List String} {ik is ic sa ci : Nat} {A : Nat → Prop} {T0 : u_T}
    (hown : s.vm.findClass own = some m.cls) (hcls : Bundle.fit cls = true) (hnames : ∀ n ∈ names, Bundle.fit n = true)
    (hk : (Cond.classLink own ik cls).before args s = true) (hini : (Cond.initialized cls).before args s = true) (hstr : vk_R own is text sa s) (hat : ∀ w ∈ vx_atS own ic cls names, w.before args s = true)
    (hgood : ∀ w ∈ Cond.classLink own ik cls :: Cond.initialized cls :: vx_atS own ic cls names, vx_ot w = true)
    (hU : vx_Zq Bundle.tN "UNASSIGNED_STACK" Bundle.steD A s s.heap) (hN : vx_Zq Bundle.tN "SUPPRESSED_SENTINEL" Bundle.listD A s s.heap) (hS : va_S A s.heap H locs) (hsize : ls.size = c.maxLocals)
    (d0 : decode cc pc = .ok (.new ik, 3)) (d3 : decode cc (pc + 3) = .ok (.dup, 1)) (d4 : decode cc (pc + 4) = .ok (.ldc_w is, 3)) (d7 : decode cc (pc + 7) = .ok (.invokespecial ic, 3))
    (hK : va_K D cl tys s) (hP : va_P D cl ws H) (hD : va_D A ws) (hA : ∀ q, s.heap.size ≤ q → A q) (hc : cl[ci]? = some (cls, T0, 0))
    (hRframes : names.length + 3 < R.frames) (hRlocals : (rest.map fun v => v.category).sum + (13 * (names.length + 1) + 43) ≤ R.locals) (hRcells : cells + 1 ≤ R.cells) (hRslots : slots + 6 ≤ R.slots)
    (kk : ∀ (q : Nat) (H1 : Heap), va_P D cl (ws ++ [(q, .inr (ci, []))]) H1 → va_D A (ws ++ [(q, .inr (ci, []))]) → va_S A s.heap H1 locs → W p l e R s m args below meth c H1 locs (cells + 1) (slots + 6) Q (F0 m (pc + 10) ls (.ref q :: rest))) :
    W p l e R s m args below meth c H locs cells slots Q (F0 m pc ls rest) := by
  intro T hT X
  subst hT
  have htr : e.platform.stackTraces = false := (show e.platform.stackTraces = l.stackTraces by rw [X.admits.platform]).trans hl
  have Y := vx_rebase X (R' := { frames := R.frames, locals := R.locals, cells := 1, slots := 6 }) (Nat.le_refl _) (Nat.le_refl _) hRcells hRslots
  obtain ⟨s', hA'⟩ : ∃ z, z = (T.setVm s.vm).setFrames (.invoking m args :: below) := ⟨_, rfl⟩
  rw [← hA'] at Y
  have hvm : s'.vm = s.vm := by rw [hA']; rfl
  have hhp : s'.heap = T.heap := by rw [hA']; rfl
  have hW0 : s.WarmedH s'.vm := by rw [hvm]; exact State.WarmedH.refl s
  have hat' : ∀ w ∈ vx_atS own ic cls names, w.before args s' = true := fun w hw => vx_ot_at hW0 hvm.symm (hgood w (List.mem_cons_of_mem _ (List.mem_cons_of_mem _ hw))) (hat w hw)
  have hk' : (Cond.classLink own ik cls).before args s' = true := vx_ot_at hW0 hvm.symm (hgood _ List.mem_cons_self) hk
  have hini' : (Cond.initialized cls).before args s' = true := vx_ot_at hW0 hvm.symm (hgood _ (List.mem_cons_of_mem _ List.mem_cons_self)) hini
  have hU' : vx_Zq Bundle.tN "UNASSIGNED_STACK" Bundle.steD A s' s'.heap := by rw [hhp]; exact vx_Zq.moved hW0.alike (hU.kept hS.2.1)
  have hN' : vx_Zq Bundle.tN "SUPPRESSED_SENTINEL" Bundle.listD A s' s'.heap := by rw [hhp]; exact vx_Zq.moved hW0.alike (hN.kept hS.2.1)
  have h : ∀ w ∈ Bundle.ownAtoms own ic cls names, w.before args s' = true := vx_own hat' (vx_isRefq hU'.1) (vx_isRefq hN'.1) hU'.2.word hN'.2.word
  have hown' : s'.vm.findClass own = some m.cls := by rw [hvm]; exact hown
  have hins : (Cond.instantiable cls 6).before args s' = true := h _ (by simp [Bundle.ownAtoms])
  obtain ⟨vm₁, cX, kX, hfX, hkX, -, -, X₁, st1⟩ := Y.newCold hexec (own := own) (C := cls) (index := ik) (n := 6) hown' hk' hins hini'
    (g := F0 m pc ls rest) rfl (by rw [hb]; exact d0) (Nat.le_refl _) (Nat.le_refl _)
  generalize hT1 : (T.setVm vm₁).pushCell { cls := cX, slots := kX.instanceTypes.map defaultValue, vm := .none } = T1 at X₁ st1
  have hcat : (Value.ref T.heap.size).category = 1 := rfl
  have hcellA : T1.heap[T.heap.size]? = some (freshCell cX kX) := by rw [← hT1]; exact State.heap_pushCell_size _ _
  have d3' : decode c.code (pc + 3) = .ok (.dup, 1) := by rw [hb]; exact d3
  have d4' : decode c.code (pc + 4) = .ok (.ldc_w is, 3) := by rw [hb]; exact d4
  have hstr' : vk_R own is text sa s' := vk_R.warm hW0 hstr
  obtain ⟨V, ce, L, Z, hL, hlt, hcl9, hvm9, st⟩ := vx_ctorMadeS X₁ hexec htr (own := own) (cls := cls) (names := names) (ic := ic) hown' hcls hnames h (fun x hx => nomatch hx) hfX hkX hcellA (by rw [hhp]; exact Nat.le_refl _) (msg := .ref sa) rfl
    (g := { method := m, pc := pc + 7, locals := ls, stack := .ref sa :: .ref T.heap.size :: .ref T.heap.size :: rest, locked := none }) rfl hsize (rest := rest) rfl
    (by rw [hb]; exact d7) hRframes (by simp only [List.map_cons, List.sum_cons, hcat]; omega)
  have Z0 := Stand.forget (locs := []) Z (fun y hy => by rw [hL y hy, hhp]; exact Nat.le_refl _)
  obtain ⟨f1, f2⟩ := vx_frame Z0.same
  rw [hhp] at f1 f2
  have hcid : ce.cls = D.1 ci := by
    rw [hcl9]
    have h1 := (hK.1 ci _ hc).2.1
    rw [hvm] at hfX
    exact Option.some.inj (hfX.symm.trans h1)
  have hh : (V.setCell T.heap.size ce).heap[T.heap.size]? = some ce := heapAt_setCell_self (s := V) ce hlt
  subst hA'
  have X5 := vx_back9 X Y Z0
  have X6 : Stand p l e R s m args below meth c (V.setCell T.heap.size ce) locs (cells + 1) (slots + 6) := { X5 with same := X5.same.mono (by omega) (by omega) }
  have hk9 : ∀ (k : Nat) (x : Nat × va_E), ws[k]? = some x → (V.setCell T.heap.size ce).heap[x.1]? = T.heap[x.1]? := fun k x hx => f2 x.1 ((hP k x hx).lt) (fun z hz => nomatch hz)
  obtain ⟨t, a1, b1⟩ := kk T.heap.size (V.setCell T.heap.size ce).heap ((hP.kept hk9).app (fun k x hx => by
      have hz : k < 1 := (List.getElem?_eq_some_iff.mp hx).1
      rw [show k = 0 by omega] at hx
      cases hx
      exact ⟨_, hc, ce, hh, hcid, hvm9, fun k hk => absurd hk (Nat.not_lt_zero k)⟩)) (hD.push hP rfl (hA _ hS.1)) ⟨Nat.le_trans hS.1 f1, fun q h1 h2 => (f2 q (Nat.lt_of_lt_of_le h1 hS.1) (fun z hz => nomatch hz)).trans (hS.2.1 q h1 h2), hS.2.2⟩ _ rfl X6
  refine ⟨t, st1 _ ?_, b1⟩
  show Steps p.tables e below (T1.setTop { method := m, pc := pc + 3, locals := ls, stack := .ref T.heap.size :: rest, locked := none }) _
  jvm_step X₁.here [X₁.here.top, hexec, d3', Value.category]
  exact X₁.ldcStringW hexec (own := own) (text := text) (index := is) (a := sa) hown' hstr'.1 hstr'.2
    (g := { method := m, pc := pc + 4, locals := ls, stack := .ref T.heap.size :: .ref T.heap.size :: rest, locked := none }) rfl d4' _ (st _ a1)
end SWK
theorem r_throwSW {G : SG} {mt : MT} {pc : Nat} {lv : List (Nat × Value)} {μ : Mem} {t : Nat} {Q : PQ} {X : PX} {ik is ic k : Nat} {cls text : String} {names : List String} (ci : Nat) (hci : CLX[ci]? = some (cls, T_non, 0)) (hH : mH mt = []) (hcls : Bundle.fit cls = true) (hnames : ∀ n ∈ names, Bundle.fit n = true) (hn2 : names.length = 2)
    (hk : Cond.classLink (mN mt).cls ik cls ∈ BIG) (hini : Cond.initialized cls ∈ BIG) (hstr : ((mN mt).cls, is, text, k) ∈ strL) (hat : ∀ w ∈ vx_atS (mN mt).cls ic cls names, w ∈ BIG ∨ w ∈ NSTW)
    (d0 : decode (mB mt) pc = .ok (.new ik, 3)) (d3 : decode (mB mt) (pc + 3) = .ok (.dup, 1)) (d4 : decode (mB mt) (pc + 4) = .ok (.ldc_w is, 3)) (d7 : decode (mB mt) (pc + 7) = .ok (.invokespecial ic, 3)) (d10 : decode (mB mt) (pc + 10) = .ok (.athrow, 1)) (hX : X cls μ) : R G mt pc lv [] μ (t + 1) Q X := by
  intro p e Rm s m args below meth cd Ct St QQ H locs cells slots ls C E EX hW hS hc hs hl
  have hgood : ∀ w ∈ Cond.classLink (mN mt).cls ik cls :: Cond.initialized cls :: vx_atS (mN mt).cls ic cls names, vx_ot w = true := fun w hw => by
    have hb : w ∈ BIG ∨ w ∈ NSTW := by
      rcases List.mem_cons.mp hw with rfl | hw
      · exact Or.inl hk
      · rcases List.mem_cons.mp hw with rfl | hw
        · exact Or.inl hini
        · exact hat w hw
    unfold vx_ot
    rcases hb with hb | hb
    · rw [(List.mem_filter.mp hb).2, Bool.or_true]
    · rw [nst_ot hb, Bool.true_or]
  have c1 := C.2.2.2.2.2.2.2.1
  have c2 := C.2.2.2.2.2.2.2.2.1
  have c3 := C.2.2.2.2.2.2.2.2.2.1
  have c4 := C.2.2.2.2.2.2.2.2.2.2.1
  have c5 := C.2.2.2.2.2.2.2.2.2.2.2.1
  refine sw_makeS (D := gD G) (cl := CLX) (ci := ci) (T0 := T_non) C.1 C.2.1 c5 C.own hcls hnames (C.big _ hk) (C.big _ hini) (C.env.1 _ hstr) (fun w hw => (hat w hw).elim (C.big _) fun h => va_Nw.use (nst_ot h) (C.env.nest _ h)) hgood C.env.2.2.1 C.env.2.2.2.1 hS (hl.1.trans C.2.2.1.symm) d0 d3 d4 d7 C.k hW.1 hW.2 (fun q hq => Nat.le_trans C.env.low hq) hci (by rw [hn2]; omega) (by rw [hn2]; simp only [List.map_nil, List.sum_nil]; omega) (by omega) (by omega) ?_
  intro q H1 hP1 hD1 hS1
  refine vx_athrow C.1 C.2.1 d10 ?_
  have hlen : (wl G μ ++ [(q, (Sum.inr (ci, []) : va_E))])[(wl G μ).length]? = some (q, .inr (ci, [])) := by rw [List.getElem?_append_right (Nat.le_refl _), Nat.sub_self]; rfl
  obtain ⟨q', h1, cell, g1, g2, g3, -⟩ := hP1 _ _ hlen
  have hW1 : WH G μ H1 := by
    refine ⟨fun k q9 hq => hP1 k q9 ?_, hW.2⟩
    rw [List.getElem?_append_left (List.getElem?_eq_some_iff.mp hq).1]
    exact hq
  refine EX cls cell q μ H1 locs (cells + 1) (slots + 6) (pc + 10) ls [] hW1 hS1 (by omega) (by omega) hX g1 g3 ?_ (fun z hz => by rw [hH] at hz; cases hz)
  rw [g2]
  exact (C.k.1 ci _ hci).2.1
theorem hat_RX9_367 : ∀ w ∈ vx_atS RX9 367 R_IAE ["java/lang/RuntimeException", "java/lang/Exception"], w ∈ BIG ∨ w ∈ NSTW := tt_hat
/-! functional contracts -/
/-- enough handles are there, and no traces are kept -/
def GK (n : Nat) (G : SG) : Prop := n ≤ gh G ∧ (gL G).stackTraces = false
theorem GK.lt {n h : Nat} {G : SG} (g : GK n G) (hn : h < n) : h < gh G := Nat.lt_of_lt_of_le hn g.1
theorem GK.le {n k : Nat} {G : SG} (g : GK n G) (hn : k ≤ n) : GK k G := ⟨Nat.le_trans hn g.1, g.2⟩
/-- returns v, the ints are μ' -/
def OkF (G : SG) (mt : MT) (args : List Value) (μ : Mem) (v : Option Value) (μ' : Mem) : Prop := Ok G mt 0 args μ (fun w ν => w = v ∧ ν = μ') noX
theorem okF_of {G : SG} {mt : MT} {args : List Value} {μ μ' : Mem} {v : Option Value} {n : Nat} (g : GK n G) (hH : mH mt = []) (hy : plainName (mN mt).cls = true) (hL : (lg_sl args).length ≤ mL mt) (h : R G mt 0 (lv_args 0 args) [] μ 0 (fun w ν => w = v ∧ ν = μ') noX) : OkF G mt args μ v μ' := ok_of g.2 hH hy hL h
theorem r_cvF {G : SG} {mt mk : MT} {pc : Nat} {lv : List (Nat × Value)} {stk : List Value} {μ μ' : Mem} {t : Nat} {Q : PQ} {X : PX} {v : Option Value} {idx th ck : Nat} {As rest : List Value} (hk : OkF G mk (.ref (ga G th) :: As) μ v μ') (hln : LNV (mN mt).cls idx mk As.length) (hth : th < gh G) (hs : shp th = (0, ck, 0)) (hcl : ∃ T N, CLX[ck]? = some ((mN mk).cls, T, N))
    (hd : decode (mB mt) pc = .ok (.invokevirtual idx, 3)) (hdep : mD mk + 1 ≤ mD mt) (hml : mL mk ≤ 21) (hstk : stk = As.reverse ++ .ref (ga G th) :: rest) (hcat : (rest.map fun v => v.category).sum ≤ 8)
    (kk : R G mt (pc + 3) lv (v.toList ++ rest) μ' t Q X) : R G mt pc lv stk μ t Q X :=
  r_callV hk hln hth hs hcl hd hdep hml hstk hcat (Nat.zero_le t) (fun _ _ h => h.elim) (fun w ν h => by rw [h.1, h.2]; exact kk)
theorem r_csF {G : SG} {mt mk : MT} {pc : Nat} {lv : List (Nat × Value)} {stk : List Value} {μ μ' : Mem} {t : Nat} {Q : PQ} {X : PX} {v : Option Value} {idx : Nat} {As rest : List Value} (hk : OkF G mk As μ v μ') (hln : LNS (mN mt).cls idx mk As.length)
    (hd : decode (mB mt) pc = .ok (.invokestatic idx, 3)) (hdep : mD mk + 1 ≤ mD mt) (hml : mL mk ≤ 21) (hstk : stk = As.reverse ++ rest) (hcat : (rest.map fun v => v.category).sum ≤ 8)
    (kk : R G mt (pc + 3) lv (v.toList ++ rest) μ' t Q X) : R G mt pc lv stk μ t Q X :=
  r_callS hk hln hd hdep hml hstk hcat (Nat.zero_le t) (fun _ _ h => h.elim) (fun w ν h => by rw [h.1, h.2]; exact kk)
/-- an int as a row's place -/
abbrev ix (x : Int32) : Nat := x.toNatClampNeg
theorem vp_ix {x : Int32} {n : Nat} (h : vp_in x n) : ix x < n := Nat.not_le.mp fun q => h (Or.inr q)
theorem vp_of {x : Int32} {n : Nat} (h0 : 0 ≤ x) (h : ix x < n) : vp_in x n := by
  intro q
  rcases q with q | q
  · exact Int32.lt_irrefl (Int32.lt_of_lt_of_le q h0)
  · exact absurd h (Nat.not_lt.mpr q)
theorem i32_nl {x y : Int32} (h : y ≤ x) : ¬ x < y := Int32.not_lt.mpr h
theorem i32_ng {x y : Int32} (h : y < x) : ¬ x ≤ y := Int32.not_le.mpr h
theorem nb01 {x : Int32} (h : x = 0 ∨ x = 1) : narrow .boolean (.int x) = .int x := by rcases h with rfl | rfl <;> rfl
theorem i32_ti {x v : Int32} (h : ¬ x = v) : x.toInt ≠ v.toInt := fun q => h (Int32.toInt_inj.mp q)
/-- backward along a count -/
theorem down_i (n : Nat) (S : Nat → Prop) (h1 : S n) (h2 : ∀ i, i < n → S (i + 1) → S i) : S 0 := by
  have key : ∀ k, k ≤ n → S (n - k) := by
    intro k
    induction k with
    | zero => intro _; exact h1
    | succ k ih =>
      intro hk
      have e : n - k = n - (k + 1) + 1 := by omega
      exact h2 _ (by omega) (e ▸ ih (by omega))
  have := key n (Nat.le_refl n)
  rwa [Nat.sub_self] at this
