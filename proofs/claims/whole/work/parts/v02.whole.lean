/-! THE CLAIM OUT OF ONE WALK OF THE LAW'S BODY. Your part is whole_start (and what it stands on); all else here is the same for every law, but numbers. -/
def R_law : String := "TideLodgerLaw"
def lw_P (b : Addr) (xs : List Int32) (args : Array Value) (s : State) : Prop := args = #[.ref b] ∧ s.IntsAt b xs ∧ xs.length ≤ 4096 ∧ (Jvm.Cond.and given_1 narrow_1).before args s = true
def lw_Q (_ : Array Value) (s : State) (o : Outcome) (t : State) : Prop := o = .returned (some (.int 1)) ∧ Framed s o t [] 601024 7293034
def lw_Z (below : List Frame) (a : Array Value) (s : State) : State → Prop := fun t => ∃ o, t.status = .running ∧ Ended t below o ∧ lw_Q a s o t
/-- the law's own end, with 1 on the stack, nothing written that was there before, its room as the claim has it -/
theorem lw_ret {p : Program} {l : Launch} {e : Env} {s : State} {m : MethodId} {below : List Frame} {meth : Method} {c : Code} {b : Nat} (hx : p.tables.exec = Jvm.exec) (hb : c.code = code) (hr : meth.sig.returnType = ret) (hlocks : meth.locks = false) {pc : Nat} {H : Heap} {ls : Array Slot} (hdg : decode code pc = .ok (.ireturn, 1)) : W p l e room_1 s m #[Value.ref b] below meth c H [] 601024 7293034 (lw_Z below #[Value.ref b] s) (F0 m pc ls [.int 1]) := by
  intro T hT X
  obtain ⟨fs, hret, hrun, hended, hW, hframe⟩ := X.leave (v := some (.int 1)) (hlocks := hlocks) (fun h => by rw [hr] at h; cases h)
  have hmeth' : T.vm.method? m = some meth := X.method'
  refine ⟨T.setFrames fs, ?_, .returned (some (.int 1)), hrun, hended, rfl, ⟨_, rfl⟩, hW, hframe⟩
  jvm_step X.here [X.here.top, hx, hb, hdg, hmeth', hr, ret, narrow_b1]
  (try refine ⟨rfl, ?_⟩); (try refine ⟨rfl, ?_⟩)
  first | (intro acts; rw [hret _ acts rfl rfl rfl]) | rw [hret _ _ rfl rfl rfl]
  exact Steps.refl _
/-- what holds at the law's entry: the machine, the code, the tables' words (any of lw_tbl by 'hts w (by decide +kernel)'), the script of L ints xs at the cell b, what the Statement gives of the start (any of its parts by flat_of_before) -/
def lw_At (p : Program) (s : State) (m : MethodId) (meth : Method) (c : Code) (b L : Nat) (xs : Nat → Int32) : Prop :=
  p.tables.exec = Jvm.exec ∧ c.code = code ∧ meth.sig.returnType = ret ∧ c.maxLocals = 7 ∧ s.vm.findClass R_law = some m.cls ∧ (∀ w ∈ lw_tbl, w.before #[Value.ref b] s = true) ∧ va_X b L xs s s.heap ∧ b < s.heap.size ∧ meth.locks = false ∧ (Jvm.Cond.and given_1 narrow_1).before #[Value.ref b] s = true ∧ c.exceptionTable.toList = []
-- ===== YOUR PART BEGINS =====
/-! THE START: addresses and array classes -/
def gaF (N0 : Nat) (adK adV : Nat → Nat) (h : Nat) : Nat := if h < 549 then N0 + h else if h < 2000 then adK (h - 1000) else adV (h - 2000)
def gAF (cI cII cJ : ClassId) (h : Nat) : ClassId := if (shp h).1 = 1 then cI else if (shp h).1 = 2 then cII else cJ
theorem gAF_1 {cI cII cJ : ClassId} {h : Nat} (k : (shp h).1 = 1) : gAF cI cII cJ h = cI := if_pos k
theorem gAF_2 {cI cII cJ : ClassId} {h : Nat} (k : (shp h).1 = 2) : gAF cI cII cJ h = cII := (if_neg (by rw [k]; decide)).trans (if_pos k)
theorem gAF_3 {cI cII cJ : ClassId} {h a : Nat} (k : (shp h).1 = a + 3) : gAF cI cII cJ h = cJ := (if_neg (by omega)).trans (if_neg (by omega))
theorem k_58 : (shp 58).1 = 1 := by decide +kernel
theorem k_66 : (shp 66).1 = 2 := by decide +kernel
theorem k_r66 : ∀ j, j < 10 → (shp (66 + 1 + j)).1 = 1 := by decide +kernel
theorem k_r77 : ∀ j, j < 10 → (shp (77 + 1 + j)).1 = 1 := by decide +kernel
theorem k_77 : (shp 77).1 = 2 := by decide +kernel
theorem k_r88 : ∀ j, j < 6 → (shp (88 + 1 + j)).1 = 1 := by decide +kernel
theorem k_88 : (shp 88).1 = 2 := by decide +kernel
theorem k_r95 : ∀ j, j < 6 → (shp (95 + 1 + j)).1 = 1 := by decide +kernel
theorem k_95 : (shp 95).1 = 2 := by decide +kernel
theorem k_r102 : ∀ j, j < 160 → (shp (102 + 1 + j)).1 = 1 := by decide +kernel
theorem k_102 : (shp 102).1 = 2 := by decide +kernel
theorem k_r263 : ∀ j, j < 160 → (shp (263 + 1 + j)).1 = 1 := by decide +kernel
theorem k_263 : (shp 263).1 = 2 := by decide +kernel
theorem k_r424 : ∀ j, j < 6 → (shp (424 + 1 + j)).1 = 1 := by decide +kernel
theorem k_424 : (shp 424).1 = 2 := by decide +kernel
theorem k_r431 : ∀ j, j < 6 → (shp (431 + 1 + j)).1 = 1 := by decide +kernel
theorem k_431 : (shp 431).1 = 2 := by decide +kernel
theorem k_r440 : ∀ j, j < 80 → (shp (440 + 1 + j)).1 = 1 := by decide +kernel
theorem k_440 : (shp 440).1 = 2 := by decide +kernel
theorem k_r526 : ∀ j, j < 16 → (shp (526 + 1 + j)).1 = 1 := by decide +kernel
theorem k_526 : (shp 526).1 = 2 := by decide +kernel
theorem k_r543 : ∀ j, j < 3 → (shp (543 + 1 + j)).1 = 1 := by decide +kernel
theorem k_543 : (shp 543).1 = 2 := by decide +kernel
set_option maxHeartbeats 4000000 in
/-- YOUR PART: from the entry, for every script of at most 4096 ints, the law comes to its end with true ('hflags': the launch's flags, for a law that throws: no stack traces) -/
theorem whole_start {p : Program} {e : Env} {s : State} {m : MethodId} {below : List Frame} {meth : Method} {c : Code} (l : Launch) (hflags : l.flags = flags0) {b L : Nat} {xs : Nat → Int32} (hL : L ≤ 4096) (C0 : lw_At p s m meth c b L xs) : W p l e room_1 s m #[Value.ref b] below meth c s.heap [] 0 0 (lw_Z below #[Value.ref b] s) (entryFrame m ([Value.ref b] : List Value).toArray 7) := by
  obtain ⟨hexec, hcode, hret, hml, hown, hts, hX, hbl, hlocks, hgv, htab⟩ := C0
  have hfl : l.stackTraces = false := by
    unfold Launch.stackTraces
    rw [hflags]
    decide
  have gs' : ∀ w ∈ gv_L, w.before #[Value.ref b] s = true := flat_of_before _ hgv
  obtain ⟨dC, dI, hcls⟩ := st_cls hts
  obtain ⟨adK, adV, hS0, hk⟩ := st_str gs' (fun a ha h => absurd ha (Nat.not_lt.mpr h))
  obtain ⟨cI, kI, compI, hfI, hkI, hkindI⟩ := Cond.arrayClass_spec (type := .int) (hts _ (ch1 _ (List.mem_of_getElem? (i := 65) (by decide +kernel))))
  obtain ⟨cJ, kJ, compJ, hfJ, hkJ, hkindJ⟩ := Cond.arrayClass_spec (type := .long) (hts _ (ch9 _ (List.mem_of_getElem? (i := 17) (by decide +kernel))))
  obtain ⟨compA, cII, kA, hfA, -, hkA, hkindA, hfII⟩ := arrayOverA_spec (t := .int) (hts _ (ch6 _ (List.mem_of_getElem? (i := 126) (by decide +kernel))))
  have ec : compA = cI := Option.some.inj (hfA.symm.trans hfI)
  subst ec
  generalize hGe : ((l, (dC, dI), gaF s.heap.size adK adV, gAF compA cII cJ, s.heap.size, b, L, xs, 549) : SG) = G
  have hg : gh G = 549 := by rw [← hGe]; rfl
  have hgl : gL G = l := by rw [← hGe]; rfl
  have hgN : gN G = s.heap.size := by rw [← hGe]; rfl
  have hgb : gb G = b := by rw [← hGe]; rfl
  have hgs : gs G = L := by rw [← hGe]; rfl
  have hgx : gx G = xs := by rw [← hGe]; rfl
  have hgD : gD G = (dC, dI) := by rw [← hGe]; rfl
  have hga : ga G = gaF s.heap.size adK adV := by rw [← hGe]; rfl
  have hgA : gA G = gAF compA cII cJ := by rw [← hGe]; rfl
  have hgK : gK G 549 = G := by rw [← hGe]; rfl
  have hG : GA G := fun h hh => by
    rw [hga, hgN]
    exact if_pos hh
  have hflG : (gL G).stackTraces = false := by rw [hgl]; exact hfl
  have hK : va_K (gD G) CLX (tysL G) s := by
    refine ⟨fun c q hq => by rw [hgD]; exact hcls c q hq, fun k q hq => ?_⟩
    obtain ⟨h, -, hq'⟩ := List.mem_filterMap.mp (List.mem_of_getElem? hq)
    have aI : ArrOfT s compA .int ∧ va_RA s compA .int := ⟨fun n z => ⟨fun k h => (by cases h), kI, hkI, _, hkindI⟩, hfI⟩
    have aII : ArrOfT s cII (.array .int) ∧ va_RA s cII (.array .int) := ⟨fun n z => ⟨fun k h => (by cases h), kA, hkA, _, hkindA⟩, hfII⟩
    have aJ : ArrOfT s cJ .long ∧ va_RA s cJ .long := ⟨fun n z => ⟨fun k h => (by cases h), kJ, hkJ, _, hkindJ⟩, hfJ⟩
    rcases e : shp h with ⟨a, n, m'⟩
    have e1 : (shp h).1 = a := by rw [e]
    unfold tyE at hq'
    rw [e] at hq'
    rcases a with _ | _ | _ | a
    · cases hq'
    · cases hq'
      rw [hgA, gAF_1 e1]
      exact aI
    · cases hq'
      rw [hgA, gAF_2 e1]
      exact aII
    · cases hq'
      rw [hgA, gAF_3 e1]
      exact aJ
  have hA : ARR G s := by
    refine ⟨kA, ?_, ?_⟩
    · rw [hgA, gAF_2 k_66]
      exact hkA
    · rw [hgA, gAF_1 k_58]
      exact hkindA
  have hE : ENV G s s.heap := by
    refine st_env hts gs' hgN (by rw [hgb, hgs, hgx]; exact hX) (by rw [hgb]; exact hbl) hS0 hk (fun i hi => ?_) (fun i hi => ?_)
    · rw [hga]
      show (if 1000 + i < 549 then _ else if 1000 + i < 2000 then adK (1000 + i - 1000) else _) = _
      rw [if_neg (by omega), if_pos (by omega), Nat.add_sub_cancel_left]
    · rw [hga]
      show (if 2000 + i < 549 then _ else if 2000 + i < 2000 then _ else adV (2000 + i - 2000)) = _
      rw [if_neg (by omega), if_neg (by omega), Nat.add_sub_cancel_left]
  have cx : ∀ Ct St, Ct ≤ 601024 → St ≤ 7293034 → CX G mL_law_ p room_1 s m #[Value.ref b] c Ct St := fun Ct St h1 h2 =>
    ⟨hexec, hcode, hml, hown, fun w hw => hts w (List.mem_filter.mp hw).1, hK, hE, Nat.le_of_ble_eq_true rfl, Nat.le_of_ble_eq_true rfl, h1, h2, hflG, by rw [htab]; rfl⟩
  have z1 : ∀ h, (shp h).1 = 1 → gA G h = gA G 58 := fun h k => by rw [hgA, gAF_1 k, gAF_1 k_58]
  have z2 : ∀ h, (shp h).1 = 2 → gA G h = gA G 66 := fun h k => by rw [hgA, gAF_2 k, gAF_2 k_66]
  have sw := start_walk (G := G) (En := fun _ => .inr (0, [])) hG hg hflG (rfl) (fun j hj => z1 _ (k_r66 j hj)) (z2 _ k_77) (fun j hj => z1 _ (k_r77 j hj)) (z2 _ k_88) (fun j hj => z1 _ (k_r88 j hj)) (z2 _ k_95) (fun j hj => z1 _ (k_r95 j hj)) (z2 _ k_102) (fun j hj => z1 _ (k_r102 j hj)) (z2 _ k_263) (fun j hj => z1 _ (k_r263 j hj)) (z2 _ k_424) (fun j hj => z1 _ (k_r424 j hj)) (z2 _ k_431) (fun j hj => z1 _ (k_r431 j hj)) (z2 _ k_440) (fun j hj => z1 _ (k_r440 j hj)) (z2 _ k_526) (fun j hj => z1 _ (k_r526 j hj)) (z2 _ k_543) (fun j hj => z1 _ (k_r543 j hj))
  rw [lg_entry_eq]
  have hl := lv_entry ([Value.ref b] : List Value) (n := 7) (Nat.le_of_ble_eq_true rfl)
  generalize (lg_sl ([Value.ref b] : List Value) ++ List.replicate (7 - (lg_sl ([Value.ref b] : List Value)).length) Slot.unset).toArray = ls at hl ⊢
  have hl' : lv_has ls (mL mL_law_) [(0, .ref (gb G))] := by
    rw [hgb]
    exact hl
  rw [← hgl]
  refine sw p e room_1 s m #[Value.ref b] below meth c 549 2196000 _ s.heap [] 0 0 ls (cx _ _ (by omega) (by omega)) (fun h => absurd h (by decide)) hA ?_ (fun k q hq => by cases hq) va_S.rf (by omega) (by omega) hl'
  intro H locs cells slots ls hW hS hc hcl hsl hlv
  have hWH : WH G mu2 H := by
    have := WE.toR hG (Nat.le_refl 549) hW
    rw [hgK] at this
    exact this
  have h0 : ∃ E L, Inv E L mu2 := ⟨_, _, start_ok.2.1⟩
  have lp := law_loop (G := G) ⟨by rw [hg]; exact Nat.le_refl _, hflG⟩ (by rw [hgs]; exact hL) mu2 (t := 0) (Q := fun v _ => v = some (.int 1)) (X := noX) (fun j _ => (run_all h0 j).2) rfl
  have hq8 : gs G / 8 ≤ 512 := by
    rw [hgs]
    omega
  refine lp p e room_1 s m #[Value.ref b] below meth c 601024 7293034 _ H locs cells slots ls (cx _ _ (Nat.le_refl _) (Nat.le_refl _)) ?_ (fun _ _ _ _ _ _ _ _ _ _ _ _ _ _ _ q => False.elim q) hWH hS (by omega) (by omega) hlv
  intro v μ' H1 locs1 cells1 slots1 pc1 ls1 q1 q2 q3 q4 q5 q6
  subst q5
  refine W.widen (k := 601024) (n := 7293034) q3 q4 ?_
  refine va_forget (fun q hq => ?_) ?_
  · have := q2.2.2 q hq
    rw [hgN] at this
    exact this
  · rw [hgl]
    exact lw_ret hexec hcode hret hlocks q6.1
-- ===== YOUR PART ENDS =====
set_option maxHeartbeats 4000000 in
theorem lw_walk (l : Launch) (hflags : l.flags = flags0) (b : Addr) (xs : List Int32) : MetFree l x (headSpec (Jvm.Cond.code x code maxLocals ret :: tables_1) room_1) (lw_P b xs) (fun _ _ _ _ _ => True) lw_Q := by
  refine MetFree.of_bodyS (code := code) (maxLocals := maxLocals) (ret := ret) (by decide) ?_ ?_
  · intro args s m h hn
    obtain ⟨meth, c, h1, h2, h3, h4, h5, h6, -, -⟩ := Cond.code_spec hn (atoms_spec (ws := Jvm.Cond.code x code maxLocals ret :: tables_1) h _ List.mem_cons_self)
    exact ⟨meth, c, h1, h2, h3, h4, h5, h6⟩
  · intro p e s m args below meth c s₁ B hml0 hP _
    obtain ⟨rfl, hx, hbd, hgv⟩ := hP
    obtain ⟨scr, harrAt, hlist, hof, hsmall⟩ := hx
    obtain ⟨hcb, hkn, -, -⟩ := State.arrayAt?_spec harrAt
    have hown : s.vm.findClass R_law = some m.cls := findClass_of_methodNamed B.named
    have hts0 : ∀ c ∈ (Jvm.Cond.code x code maxLocals ret :: tables_1), c.before #[Value.ref b] s = true := atoms_spec (ws := Jvm.Cond.code x code maxLocals ret :: tables_1) B.pre
    have hts : ∀ w ∈ lw_tbl, w.before #[Value.ref b] s = true := k2_hts_sels lw_privs (fun w hw => hts0 w (List.mem_cons_of_mem _ hw)) lw_privs_ok
    have hml : c.maxLocals = 7 := B.maxLocals_eq (hts0 _ List.mem_cons_self)
    have htab : c.exceptionTable.toList = [] := by
      obtain ⟨meth9, c9, h1, h2, -, -, -, -, h7, -⟩ := Cond.code_spec B.named (hts0 _ List.mem_cons_self)
      cases Option.some.inj (h1.symm.trans B.method)
      cases Option.some.inj (h2.symm.trans (Stand.of_body B).code)
      rw [Array.isEmpty_iff.mp h7]
    have X₀ : Stand p l e room_1 s m #[Value.ref b] below meth c s₁ [] 0 0 := Stand.of_body B
    have hh0 : s₁.heap = s.heap := by rw [B.state]; rfl
    have hsz : scr.slots.size = xs.length := by rw [← Array.length_toList, hlist, List.length_map]
    have hval : ∀ j : Nat, j < xs.length → scr.slots[j]? = some (.int (xs.getD j 0)) := fun j hj => by
      rw [← Array.getElem?_toList, hlist]
      simp [hj]
    have hbl : b < s.heap.size := (Array.getElem?_eq_some_iff.mp hcb).1
    have hX : va_X b xs.length (fun j => xs.getD j 0) s s.heap := ⟨scr, hcb, hof, hkn, hsz, hval⟩
    have K : W p l e room_1 s m #[Value.ref b] below meth c s₁.heap [] 0 0 (lw_Z below #[Value.ref b] s) (entryFrame m ([Value.ref b] : List Value).toArray 7) := by
      rw [hh0]
      exact whole_start l hflags hbd ⟨B.exec, B.bytes, B.returns, hml, hown, hts, hX, hbl, B.notSynchronized, hgv, htab⟩
    obtain ⟨t, a1, o, b1, b2, b3⟩ := K s₁ rfl X₀
    exact ⟨t, o, a1, b1, b2, b3⟩
theorem lw_pre_spec {args : Array Value} {s : State} (h : (Jvm.Cond.and given_1 narrow_1).before args s = true) (hr : rest_1_c.before args s = true) : ∃ (b : Addr) (xs : List Int32), lw_P b xs args s := by
  have hs := flat_of_before _ h
  have hq := flat_of_before _ hr
  have hc : (Cond.count 1).before args s = true := hs _ (by decide +kernel)
  have harr : (Cond.arrayOf (.arg 0) .int).before args s = true := hs _ (by decide +kernel)
  have hle : (Cond.le (.length (.arg 0)) (.int 4096)).before args s = true := hs _ (by decide +kernel)
  have hlen : (Cond.isInt (.length (.arg 0))).before args s = true := hq _ (by decide +kernel)
  have hall : (Cond.all (.arg 0) (.isInt (.elem (.arg 0) (.index 0)))).before args s = true := hq _ (by decide +kernel)
  obtain ⟨b, xs, hb, hx⟩ := State.ints_of_pre rfl harr hlen hall
  have hsm : xs.length < 2 ^ 31 := hx.choose_spec.2.2.2
  have hev : (Term.length (.arg 0)).eval args s none [] s = some (.int xs.length.toInt32) := hx.length_eval hb
  have hv := Cond.le_ints hev (show (Term.int 4096).eval args s none [] s = some (.int 4096) from rfl)
  have hd : xs.length.toInt32 ≤ 4096 := by
    simpa [Cond.before, Cond.holds, hv] using hle
  have hN : xs.length ≤ 4096 := (Int32.ofNat_le_ofNat hsm (by decide)).mp (show Int32.ofNat xs.length ≤ Int32.ofNat 4096 from hd)
  exact ⟨b, xs, Cond.one_arg hc (show args[0]? = some (.ref b) from hb), hx, hN, h⟩
theorem lw_comes (l : Launch) (hflags : l.flags = flags0) : Comes l x (Jvm.Cond.code x code maxLocals ret :: tables_1) room_1 (fun tb e args s => Calls_1 tb e args s ∧ rest_1 tb e args s ∧ Pre_1 tb e args s)
    (fun _ _ args s o t => lw_Q args s o t) := by
  intro p e ha hc hk s m args below hf hfit hheap happ hpre
  obtain ⟨b, xs, hP⟩ := lw_pre_spec hpre.2.2 hpre.2.1
  obtain ⟨k, o, h1, h2, h3, hQ⟩ := lw_walk l hflags b xs p e ha hc hk s m args below hf ((Spec.applies_iff_loose hf).mp happ).1 hP trivial
  exact ⟨k, o, h1, h2, h3, hQ⟩
theorem lw_frame {s t : State} {o : Outcome} {args : Array Value} (h : Framed s o t [] 601024 7293034) :
    Framed s o t (fieldLocs frame_1_writes args s ++ arrayLocs frame_1_arrays args s ++ staticLocs frame_1_statics s) 601024 7293034 := h
theorem lw_limb (L : Cond) (hL : ∀ (args : Array Value) (s t : State), L.after args s (.returned (some (.int 1))) t = true) :
    ArmFor flags0 classFile x code maxLocals ret World_1 tables_1 room_1 Calls_1 rest_1 Pre_1
      (fun tb e a s o t => postC L tb e a s o t ∧ Framed s o t (fieldLocs frame_1_writes a s ++ arrayLocs frame_1_arrays a s ++ staticLocs frame_1_statics s) 601024 7293034) := by
  intro l hflags _ _ p e ha hc hk s m args below hf hfit hheap happ hpre
  obtain ⟨k, o, h1, h2, h3, rfl, hF⟩ := lw_comes l hflags p e ha hc hk s m args below hf hfit hheap happ hpre
  exact ⟨k, _, h1, h2, h3, hL args s _, lw_frame hF⟩
theorem i_vc : Claimed_1_1 ∧ Claimed_1_2 := ⟨lw_limb limb_1_1 (fun args s t => by simp [limb_1_1, Cond.after, Cond.holds, Cond.value]), lw_limb limb_1_2 (fun args s t => Cond.after_iff.mpr (by
  first | (rw [show limb_1_2 = Cond.eq .result (.int 1) from rfl, Cond.eq_ints (x := 1) (y := 1) rfl rfl]; simp; done) | (simp [limb_1_2, Cond.value, Term.eval]; done)))⟩
