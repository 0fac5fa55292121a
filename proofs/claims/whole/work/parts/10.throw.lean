/-! throw new E("text") out of a method without handlers -/
theorem r_throwS {G : SG} {mt : MT} {pc : Nat} {lv : List (Nat × Value)} {μ : Mem} {t : Nat} {Q : PQ} {X : PX} {ik is ic k : Nat} {cls text : String} {names : List String} (ci : Nat) (hci : CLX[ci]? = some (cls, T_non, 0)) (hH : mH mt = []) (hcls : Bundle.fit cls = true) (hnames : ∀ n ∈ names, Bundle.fit n = true) (hn2 : names.length = 2)
    (hk : Cond.classLink (mN mt).cls ik cls ∈ BIG) (hini : Cond.initialized cls ∈ BIG) (hstr : ((mN mt).cls, is, text, k) ∈ strL) (hat : ∀ w ∈ vx_atS (mN mt).cls ic cls names, w ∈ BIG ∨ w ∈ NSTW)
    (d0 : decode (mB mt) pc = .ok (.new ik, 3)) (d3 : decode (mB mt) (pc + 3) = .ok (.dup, 1)) (d4 : decode (mB mt) (pc + 4) = .ok (.ldc is, 2)) (d6 : decode (mB mt) (pc + 6) = .ok (.invokespecial ic, 3)) (d9 : decode (mB mt) (pc + 9) = .ok (.athrow, 1)) (hX : X cls μ) : R G mt pc lv [] μ (t + 1) Q X := by
  intro p e Rm s m args below meth cd Ct St QQ H locs cells slots ls C E EX hW hS hc hs hl
  have hgood : ∀ w ∈ Cond.classLink (mN mt).cls ik cls :: Cond.initialized cls :: vx_atS (mN mt).cls ic cls names, vx_ot w = true := fun w hw => by
    have hb : w ∈ BIG ∨ w ∈ NSTW := by
      rcases List.mem_cons.mp hw with rfl | hw
      · exact Or.inl hk
      · rcases List.mem_cons.mp hw with rfl | hw
        · exact Or.inl hini
        · exact hat w hw
    unfold vx_ot
    rcases hb with hb | hb
    · rw [(List.mem_filter.mp hb).2, Bool.or_true]
    · rw [nst_ot hb, Bool.true_or]
  have c1 := C.2.2.2.2.2.2.2.1
  have c2 := C.2.2.2.2.2.2.2.2.1
  have c3 := C.2.2.2.2.2.2.2.2.2.1
  have c4 := C.2.2.2.2.2.2.2.2.2.2.1
  have c5 := C.2.2.2.2.2.2.2.2.2.2.2.1
  refine vx_makeS (D := gD G) (cl := CLX) (ci := ci) (T0 := T_non) C.1 C.2.1 c5 C.own hcls hnames (C.big _ hk) (C.big _ hini) (C.env.1 _ hstr) (fun w hw => (hat w hw).elim (C.big _) fun h => va_Nw.use (nst_ot h) (C.env.nest _ h)) hgood C.env.2.2.1 C.env.2.2.2.1 hS (hl.1.trans C.2.2.1.symm) d0 d3 d4 d6 C.k hW.1 hW.2 (fun q hq => Nat.le_trans C.env.low hq) hci (by rw [hn2]; omega) (by rw [hn2]; simp only [List.map_nil, List.sum_nil]; omega) (by omega) (by omega) ?_
  intro q H1 hP1 hD1 hS1
  refine vx_athrow C.1 C.2.1 d9 ?_
  have hlen : (wl G μ ++ [(q, (Sum.inr (ci, []) : va_E))])[(wl G μ).length]? = some (q, .inr (ci, [])) := by rw [List.getElem?_append_right (Nat.le_refl _), Nat.sub_self]; rfl
  obtain ⟨q', h1, cell, g1, g2, g3, -⟩ := hP1 _ _ hlen
  have hW1 : WH G μ H1 := by
    refine ⟨fun k q9 hq => hP1 k q9 ?_, hW.2⟩
    rw [List.getElem?_append_left (List.getElem?_eq_some_iff.mp hq).1]
    exact hq
  refine EX cls cell q μ H1 locs (cells + 1) (slots + 6) (pc + 9) ls [] hW1 hS1 (by omega) (by omega) hX g1 g3 ?_ (fun z hz => by rw [hH] at hz; cases hz)
  rw [g2]
  exact (C.k.1 ci _ hci).2.1
theorem tt_hat : ∀ w ∈ vx_atS RX9 367 R_IAE ["java/lang/RuntimeException", "java/lang/Exception"], w ∈ BIG ∨ w ∈ NSTW := by decide +kernel
