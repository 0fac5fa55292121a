/-! a CLAUSE of several numbers, both sides -/
theorem cl_find {t : Nat → Int32} {N p : Nat} {E : EV} {μc μm : Mem} (hO : EvOK E) (hR : RdR E μc μm) (ht : TT t N p μc μm) (hm : eF E ≠ 6) : P_X7_readFind μc ∧ ∀ x0 x1 y0 y1 z : Mem, x0 = M_X10_number 1 40 μm → y0 = upm x0 (89 + eF E) 0 (F_X10_number 1 40 μm) → x1 = M_X10_number 0 16 y0 → y1 = upm x1 (89 + eF E) 1 (F_X10_number 0 16 y0) → z = upm y1 60 3 (y1 60 3 + (if y1 57 5 ≠ 0 then 0 else 1)) → P_X10_number 1 40 μm ∧ P_X10_number 0 16 y0 ∧ ClO t N p μc μm (F_X7_readFind μc) (M_X7_readFind μc) z := by
  obtain ⟨o1, o2, o3, o4, o5, o6⟩ := hO
  obtain ⟨r1, r2, r3, r4, r5, r6⟩ := hR
  have l1 := o1.2.2.2
  have h6 : eF E < 6 := by omega
  have nF : ¬ rdF (89 + eF E) := rdF_89 h6
  have t0 := ht
  obtain ⟨a0, p0, c0⟩ := sp_readInto (row := 19) (nrow := 6) (n := eF E) (lo := 1) (hi := 40) t0 (by decide) (by decide) (by decide) h6 (by decide)
  have e0 : muX7_readFind_1 μc = M_X7_readInto 19 6 (nI (eF E)) 1 40 μc := by
    unfold muX7_readFind_1
    rw [r1.2.2.2.1]
  have q0 : P_X7_readInto 19 6 (μc 12 11) 1 40 μc := by rw [r1.2.2.2.1]; exact a0
  have fe0 : F_X7_readInto 19 6 (μc 12 11) 1 40 μc = F_X7_readInto 19 6 (nI (eF E)) 1 40 μc := by rw [r1.2.2.2.1]
  rcases c0 with ⟨v0, s0, b0, m0, lo0, hi0, d0, tt0, ps0, fc0, fm0⟩ | ⟨b0, tf0, gc0, fm0⟩
  · have g0 : ¬ F_X7_readInto 19 6 (μc 12 11) 1 40 μc = 0 := by rw [fe0, b0]; decide
    have w0 : muX7_readFind_1 μc = upm (M_X8_takeNumber 1 40 μc) 19 (eF E) v0 := by rw [e0, d0]
    have n1 : muX7_readFind_1 μc 12 11 = nI (eF E) := by rw [w0, upm_other (by decide), fc0.2 12 (by decide)]; exact r1.2.2.2.1
    have t1 : TT t N s0 (muX7_readFind_1 μc) (upm (M_X10_number 1 40 μm) (89 + eF E) 0 v0) := by
      rw [w0]
      exact tt0.mono rfl rfl (by rw [upm_other (by omega)]) (by rw [upm_other (by omega)]) (by rw [upm_other (by omega)]) (by rw [upm_other (by omega)])
    obtain ⟨a1, p1, c1⟩ := sp_readInto (row := 20) (nrow := 6) (n := eF E) (lo := 0) (hi := 16) t1 (by decide) (by decide) (by decide) h6 (by decide)
    have e1 : muX7_readFind_2 μc = M_X7_readInto 20 6 (nI (eF E)) 0 16 (muX7_readFind_1 μc) := by
      unfold muX7_readFind_2
      rw [n1]
    have q1 : P_X7_readInto 20 6 ((muX7_readFind_1 μc) 12 11) 0 16 (muX7_readFind_1 μc) := by rw [n1]; exact a1
    have fe1 : F_X7_readInto 20 6 ((muX7_readFind_1 μc) 12 11) 0 16 (muX7_readFind_1 μc) = F_X7_readInto 20 6 (nI (eF E)) 0 16 (muX7_readFind_1 μc) := by rw [n1]
    rcases c1 with ⟨v1, s1, b1, m1, lo1, hi1, d1, tt1, ps1, fc1, fm1⟩ | ⟨b1, tf1, gc1, fm1⟩
    · have g1 : ¬ F_X7_readInto 20 6 ((muX7_readFind_1 μc) 12 11) 0 16 (muX7_readFind_1 μc) = 0 := by rw [fe1, b1]; decide
      have w1 : muX7_readFind_2 μc = upm (M_X8_takeNumber 0 16 (muX7_readFind_1 μc)) 20 (eF E) v1 := by rw [e1, d1]
      refine ⟨⟨q0, fun z => absurd z g0, fun _ => q1⟩, fun x0 x1 y0 y1 z ex0 ey0 ex1 ey1 ez => ?_⟩
      have Y0 : y0 = upm (M_X10_number 1 40 μm) (89 + eF E) 0 v0 := by rw [ey0, ex0, m0]
      have Y1 : y1 = upm (M_X10_number 0 16 (upm (M_X10_number 1 40 μm) (89 + eF E) 0 v0)) (89 + eF E) 1 v1 := by rw [ey1, ex1, Y0, m1]
      have F1 : F_X7_readFind μc = 1 := by
        show VX7_readFind_3 μc = 1
        unfold VX7_readFind_3
        rw [if_neg g0, if_neg g1]
      have V1 : VX7_readFind_4 μc = muX7_readFind_2 μc := by
        unfold VX7_readFind_4
        rw [if_neg g0]
      have c12 : ∀ i, muX7_readFind_2 μc 12 i = μc 12 i := fun i => by
        rw [w1, upm_other (show (12 : Nat) ≠ 20 by decide), fc1.2 12 (by decide), w0, upm_other (show (12 : Nat) ≠ 19 by decide), fc0.2 12 (by decide)]
      have eM : M_X7_readFind μc = upm (muX7_readFind_2 μc) 12 11 (nI (eF E + 1)) := by
        show upm (VX7_readFind_4 μc) 12 11 (VX7_readFind_4 μc 12 11 + 1) = _
        rw [V1, c12 11, r1.2.2.2.1, nI_succ]
      have oc : ∀ r, r ≠ 1 → r ≠ 19 → r ≠ 20 → r ≠ 12 → M_X7_readFind μc r = μc r := fun r q1 u0 u1 q12 => by
        rw [eM, upm_other q12, w1, upm_other u1, fc1.2 r q1, w0, upm_other u0, fc0.2 r q1]
      have R0 : ∀ i, M_X7_readFind μc 19 i = if i = eF E then v0 else μc 19 i := fun i => by
        rw [eM, upm_other (show (19 : Nat) ≠ 12 by decide), w1, upm_other (show (19 : Nat) ≠ 20 by decide), fc1.2 19 (by decide), w0, upm_rr, fc0.2 19 (by decide)]
      have R1 : ∀ i, M_X7_readFind μc 20 i = if i = eF E then v1 else μc 20 i := fun i => by
        rw [eM, upm_other (show (20 : Nat) ≠ 12 by decide), w1, upm_rr, fc1.2 20 (by decide), w0, upm_other (show (20 : Nat) ≠ 19 by decide), fc0.2 20 (by decide)]
      have y5 : y1 57 5 = 0 := by rw [Y1, upm_other (by omega)]; exact tt1.2.2
      have oy : ∀ r, r ≠ 57 → r ≠ 89 + eF E → y1 r = μm r := fun r q1 q2 => by
        rw [Y1, upm_other q2, fm1.2 r q1, upm_other q2, fm0.2 r q1]
      have y60 : y1 60 3 = nI (eF E) := by rw [oy 60 (by decide) (by omega)]; exact r2.2.2.2.1
      have ez' : z = upm y1 60 3 (nI (eF E + 1)) := by rw [ez, if_neg (not_not_intro y5), y60, nI_succ]
      have oz : ∀ r, r ≠ 57 → r ≠ 60 → r ≠ 89 + eF E → z r = μm r := fun r u v w => by rw [ez', upm_other v, oy r u w]
      have cell : ∀ i, i < 2 → z (89 + eF E) i = if i = 0 then v0 else  v1 := fun i hi => by
        rw [ez', upm_other (by omega), Y1, upm_rr, fm1.2 _ (by omega), upm_rr, fm0.2 _ (by omega)]
        have : i = 0 ∨ i = 1 := by omega
        rcases this with rfl | rfl <;> simp
      refine ⟨p0, by rw [Y0]; exact p1, Or.inl ⟨F1, ((eH E, eT E, eD E, eF E + 1), eS E, eG E, eX E, fun a i => if a = eF E then (if i = 0 then v0 else  v1) else eY E a i, eR E, eP E), s1, ⟨⟨o1.1, o1.2.1, o1.2.2.1, ?_⟩, o2, o3, o4, fun a ha => ?_, o6⟩, ⟨⟨?_, ?_, ?_, ?_, ?_, ?_⟩, ⟨?_, ?_, ?_, ?_, ?_, ?_⟩, fun h hh => ?_, fun k hk => ?_, fun a ha => ?_, fun a ha => ?_⟩, ?_, by omega, ?_, ?_⟩⟩
      · show eF E + 1 ≤ 6
        omega
      · have ha' : a < eF E + 1 := ha
        by_cases q : a = eF E
        · have x0 : eY ((eH E, eT E, eD E, eF E + 1), eS E, eG E, eX E, (fun a i => if a = eF E then (if i = 0 then v0 else  v1) else eY E a i), eR E, eP E) a = fun i => if i = 0 then v0 else v1 := by
            funext i
            exact if_pos q
          rw [x0]
          exact ⟨⟨lo0, hi0⟩, ⟨lo1, hi1⟩⟩
        · have x0 : eY ((eH E, eT E, eD E, eF E + 1), eS E, eG E, eX E, (fun a i => if a = eF E then (if i = 0 then v0 else  v1) else eY E a i), eR E, eP E) a = eY E a := by
            funext i
            exact if_neg q
          rw [x0]
          exact o5 a (by omega)
      · rw [eM, upm_rr, if_neg (by decide), c12]
        exact r1.1
      · rw [eM, upm_rr, if_neg (by decide), c12]
        exact r1.2.1
      · rw [eM, upm_rr, if_neg (by decide), c12]
        exact r1.2.2.1
      · rw [eM, upm_rr, if_pos rfl]
        rfl
      · rw [eM, upm_rr, if_neg (by decide), c12]
        exact r1.2.2.2.2.1
      · rw [eM, upm_rr, if_neg (by decide), c12]
        exact r1.2.2.2.2.2
      · rw [ez', upm_rr, if_neg (by decide), oy 60 (by decide) (by omega)]
        exact r2.1
      · rw [ez', upm_rr, if_neg (by decide), oy 60 (by decide) (by omega)]
        exact r2.2.1
      · rw [ez', upm_rr, if_neg (by decide), oy 60 (by decide) (by omega)]
        exact r2.2.2.1
      · rw [ez', upm_rr, if_pos rfl]
        rfl
      · rw [ez', upm_rr, if_neg (by decide), oy 60 (by decide) (by omega)]
        exact r2.2.2.2.2.1
      · rw [ez', upm_rr, if_neg (by decide), oy 60 (by decide) (by omega)]
        exact r2.2.2.2.2.2
      · rw [oc 13 (by decide) (by decide) (by decide) (by decide), oz 62 (by decide) (by decide) (by omega)]
        exact r3 h hh
      · rw [oc 18 (by decide) (by decide) (by decide) (by decide), oz 64 (by decide) (by decide) (by omega)]
        exact r4 k hk
      · have ha' : a < eT E := ha
        have l10 := o1.2.1
        rw [oc 14 (by decide) (by decide) (by decide) (by decide), oc 15 (by decide) (by decide) (by decide) (by decide), oc 16 (by decide) (by decide) (by decide) (by decide), oc 17 (by decide) (by decide) (by decide) (by decide), oz (67 + a) (by omega) (by omega) (by omega)]
        exact r5 a ha
      · have ha' : a < eF E + 1 := ha
        rw [R0 a, R1 a]
        by_cases q : a = eF E
        · have x0 : eY ((eH E, eT E, eD E, eF E + 1), eS E, eG E, eX E, (fun a i => if a = eF E then (if i = 0 then v0 else  v1) else eY E a i), eR E, eP E) a = fun i => if i = 0 then v0 else v1 := by
            funext i
            exact if_pos q
          rw [x0, if_pos q, if_pos q]
          exact ⟨⟨rfl, rfl⟩, fun i hi => by rw [q, cell i hi]⟩
        · have x0 : eY ((eH E, eT E, eD E, eF E + 1), eS E, eG E, eX E, (fun a i => if a = eF E then (if i = 0 then v0 else  v1) else eY E a i), eR E, eP E) a = eY E a := by
            funext i
            exact if_neg q
          rw [x0, if_neg q, if_neg q, oz (89 + a) (by omega) (by omega) (by omega)]
          exact r6 a (by omega)
      · rw [eM, w1, ez', Y1]
        exact tt1.mono (by rw [upm_other (by decide)]) (by rw [upm_other (by decide)]) (by rw [upm_other (by decide), upm_other (by omega)]) (by rw [upm_other (by decide), upm_other (by omega)]) (by rw [upm_other (by decide), upm_other (by omega)]) (by rw [upm_other (by decide), upm_other (by omega)])
      · refine GC.trans (b := muX7_readFind_2 μc) ?_ (by rw [eM]; exact GC.up (by decide) (by decide))
        refine GC.trans (b := muX7_readFind_1 μc) ?_ (by rw [w1]; exact fc1.g.trans (GC.up (by decide) (by decide)))
        rw [w0]
        exact fc0.g.trans (GC.up (by decide) (by decide))
      · refine GM.trans (b := y1) ?_ (by rw [ez']; exact GM.up rdF_60 (by decide))
        refine GM.trans (b := y0) ?_ (by rw [Y1, Y0]; exact fm1.g.trans (GM.up nF (by omega)))
        rw [Y0]
        exact fm0.g.trans (GM.up nF (by omega))
    · have f1 : F_X7_readInto 20 6 ((muX7_readFind_1 μc) 12 11) 0 16 (muX7_readFind_1 μc) = 0 := by rw [fe1, b1]
      refine ⟨⟨q0, fun z => absurd z g0, fun _ => q1⟩, fun x0 x1 y0 y1 z ex0 ey0 ex1 ey1 ez => ?_⟩
      have Y0 : y0 = upm (M_X10_number 1 40 μm) (89 + eF E) 0 v0 := by rw [ey0, ex0, m0]
      have X1 : x1 = M_X10_number 0 16 (upm (M_X10_number 1 40 μm) (89 + eF E) 0 v0) := by rw [ex1, Y0]
      have z1 : y1 57 5 ≠ 0 := by rw [ey1, upm_other (by omega), X1]; exact tf1.nz
      have G1 : GMx x1 y1 := by rw [ey1]; exact (GM.up nF (by omega)).x
      have F0 : F_X7_readFind μc = 0 := by
        show VX7_readFind_3 μc = 0
        unfold VX7_readFind_3
        rw [if_neg g0, if_pos f1]
      have V0 : VX7_readFind_4 μc = muX7_readFind_2 μc := by
        unfold VX7_readFind_4
        rw [if_neg g0]
      have eM : M_X7_readFind μc = upm (muX7_readFind_2 μc) 12 11 (muX7_readFind_2 μc 12 11 + 1) := by
        show upm (VX7_readFind_4 μc) 12 11 (VX7_readFind_4 μc 12 11 + 1) = _
        rw [V0]
      have Gz : GMx y1 z := by rw [ez]; exact (GM.up rdF_60 (by decide)).x
      rw [← e1, ← X1] at tf1
      rw [← e1] at gc1
      have T1 : TF t N (M_X7_readFind μc) y1 := by
        rw [eM, ey1]
        exact tf1.mono (by rw [upm_other (by decide)]) (by rw [upm_other (by omega)]) (by rw [upm_other (by omega)]) (by rw [upm_other (by omega)]) (by rw [upm_other (by omega)]) (by rw [upm_other (by omega)])
      refine ⟨p0, by rw [Y0]; exact p1, Or.inr ⟨F0, ?_, ?_, ?_⟩⟩
      · rw [ez]
        exact T1.mono rfl (by rw [upm_other (by decide)]) (by rw [upm_other (by decide)]) (by rw [upm_other (by decide)]) (by rw [upm_other (by decide)]) (by rw [upm_other (by decide)])
      · refine GCx.trans (b := muX7_readFind_2 μc) ?_ (by rw [eM]; exact (GC.up (by decide) (by decide)).x)
        refine GCx.trans (b := muX7_readFind_1 μc) ?_ gc1
        rw [w0]
        exact (fc0.g.trans (GC.up (by decide) (by decide))).x
      · refine GMx.trans (b := y1) ?_ Gz
        refine GMx.trans (b := x1) ?_ G1
        refine GMx.trans (b := y0) ?_ (by rw [X1, Y0]; exact fm1.g)
        rw [Y0]
        exact (fm0.g.trans (GM.up nF (by omega))).x
  · have f0 : F_X7_readInto 19 6 (μc 12 11) 1 40 μc = 0 := by rw [fe0, b0]
    refine ⟨⟨q0, fun _ => trivial, fun z => absurd f0 z⟩, fun x0 x1 y0 y1 z ex0 ey0 ex1 ey1 ez => ?_⟩
    have X0 : x0 = M_X10_number 1 40 μm := by rw [ex0]
    have z0 : y0 57 5 ≠ 0 := by rw [ey0, upm_other (by omega), X0]; exact tf0.nz
    have G0 : GMx x0 y0 := by rw [ey0]; exact (GM.up nF (by omega)).x
    obtain ⟨np1, nm1, -⟩ := sp_number_no (lo := 0) (hi := 16) z0
    have z1 : y1 57 5 ≠ 0 := by rw [ey1, upm_other (by omega), ex1, nm1]; exact z0
    have G1 : GMx y0 y1 := by rw [ey1, ex1, nm1]; exact (GM.up nF (by omega)).x
    have F0 : F_X7_readFind μc = 0 := by
      show VX7_readFind_3 μc = 0
      unfold VX7_readFind_3
      rw [if_pos f0]
    have V0 : VX7_readFind_4 μc = muX7_readFind_1 μc := by
      unfold VX7_readFind_4
      rw [if_pos f0]
    have eM : M_X7_readFind μc = upm (muX7_readFind_1 μc) 12 11 (muX7_readFind_1 μc 12 11 + 1) := by
      show upm (VX7_readFind_4 μc) 12 11 (VX7_readFind_4 μc 12 11 + 1) = _
      rw [V0]
    have Gz : GMx y1 z := by rw [ez]; exact (GM.up rdF_60 (by decide)).x
    rw [← e0, ← X0] at tf0
    rw [← e0] at gc0
    have T0 : TF t N (M_X7_readFind μc) y0 := by
      rw [eM, ey0]
      exact tf0.mono (by rw [upm_other (by decide)]) (by rw [upm_other (by omega)]) (by rw [upm_other (by omega)]) (by rw [upm_other (by omega)]) (by rw [upm_other (by omega)]) (by rw [upm_other (by omega)])
    have T1 : TF t N (M_X7_readFind μc) y1 := by
      rw [ey1, ex1, nm1]
      exact T0.mono rfl (by rw [upm_other (by omega)]) (by rw [upm_other (by omega)]) (by rw [upm_other (by omega)]) (by rw [upm_other (by omega)]) (by rw [upm_other (by omega)])
    refine ⟨p0, np1, Or.inr ⟨F0, ?_, ?_, ?_⟩⟩
    · rw [ez]
      exact T1.mono rfl (by rw [upm_other (by decide)]) (by rw [upm_other (by decide)]) (by rw [upm_other (by decide)]) (by rw [upm_other (by decide)]) (by rw [upm_other (by decide)])
    · refine GCx.trans (b := muX7_readFind_1 μc) ?_ (by rw [eM]; exact (GC.up (by decide) (by decide)).x)
      exact gc0
    · refine GMx.trans (b := y1) ?_ Gz
      refine GMx.trans (b := y0) ?_ G1
      refine GMx.trans (b := x0) ?_ G0
      rw [X0]
      exact fm0.g
theorem cl_thing {t : Nat → Int32} {N p : Nat} {E : EV} {μc μm : Mem} (hO : EvOK E) (hR : RdR E μc μm) (ht : TT t N p μc μm) (hm : eT E ≠ 10) : P_X7_readThing μc ∧ ∀ x0 x1 x2 x3 y0 y1 y2 y3 z : Mem, x0 = M_X10_number 0 (nI (eH E) - 1) μm → y0 = upm x0 (67 + eT E) 0 (F_X10_number 0 (nI (eH E) - 1) μm) → x1 = M_X10_number 1 9 y0 → y1 = upm x1 (67 + eT E) 1 (F_X10_number 1 9 y0) → x2 = M_X10_number 1 20 y1 → y2 = upm x2 (67 + eT E) 2 (F_X10_number 1 20 y1) → x3 = M_X10_number 0 40 y2 → y3 = upm x3 (67 + eT E) 3 (F_X10_number 0 40 y2) → z = upm y3 60 1 (y3 60 1 + (if y3 57 5 ≠ 0 then 0 else 1)) → P_X10_number 0 (nI (eH E) - 1) μm ∧ P_X10_number 1 9 y0 ∧ P_X10_number 1 20 y1 ∧ P_X10_number 0 40 y2 ∧ ClO t N p μc μm (F_X7_readThing μc) (M_X7_readThing μc) z := by
  obtain ⟨o1, o2, o3, o4, o5, o6⟩ := hO
  obtain ⟨r1, r2, r3, r4, r5, r6⟩ := hR
  have l1 := o1.2.1
  have h6 : eT E < 10 := by omega
  have nF : ¬ rdF (67 + eT E) := rdF_67 h6
  have lH := o1.1
  have t0 := ht
  obtain ⟨a0, p0, c0⟩ := sp_readInto (row := 14) (nrow := 10) (n := eT E) (lo := 0) (hi := (nI (eH E) - 1)) t0 (by decide) (by decide) (by decide) h6 (by decide)
  have e0 : muX7_readThing_1 μc = M_X7_readInto 14 10 (nI (eT E)) 0 (nI (eH E) - 1) μc := by
    unfold muX7_readThing_1
    rw [r1.2.1, r1.1]
  have q0 : P_X7_readInto 14 10 (μc 12 9) 0 ((μc 12 8) - 1) μc := by rw [r1.2.1, r1.1]; exact a0
  have fe0 : F_X7_readInto 14 10 (μc 12 9) 0 ((μc 12 8) - 1) μc = F_X7_readInto 14 10 (nI (eT E)) 0 (nI (eH E) - 1) μc := by rw [r1.2.1, r1.1]
  rcases c0 with ⟨v0, s0, b0, m0, lo0, hi0, d0, tt0, ps0, fc0, fm0⟩ | ⟨b0, tf0, gc0, fm0⟩
  · have g0 : ¬ F_X7_readInto 14 10 (μc 12 9) 0 ((μc 12 8) - 1) μc = 0 := by rw [fe0, b0]; decide
    have w0 : muX7_readThing_1 μc = upm (M_X8_takeNumber 0 (nI (eH E) - 1) μc) 14 (eT E) v0 := by rw [e0, d0]
    have n1 : muX7_readThing_1 μc 12 9 = nI (eT E) := by rw [w0, upm_other (by decide), fc0.2 12 (by decide)]; exact r1.2.1
    have t1 : TT t N s0 (muX7_readThing_1 μc) (upm (M_X10_number 0 (nI (eH E) - 1) μm) (67 + eT E) 0 v0) := by
      rw [w0]
      exact tt0.mono rfl rfl (by rw [upm_other (by omega)]) (by rw [upm_other (by omega)]) (by rw [upm_other (by omega)]) (by rw [upm_other (by omega)])
    obtain ⟨a1, p1, c1⟩ := sp_readInto (row := 15) (nrow := 10) (n := eT E) (lo := 1) (hi := 9) t1 (by decide) (by decide) (by decide) h6 (by decide)
    have e1 : muX7_readThing_2 μc = M_X7_readInto 15 10 (nI (eT E)) 1 9 (muX7_readThing_1 μc) := by
      unfold muX7_readThing_2
      rw [n1]
    have q1 : P_X7_readInto 15 10 ((muX7_readThing_1 μc) 12 9) 1 9 (muX7_readThing_1 μc) := by rw [n1]; exact a1
    have fe1 : F_X7_readInto 15 10 ((muX7_readThing_1 μc) 12 9) 1 9 (muX7_readThing_1 μc) = F_X7_readInto 15 10 (nI (eT E)) 1 9 (muX7_readThing_1 μc) := by rw [n1]
    rcases c1 with ⟨v1, s1, b1, m1, lo1, hi1, d1, tt1, ps1, fc1, fm1⟩ | ⟨b1, tf1, gc1, fm1⟩
    · have g1 : ¬ F_X7_readInto 15 10 ((muX7_readThing_1 μc) 12 9) 1 9 (muX7_readThing_1 μc) = 0 := by rw [fe1, b1]; decide
      have w1 : muX7_readThing_2 μc = upm (M_X8_takeNumber 1 9 (muX7_readThing_1 μc)) 15 (eT E) v1 := by rw [e1, d1]
      have n2 : muX7_readThing_2 μc 12 9 = nI (eT E) := by rw [w1, upm_other (by decide), fc1.2 12 (by decide)]; exact n1
      have t2 : TT t N s1 (muX7_readThing_2 μc) (upm (M_X10_number 1 9 (upm (M_X10_number 0 (nI (eH E) - 1) μm) (67 + eT E) 0 v0)) (67 + eT E) 1 v1) := by
        rw [w1]
        exact tt1.mono rfl rfl (by rw [upm_other (by omega)]) (by rw [upm_other (by omega)]) (by rw [upm_other (by omega)]) (by rw [upm_other (by omega)])
      obtain ⟨a2, p2, c2⟩ := sp_readInto (row := 16) (nrow := 10) (n := eT E) (lo := 1) (hi := 20) t2 (by decide) (by decide) (by decide) h6 (by decide)
      have e2 : muX7_readThing_3 μc = M_X7_readInto 16 10 (nI (eT E)) 1 20 (muX7_readThing_2 μc) := by
        unfold muX7_readThing_3
        rw [n2]
      have q2 : P_X7_readInto 16 10 ((muX7_readThing_2 μc) 12 9) 1 20 (muX7_readThing_2 μc) := by rw [n2]; exact a2
      have fe2 : F_X7_readInto 16 10 ((muX7_readThing_2 μc) 12 9) 1 20 (muX7_readThing_2 μc) = F_X7_readInto 16 10 (nI (eT E)) 1 20 (muX7_readThing_2 μc) := by rw [n2]
      rcases c2 with ⟨v2, s2, b2, m2, lo2, hi2, d2, tt2, ps2, fc2, fm2⟩ | ⟨b2, tf2, gc2, fm2⟩
      · have g2 : ¬ F_X7_readInto 16 10 ((muX7_readThing_2 μc) 12 9) 1 20 (muX7_readThing_2 μc) = 0 := by rw [fe2, b2]; decide
        have w2 : muX7_readThing_3 μc = upm (M_X8_takeNumber 1 20 (muX7_readThing_2 μc)) 16 (eT E) v2 := by rw [e2, d2]
        have n3 : muX7_readThing_3 μc 12 9 = nI (eT E) := by rw [w2, upm_other (by decide), fc2.2 12 (by decide)]; exact n2
        have t3 : TT t N s2 (muX7_readThing_3 μc) (upm (M_X10_number 1 20 (upm (M_X10_number 1 9 (upm (M_X10_number 0 (nI (eH E) - 1) μm) (67 + eT E) 0 v0)) (67 + eT E) 1 v1)) (67 + eT E) 2 v2) := by
          rw [w2]
          exact tt2.mono rfl rfl (by rw [upm_other (by omega)]) (by rw [upm_other (by omega)]) (by rw [upm_other (by omega)]) (by rw [upm_other (by omega)])
        obtain ⟨a3, p3, c3⟩ := sp_readInto (row := 17) (nrow := 10) (n := eT E) (lo := 0) (hi := 40) t3 (by decide) (by decide) (by decide) h6 (by decide)
        have e3 : muX7_readThing_4 μc = M_X7_readInto 17 10 (nI (eT E)) 0 40 (muX7_readThing_3 μc) := by
          unfold muX7_readThing_4
          rw [n3]
        have q3 : P_X7_readInto 17 10 ((muX7_readThing_3 μc) 12 9) 0 40 (muX7_readThing_3 μc) := by rw [n3]; exact a3
        have fe3 : F_X7_readInto 17 10 ((muX7_readThing_3 μc) 12 9) 0 40 (muX7_readThing_3 μc) = F_X7_readInto 17 10 (nI (eT E)) 0 40 (muX7_readThing_3 μc) := by rw [n3]
        rcases c3 with ⟨v3, s3, b3, m3, lo3, hi3, d3, tt3, ps3, fc3, fm3⟩ | ⟨b3, tf3, gc3, fm3⟩
        · have g3 : ¬ F_X7_readInto 17 10 ((muX7_readThing_3 μc) 12 9) 0 40 (muX7_readThing_3 μc) = 0 := by rw [fe3, b3]; decide
          have w3 : muX7_readThing_4 μc = upm (M_X8_takeNumber 0 40 (muX7_readThing_3 μc)) 17 (eT E) v3 := by rw [e3, d3]
          refine ⟨⟨q0, fun z => absurd z g0, fun _ => ⟨q1, fun z => absurd z g1, fun _ => ⟨q2, fun z => absurd z g2, fun _ => q3⟩⟩⟩, fun x0 x1 x2 x3 y0 y1 y2 y3 z ex0 ey0 ex1 ey1 ex2 ey2 ex3 ey3 ez => ?_⟩
          have Y0 : y0 = upm (M_X10_number 0 (nI (eH E) - 1) μm) (67 + eT E) 0 v0 := by rw [ey0, ex0, m0]
          have Y1 : y1 = upm (M_X10_number 1 9 (upm (M_X10_number 0 (nI (eH E) - 1) μm) (67 + eT E) 0 v0)) (67 + eT E) 1 v1 := by rw [ey1, ex1, Y0, m1]
          have Y2 : y2 = upm (M_X10_number 1 20 (upm (M_X10_number 1 9 (upm (M_X10_number 0 (nI (eH E) - 1) μm) (67 + eT E) 0 v0)) (67 + eT E) 1 v1)) (67 + eT E) 2 v2 := by rw [ey2, ex2, Y1, m2]
          have Y3 : y3 = upm (M_X10_number 0 40 (upm (M_X10_number 1 20 (upm (M_X10_number 1 9 (upm (M_X10_number 0 (nI (eH E) - 1) μm) (67 + eT E) 0 v0)) (67 + eT E) 1 v1)) (67 + eT E) 2 v2)) (67 + eT E) 3 v3 := by rw [ey3, ex3, Y2, m3]
          have F1 : F_X7_readThing μc = 1 := by
            show VX7_readThing_5 μc = 1
            unfold VX7_readThing_5
            rw [if_neg g0, if_neg g1, if_neg g2, if_neg g3]
          have V1 : VX7_readThing_6 μc = muX7_readThing_4 μc := by
            unfold VX7_readThing_6
            rw [if_neg g0, if_neg g1, if_neg g2]
          have c12 : ∀ i, muX7_readThing_4 μc 12 i = μc 12 i := fun i => by
            rw [w3, upm_other (show (12 : Nat) ≠ 17 by decide), fc3.2 12 (by decide), w2, upm_other (show (12 : Nat) ≠ 16 by decide), fc2.2 12 (by decide), w1, upm_other (show (12 : Nat) ≠ 15 by decide), fc1.2 12 (by decide), w0, upm_other (show (12 : Nat) ≠ 14 by decide), fc0.2 12 (by decide)]
          have eM : M_X7_readThing μc = upm (muX7_readThing_4 μc) 12 9 (nI (eT E + 1)) := by
            show upm (VX7_readThing_6 μc) 12 9 (VX7_readThing_6 μc 12 9 + 1) = _
            rw [V1, c12 9, r1.2.1, nI_succ]
          have oc : ∀ r, r ≠ 1 → r ≠ 14 → r ≠ 15 → r ≠ 16 → r ≠ 17 → r ≠ 12 → M_X7_readThing μc r = μc r := fun r q1 u0 u1 u2 u3 q12 => by
            rw [eM, upm_other q12, w3, upm_other u3, fc3.2 r q1, w2, upm_other u2, fc2.2 r q1, w1, upm_other u1, fc1.2 r q1, w0, upm_other u0, fc0.2 r q1]
          have R0 : ∀ i, M_X7_readThing μc 14 i = if i = eT E then v0 else μc 14 i := fun i => by
            rw [eM, upm_other (show (14 : Nat) ≠ 12 by decide), w3, upm_other (show (14 : Nat) ≠ 17 by decide), fc3.2 14 (by decide), w2, upm_other (show (14 : Nat) ≠ 16 by decide), fc2.2 14 (by decide), w1, upm_other (show (14 : Nat) ≠ 15 by decide), fc1.2 14 (by decide), w0, upm_rr, fc0.2 14 (by decide)]
          have R1 : ∀ i, M_X7_readThing μc 15 i = if i = eT E then v1 else μc 15 i := fun i => by
            rw [eM, upm_other (show (15 : Nat) ≠ 12 by decide), w3, upm_other (show (15 : Nat) ≠ 17 by decide), fc3.2 15 (by decide), w2, upm_other (show (15 : Nat) ≠ 16 by decide), fc2.2 15 (by decide), w1, upm_rr, fc1.2 15 (by decide), w0, upm_other (show (15 : Nat) ≠ 14 by decide), fc0.2 15 (by decide)]
          have R2 : ∀ i, M_X7_readThing μc 16 i = if i = eT E then v2 else μc 16 i := fun i => by
            rw [eM, upm_other (show (16 : Nat) ≠ 12 by decide), w3, upm_other (show (16 : Nat) ≠ 17 by decide), fc3.2 16 (by decide), w2, upm_rr, fc2.2 16 (by decide), w1, upm_other (show (16 : Nat) ≠ 15 by decide), fc1.2 16 (by decide), w0, upm_other (show (16 : Nat) ≠ 14 by decide), fc0.2 16 (by decide)]
          have R3 : ∀ i, M_X7_readThing μc 17 i = if i = eT E then v3 else μc 17 i := fun i => by
            rw [eM, upm_other (show (17 : Nat) ≠ 12 by decide), w3, upm_rr, fc3.2 17 (by decide), w2, upm_other (show (17 : Nat) ≠ 16 by decide), fc2.2 17 (by decide), w1, upm_other (show (17 : Nat) ≠ 15 by decide), fc1.2 17 (by decide), w0, upm_other (show (17 : Nat) ≠ 14 by decide), fc0.2 17 (by decide)]
          have y5 : y3 57 5 = 0 := by rw [Y3, upm_other (by omega)]; exact tt3.2.2
          have oy : ∀ r, r ≠ 57 → r ≠ 67 + eT E → y3 r = μm r := fun r q1 q2 => by
            rw [Y3, upm_other q2, fm3.2 r q1, upm_other q2, fm2.2 r q1, upm_other q2, fm1.2 r q1, upm_other q2, fm0.2 r q1]
          have y60 : y3 60 1 = nI (eT E) := by rw [oy 60 (by decide) (by omega)]; exact r2.2.1
          have ez' : z = upm y3 60 1 (nI (eT E + 1)) := by rw [ez, if_neg (not_not_intro y5), y60, nI_succ]
          have oz : ∀ r, r ≠ 57 → r ≠ 60 → r ≠ 67 + eT E → z r = μm r := fun r u v w => by rw [ez', upm_other v, oy r u w]
          have cell : ∀ i, i < 4 → z (67 + eT E) i = if i = 0 then v0 else if i = 1 then v1 else if i = 2 then v2 else v3 := fun i hi => by
            rw [ez', upm_other (by omega), Y3, upm_rr, fm3.2 _ (by omega), upm_rr, fm2.2 _ (by omega), upm_rr, fm1.2 _ (by omega), upm_rr, fm0.2 _ (by omega)]
            have : i = 0 ∨ i = 1 ∨ i = 2 ∨ i = 3 := by omega
            rcases this with rfl | rfl | rfl | rfl <;> simp
          refine ⟨p0, by rw [Y0]; exact p1, by rw [Y1]; exact p2, by rw [Y2]; exact p3, Or.inl ⟨F1, ((eH E, eT E + 1, eD E, eF E), eS E, eG E, fun a i => if a = eT E then (if i = 0 then v0 else if i = 1 then v1 else if i = 2 then v2 else v3) else eX E a i, eY E, eR E, eP E), s3, ⟨⟨o1.1, ?_, o1.2.2.1, o1.2.2.2⟩, o2, o3, fun a ha => ?_, o5, o6⟩, ⟨⟨?_, ?_, ?_, ?_, ?_, ?_⟩, ⟨?_, ?_, ?_, ?_, ?_, ?_⟩, fun h hh => ?_, fun k hk => ?_, fun a ha => ?_, fun a ha => ?_⟩, ?_, by omega, ?_, ?_⟩⟩
          · show eT E + 1 ≤ 10
            omega
          · have ha' : a < eT E + 1 := ha
            by_cases q : a = eT E
            · have x0 : eX ((eH E, eT E + 1, eD E, eF E), eS E, eG E, (fun a i => if a = eT E then (if i = 0 then v0 else if i = 1 then v1 else if i = 2 then v2 else v3) else eX E a i), eY E, eR E, eP E) a = fun i => if i = 0 then v0 else if i = 1 then v1 else if i = 2 then v2 else v3 := by
                funext i
                exact if_pos q
              rw [x0]
              obtain ⟨w, w1, w2⟩ := inR_el (n := eH E) (by omega) (decide_eq_true ⟨lo0, hi0⟩)
              exact ⟨⟨w, w1, w2⟩, ⟨lo1, hi1⟩, ⟨lo2, hi2⟩, ⟨lo3, hi3⟩⟩
            · have x0 : eX ((eH E, eT E + 1, eD E, eF E), eS E, eG E, (fun a i => if a = eT E then (if i = 0 then v0 else if i = 1 then v1 else if i = 2 then v2 else v3) else eX E a i), eY E, eR E, eP E) a = eX E a := by
                funext i
                exact if_neg q
              rw [x0]
              exact o4 a (by omega)
          · rw [eM, upm_rr, if_neg (by decide), c12]
            exact r1.1
          · rw [eM, upm_rr, if_pos rfl]
            rfl
          · rw [eM, upm_rr, if_neg (by decide), c12]
            exact r1.2.2.1
          · rw [eM, upm_rr, if_neg (by decide), c12]
            exact r1.2.2.2.1
          · rw [eM, upm_rr, if_neg (by decide), c12]
            exact r1.2.2.2.2.1
          · rw [eM, upm_rr, if_neg (by decide), c12]
            exact r1.2.2.2.2.2
          · rw [ez', upm_rr, if_neg (by decide), oy 60 (by decide) (by omega)]
            exact r2.1
          · rw [ez', upm_rr, if_pos rfl]
            rfl
          · rw [ez', upm_rr, if_neg (by decide), oy 60 (by decide) (by omega)]
            exact r2.2.2.1
          · rw [ez', upm_rr, if_neg (by decide), oy 60 (by decide) (by omega)]
            exact r2.2.2.2.1
          · rw [ez', upm_rr, if_neg (by decide), oy 60 (by decide) (by omega)]
            exact r2.2.2.2.2.1
          · rw [ez', upm_rr, if_neg (by decide), oy 60 (by decide) (by omega)]
            exact r2.2.2.2.2.2
          · rw [oc 13 (by decide) (by decide) (by decide) (by decide) (by decide) (by decide), oz 62 (by decide) (by decide) (by omega)]
            exact r3 h hh
          · rw [oc 18 (by decide) (by decide) (by decide) (by decide) (by decide) (by decide), oz 64 (by decide) (by decide) (by omega)]
            exact r4 k hk
          · have ha' : a < eT E + 1 := ha
            rw [R0 a, R1 a, R2 a, R3 a]
            by_cases q : a = eT E
            · have x0 : eX ((eH E, eT E + 1, eD E, eF E), eS E, eG E, (fun a i => if a = eT E then (if i = 0 then v0 else if i = 1 then v1 else if i = 2 then v2 else v3) else eX E a i), eY E, eR E, eP E) a = fun i => if i = 0 then v0 else if i = 1 then v1 else if i = 2 then v2 else v3 := by
                funext i
                exact if_pos q
              rw [x0, if_pos q, if_pos q, if_pos q, if_pos q]
              exact ⟨⟨rfl, rfl, rfl, rfl⟩, fun i hi => by rw [q, cell i hi]⟩
            · have x0 : eX ((eH E, eT E + 1, eD E, eF E), eS E, eG E, (fun a i => if a = eT E then (if i = 0 then v0 else if i = 1 then v1 else if i = 2 then v2 else v3) else eX E a i), eY E, eR E, eP E) a = eX E a := by
                funext i
                exact if_neg q
              rw [x0, if_neg q, if_neg q, if_neg q, if_neg q, oz (67 + a) (by omega) (by omega) (by omega)]
              exact r5 a (by omega)
          · have ha' : a < eF E := ha
            have l10 := o1.2.2.2
            rw [oc 19 (by decide) (by decide) (by decide) (by decide) (by decide) (by decide), oc 20 (by decide) (by decide) (by decide) (by decide) (by decide) (by decide), oz (89 + a) (by omega) (by omega) (by omega)]
            exact r6 a ha
          · rw [eM, w3, ez', Y3]
            exact tt3.mono (by rw [upm_other (by decide)]) (by rw [upm_other (by decide)]) (by rw [upm_other (by decide), upm_other (by omega)]) (by rw [upm_other (by decide), upm_other (by omega)]) (by rw [upm_other (by decide), upm_other (by omega)]) (by rw [upm_other (by decide), upm_other (by omega)])
          · refine GC.trans (b := muX7_readThing_4 μc) ?_ (by rw [eM]; exact GC.up (by decide) (by decide))
            refine GC.trans (b := muX7_readThing_3 μc) ?_ (by rw [w3]; exact fc3.g.trans (GC.up (by decide) (by decide)))
            refine GC.trans (b := muX7_readThing_2 μc) ?_ (by rw [w2]; exact fc2.g.trans (GC.up (by decide) (by decide)))
            refine GC.trans (b := muX7_readThing_1 μc) ?_ (by rw [w1]; exact fc1.g.trans (GC.up (by decide) (by decide)))
            rw [w0]
            exact fc0.g.trans (GC.up (by decide) (by decide))
          · refine GM.trans (b := y3) ?_ (by rw [ez']; exact GM.up rdF_60 (by decide))
            refine GM.trans (b := y2) ?_ (by rw [Y3, Y2]; exact fm3.g.trans (GM.up nF (by omega)))
            refine GM.trans (b := y1) ?_ (by rw [Y2, Y1]; exact fm2.g.trans (GM.up nF (by omega)))
            refine GM.trans (b := y0) ?_ (by rw [Y1, Y0]; exact fm1.g.trans (GM.up nF (by omega)))
            rw [Y0]
            exact fm0.g.trans (GM.up nF (by omega))
        · have f3 : F_X7_readInto 17 10 ((muX7_readThing_3 μc) 12 9) 0 40 (muX7_readThing_3 μc) = 0 := by rw [fe3, b3]
          refine ⟨⟨q0, fun z => absurd z g0, fun _ => ⟨q1, fun z => absurd z g1, fun _ => ⟨q2, fun z => absurd z g2, fun _ => q3⟩⟩⟩, fun x0 x1 x2 x3 y0 y1 y2 y3 z ex0 ey0 ex1 ey1 ex2 ey2 ex3 ey3 ez => ?_⟩
          have Y0 : y0 = upm (M_X10_number 0 (nI (eH E) - 1) μm) (67 + eT E) 0 v0 := by rw [ey0, ex0, m0]
          have Y1 : y1 = upm (M_X10_number 1 9 (upm (M_X10_number 0 (nI (eH E) - 1) μm) (67 + eT E) 0 v0)) (67 + eT E) 1 v1 := by rw [ey1, ex1, Y0, m1]
          have Y2 : y2 = upm (M_X10_number 1 20 (upm (M_X10_number 1 9 (upm (M_X10_number 0 (nI (eH E) - 1) μm) (67 + eT E) 0 v0)) (67 + eT E) 1 v1)) (67 + eT E) 2 v2 := by rw [ey2, ex2, Y1, m2]
          have X3 : x3 = M_X10_number 0 40 (upm (M_X10_number 1 20 (upm (M_X10_number 1 9 (upm (M_X10_number 0 (nI (eH E) - 1) μm) (67 + eT E) 0 v0)) (67 + eT E) 1 v1)) (67 + eT E) 2 v2) := by rw [ex3, Y2]
          have z3 : y3 57 5 ≠ 0 := by rw [ey3, upm_other (by omega), X3]; exact tf3.nz
          have G3 : GMx x3 y3 := by rw [ey3]; exact (GM.up nF (by omega)).x
          have F0 : F_X7_readThing μc = 0 := by
            show VX7_readThing_5 μc = 0
            unfold VX7_readThing_5
            rw [if_neg g0, if_neg g1, if_neg g2, if_pos f3]
          have V0 : VX7_readThing_6 μc = muX7_readThing_4 μc := by
            unfold VX7_readThing_6
            rw [if_neg g0, if_neg g1, if_neg g2]
          have eM : M_X7_readThing μc = upm (muX7_readThing_4 μc) 12 9 (muX7_readThing_4 μc 12 9 + 1) := by
            show upm (VX7_readThing_6 μc) 12 9 (VX7_readThing_6 μc 12 9 + 1) = _
            rw [V0]
          have Gz : GMx y3 z := by rw [ez]; exact (GM.up rdF_60 (by decide)).x
          rw [← e3, ← X3] at tf3
          rw [← e3] at gc3
          have T3 : TF t N (M_X7_readThing μc) y3 := by
            rw [eM, ey3]
            exact tf3.mono (by rw [upm_other (by decide)]) (by rw [upm_other (by omega)]) (by rw [upm_other (by omega)]) (by rw [upm_other (by omega)]) (by rw [upm_other (by omega)]) (by rw [upm_other (by omega)])
          refine ⟨p0, by rw [Y0]; exact p1, by rw [Y1]; exact p2, by rw [Y2]; exact p3, Or.inr ⟨F0, ?_, ?_, ?_⟩⟩
          · rw [ez]
            exact T3.mono rfl (by rw [upm_other (by decide)]) (by rw [upm_other (by decide)]) (by rw [upm_other (by decide)]) (by rw [upm_other (by decide)]) (by rw [upm_other (by decide)])
          · refine GCx.trans (b := muX7_readThing_4 μc) ?_ (by rw [eM]; exact (GC.up (by decide) (by decide)).x)
            refine GCx.trans (b := muX7_readThing_3 μc) ?_ gc3
            refine GCx.trans (b := muX7_readThing_2 μc) ?_ (by rw [w2]; exact (fc2.g.trans (GC.up (by decide) (by decide))).x)
            refine GCx.trans (b := muX7_readThing_1 μc) ?_ (by rw [w1]; exact (fc1.g.trans (GC.up (by decide) (by decide))).x)
            rw [w0]
            exact (fc0.g.trans (GC.up (by decide) (by decide))).x
          · refine GMx.trans (b := y3) ?_ Gz
            refine GMx.trans (b := x3) ?_ G3
            refine GMx.trans (b := y2) ?_ (by rw [X3, Y2]; exact fm3.g)
            refine GMx.trans (b := y1) ?_ (by rw [Y2, Y1]; exact (fm2.g.trans (GM.up nF (by omega))).x)
            refine GMx.trans (b := y0) ?_ (by rw [Y1, Y0]; exact (fm1.g.trans (GM.up nF (by omega))).x)
            rw [Y0]
            exact (fm0.g.trans (GM.up nF (by omega))).x
      · have f2 : F_X7_readInto 16 10 ((muX7_readThing_2 μc) 12 9) 1 20 (muX7_readThing_2 μc) = 0 := by rw [fe2, b2]
        refine ⟨⟨q0, fun z => absurd z g0, fun _ => ⟨q1, fun z => absurd z g1, fun _ => ⟨q2, fun _ => trivial, fun z => absurd f2 z⟩⟩⟩, fun x0 x1 x2 x3 y0 y1 y2 y3 z ex0 ey0 ex1 ey1 ex2 ey2 ex3 ey3 ez => ?_⟩
        have Y0 : y0 = upm (M_X10_number 0 (nI (eH E) - 1) μm) (67 + eT E) 0 v0 := by rw [ey0, ex0, m0]
        have Y1 : y1 = upm (M_X10_number 1 9 (upm (M_X10_number 0 (nI (eH E) - 1) μm) (67 + eT E) 0 v0)) (67 + eT E) 1 v1 := by rw [ey1, ex1, Y0, m1]
        have X2 : x2 = M_X10_number 1 20 (upm (M_X10_number 1 9 (upm (M_X10_number 0 (nI (eH E) - 1) μm) (67 + eT E) 0 v0)) (67 + eT E) 1 v1) := by rw [ex2, Y1]
        have z2 : y2 57 5 ≠ 0 := by rw [ey2, upm_other (by omega), X2]; exact tf2.nz
        have G2 : GMx x2 y2 := by rw [ey2]; exact (GM.up nF (by omega)).x
        obtain ⟨np3, nm3, -⟩ := sp_number_no (lo := 0) (hi := 40) z2
        have z3 : y3 57 5 ≠ 0 := by rw [ey3, upm_other (by omega), ex3, nm3]; exact z2
        have G3 : GMx y2 y3 := by rw [ey3, ex3, nm3]; exact (GM.up nF (by omega)).x
        have F0 : F_X7_readThing μc = 0 := by
          show VX7_readThing_5 μc = 0
          unfold VX7_readThing_5
          rw [if_neg g0, if_neg g1, if_pos f2]
        have V0 : VX7_readThing_6 μc = muX7_readThing_3 μc := by
          unfold VX7_readThing_6
          rw [if_neg g0, if_neg g1, if_pos f2]
        have eM : M_X7_readThing μc = upm (muX7_readThing_3 μc) 12 9 (muX7_readThing_3 μc 12 9 + 1) := by
          show upm (VX7_readThing_6 μc) 12 9 (VX7_readThing_6 μc 12 9 + 1) = _
          rw [V0]
        have Gz : GMx y3 z := by rw [ez]; exact (GM.up rdF_60 (by decide)).x
        rw [← e2, ← X2] at tf2
        rw [← e2] at gc2
        have T2 : TF t N (M_X7_readThing μc) y2 := by
          rw [eM, ey2]
          exact tf2.mono (by rw [upm_other (by decide)]) (by rw [upm_other (by omega)]) (by rw [upm_other (by omega)]) (by rw [upm_other (by omega)]) (by rw [upm_other (by omega)]) (by rw [upm_other (by omega)])
        have T3 : TF t N (M_X7_readThing μc) y3 := by
          rw [ey3, ex3, nm3]
          exact T2.mono rfl (by rw [upm_other (by omega)]) (by rw [upm_other (by omega)]) (by rw [upm_other (by omega)]) (by rw [upm_other (by omega)]) (by rw [upm_other (by omega)])
        refine ⟨p0, by rw [Y0]; exact p1, by rw [Y1]; exact p2, np3, Or.inr ⟨F0, ?_, ?_, ?_⟩⟩
        · rw [ez]
          exact T3.mono rfl (by rw [upm_other (by decide)]) (by rw [upm_other (by decide)]) (by rw [upm_other (by decide)]) (by rw [upm_other (by decide)]) (by rw [upm_other (by decide)])
        · refine GCx.trans (b := muX7_readThing_3 μc) ?_ (by rw [eM]; exact (GC.up (by decide) (by decide)).x)
          refine GCx.trans (b := muX7_readThing_2 μc) ?_ gc2
          refine GCx.trans (b := muX7_readThing_1 μc) ?_ (by rw [w1]; exact (fc1.g.trans (GC.up (by decide) (by decide))).x)
          rw [w0]
          exact (fc0.g.trans (GC.up (by decide) (by decide))).x
        · refine GMx.trans (b := y3) ?_ Gz
          refine GMx.trans (b := y2) ?_ G3
          refine GMx.trans (b := x2) ?_ G2
          refine GMx.trans (b := y1) ?_ (by rw [X2, Y1]; exact fm2.g)
          refine GMx.trans (b := y0) ?_ (by rw [Y1, Y0]; exact (fm1.g.trans (GM.up nF (by omega))).x)
          rw [Y0]
          exact (fm0.g.trans (GM.up nF (by omega))).x
    · have f1 : F_X7_readInto 15 10 ((muX7_readThing_1 μc) 12 9) 1 9 (muX7_readThing_1 μc) = 0 := by rw [fe1, b1]
      refine ⟨⟨q0, fun z => absurd z g0, fun _ => ⟨q1, fun _ => trivial, fun z => absurd f1 z⟩⟩, fun x0 x1 x2 x3 y0 y1 y2 y3 z ex0 ey0 ex1 ey1 ex2 ey2 ex3 ey3 ez => ?_⟩
      have Y0 : y0 = upm (M_X10_number 0 (nI (eH E) - 1) μm) (67 + eT E) 0 v0 := by rw [ey0, ex0, m0]
      have X1 : x1 = M_X10_number 1 9 (upm (M_X10_number 0 (nI (eH E) - 1) μm) (67 + eT E) 0 v0) := by rw [ex1, Y0]
      have z1 : y1 57 5 ≠ 0 := by rw [ey1, upm_other (by omega), X1]; exact tf1.nz
      have G1 : GMx x1 y1 := by rw [ey1]; exact (GM.up nF (by omega)).x
      obtain ⟨np2, nm2, -⟩ := sp_number_no (lo := 1) (hi := 20) z1
      have z2 : y2 57 5 ≠ 0 := by rw [ey2, upm_other (by omega), ex2, nm2]; exact z1
      have G2 : GMx y1 y2 := by rw [ey2, ex2, nm2]; exact (GM.up nF (by omega)).x
      obtain ⟨np3, nm3, -⟩ := sp_number_no (lo := 0) (hi := 40) z2
      have z3 : y3 57 5 ≠ 0 := by rw [ey3, upm_other (by omega), ex3, nm3]; exact z2
      have G3 : GMx y2 y3 := by rw [ey3, ex3, nm3]; exact (GM.up nF (by omega)).x
      have F0 : F_X7_readThing μc = 0 := by
        show VX7_readThing_5 μc = 0
        unfold VX7_readThing_5
        rw [if_neg g0, if_pos f1]
      have V0 : VX7_readThing_6 μc = muX7_readThing_2 μc := by
        unfold VX7_readThing_6
        rw [if_neg g0, if_pos f1]
      have eM : M_X7_readThing μc = upm (muX7_readThing_2 μc) 12 9 (muX7_readThing_2 μc 12 9 + 1) := by
        show upm (VX7_readThing_6 μc) 12 9 (VX7_readThing_6 μc 12 9 + 1) = _
        rw [V0]
      have Gz : GMx y3 z := by rw [ez]; exact (GM.up rdF_60 (by decide)).x
      rw [← e1, ← X1] at tf1
      rw [← e1] at gc1
      have T1 : TF t N (M_X7_readThing μc) y1 := by
        rw [eM, ey1]
        exact tf1.mono (by rw [upm_other (by decide)]) (by rw [upm_other (by omega)]) (by rw [upm_other (by omega)]) (by rw [upm_other (by omega)]) (by rw [upm_other (by omega)]) (by rw [upm_other (by omega)])
      have T2 : TF t N (M_X7_readThing μc) y2 := by
        rw [ey2, ex2, nm2]
        exact T1.mono rfl (by rw [upm_other (by omega)]) (by rw [upm_other (by omega)]) (by rw [upm_other (by omega)]) (by rw [upm_other (by omega)]) (by rw [upm_other (by omega)])
      have T3 : TF t N (M_X7_readThing μc) y3 := by
        rw [ey3, ex3, nm3]
        exact T2.mono rfl (by rw [upm_other (by omega)]) (by rw [upm_other (by omega)]) (by rw [upm_other (by omega)]) (by rw [upm_other (by omega)]) (by rw [upm_other (by omega)])
      refine ⟨p0, by rw [Y0]; exact p1, np2, np3, Or.inr ⟨F0, ?_, ?_, ?_⟩⟩
      · rw [ez]
        exact T3.mono rfl (by rw [upm_other (by decide)]) (by rw [upm_other (by decide)]) (by rw [upm_other (by decide)]) (by rw [upm_other (by decide)]) (by rw [upm_other (by decide)])
      · refine GCx.trans (b := muX7_readThing_2 μc) ?_ (by rw [eM]; exact (GC.up (by decide) (by decide)).x)
        refine GCx.trans (b := muX7_readThing_1 μc) ?_ gc1
        rw [w0]
        exact (fc0.g.trans (GC.up (by decide) (by decide))).x
      · refine GMx.trans (b := y3) ?_ Gz
        refine GMx.trans (b := y2) ?_ G3
        refine GMx.trans (b := y1) ?_ G2
        refine GMx.trans (b := x1) ?_ G1
        refine GMx.trans (b := y0) ?_ (by rw [X1, Y0]; exact fm1.g)
        rw [Y0]
        exact (fm0.g.trans (GM.up nF (by omega))).x
  · have f0 : F_X7_readInto 14 10 (μc 12 9) 0 ((μc 12 8) - 1) μc = 0 := by rw [fe0, b0]
    refine ⟨⟨q0, fun _ => trivial, fun z => absurd f0 z⟩, fun x0 x1 x2 x3 y0 y1 y2 y3 z ex0 ey0 ex1 ey1 ex2 ey2 ex3 ey3 ez => ?_⟩
    have X0 : x0 = M_X10_number 0 (nI (eH E) - 1) μm := by rw [ex0]
    have z0 : y0 57 5 ≠ 0 := by rw [ey0, upm_other (by omega), X0]; exact tf0.nz
    have G0 : GMx x0 y0 := by rw [ey0]; exact (GM.up nF (by omega)).x
    obtain ⟨np1, nm1, -⟩ := sp_number_no (lo := 1) (hi := 9) z0
    have z1 : y1 57 5 ≠ 0 := by rw [ey1, upm_other (by omega), ex1, nm1]; exact z0
    have G1 : GMx y0 y1 := by rw [ey1, ex1, nm1]; exact (GM.up nF (by omega)).x
    obtain ⟨np2, nm2, -⟩ := sp_number_no (lo := 1) (hi := 20) z1
    have z2 : y2 57 5 ≠ 0 := by rw [ey2, upm_other (by omega), ex2, nm2]; exact z1
    have G2 : GMx y1 y2 := by rw [ey2, ex2, nm2]; exact (GM.up nF (by omega)).x
    obtain ⟨np3, nm3, -⟩ := sp_number_no (lo := 0) (hi := 40) z2
    have z3 : y3 57 5 ≠ 0 := by rw [ey3, upm_other (by omega), ex3, nm3]; exact z2
    have G3 : GMx y2 y3 := by rw [ey3, ex3, nm3]; exact (GM.up nF (by omega)).x
    have F0 : F_X7_readThing μc = 0 := by
      show VX7_readThing_5 μc = 0
      unfold VX7_readThing_5
      rw [if_pos f0]
    have V0 : VX7_readThing_6 μc = muX7_readThing_1 μc := by
      unfold VX7_readThing_6
      rw [if_pos f0]
    have eM : M_X7_readThing μc = upm (muX7_readThing_1 μc) 12 9 (muX7_readThing_1 μc 12 9 + 1) := by
      show upm (VX7_readThing_6 μc) 12 9 (VX7_readThing_6 μc 12 9 + 1) = _
      rw [V0]
    have Gz : GMx y3 z := by rw [ez]; exact (GM.up rdF_60 (by decide)).x
    rw [← e0, ← X0] at tf0
    rw [← e0] at gc0
    have T0 : TF t N (M_X7_readThing μc) y0 := by
      rw [eM, ey0]
      exact tf0.mono (by rw [upm_other (by decide)]) (by rw [upm_other (by omega)]) (by rw [upm_other (by omega)]) (by rw [upm_other (by omega)]) (by rw [upm_other (by omega)]) (by rw [upm_other (by omega)])
    have T1 : TF t N (M_X7_readThing μc) y1 := by
      rw [ey1, ex1, nm1]
      exact T0.mono rfl (by rw [upm_other (by omega)]) (by rw [upm_other (by omega)]) (by rw [upm_other (by omega)]) (by rw [upm_other (by omega)]) (by rw [upm_other (by omega)])
    have T2 : TF t N (M_X7_readThing μc) y2 := by
      rw [ey2, ex2, nm2]
      exact T1.mono rfl (by rw [upm_other (by omega)]) (by rw [upm_other (by omega)]) (by rw [upm_other (by omega)]) (by rw [upm_other (by omega)]) (by rw [upm_other (by omega)])
    have T3 : TF t N (M_X7_readThing μc) y3 := by
      rw [ey3, ex3, nm3]
      exact T2.mono rfl (by rw [upm_other (by omega)]) (by rw [upm_other (by omega)]) (by rw [upm_other (by omega)]) (by rw [upm_other (by omega)]) (by rw [upm_other (by omega)])
    refine ⟨p0, np1, np2, np3, Or.inr ⟨F0, ?_, ?_, ?_⟩⟩
    · rw [ez]
      exact T3.mono rfl (by rw [upm_other (by decide)]) (by rw [upm_other (by decide)]) (by rw [upm_other (by decide)]) (by rw [upm_other (by decide)]) (by rw [upm_other (by decide)])
    · refine GCx.trans (b := muX7_readThing_1 μc) ?_ (by rw [eM]; exact (GC.up (by decide) (by decide)).x)
      exact gc0
    · refine GMx.trans (b := y3) ?_ Gz
      refine GMx.trans (b := y2) ?_ G3
      refine GMx.trans (b := y1) ?_ G2
      refine GMx.trans (b := y0) ?_ G1
      refine GMx.trans (b := x0) ?_ G0
      rw [X0]
      exact fm0.g
