theorem Sg.nil {E : EV} {K V P : Nat → Int32} {T : Nat → Nat → Int32} (f d a x : Nat) : Sg E K V P T f d a a x x := by
  cases f with
  | zero => exact ⟨rfl, rfl⟩
  | succ f => exact Or.inl ⟨rfl, rfl⟩
/-- a fault inside a bracket -/
theorem fin_bad {t : Nat → Int32} {N s : Nat} {B Mc μm S : Mem} {rM : Mem → Mem} {rP : Mem → Prop} (eS : SX10_readsStep_137' rM rP μm = S) (tf : TF t N Mc S) (wm : WMx B S) (er : ix (muX10_readsStep_30 rM rP μm 57 30) = s) (hs : s < 80) :
    P_X10_sign 93 (SX10_readsStep_137' rM rP μm) ∧ P_X10_sign 59 (muX10_readsStep_47 rM rP μm) ∧ TF t N Mc (muX10_readsStep_48 rM rP μm) ∧ WMx B (muX10_readsStep_48 rM rP μm) := by
  obtain ⟨a1, a2⟩ := sp_sign_no (c := 93) tf.nz
  have e45 : muX10_readsStep_45 rM rP μm = S := by
    unfold muX10_readsStep_45
    rw [eS, a2]
  have e47 : muX10_readsStep_47 rM rP μm = upm (upm S 57 8 (S 57 8 - 1)) (441 + s) 2 (S 57 30) := by
    unfold muX10_readsStep_47 muX10_readsStep_46
    rw [e45, er, upm_rr, if_neg (by decide)]
  have tf2 : TF t N Mc (muX10_readsStep_47 rM rP μm) := by
    refine tf.mono rfl ?_ ?_ ?_ ?_ ?_
    · rw [e47, upm_other (by omega), upm_rr, if_neg (by decide)]
    · rw [e47, upm_other (by omega), upm_rr, if_neg (by decide)]
    · rw [e47, upm_other (by omega), upm_rr, if_neg (by decide)]
    · rw [e47, upm_other (by omega), upm_rr, if_neg (by decide)]
    · rw [e47, upm_other (by omega), upm_other (by decide)]
  obtain ⟨b1, b2⟩ := sp_sign_no (c := 59) tf2.nz
  have e48 : muX10_readsStep_48 rM rP μm = muX10_readsStep_47 rM rP μm := b2
  refine ⟨by rw [eS]; exact a1, b1, by rw [e48]; exact tf2, ?_⟩
  rw [e48, e47]
  exact wm.trans ((WM.up (Or.inr ⟨rfl, Or.inl rfl⟩)).trans (WM.up (Or.inl ⟨by omega, by omega⟩))).x
theorem loop_none {m1 : Mem} {rM : Mem → Mem} {rP : Mem → Prop} {rw2 : Nat} {v1 : Int32} (nz : m1 57 5 ≠ 0) : fst 152 (fun j => !Cb_X10_readsStep_137 rM rP rw2 v1 j (fo j (g_X10_readsStep_137 rM rP rw2 v1) m1)) = 0 := by
  have cb : Cb_X10_readsStep_137 rM rP rw2 v1 0 m1 = false := by
    unfold Cb_X10_readsStep_137
    rw [if_pos nz]
  exact fst_eq (by decide) (by rw [fo_z, cb]; rfl) (fun j hj => absurd hj (Nat.not_lt_zero _))
/-- the bracket closes, both sides -/
theorem close_ok {t : Nat → Int32} {N o n s n' s' p' f v : Nat} {A B s0 μc' S m51 : Mem} {E : EV} (hN : N ≤ 150) (ht : TxO t N) (ho5 : o < 6) (hc : CR s0 n' μc') (h : Rd t N A B (o + 1) n' s' p' μc' S) (tx : TxM t N (skp t N p') S) (hb : byt t N (skp t N p') = 93)
    (hg : Sg E (μc' 32) (μc' 33) (μc' 34) (fun x => S (441 + x)) f (6 - (o + 1)) (n + 1) n' (s + 1) s') (c35 : μc' 35 o = nI n) (k1 : μc' 32 n = 6) (k2 : μc' 33 n = nI v) (k3 : S (441 + s) 0 = 6) (k4 : S (441 + s) 1 = nI v) (hv : v ≤ 20) (hn' : n + 1 ≤ n') (hs' : s + 1 ≤ s') (e51 : m51 = upm (upm (M_X10_sign 93 S) 57 8 (M_X10_sign 93 S 57 8 - 1)) (441 + s) 2 (M_X10_sign 93 S 57 30)) :
    P_X10_sign 93 S ∧ P_X10_sign 59 m51 ∧
    ((∃ μc2 p4, CR s0 (n' + 1) μc2 ∧ Rd t N A B o (n' + 1) s' p4 μc2 (M_X10_sign 59 m51) ∧ p' + 1 ≤ p4 ∧ Sg E (μc2 32) (μc2 33) (μc2 34) (fun x => M_X10_sign 59 m51 (441 + x)) (f + 1) (6 - o) n (n' + 1) s s' ∧ Old o n s μc' S μc2 (M_X10_sign 59 m51)) ∨
     (∃ Mc, Tl n' μc' Mc ∧ TF t N Mc (M_X10_sign 59 m51) ∧ WCx A Mc ∧ WMx B (M_X10_sign 59 m51))) := by
  obtain ⟨⟨tc', -, S5⟩, ⟨d5, d6, w30, w8⟩, ⟨hnp', hsp'⟩, hA', hB'⟩ := h
  have pN' := tc'.2.1
  have N6 := tc'.1
  obtain ⟨u1, u2, -, -⟩ := skp_ok (t := t) N6 pN'
  have ss' := skp_skp (t := t) N6 pN'
  have hq' : skp t N p' < N := byt_lt hb (by decide)
  have hs80 : s' < 80 := by omega
  obtain ⟨f1, f2, f3, f4, tw', fw'⟩ := rd_look (n := n') ht tc' hq' d6 (by omega)
  have f4' : ¬ VX6_read_12_3 n' μc' = 0 := by
    rw [f4, if_pos ⟨by omega, hb⟩]
    decide
  have hcr := cr_end hc (by omega) f1 f2 f3 f4'
  generalize VX6_read_12_4 n' μc' = w at *
  have h31 : ∀ k, w 31 k = μc' 31 k := fun k => by rw [fw'.2 31 (by decide)]
  obtain ⟨en, tn⟩ := end_round (o := o) (n := n') (n0 := n) (by omega) (by omega) ho5 tw' hq' (by rw [h31]; exact d5) (by rw [h31]; exact d6) (by rw [fw'.2 35 (by decide)]; exact c35)
  obtain ⟨b1, b2, -, b4⟩ := sp_sign (c := 93) tx S5 (by decide)
  rw [ss'] at b2
  obtain ⟨b2, b3⟩ := b2 hb
  have e51' : m51 = upm (upm (M_X10_sign 93 S) 57 8 (nI o)) (441 + s) 2 (nI s') := by
    rw [e51, b3 8 (by decide), w8, nI_pred, b3 30 (by decide), w30]
  have tt : TT t N (skp t N p' + 1) (muX6_readEnd_5 w) m51 := by
    refine ⟨tn, ⟨_, b2.mono ?_ ?_ ?_, rfl⟩, ?_⟩
    · rw [e51', upm_other (by omega), upm_rr, if_neg (by decide)]
    · rw [e51', upm_other (by omega), upm_rr, if_neg (by decide)]
    · rw [e51', upm_other (by omega), upm_other (by decide)]
    · rw [e51', upm_other (by omega), upm_rr, if_neg (by decide), b3 5 (by decide), S5]
  have fms : FM S (M_X10_sign 93 S) := ⟨fun k hk => b3 k hk, b4⟩
  have wm : WM B m51 := by
    rw [e51']
    exact hB'.trans (fms.w.trans ((WM.up (Or.inr ⟨rfl, Or.inl rfl⟩)).trans (WM.up (Or.inl ⟨by omega, by omega⟩))))
  have wc : WC A (muX6_readEnd_5 w) := by
    rw [en]
    have z1 : WC w (upm w 1 3 (nI (skp t N p' + 1))) := FC.w ⟨fun k a _ _ => by rw [upm_rr, if_neg a], fun r hr => by rw [upm_other hr]⟩
    exact hA'.trans (fw'.w.trans (z1.trans ((WC.up (Or.inr ⟨rfl, Or.inr rfl⟩)).trans ((WC.up (Or.inl ⟨by decide, by decide⟩)).trans ((WC.up (Or.inl ⟨by decide, by decide⟩)).trans ((WC.up (Or.inl ⟨by decide, by decide⟩)).trans ((WC.up (Or.inl ⟨by decide, by decide⟩)).trans (WC.up (Or.inr ⟨rfl, Or.inl rfl⟩)))))))))
  obtain ⟨a1, a2, a3⟩ := TT_sign (c := 59) tt (by decide)
  obtain ⟨cr1, cr2⟩ := hcr a1
  have eF : F_X6_readEnd w = F_X8_takeSign 59 (muX6_readEnd_5 w) := rfl
  have eM : M_X6_readEnd w = M_X8_takeSign 59 (muX6_readEnd_5 w) := rfl
  rw [eF, eM] at cr1 cr2
  refine ⟨b1, a2, ?_⟩
  rcases a3 with ⟨x1, p4, x2, x3, x4, x5⟩ | ⟨x1, x2, x3, x4⟩
  · have r32 : M_X8_takeSign 59 (muX6_readEnd_5 w) 32 = upd (μc' 32) n' 7 := by
      rw [x4.2 32 (by decide), en, upm_other (by decide), upm_other (by decide), upm_row, upm_other (by decide), upm_other (by decide), upm_other (by decide), upm_other (by decide), fw'.2 32 (by decide)]
    have r33 : M_X8_takeSign 59 (muX6_readEnd_5 w) 33 = upd (μc' 33) n' 0 := by
      rw [x4.2 33 (by decide), en, upm_other (by decide), upm_row, upm_other (by decide), upm_other (by decide), upm_other (by decide), upm_other (by decide), upm_other (by decide), fw'.2 33 (by decide)]
    have r34 : M_X8_takeSign 59 (muX6_readEnd_5 w) 34 = upd (upd (μc' 34) n (nI n')) n' (nI n) := by
      rw [x4.2 34 (by decide), en, upm_other (by decide), upm_other (by decide), upm_other (by decide), upm_row, upm_row, upm_other (by decide), upm_other (by decide), fw'.2 34 (by decide)]
    have r35 : M_X8_takeSign 59 (muX6_readEnd_5 w) 35 = μc' 35 := by
      rw [x4.2 35 (by decide), en, upm_other (by decide), upm_other (by decide), upm_other (by decide), upm_other (by decide), upm_other (by decide), upm_other (by decide), upm_other (by decide), fw'.2 35 (by decide)]
    have rs : M_X10_sign 59 m51 (441 + s) = upd (S (441 + s)) 2 (nI s') := by
      rw [x5.2 _ (by omega), e51', upm_row, upm_other (by omega), fms.2 _ (by omega)]
    have ro : ∀ x, x ≠ s → M_X10_sign 59 m51 (441 + x) = S (441 + x) := fun x hx => by
      rw [x5.2 _ (by omega), e51', upm_other (by omega), upm_other (by omega), fms.2 _ (by omega)]
    refine Or.inl ⟨_, p4, cr1 (by rw [x1]; decide), ⟨x2, ⟨?_, ?_, ?_, ?_⟩, ⟨by omega, by omega⟩, wc.trans x4.w, wm.trans x5.w⟩, by omega, ?_, ?_⟩
    · rw [x4.2 31 (by decide), en, upm_rr, if_pos rfl]
    · rw [x4.2 31 (by decide), en, upm_rr, if_neg (by decide), upm_other (by decide), upm_other (by decide), upm_other (by decide), upm_other (by decide), upm_rr, if_pos rfl]
    · rw [x5.1 30 (by decide), e51', upm_other (by omega), upm_rr, if_neg (by decide), b3 30 (by decide), w30]
    · rw [x5.1 8 (by decide), e51', upm_other (by omega), upm_rr, if_pos rfl]
    · refine Or.inr (Or.inr ⟨n', s', v, 6 - (o + 1), by omega, hv, ?_, ?_, ?_, ?_, ?_, ?_, ?_, ?_, ?_, Sg.nil _ _ _ _⟩)
      · rw [r32, upd_ne _ (by omega), k1]
      · rw [r33, upd_ne _ (by omega), k2]
      · rw [r34, upd_ne _ (by omega), upd_at]
      · rw [r32, upd_at]
      · rw [r34, upd_at]
      · show M_X10_sign 59 m51 (441 + s) 0 = 6
        rw [rs, upd_ne _ (by decide), k3]
      · show M_X10_sign 59 m51 (441 + s) 1 = nI v
        rw [rs, upd_ne _ (by decide), k4]
      · show M_X10_sign 59 m51 (441 + s) 2 = nI s'
        rw [rs, upd_at]
      · refine Sg.congr _ _ _ _ _ _ hg (fun i i1 i2 => ⟨?_, ?_, ?_⟩) (fun i i1 _ => ro i (by omega))
        · rw [r32, upd_ne _ (by omega)]
        · rw [r33, upd_ne _ (by omega)]
        · rw [r34, upd_ne _ (by omega), upd_ne _ (by omega)]
    · refine ⟨fun i hi => ⟨?_, ?_, ?_⟩, fun j _ => by rw [r35], fun i hi => ro i (by omega)⟩
      · rw [r32, upd_ne _ (by omega)]
      · rw [r33, upd_ne _ (by omega)]
      · rw [r34, upd_ne _ (by omega), upd_ne _ (by omega)]
  · exact Or.inr ⟨_, cr2 x1, x2, wc.x.trans x3.w, wm.x.trans x4.w⟩
theorem si_step {t : Nat → Int32} {N o : Nat} {A B s0 : Mem} {E : EV} {rM : Mem → Mem} {rP : Mem → Prop} (hE : EL E A B) (hO : EvOK E) (hN : N ≤ 150) (ht : TxO t N) (ho : o ≤ 6) (ih : o < 6 → SI t N A B E s0 (o + 1) rM rP) : SI t N A B E s0 o (M_X10_readsStep rM rP) (P_X10_readsStep rM rP) := by
  intro n s p μc μm hc h h0 h93
  have h' := h
  obtain ⟨⟨tc, ⟨pm, tm, em⟩, h5⟩, ⟨c5, c6, x30, x8⟩, ⟨hnp, hsp⟩, hA, hB⟩ := h'
  have pN := tc.2.1
  have N6 := tc.1
  obtain ⟨q1, q2, -, -⟩ := skp_ok (t := t) N6 pN
  have ss := skp_skp (t := t) N6 pN
  by_cases hq : skp t N p < N
  · obtain ⟨e1, e2, e3, v3, tw, fw⟩ := rd_look (n := n) ht tc hq c6 ho
    have v3' : VX6_read_12_3 n μc = 0 := by rw [v3, if_neg (fun z => h93 z.1 z.2)]
    have hw : Rd t N A B o n s (skp t N p) (VX6_read_12_4 n μc) μm := ⟨⟨tw, ⟨pm, tm, by rw [ss]; exact em⟩, h5⟩, ⟨by rw [fw.2 31 (by decide)]; exact c5, by rw [fw.2 31 (by decide)]; exact c6, x30, x8⟩, ⟨by omega, by omega⟩, hA.trans fw.w, hB⟩
    have old0 : Old o n s μc μm (VX6_read_12_4 n μc) μm := Old.of (fun r _ _ => fw.2 r (by omega)) (fun _ _ => rfl)
    by_cases k6 : stK t N (skp t N p) = 6
    · by_cases o6 : o = 6
      · subst o6
        obtain ⟨a1, a2, a3, a4, a5, a6⟩ := again_no (rM := rM) (rP := rP) hw ss k6
        exact ⟨a3, Or.inr ⟨n, μc, _, hc, (cr_step hc (by omega) e1 e2 e3 v3' a1).2 a2, a4, a5, a6⟩⟩
      · have ho5 : o < 6 := by omega
        obtain ⟨a1, ⟨k1, z6, nf, v5, sk, m30, hs, pnum, ps91, pbl⟩, a3⟩ := again_head (rM := rM) (rP := rP) hN ho5 hw ss k6
        have n6 : ¬ F_X10_stepHere μm ≠ 6 := not_not_intro z6
        have er : ix (muX10_readsStep_30 rM rP μm 57 30) = s := by rw [m30, nI_ix (by omega)]
        have cs := cr_step hc (by omega) e1 e2 e3 v3' a1
        -- the reference, from its loop on
        have PP : ∀ k, NX10_readsStep_137' rM rP μm = k → (∀ j, j < k → Pb_X10_readsStep_137 rM rP (441 + (ix (muX10_readsStep_30 rM rP μm 57 30))) (F_X10_stepHere μm) j (fo j (g_X10_readsStep_137 rM rP (441 + (ix (muX10_readsStep_30 rM rP μm 57 30))) (F_X10_stepHere μm)) (muX10_readsStep_44 rM rP μm))) →
            ((SX10_readsStep_137' rM rP μm 57 5 ≠ 0 → P_X10_sign 93 (SX10_readsStep_137' rM rP μm) ∧ P_X10_sign 59 (muX10_readsStep_47 rM rP μm)) ∧ (SX10_readsStep_137' rM rP μm 57 5 = 0 → P_X10_byteAt (SX10_readsStep_137' rM rP μm 57 4) (SX10_readsStep_137' rM rP μm) ∧ F_X10_byteAt (SX10_readsStep_137' rM rP μm 57 4) (SX10_readsStep_137' rM rP μm) = 93 ∧ P_X10_sign 93 (SX10_readsStep_137' rM rP μm) ∧ P_X10_sign 59 (muX10_readsStep_51 rM rP μm))) → P_X10_readsStep rM rP μm := by
          intro k ek hj hcase
          refine ⟨k1, ⟨fun z => absurd z n6, fun _ => ⟨fun _ => ⟨fun _ => ⟨sk, by rw [m30]; exact vp_in_nI hs (by decide), ⟨fun _ => trivial, fun z => absurd z (by rw [z6]; decide)⟩, ⟨fun _ => trivial, fun z => absurd z (by rw [z6]; decide)⟩, fun z => absurd z n6, fun _ => ⟨pnum, ps91, pbl, fun j hj9 => hj j (by rw [ek] at hj9; exact hj9), hcase.1, fun z => ⟨(hcase.2 z).1, fun _ => (hcase.2 z).2.2, fun y => absurd (hcase.2 z).2.1 y⟩⟩⟩, fun z => absurd v5 z⟩, fun z => absurd z nf⟩⟩⟩
        rcases a3 with ⟨hF, v, p1, hv, r1, r2, r3, r4, r5, r6, r7, r8, r9⟩ | ⟨hF, tf, wc, wm⟩
        · obtain ⟨k, ek, hj, hcase⟩ := loop_ok (rw2 := 441 + (ix (muX10_readsStep_30 rM rP μm 57 30))) (v1 := F_X10_stepHere μm) hN (ih ho5) (cs.1 hF) r1 r2
          have ek' : NX10_readsStep_137' rM rP μm = k := ek
          have eS : SX10_readsStep_137' rM rP μm = fo k (g_X10_readsStep_137 rM rP (441 + (ix (muX10_readsStep_30 rM rP μm 57 30))) (F_X10_stepHere μm)) (muX10_readsStep_44 rM rP μm) := by
            unfold SX10_readsStep_137'
            rw [ek']
          rw [← eS] at hcase
          rcases hcase with ⟨S5, y1, y2, n', s', p', μc', f, g1, g2, g3, g4, g5, g6, g7, g8, g9⟩ | ⟨n', μc', Mc, g1, g2, g3, g4, g5⟩
          · have e51 : muX10_readsStep_51 rM rP μm = upm (upm (M_X10_sign 93 (SX10_readsStep_137' rM rP μm)) 57 8 (M_X10_sign 93 (SX10_readsStep_137' rM rP μm) 57 8 - 1)) (441 + s) 2 (M_X10_sign 93 (SX10_readsStep_137' rM rP μm) 57 30) := by
              unfold muX10_readsStep_51 muX10_readsStep_50 muX10_readsStep_49
              rw [er, upm_rr, if_neg (by decide)]
            obtain ⟨x1, x2, x3⟩ := close_ok (o := o) (n := n) (s := s) hN ht ho5 g1 g2 g3 g4 g8 (by rw [g9.2.1 o (by omega), r6]) (by rw [(g9.1 n (by omega)).1, r4]) (by rw [(g9.1 n (by omega)).2.1, r5]) (by rw [g9.2.2 s (by omega), r7]) (by rw [g9.2.2 s (by omega), r8]) hv g6 g7 e51
            have nz : ¬ SX10_readsStep_137' rM rP μm 57 5 ≠ 0 := not_not_intro S5
            have eM : M_X10_readsStep rM rP μm = M_X10_sign 59 (muX10_readsStep_51 rM rP μm) := by
              unfold M_X10_readsStep muX10_readsStep_52
              rw [if_neg n6, if_pos nf, if_pos v5, if_neg n6, if_neg nz]
            refine ⟨PP k ek' hj ⟨fun z => absurd z nz, fun _ => ⟨y1, y2, x1, x2⟩⟩, ?_⟩
            rw [eM]
            rcases x3 with ⟨μc2, p4, l1, l2, l3, l4, l5⟩ | ⟨Mc, l1, l2, l3, l4⟩
            · exact Or.inl ⟨n' + 1, s', p4, μc2, f + 1, l1, l2, by omega, by omega, by omega, l4, ((old0.trans r9 (Nat.le_refl _) (Nat.le_refl _)).trans (g9.lo (by omega)) (by omega) (by omega)).trans l5 (Nat.le_refl _) (Nat.le_refl _)⟩
            · exact Or.inr ⟨n', μc', Mc, g1, l1, l2, l3, l4⟩
          · obtain ⟨x1, x2, x3, x4⟩ := fin_bad (rM := rM) (rP := rP) (μm := μm) rfl g3 g5 er hs
            have nz : SX10_readsStep_137' rM rP μm 57 5 ≠ 0 := g3.nz
            have eM : M_X10_readsStep rM rP μm = muX10_readsStep_48 rM rP μm := by
              unfold M_X10_readsStep
              rw [if_neg n6, if_pos nf, if_pos v5, if_neg n6, if_pos nz]
            refine ⟨PP k ek' hj ⟨fun _ => ⟨x1, x2⟩, fun z => absurd z nz⟩, Or.inr ⟨n', μc', Mc, g1, g2, ?_, g4, ?_⟩⟩
            · rw [eM]
              exact x3
            · rw [eM]
              exact x4
        · have nz0 : muX10_readsStep_44 rM rP μm 57 5 ≠ 0 := tf.nz
          have ek' : NX10_readsStep_137' rM rP μm = 0 := by
            unfold NX10_readsStep_137'
            exact loop_none nz0
          have eS : SX10_readsStep_137' rM rP μm = muX10_readsStep_44 rM rP μm := by
            unfold SX10_readsStep_137'
            rw [ek', fo_z]
          obtain ⟨x1, x2, x3, x4⟩ := fin_bad (rM := rM) (rP := rP) (μm := μm) eS tf wm er hs
          have nz : SX10_readsStep_137' rM rP μm 57 5 ≠ 0 := by rw [eS]; exact nz0
          have eM : M_X10_readsStep rM rP μm = muX10_readsStep_48 rM rP μm := by
            unfold M_X10_readsStep
            rw [if_neg n6, if_pos nf, if_pos v5, if_neg n6, if_pos nz]
          refine ⟨PP 0 ek' (fun j hj => absurd hj (Nat.not_lt_zero _)) ⟨fun _ => ⟨x1, x2⟩, fun z => absurd z nz⟩, Or.inr ⟨n, μc, _, hc, cs.2 hF, ?_, wc, ?_⟩⟩
          · rw [eM]
            exact x3
          · rw [eM]
            exact x4
    · obtain ⟨a1, a2, a3⟩ := step_one (rM := rM) (rP := rP) hE hO hN hw ss k6
      have cs := cr_step hc (by omega) e1 e2 e3 v3' a1
      refine ⟨a2, ?_⟩
      rcases a3 with ⟨hF, p', r1, r2, r3, r4⟩ | ⟨hF, tf, wc, wm⟩
      · exact Or.inl ⟨n + 1, s + 1, p', _, 1, cs.1 hF, r1, by omega, by omega, by omega, Or.inr (Or.inl ⟨r3, rfl, rfl⟩), old0.trans r4 (Nat.le_refl _) (Nat.le_refl _)⟩
      · exact Or.inr ⟨n, μc, _, hc, cs.2 hF, tf, wc, wm⟩
  · have o0 : o ≠ 0 := fun z => hq (h0 z)
    obtain ⟨e1, e2, e3, e4, e5⟩ := sp_isEnded ht tc
    rw [if_neg hq] at e2
    have e2' : ¬ F_X8_isEnded μc = 0 := by rw [e2]; decide
    have e6 : M_X8_isEnded μc 31 6 = nI o := by rw [e4 31 (by decide), c6]
    have L0 : ltn t N (skp t N p) < 3 := by
      obtain ⟨l1, -⟩ := ltn_ok (t := t) N6 q1
      omega
    obtain ⟨a1, a2⟩ := ref_no (rM := rM) (rP := rP) tm em h5 hB (stK_no L0)
    obtain ⟨t1, t2, t3, t4⟩ := sp_failHere (k := 1) (μ := M_X8_isEnded μc)
    obtain ⟨b1, b2⟩ := a2 (M_X8_failHere 1 (M_X8_isEnded μc)) t1 (by rw [t2, e3.2.2.2.1])
    refine ⟨a1, Or.inr ⟨n, μc, _, hc, cr_out (by omega) e1 e2' (by rw [e6]; exact nI_ne0 (by omega) (by omega)), b1, ?_, b2⟩⟩
    exact hA.x.trans ((FCx.w ⟨fun k a b c d e => (t3 k d e).trans (e5 k a), fun r hr => (t4 r hr).trans (e4 r hr)⟩))
theorem TstepM_s (l : Nat) : TstepM (l + 1) = (M_X10_readsStep (TstepM l).1 (TstepM l).2, P_X10_readsStep (TstepM l).1 (TstepM l).2) := rfl
theorem si_rec {t : Nat → Int32} {N : Nat} {A B s0 : Mem} {E : EV} (hE : EL E A B) (hO : EvOK E) (hN : N ≤ 150) (ht : TxO t N) : ∀ d o, o ≤ 6 → 6 ≤ o + d → SI t N A B E s0 o (TstepM (d + 1)).1 (TstepM (d + 1)).2
  | 0, o, h1, h2 => by
    rw [TstepM_s]
    exact si_step hE hO hN ht h1 (fun z => absurd z (by omega))
  | d + 1, o, h1, h2 => by
    rw [TstepM_s]
    exact si_step hE hO hN ht h1 (fun z => si_rec hE hO hN ht d (o + 1) (by omega) (by omega))
