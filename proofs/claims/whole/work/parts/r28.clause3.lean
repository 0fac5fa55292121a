/-! one CLAUSE, both sides -/
theorem isFull_k (k : Nat) (hk : k < 6) (μ : Mem) : F_X10_isFull (nI k) μ = if k = 0 then (if μ 60 0 = 6 then 1 else 0) else if k = 1 then (if μ 60 1 = 10 then 1 else 0) else if k = 2 then (if μ 60 2 = 12 then 1 else 0) else if k = 3 then (if μ 60 3 = 6 then 1 else 0) else 0 := by
  have : k = 0 ∨ k = 1 ∨ k = 2 ∨ k = 3 ∨ k = 4 ∨ k = 5 := by omega
  rcases this with rfl | rfl | rfl | rfl | rfl | rfl <;> simp [F_X10_isFull, nI]
/-- what a clause does by both -/
def CO (t : Nat → Int32) (N q i : Nat) (μc μm : Mem) : Prop :=
  (F_X8_takeWord μc ≠ 0 ∧ F_X7_readClause (if nI i ≠ 60 then 0 else 1) (M_X8_takeWord μc) ≠ 0 ∧ F_X8_takeSign 59 (M_X7_readClause (if nI i ≠ 60 then 0 else 1) (M_X8_takeWord μc)) ≠ 0 ∧ i < 60 ∧
    ∃ E' p', EvOK E' ∧ RdR E' (M_X8_takeSign 59 (M_X7_readClause (if nI i ≠ 60 then 0 else 1) (M_X8_takeWord μc))) (M_X10_clause μm) ∧ TT t N p' (M_X8_takeSign 59 (M_X7_readClause (if nI i ≠ 60 then 0 else 1) (M_X8_takeWord μc))) (M_X10_clause μm) ∧ q + 1 ≤ p' ∧ GC μc (M_X8_takeSign 59 (M_X7_readClause (if nI i ≠ 60 then 0 else 1) (M_X8_takeWord μc))) ∧ GM μm (M_X10_clause μm) ∧ M_X10_clause μm 57 7 = nI (i + 1)) ∨
  (∃ Mc, TF t N Mc (M_X10_clause μm) ∧ GCx μc Mc ∧ GMx μm (M_X10_clause μm) ∧ ((F_X8_takeWord μc = 0 ∧ Mc = M_X8_takeWord μc) ∨ (F_X8_takeWord μc ≠ 0 ∧ F_X7_readClause (if nI i ≠ 60 then 0 else 1) (M_X8_takeWord μc) = 0 ∧ Mc = M_X7_readClause (if nI i ≠ 60 then 0 else 1) (M_X8_takeWord μc)) ∨
    (F_X8_takeWord μc ≠ 0 ∧ F_X7_readClause (if nI i ≠ 60 then 0 else 1) (M_X8_takeWord μc) ≠ 0 ∧ F_X8_takeSign 59 (M_X7_readClause (if nI i ≠ 60 then 0 else 1) (M_X8_takeWord μc)) = 0 ∧ Mc = M_X8_takeSign 59 (M_X7_readClause (if nI i ≠ 60 then 0 else 1) (M_X8_takeWord μc)))))
def CP (i : Nat) (μc μm : Mem) : Prop := P_X8_takeWord μc ∧ (F_X8_takeWord μc ≠ 0 → P_X7_readClause (if nI i ≠ 60 then 0 else 1) (M_X8_takeWord μc) ∧ (F_X7_readClause (if nI i ≠ 60 then 0 else 1) (M_X8_takeWord μc) ≠ 0 → P_X8_takeSign 59 (M_X7_readClause (if nI i ≠ 60 then 0 else 1) (M_X8_takeWord μc)))) ∧ P_X10_clause μm
theorem RdR.mono {E : EV} {μc μm μc' μm' : Mem} (h : RdR E μc μm) (hO : EvOK E) (c : ∀ r, 12 ≤ r → r ≤ 20 → μc' r = μc r) (m : ∀ r, ¬ rdF r → r ≠ 57 → μm' r = μm r) : RdR E μc' μm' := by
  obtain ⟨r1, r2, r3, r4, r5, r6⟩ := h
  have l1 := hO.1.2.1
  have l2 := hO.1.2.2.2
  unfold RdR
  rw [c 12 (by decide) (by decide), c 13 (by decide) (by decide), c 14 (by decide) (by decide), c 15 (by decide) (by decide), c 16 (by decide) (by decide), c 17 (by decide) (by decide), c 18 (by decide) (by decide), c 19 (by decide) (by decide), c 20 (by decide) (by decide), m 60 rdF_60 (by decide), m 62 rdF_62 (by decide), m 64 rdF_64 (by decide)]
  refine ⟨r1, r2, r3, r4, fun t ht => ?_, fun f hf => ?_⟩
  · rw [m (67 + t) (rdF_67 (by omega)) (by omega)]
    exact r5 t ht
  · rw [m (89 + f) (rdF_89 (by omega)) (by omega)]
    exact r6 f hf
/-- behind the numbers: the sign -/
theorem cl_end {t : Nat → Int32} {N q p i : Nat} {μc μm c7 x : Mem} {F : Int32} (hw : F_X8_takeWord μc ≠ 0) (hF : F_X7_readClause (if nI i ≠ 60 then 0 else 1) (M_X8_takeWord μc) = F) (hM : M_X10_clause μm = M_X10_sign 59 x) (qp : q + 1 ≤ p) (gc : GC μc (M_X8_takeWord μc)) (gm : GM μm c7) (h7 : c7 57 7 = nI (i + 1)) (x7 : x 57 7 = c7 57 7) (hi : i < 60) (h : ClO t N p (M_X8_takeWord μc) c7 F (M_X7_readClause (if nI i ≠ 60 then 0 else 1) (M_X8_takeWord μc)) x) : (F ≠ 0 → P_X8_takeSign 59 (M_X7_readClause (if nI i ≠ 60 then 0 else 1) (M_X8_takeWord μc))) ∧ P_X10_sign 59 x ∧ CO t N q i μc μm := by
  rcases h with ⟨f1, E', p', hO, hR, ht, pp, g1, g2⟩ | ⟨f1, tf, g1, g2⟩
  · obtain ⟨a1, a2, a3⟩ := TT_sign (c := 59) ht (by decide)
    refine ⟨fun _ => a1, a2, ?_⟩
    rcases a3 with ⟨b1, p2, b2, b3, b4, b5⟩ | ⟨b1, b2, b3, b4⟩
    · refine Or.inl ⟨hw, by rw [hF, f1]; decide, by rw [b1]; decide, hi, E', p2, hO, ?_, ?_, by omega, gc.trans (g1.trans b4.g), ?_, ?_⟩
      · rw [hM]
        exact hR.mono hO (fun r u v => b4.2 r (by omega)) (fun r _ v => b5.2 r v)
      · rw [hM]
        exact b2
      · rw [hM]
        exact gm.trans (g2.trans b5.g)
      · rw [hM, b5.1 7 (by decide), x7, h7]
    · refine Or.inr ⟨_, ?_, gc.x.trans (g1.x.trans b3.g), ?_, Or.inr (Or.inr ⟨hw, by rw [hF, f1]; decide, b1, rfl⟩)⟩
      · rw [hM]
        exact b2
      · rw [hM]
        exact gm.x.trans (g2.x.trans b4.g)
  · obtain ⟨a1, a2⟩ := sp_sign_no (c := 59) tf.nz
    refine ⟨fun z => absurd f1 z, a1, Or.inr ⟨_, ?_, gc.x.trans g1, ?_, Or.inr (Or.inl ⟨hw, by rw [hF, f1], rfl⟩)⟩⟩
    · rw [hM, a2]
      exact tf
    · rw [hM, a2]
      exact gm.x.trans g2
theorem clause_ok {t : Nat → Int32} {N q i pm : Nat} {E : EV} {μc μm : Mem} (hO : EvOK E) (hR : RdR E μc μm) (tc : TxC t N q μc) (tm : TxM t N pm μm) (em : skp t N pm = q) (h5 : μm 57 5 = 0) (hq : skp t N q = q) (h7 : μm 57 7 = nI i) (hi : i ≤ 60) : CP i μc μm ∧ CO t N q i μc μm := by
  have hN := tc.1
  have hqN := tc.2.1
  obtain ⟨w1, w2, w3, w4⟩ := sp_takeWord tc
  rw [hq] at w2 w3
  obtain ⟨k1, k2, k3⟩ := sp_kindHere tm h5
  rw [em] at k2 k3
  have kk : At t N q μm (muX10_clause_1 μm) := k3
  have c5 : muX10_clause_1 μm 57 5 = 0 := by rw [kk.2.2 5 (by decide), h5]
  have c4 : muX10_clause_1 μm 57 4 = nI q := kk.1.2.2.2.1
  have c60 : muX10_clause_1 μm 60 = μm 60 := kk.2.1 60 (by decide)
  -- a fault of the reference at q
  have bad : ∀ f : Int32, f ≠ 0 → VX10_clause_5 μm = M_X10_wrong f (muX10_clause_1 μm 57 4) (muX10_clause_1 μm) → P_X10_clause μm ∧ ∀ Mc : Mem, Mc 1 6 = f → Mc 1 7 = nI q → TF t N Mc (M_X10_clause μm) ∧ GMx μm (M_X10_clause μm) := by
    intro f hf ev
    rw [sp_wrong c5, c4] at ev
    have v5 : ¬ VX10_clause_5 μm 57 5 = 0 := by
      rw [ev, upm_rr, if_neg (by decide), upm_rr, if_pos rfl]
      exact hf
    have eM : M_X10_clause μm = upm (upm (muX10_clause_1 μm) 57 5 f) 57 6 (nI q) := by
      unfold M_X10_clause
      rw [if_neg v5, ev]
    refine ⟨⟨k1, fun z => absurd z v5, fun _ => trivial⟩, fun Mc m6 m7 => ⟨⟨f, nI q, hf, m6, m7, ?_, ?_, _, kk.1.mono ?_ ?_ ?_⟩, ?_⟩⟩
    · rw [eM, upm_rr, if_neg (by decide), upm_rr, if_pos rfl]
    · rw [eM, upm_rr, if_pos rfl]
    · rw [eM, upm_rr, if_neg (by decide), upm_rr, if_neg (by decide)]
    · rw [eM, upm_rr, if_neg (by decide), upm_rr, if_neg (by decide)]
    · rw [eM, upm_other (by decide), upm_other (by decide)]
    · rw [eM]
      exact ⟨fun k a b c d => by rw [upm_rr, if_neg c, upm_rr, if_neg b, kk.2.2 k a], fun r a => by rw [upm_other a.1, upm_other a.1, kk.2.1 r a.1]⟩
  by_cases L0 : ltn t N q = 0
  · have kz : clK t N q = -1 := clK_no (by omega)
    obtain ⟨g1, g2, g3, g4⟩ := w3 L0
    have ev : VX10_clause_5 μm = M_X10_wrong 1 (muX10_clause_1 μm 57 4) (muX10_clause_1 μm) := by
      unfold VX10_clause_5 muX10_clause_4
      rw [k2, kz, if_neg (by decide)]
    obtain ⟨b1, b2⟩ := bad 1 (by decide) ev
    obtain ⟨b3, b4⟩ := b2 _ g2 g3
    exact ⟨⟨w1, fun z => absurd g1 z, b1⟩, Or.inr ⟨_, b3, ⟨fun k a b c d e => g4 k a d e, fun r a _ => w4 r a⟩, b4, Or.inl ⟨g1, rfl⟩⟩⟩
  obtain ⟨g1, g2, g3, g4, g5⟩ := w2 L0
  have hw : F_X8_takeWord μc ≠ 0 := by rw [g1]; decide
  have wd : WdC t N q (M_X8_takeWord μc) := ⟨hN, hqN, g3, g4, fun k hk => g2.2.2.2.2 k hk⟩
  have W : ∀ k, k < 19 → k ≠ 0 → P_X8_isWord k (M_X8_takeWord μc) ∧ F_X8_isWord k (M_X8_takeWord μc) = if wdM t N q k = true then 1 else 0 := fun k a b => sp_isWordC a b wd
  have gcw : GC μc (M_X8_takeWord μc) := ⟨g5, fun r a _ => w4 r a⟩
  have w12 : M_X8_takeWord μc 12 = μc 12 := w4 12 (by decide)
  -- a fault of the class at its word
  have badC : ∀ f : Int32, f ≠ 0 → VX10_clause_5 μm = M_X10_wrong f (muX10_clause_1 μm 57 4) (muX10_clause_1 μm) → F_X7_readClause (if nI i ≠ 60 then 0 else 1) (M_X8_takeWord μc) = 0 → M_X7_readClause (if nI i ≠ 60 then 0 else 1) (M_X8_takeWord μc) = M_X8_failToken f (M_X8_takeWord μc) → P_X10_clause μm ∧ CO t N q i μc μm := by
    intro f hf ev zF eM
    obtain ⟨b1, b2⟩ := bad f hf ev
    obtain ⟨t1, t2, t3, t4⟩ := sp_failToken (k := f) (μ := M_X8_takeWord μc)
    obtain ⟨b3, b4⟩ := b2 (M_X7_readClause (if nI i ≠ 60 then 0 else 1) (M_X8_takeWord μc)) (by rw [eM, t1]) (by rw [eM, t2, g3])
    refine ⟨b1, Or.inr ⟨_, b3, ?_, b4, Or.inr (Or.inl ⟨hw, zF, rfl⟩)⟩⟩
    rw [eM]
    exact gcw.x.trans ⟨fun k a b c d e => t3 k d e, fun r a _ => t4 r a⟩
  rcases clK_of (t := t) (N := N) (q := q) with ⟨kz, nw⟩ | hk
  · have nn := fun k => nw k
    have z1 : F_X8_isWord 1 (M_X8_takeWord μc) = 0 := by rw [(W 1 (by decide) (by decide)).2, if_neg ((nw 1).1 rfl)]
    have z2 : F_X8_isWord 2 (M_X8_takeWord μc) = 0 := by rw [(W 2 (by decide) (by decide)).2, if_neg ((nw 2).2.1 rfl)]
    have z3 : F_X8_isWord 3 (M_X8_takeWord μc) = 0 := by rw [(W 3 (by decide) (by decide)).2, if_neg ((nw 3).2.2.1 rfl)]
    have z4 : F_X8_isWord 4 (M_X8_takeWord μc) = 0 := by rw [(W 4 (by decide) (by decide)).2, if_neg ((nw 4).2.2.2.1 rfl)]
    have z5 : F_X8_isWord 5 (M_X8_takeWord μc) = 0 := by rw [(W 5 (by decide) (by decide)).2, if_neg ((nw 5).2.2.2.2.1 rfl)]
    have z6 : F_X8_isWord 6 (M_X8_takeWord μc) = 0 := by rw [(W 6 (by decide) (by decide)).2, if_neg ((nw 6).2.2.2.2.2 rfl)]
    have ev : VX10_clause_5 μm = M_X10_wrong 1 (muX10_clause_1 μm 57 4) (muX10_clause_1 μm) := by
      unfold VX10_clause_5 muX10_clause_4
      rw [k2, kz, if_neg (by decide)]
    obtain ⟨b1, b2⟩ := badC 1 (by decide) ev (by unfold F_X7_readClause; rw [if_pos z1, if_pos z2, if_pos z3, if_pos z4, if_pos z5, if_pos z6]; rfl) (by unfold M_X7_readClause; rw [if_pos z1, if_pos z2, if_pos z3, if_pos z4, if_pos z5, if_pos z6]; rfl)
    have zF : ¬ F_X7_readClause (if nI i ≠ 60 then 0 else 1) (M_X8_takeWord μc) ≠ 0 := by
      unfold F_X7_readClause
      rw [if_pos z1, if_pos z2, if_pos z3, if_pos z4, if_pos z5, if_pos z6]
      exact not_not_intro rfl
    exact ⟨⟨w1, fun _ => ⟨⟨(W 1 (by decide) (by decide)).1, fun _ => ⟨(W 2 (by decide) (by decide)).1, fun _ => ⟨(W 3 (by decide) (by decide)).1, fun _ => ⟨(W 4 (by decide) (by decide)).1, fun _ => ⟨(W 5 (by decide) (by decide)).1, fun _ => ⟨(W 6 (by decide) (by decide)).1, fun _ => trivial, fun z => absurd z6 z⟩, fun z => absurd z5 z⟩, fun z => absurd z4 z⟩, fun z => absurd z3 z⟩, fun z => absurd z2 z⟩, fun z => absurd z1 z⟩, fun z => absurd z zF⟩, b1⟩, b2⟩
  -- a word that is known
  have ht7 : ∀ v : Mem, VX10_clause_5 μm = muX10_clause_1 μm → P_X10_skipWord (VX10_clause_5 μm) ∧ TT t N (q + ltn t N q) (M_X8_takeWord μc) (muX10_clause_7 μm) ∧ GM μm (muX10_clause_7 μm) ∧ muX10_clause_7 μm 57 7 = nI (i + 1) ∧ ∀ r, r ≠ 57 → muX10_clause_7 μm r = μm r := by
    intro _ ev
    have e6 : muX10_clause_6 μm = M_X10_skipWord (muX10_clause_1 μm) := by
      unfold muX10_clause_6
      rw [ev]
    obtain ⟨s1, s2, s3, s4⟩ := sp_skipWord kk.1
    rw [← e6] at s2 s3 s4
    have e7 : muX10_clause_7 μm = upm (muX10_clause_6 μm) 57 7 (nI (i + 1)) := by
      unfold muX10_clause_7
      rw [s4 7 (by decide), kk.2.2 7 (by decide), h7, nI_succ]
    refine ⟨by rw [ev]; exact s1, ⟨g2, ⟨_, s2.mono (by rw [e7, upm_rr, if_neg (by decide)]) (by rw [e7, upm_rr, if_neg (by decide)]) (by rw [e7, upm_other (by decide)]), rfl⟩, ?_⟩, ⟨fun k a b => ?_, fun r a => ?_⟩, ?_, fun r a => ?_⟩
    · rw [e7, upm_rr, if_neg (by decide), s4 5 (by decide), c5]
    · rw [e7, upm_rr, if_neg b, s4 k a, kk.2.2 k a]
    · rw [e7, upm_other a.1, s3 r a.1, kk.2.1 r a.1]
    · rw [e7, upm_rr, if_pos rfl]
    · rw [e7, upm_other a, s3 r a, kk.2.1 r a]
  have c77 : muX10_clause_1 μm 57 7 = nI i := by rw [kk.2.2 7 (by decide), h7]
  have hRw : RdR E (M_X8_takeWord μc) (muX10_clause_7 μm) → True := fun _ => trivial
  have ulen := L0
  rcases hk with ⟨kz, wk⟩ | ⟨kz, wk⟩ | ⟨kz, wk⟩ | ⟨kz, wk⟩ | ⟨kz, wk⟩ | ⟨kz, wk⟩
  · -- house
    have kz' : F_X10_kindHere μm = 0 := by rw [k2, kz]
    have nz : ¬ F_X8_isWord 1 (M_X8_takeWord μc) = 0 := by
      rw [(W 1 (by decide) (by decide)).2, if_pos wk]
      decide
    by_cases i60 : i = 60
    · have full : (if nI i ≠ 60 then (0 : Int32) else 1) = 1 := by rw [i60]; rfl
      have ev : VX10_clause_5 μm = M_X10_wrong 3 (muX10_clause_1 μm 57 4) (muX10_clause_1 μm) := by
        unfold VX10_clause_5 muX10_clause_2
        rw [kz', if_pos (by decide), c77, i60, if_pos (by decide)]
      have zF : F_X7_readClause (if nI i ≠ 60 then 0 else 1) (M_X8_takeWord μc) = 0 := by
        rw [full]
        unfold F_X7_readClause
        rw [if_neg nz, if_pos (show (1 : Int32) ≠ 0 by decide)]
        rfl
      obtain ⟨b1, b2⟩ := badC 3 (by decide) ev zF (by rw [full]; unfold M_X7_readClause; rw [if_neg nz, if_pos (show (1 : Int32) ≠ 0 by decide)]; rfl)
      exact ⟨⟨w1, fun _ => ⟨by rw [full]; exact ⟨(W 1 (by decide) (by decide)).1, fun z => absurd z nz, fun _ => ⟨fun _ => trivial, fun z => absurd z (by decide)⟩⟩, fun z => absurd zF z⟩, b1⟩, b2⟩
    have open0 : (if nI i ≠ 60 then (0 : Int32) else 1) = 0 := if_pos fun z => i60 ((nI_eq (b := 60) (by omega) (by omega)).mp z)
    have n60 : ¬ muX10_clause_1 μm 57 7 = 60 := by rw [c77]; exact fun z => i60 ((nI_eq (b := 60) (by omega) (by omega)).mp z)
    have l1 := hO.1.1
    have cN : M_X8_takeWord μc 12 8 = nI (eH E) := by rw [w12]; exact hR.1.1
    have mN : μm 60 0 = nI (eH E) := hR.2.1.1
    by_cases mx : eH E = 6
    · have fl : ¬ F_X10_isFull 0 (muX10_clause_1 μm) = 0 := by
        have e := isFull_k 0 (by decide) (muX10_clause_1 μm)
        rw [show (nI 0 : Int32) = 0 from rfl] at e
        rw [e, c60]
        simp [mN, mx, nI]
      have ev : VX10_clause_5 μm = M_X10_wrong 3 (muX10_clause_1 μm 57 4) (muX10_clause_1 μm) := by
        unfold VX10_clause_5 muX10_clause_3
        rw [kz', if_pos (by decide), if_neg n60, if_neg fl]
      have cmx : ¬ M_X8_takeWord μc 12 8 ≠ 6 := by rw [cN, mx]; decide
      have zF : F_X7_readClause (if nI i ≠ 60 then 0 else 1) (M_X8_takeWord μc) = 0 := by
        rw [open0]
        unfold F_X7_readClause
        rw [if_neg nz, if_neg (show ¬ (0 : Int32) ≠ 0 by decide), if_neg cmx]
        rfl
      obtain ⟨b1, b2⟩ := badC 3 (by decide) ev zF (by rw [open0]; unfold M_X7_readClause; rw [if_neg nz, if_neg (show ¬ (0 : Int32) ≠ 0 by decide), if_neg cmx]; rfl)
      exact ⟨⟨w1, fun _ => ⟨by rw [open0]; exact ⟨(W 1 (by decide) (by decide)).1, fun z => absurd z nz, fun _ => ⟨fun z => absurd rfl z, fun _ => ⟨fun z => absurd z cmx, fun _ => trivial⟩⟩⟩, fun z => absurd zF z⟩, b1⟩, b2⟩
    have fl : F_X10_isFull 0 (muX10_clause_1 μm) = 0 := by
      have e := isFull_k 0 (by decide) (muX10_clause_1 μm)
      rw [show (nI 0 : Int32) = 0 from rfl] at e
      have ne : ¬ nI (eH E) = 6 := fun z => mx ((nI_eq (b := 6) (by omega) (by omega)).mp z)
      rw [e, c60]
      simp [mN, ne]
    have ev : VX10_clause_5 μm = muX10_clause_1 μm := by
      unfold VX10_clause_5
      rw [kz', if_pos (by decide), if_neg n60, if_pos fl]
    have cmx : M_X8_takeWord μc 12 8 ≠ 6 := by rw [cN]; exact fun z => mx ((nI_eq (b := 6) (by omega) (by omega)).mp z)
    obtain ⟨sP, t7, gm7, e77, o7⟩ := ht7 μm ev
    have v5 : VX10_clause_5 μm 57 5 = 0 := by rw [ev]; exact c5
    have hR7 : RdR E (M_X8_takeWord μc) (muX10_clause_7 μm) := hR.mono hO (fun r u v => w4 r (by omega)) (fun r _ v => o7 r v)
    have zF : F_X7_readClause (if nI i ≠ 60 then 0 else 1) (M_X8_takeWord μc) = F_X7_readHouse (M_X8_takeWord μc) := by
      rw [open0]
      unfold F_X7_readClause
      rw [if_neg nz, if_neg (show ¬ (0 : Int32) ≠ 0 by decide), if_pos cmx]
    have eM : M_X7_readClause (if nI i ≠ 60 then 0 else 1) (M_X8_takeWord μc) = M_X7_readHouse (M_X8_takeWord μc) := by
      rw [open0]
      unfold M_X7_readClause
      rw [if_neg nz, if_neg (show ¬ (0 : Int32) ≠ 0 by decide), if_pos cmx]
      rfl
    have ixk : ix (F_X10_kindHere μm) = 0 := by rw [kz']; rfl
    have k7 : muX10_clause_7 μm 60 (ix (F_X10_kindHere μm)) = nI (eH E) := by rw [ixk, o7 60 (by decide), mN]
    have ixn : ix (muX10_clause_7 μm 60 (ix (F_X10_kindHere μm))) = eH E := by rw [k7, nI_ix (by omega)]
    have l4 : ¬ (4 : Int32) ≤ F_X10_kindHere μm := by rw [kz']; decide
    have vk : vp_in (F_X10_kindHere μm) 6 := by rw [kz']; exact vp_of (by decide) (by decide)
    obtain ⟨q1, q2, q3⟩ := cl_house hO hR7 t7 mx
    have y9 : muX10_clause_9 μm = upm (muX10_clause_8 μm) 62 (eH E) (F_X10_number 0 40 (muX10_clause_7 μm)) := by
      unfold muX10_clause_9
      rw [ixn]
    have z11 : VX10_clause_12 μm = upm (muX10_clause_9 μm) 60 0 (muX10_clause_9 μm 60 0 + (if muX10_clause_9 μm 57 5 ≠ 0 then 0 else 1)) := by
      unfold VX10_clause_12 muX10_clause_11 VX10_clause_10
      rw [if_neg l4, ixk]
    have clo := q3 (muX10_clause_8 μm) (muX10_clause_9 μm) (VX10_clause_12 μm) rfl y9 z11
    have num7 : M_X10_number 0 40 (muX10_clause_7 μm) 57 7 = muX10_clause_7 μm 57 7 := by
      obtain ⟨-, -, r⟩ := TT_num (lo := 0) (hi := 40) t7 (by decide)
      rcases r with ⟨v, p', -, -, -, -, -, -, -, -, r⟩ | ⟨-, -, -, r⟩
      · exact r.1 7 (by decide)
      · exact r.1 7 (by decide) (by decide) (by decide)
    have x77 : muX10_clause_8 μm 57 7 = muX10_clause_7 μm 57 7 := num7
    have eMm : M_X10_clause μm = M_X10_sign 59 (VX10_clause_12 μm) := by
      unfold M_X10_clause
      rw [if_pos v5, kz', if_pos (show (0 : Int32) = 0 from rfl)]
      rfl
    have x7 : VX10_clause_12 μm 57 7 = muX10_clause_7 μm 57 7 := by
      rw [z11, upm_other (by decide), y9, upm_other (by decide)]; exact x77
    rw [← eM] at clo
    obtain ⟨r1, r2, r3⟩ := cl_end (q := q) (p := q + ltn t N q) hw zF eMm (by omega) gcw gm7 e77 x7 (by omega) clo
    have hPm : P_X10_clause μm := by
      refine ⟨k1, fun _ => ⟨sP, vk, ?_⟩, fun z => absurd v5 z⟩
      exact ⟨fun _ => ⟨q2, by rw [k7]; exact vp_in_nI (by omega) (by decide), ⟨fun z => absurd z l4, fun _ => ⟨vk, vk⟩⟩, r2⟩, fun z => absurd (kz'.symm.trans z) (by decide), fun z => absurd (kz'.symm.trans z) (by decide), fun z => absurd (kz'.symm.trans z) (by decide), fun z => absurd kz' z.1⟩
    exact ⟨⟨w1, fun _ => ⟨by rw [open0]; exact ⟨(W 1 (by decide) (by decide)).1, fun z => absurd z nz, fun _ => ⟨fun z => absurd rfl z, fun _ => ⟨fun _ => q1, fun z => absurd z cmx⟩⟩⟩, fun z => r1 (by rw [← zF]; exact z)⟩, hPm⟩, r3⟩
  · -- thing
    have kz' : F_X10_kindHere μm = 1 := by rw [k2, kz]
    have z1 : F_X8_isWord 1 (M_X8_takeWord μc) = 0 := by rw [(W 1 (by decide) (by decide)).2, if_neg (fun y => absurd (wd_uniq (by decide) (by decide) (by decide) (by decide) y wk) (by decide))]
    have nz : ¬ F_X8_isWord 2 (M_X8_takeWord μc) = 0 := by
      rw [(W 2 (by decide) (by decide)).2, if_pos wk]
      decide
    by_cases i60 : i = 60
    · have full : (if nI i ≠ 60 then (0 : Int32) else 1) = 1 := by rw [i60]; rfl
      have ev : VX10_clause_5 μm = M_X10_wrong 3 (muX10_clause_1 μm 57 4) (muX10_clause_1 μm) := by
        unfold VX10_clause_5 muX10_clause_2
        rw [kz', if_pos (by decide), c77, i60, if_pos (by decide)]
      have zF : F_X7_readClause (if nI i ≠ 60 then 0 else 1) (M_X8_takeWord μc) = 0 := by
        rw [full]
        unfold F_X7_readClause
        rw [if_pos z1, if_neg nz, if_pos (show (1 : Int32) ≠ 0 by decide)]
        rfl
      obtain ⟨b1, b2⟩ := badC 3 (by decide) ev zF (by rw [full]; unfold M_X7_readClause; rw [if_pos z1, if_neg nz, if_pos (show (1 : Int32) ≠ 0 by decide)]; rfl)
      exact ⟨⟨w1, fun _ => ⟨by rw [full]; exact ⟨(W 1 (by decide) (by decide)).1, fun _ => ⟨(W 2 (by decide) (by decide)).1, fun z => absurd z nz, fun _ => ⟨fun _ => trivial, fun z => absurd z (by decide)⟩⟩, fun z => absurd z1 z⟩, fun z => absurd zF z⟩, b1⟩, b2⟩
    have open0 : (if nI i ≠ 60 then (0 : Int32) else 1) = 0 := if_pos fun z => i60 ((nI_eq (b := 60) (by omega) (by omega)).mp z)
    have n60 : ¬ muX10_clause_1 μm 57 7 = 60 := by rw [c77]; exact fun z => i60 ((nI_eq (b := 60) (by omega) (by omega)).mp z)
    have l1 := hO.1.2.1
    have cN : M_X8_takeWord μc 12 9 = nI (eT E) := by rw [w12]; exact hR.1.2.1
    have mN : μm 60 1 = nI (eT E) := hR.2.1.2.1
    by_cases mx : eT E = 10
    · have fl : ¬ F_X10_isFull 1 (muX10_clause_1 μm) = 0 := by
        have e := isFull_k 1 (by decide) (muX10_clause_1 μm)
        rw [show (nI 1 : Int32) = 1 from rfl] at e
        rw [e, c60]
        simp [mN, mx, nI]
      have ev : VX10_clause_5 μm = M_X10_wrong 3 (muX10_clause_1 μm 57 4) (muX10_clause_1 μm) := by
        unfold VX10_clause_5 muX10_clause_3
        rw [kz', if_pos (by decide), if_neg n60, if_neg fl]
      have cmx : ¬ M_X8_takeWord μc 12 9 ≠ 10 := by rw [cN, mx]; decide
      have zF : F_X7_readClause (if nI i ≠ 60 then 0 else 1) (M_X8_takeWord μc) = 0 := by
        rw [open0]
        unfold F_X7_readClause
        rw [if_pos z1, if_neg nz, if_neg (show ¬ (0 : Int32) ≠ 0 by decide), if_neg cmx]
        rfl
      obtain ⟨b1, b2⟩ := badC 3 (by decide) ev zF (by rw [open0]; unfold M_X7_readClause; rw [if_pos z1, if_neg nz, if_neg (show ¬ (0 : Int32) ≠ 0 by decide), if_neg cmx]; rfl)
      exact ⟨⟨w1, fun _ => ⟨by rw [open0]; exact ⟨(W 1 (by decide) (by decide)).1, fun _ => ⟨(W 2 (by decide) (by decide)).1, fun z => absurd z nz, fun _ => ⟨fun z => absurd rfl z, fun _ => ⟨fun z => absurd z cmx, fun _ => trivial⟩⟩⟩, fun z => absurd z1 z⟩, fun z => absurd zF z⟩, b1⟩, b2⟩
    have fl : F_X10_isFull 1 (muX10_clause_1 μm) = 0 := by
      have e := isFull_k 1 (by decide) (muX10_clause_1 μm)
      rw [show (nI 1 : Int32) = 1 from rfl] at e
      have ne : ¬ nI (eT E) = 10 := fun z => mx ((nI_eq (b := 10) (by omega) (by omega)).mp z)
      rw [e, c60]
      simp [mN, ne]
    have ev : VX10_clause_5 μm = muX10_clause_1 μm := by
      unfold VX10_clause_5
      rw [kz', if_pos (by decide), if_neg n60, if_pos fl]
    have cmx : M_X8_takeWord μc 12 9 ≠ 10 := by rw [cN]; exact fun z => mx ((nI_eq (b := 10) (by omega) (by omega)).mp z)
    obtain ⟨sP, t7, gm7, e77, o7⟩ := ht7 μm ev
    have v5 : VX10_clause_5 μm 57 5 = 0 := by rw [ev]; exact c5
    have hR7 : RdR E (M_X8_takeWord μc) (muX10_clause_7 μm) := hR.mono hO (fun r u v => w4 r (by omega)) (fun r _ v => o7 r v)
    have zF : F_X7_readClause (if nI i ≠ 60 then 0 else 1) (M_X8_takeWord μc) = F_X7_readThing (M_X8_takeWord μc) := by
      rw [open0]
      unfold F_X7_readClause
      rw [if_pos z1, if_neg nz, if_neg (show ¬ (0 : Int32) ≠ 0 by decide), if_pos cmx]
    have eM : M_X7_readClause (if nI i ≠ 60 then 0 else 1) (M_X8_takeWord μc) = M_X7_readThing (M_X8_takeWord μc) := by
      rw [open0]
      unfold M_X7_readClause
      rw [if_pos z1, if_neg nz, if_neg (show ¬ (0 : Int32) ≠ 0 by decide), if_pos cmx]
      rfl
    have ixk : ix (F_X10_kindHere μm) = 1 := by rw [kz']; rfl
    have k7 : muX10_clause_7 μm 60 (ix (F_X10_kindHere μm)) = nI (eT E) := by rw [ixk, o7 60 (by decide), mN]
    have ixn : ix (muX10_clause_7 μm 60 (ix (F_X10_kindHere μm))) = eT E := by rw [k7, nI_ix (by omega)]
    have l4 : ¬ (4 : Int32) ≤ F_X10_kindHere μm := by rw [kz']; decide
    have vk : vp_in (F_X10_kindHere μm) 6 := by rw [kz']; exact vp_of (by decide) (by decide)
    obtain ⟨q1, q3⟩ := cl_thing hO hR7 t7 mx
    have k70 : muX10_clause_7 μm 60 0 = nI (eH E) := by rw [o7 60 (by decide)]; exact hR.2.1.1
    have X0 : muX10_clause_14 μm = M_X10_number 0 (nI (eH E) - 1) (muX10_clause_7 μm) := by
      unfold muX10_clause_14
      rw [k70]
    have Y0 : muX10_clause_15 μm = upm (muX10_clause_14 μm) (67 + eT E) 0 (F_X10_number 0 (nI (eH E) - 1) (muX10_clause_7 μm)) := by
      unfold muX10_clause_15
      rw [ixn, k70]
    have Y1 : muX10_clause_17 μm = upm (muX10_clause_16 μm) (67 + eT E) 1 (F_X10_number 1 9 (muX10_clause_15 μm)) := by
      unfold muX10_clause_17
      rw [ixn]
    have Y2 : muX10_clause_19 μm = upm (muX10_clause_18 μm) (67 + eT E) 2 (F_X10_number 1 20 (muX10_clause_17 μm)) := by
      unfold muX10_clause_19
      rw [ixn]
    have Y3 : muX10_clause_21 μm = upm (muX10_clause_20 μm) (67 + eT E) 3 (F_X10_number 0 40 (muX10_clause_19 μm)) := by
      unfold muX10_clause_21
      rw [ixn]
    have z11 : VX10_clause_24 μm = upm (muX10_clause_21 μm) 60 1 (muX10_clause_21 μm 60 1 + (if muX10_clause_21 μm 57 5 ≠ 0 then 0 else 1)) := by
      unfold VX10_clause_24 muX10_clause_23 VX10_clause_22
      rw [if_neg l4, ixk]
    obtain ⟨n0, n1, n2, n3, clo⟩ := q3 (muX10_clause_14 μm) (muX10_clause_16 μm) (muX10_clause_18 μm) (muX10_clause_20 μm) (muX10_clause_15 μm) (muX10_clause_17 μm) (muX10_clause_19 μm) (muX10_clause_21 μm) (VX10_clause_24 μm) X0 Y0 rfl Y1 rfl Y2 rfl Y3 z11
    have num7 : ∀ (lo hi : Int32) (μ : Mem), (∃ pm, TxM t N pm μ) → (∃ pm, TxM t N pm (M_X10_number lo hi μ)) ∧ M_X10_number lo hi μ 57 7 = μ 57 7 := fun lo hi μ ⟨pm, hx⟩ => by
      by_cases z : μ 57 5 = 0
      · obtain ⟨-, a, -, -, -, b, -⟩ := sp_number (lo := lo) (hi := hi) hx z
        exact ⟨⟨_, a⟩, b 7 (by decide) (by decide) (by decide)⟩
      · obtain ⟨-, a, -⟩ := sp_number_no (lo := lo) (hi := hi) z
        rw [a]
        exact ⟨⟨_, hx⟩, rfl⟩
    obtain ⟨pm7, tx7, -⟩ := t7.2.1
    obtain ⟨⟨pa0, xa0⟩, na0⟩ := num7 0 (nI (eH E) - 1) (muX10_clause_7 μm) ⟨pm7, tx7⟩
    have ya0 : muX10_clause_15 μm = upm (M_X10_number 0 (nI (eH E) - 1) (muX10_clause_7 μm)) (67 + eT E) 0 (F_X10_number 0 (nI (eH E) - 1) (muX10_clause_7 μm)) := by rw [Y0, X0]
    have xb0 : TxM t N pa0 (muX10_clause_15 μm) := xa0.mono (by rw [ya0, upm_other (by omega)]) (by rw [ya0, upm_other (by omega)]) (by rw [ya0, upm_other (by omega)])
    have nb0 : muX10_clause_15 μm 57 7 = muX10_clause_7 μm 57 7 := by rw [ya0, upm_other (by omega), na0]
    obtain ⟨⟨pa1, xa1⟩, na1⟩ := num7 1 9 (muX10_clause_15 μm) ⟨pa0, xb0⟩
    have ya1 : muX10_clause_17 μm = upm (M_X10_number 1 9 (muX10_clause_15 μm)) (67 + eT E) 1 (F_X10_number 1 9 (muX10_clause_15 μm)) := by rw [Y1]; rfl
    have xb1 : TxM t N pa1 (muX10_clause_17 μm) := xa1.mono (by rw [ya1, upm_other (by omega)]) (by rw [ya1, upm_other (by omega)]) (by rw [ya1, upm_other (by omega)])
    have nb1 : muX10_clause_17 μm 57 7 = muX10_clause_7 μm 57 7 := by rw [ya1, upm_other (by omega), na1, nb0]
    obtain ⟨⟨pa2, xa2⟩, na2⟩ := num7 1 20 (muX10_clause_17 μm) ⟨pa1, xb1⟩
    have ya2 : muX10_clause_19 μm = upm (M_X10_number 1 20 (muX10_clause_17 μm)) (67 + eT E) 2 (F_X10_number 1 20 (muX10_clause_17 μm)) := by rw [Y2]; rfl
    have xb2 : TxM t N pa2 (muX10_clause_19 μm) := xa2.mono (by rw [ya2, upm_other (by omega)]) (by rw [ya2, upm_other (by omega)]) (by rw [ya2, upm_other (by omega)])
    have nb2 : muX10_clause_19 μm 57 7 = muX10_clause_7 μm 57 7 := by rw [ya2, upm_other (by omega), na2, nb1]
    obtain ⟨⟨pa3, xa3⟩, na3⟩ := num7 0 40 (muX10_clause_19 μm) ⟨pa2, xb2⟩
    have ya3 : muX10_clause_21 μm = upm (M_X10_number 0 40 (muX10_clause_19 μm)) (67 + eT E) 3 (F_X10_number 0 40 (muX10_clause_19 μm)) := by rw [Y3]; rfl
    have xb3 : TxM t N pa3 (muX10_clause_21 μm) := xa3.mono (by rw [ya3, upm_other (by omega)]) (by rw [ya3, upm_other (by omega)]) (by rw [ya3, upm_other (by omega)])
    have nb3 : muX10_clause_21 μm 57 7 = muX10_clause_7 μm 57 7 := by rw [ya3, upm_other (by omega), na3, nb2]
    have eMm : M_X10_clause μm = M_X10_sign 59 (VX10_clause_24 μm) := by
      unfold M_X10_clause
      rw [if_pos v5, kz', if_neg (show ¬ (1 : Int32) = 0 by decide), if_pos (show (1 : Int32) = 1 from rfl)]
      rfl
    have x7 : VX10_clause_24 μm 57 7 = muX10_clause_7 μm 57 7 := by
      rw [z11, upm_other (by decide), nb3]
    rw [← eM] at clo
    obtain ⟨r1, r2, r3⟩ := cl_end (q := q) (p := q + ltn t N q) hw zF eMm (by omega) gcw gm7 e77 x7 (by omega) clo
    have hPm : P_X10_clause μm := by
      refine ⟨k1, fun _ => ⟨sP, vk, ?_⟩, fun z => absurd v5 z⟩
      exact ⟨fun z => absurd (kz'.symm.trans z) (by decide), fun _ => ⟨by rw [k7]; exact vp_in_nI (by omega) (by decide), by rw [k70]; exact n0, n1, n2, n3, ⟨fun z => absurd z l4, fun _ => ⟨vk, vk⟩⟩, r2⟩, fun z => absurd (kz'.symm.trans z) (by decide), fun z => absurd (kz'.symm.trans z) (by decide), fun z => absurd kz' z.2.1⟩
    exact ⟨⟨w1, fun _ => ⟨by rw [open0]; exact ⟨(W 1 (by decide) (by decide)).1, fun _ => ⟨(W 2 (by decide) (by decide)).1, fun z => absurd z nz, fun _ => ⟨fun z => absurd rfl z, fun _ => ⟨fun _ => q1, fun z => absurd z cmx⟩⟩⟩, fun z => absurd z1 z⟩, fun z => r1 (by rw [← zF]; exact z)⟩, hPm⟩, r3⟩
  · -- tide
    have kz' : F_X10_kindHere μm = 2 := by rw [k2, kz]
    have z1 : F_X8_isWord 1 (M_X8_takeWord μc) = 0 := by rw [(W 1 (by decide) (by decide)).2, if_neg (fun y => absurd (wd_uniq (by decide) (by decide) (by decide) (by decide) y wk) (by decide))]
    have z2 : F_X8_isWord 2 (M_X8_takeWord μc) = 0 := by rw [(W 2 (by decide) (by decide)).2, if_neg (fun y => absurd (wd_uniq (by decide) (by decide) (by decide) (by decide) y wk) (by decide))]
    have nz : ¬ F_X8_isWord 3 (M_X8_takeWord μc) = 0 := by
      rw [(W 3 (by decide) (by decide)).2, if_pos wk]
      decide
    by_cases i60 : i = 60
    · have full : (if nI i ≠ 60 then (0 : Int32) else 1) = 1 := by rw [i60]; rfl
      have ev : VX10_clause_5 μm = M_X10_wrong 3 (muX10_clause_1 μm 57 4) (muX10_clause_1 μm) := by
        unfold VX10_clause_5 muX10_clause_2
        rw [kz', if_pos (by decide), c77, i60, if_pos (by decide)]
      have zF : F_X7_readClause (if nI i ≠ 60 then 0 else 1) (M_X8_takeWord μc) = 0 := by
        rw [full]
        unfold F_X7_readClause
        rw [if_pos z1, if_pos z2, if_neg nz, if_pos (show (1 : Int32) ≠ 0 by decide)]
        rfl
      obtain ⟨b1, b2⟩ := badC 3 (by decide) ev zF (by rw [full]; unfold M_X7_readClause; rw [if_pos z1, if_pos z2, if_neg nz, if_pos (show (1 : Int32) ≠ 0 by decide)]; rfl)
      exact ⟨⟨w1, fun _ => ⟨by rw [full]; exact ⟨(W 1 (by decide) (by decide)).1, fun _ => ⟨(W 2 (by decide) (by decide)).1, fun _ => ⟨(W 3 (by decide) (by decide)).1, fun z => absurd z nz, fun _ => ⟨fun _ => trivial, fun z => absurd z (by decide)⟩⟩, fun z => absurd z2 z⟩, fun z => absurd z1 z⟩, fun z => absurd zF z⟩, b1⟩, b2⟩
    have open0 : (if nI i ≠ 60 then (0 : Int32) else 1) = 0 := if_pos fun z => i60 ((nI_eq (b := 60) (by omega) (by omega)).mp z)
    have n60 : ¬ muX10_clause_1 μm 57 7 = 60 := by rw [c77]; exact fun z => i60 ((nI_eq (b := 60) (by omega) (by omega)).mp z)
    have l1 := hO.1.2.2.1
    have cN : M_X8_takeWord μc 12 10 = nI (eD E) := by rw [w12]; exact hR.1.2.2.1
    have mN : μm 60 2 = nI (eD E) := hR.2.1.2.2.1
    by_cases mx : eD E = 12
    · have fl : ¬ F_X10_isFull 2 (muX10_clause_1 μm) = 0 := by
        have e := isFull_k 2 (by decide) (muX10_clause_1 μm)
        rw [show (nI 2 : Int32) = 2 from rfl] at e
        rw [e, c60]
        simp [mN, mx, nI]
      have ev : VX10_clause_5 μm = M_X10_wrong 3 (muX10_clause_1 μm 57 4) (muX10_clause_1 μm) := by
        unfold VX10_clause_5 muX10_clause_3
        rw [kz', if_pos (by decide), if_neg n60, if_neg fl]
      have cmx : ¬ M_X8_takeWord μc 12 10 ≠ 12 := by rw [cN, mx]; decide
      have zF : F_X7_readClause (if nI i ≠ 60 then 0 else 1) (M_X8_takeWord μc) = 0 := by
        rw [open0]
        unfold F_X7_readClause
        rw [if_pos z1, if_pos z2, if_neg nz, if_neg (show ¬ (0 : Int32) ≠ 0 by decide), if_neg cmx]
        rfl
      obtain ⟨b1, b2⟩ := badC 3 (by decide) ev zF (by rw [open0]; unfold M_X7_readClause; rw [if_pos z1, if_pos z2, if_neg nz, if_neg (show ¬ (0 : Int32) ≠ 0 by decide), if_neg cmx]; rfl)
      exact ⟨⟨w1, fun _ => ⟨by rw [open0]; exact ⟨(W 1 (by decide) (by decide)).1, fun _ => ⟨(W 2 (by decide) (by decide)).1, fun _ => ⟨(W 3 (by decide) (by decide)).1, fun z => absurd z nz, fun _ => ⟨fun z => absurd rfl z, fun _ => ⟨fun z => absurd z cmx, fun _ => trivial⟩⟩⟩, fun z => absurd z2 z⟩, fun z => absurd z1 z⟩, fun z => absurd zF z⟩, b1⟩, b2⟩
    have fl : F_X10_isFull 2 (muX10_clause_1 μm) = 0 := by
      have e := isFull_k 2 (by decide) (muX10_clause_1 μm)
      rw [show (nI 2 : Int32) = 2 from rfl] at e
      have ne : ¬ nI (eD E) = 12 := fun z => mx ((nI_eq (b := 12) (by omega) (by omega)).mp z)
      rw [e, c60]
      simp [mN, ne]
    have ev : VX10_clause_5 μm = muX10_clause_1 μm := by
      unfold VX10_clause_5
      rw [kz', if_pos (by decide), if_neg n60, if_pos fl]
    have cmx : M_X8_takeWord μc 12 10 ≠ 12 := by rw [cN]; exact fun z => mx ((nI_eq (b := 12) (by omega) (by omega)).mp z)
    obtain ⟨sP, t7, gm7, e77, o7⟩ := ht7 μm ev
    have v5 : VX10_clause_5 μm 57 5 = 0 := by rw [ev]; exact c5
    have hR7 : RdR E (M_X8_takeWord μc) (muX10_clause_7 μm) := hR.mono hO (fun r u v => w4 r (by omega)) (fun r _ v => o7 r v)
    have zF : F_X7_readClause (if nI i ≠ 60 then 0 else 1) (M_X8_takeWord μc) = F_X7_readTide (M_X8_takeWord μc) := by
      rw [open0]
      unfold F_X7_readClause
      rw [if_pos z1, if_pos z2, if_neg nz, if_neg (show ¬ (0 : Int32) ≠ 0 by decide), if_pos cmx]
    have eM : M_X7_readClause (if nI i ≠ 60 then 0 else 1) (M_X8_takeWord μc) = M_X7_readTide (M_X8_takeWord μc) := by
      rw [open0]
      unfold M_X7_readClause
      rw [if_pos z1, if_pos z2, if_neg nz, if_neg (show ¬ (0 : Int32) ≠ 0 by decide), if_pos cmx]
      rfl
    have ixk : ix (F_X10_kindHere μm) = 2 := by rw [kz']; rfl
    have k7 : muX10_clause_7 μm 60 (ix (F_X10_kindHere μm)) = nI (eD E) := by rw [ixk, o7 60 (by decide), mN]
    have ixn : ix (muX10_clause_7 μm 60 (ix (F_X10_kindHere μm))) = eD E := by rw [k7, nI_ix (by omega)]
    have l4 : ¬ (4 : Int32) ≤ F_X10_kindHere μm := by rw [kz']; decide
    have vk : vp_in (F_X10_kindHere μm) 6 := by rw [kz']; exact vp_of (by decide) (by decide)
    obtain ⟨q1, q2, q3⟩ := cl_tide hO hR7 t7 mx
    have y9 : muX10_clause_27 μm = upm (muX10_clause_26 μm) 64 (eD E) (F_X10_number 0 60 (muX10_clause_7 μm)) := by
      unfold muX10_clause_27
      rw [ixn]
    have z11 : VX10_clause_30 μm = upm (muX10_clause_27 μm) 60 2 (muX10_clause_27 μm 60 2 + (if muX10_clause_27 μm 57 5 ≠ 0 then 0 else 1)) := by
      unfold VX10_clause_30 muX10_clause_29 VX10_clause_28
      rw [if_neg l4, ixk]
    have clo := q3 (muX10_clause_26 μm) (muX10_clause_27 μm) (VX10_clause_30 μm) rfl y9 z11
    have num7 : M_X10_number 0 60 (muX10_clause_7 μm) 57 7 = muX10_clause_7 μm 57 7 := by
      obtain ⟨-, -, r⟩ := TT_num (lo := 0) (hi := 60) t7 (by decide)
      rcases r with ⟨v, p', -, -, -, -, -, -, -, -, r⟩ | ⟨-, -, -, r⟩
      · exact r.1 7 (by decide)
      · exact r.1 7 (by decide) (by decide) (by decide)
    have x77 : muX10_clause_26 μm 57 7 = muX10_clause_7 μm 57 7 := num7
    have eMm : M_X10_clause μm = M_X10_sign 59 (VX10_clause_30 μm) := by
      unfold M_X10_clause
      rw [if_pos v5, kz', if_neg (show ¬ (2 : Int32) = 0 by decide), if_neg (show ¬ (2 : Int32) = 1 by decide), if_pos (show (2 : Int32) = 2 from rfl)]
      rfl
    have x7 : VX10_clause_30 μm 57 7 = muX10_clause_7 μm 57 7 := by
      rw [z11, upm_other (by decide), y9, upm_other (by decide)]; exact x77
    rw [← eM] at clo
    obtain ⟨r1, r2, r3⟩ := cl_end (q := q) (p := q + ltn t N q) hw zF eMm (by omega) gcw gm7 e77 x7 (by omega) clo
    have hPm : P_X10_clause μm := by
      refine ⟨k1, fun _ => ⟨sP, vk, ?_⟩, fun z => absurd v5 z⟩
      exact ⟨fun z => absurd (kz'.symm.trans z) (by decide), fun z => absurd (kz'.symm.trans z) (by decide), fun _ => ⟨q2, by rw [k7]; exact vp_in_nI (by omega) (by decide), ⟨fun z => absurd z l4, fun _ => ⟨vk, vk⟩⟩, r2⟩, fun z => absurd (kz'.symm.trans z) (by decide), fun z => absurd kz' z.2.2.1⟩
    exact ⟨⟨w1, fun _ => ⟨by rw [open0]; exact ⟨(W 1 (by decide) (by decide)).1, fun _ => ⟨(W 2 (by decide) (by decide)).1, fun _ => ⟨(W 3 (by decide) (by decide)).1, fun z => absurd z nz, fun _ => ⟨fun z => absurd rfl z, fun _ => ⟨fun _ => q1, fun z => absurd z cmx⟩⟩⟩, fun z => absurd z2 z⟩, fun z => absurd z1 z⟩, fun z => r1 (by rw [← zF]; exact z)⟩, hPm⟩, r3⟩
  · -- find
    have kz' : F_X10_kindHere μm = 3 := by rw [k2, kz]
    have z1 : F_X8_isWord 1 (M_X8_takeWord μc) = 0 := by rw [(W 1 (by decide) (by decide)).2, if_neg (fun y => absurd (wd_uniq (by decide) (by decide) (by decide) (by decide) y wk) (by decide))]
    have z2 : F_X8_isWord 2 (M_X8_takeWord μc) = 0 := by rw [(W 2 (by decide) (by decide)).2, if_neg (fun y => absurd (wd_uniq (by decide) (by decide) (by decide) (by decide) y wk) (by decide))]
    have z3 : F_X8_isWord 3 (M_X8_takeWord μc) = 0 := by rw [(W 3 (by decide) (by decide)).2, if_neg (fun y => absurd (wd_uniq (by decide) (by decide) (by decide) (by decide) y wk) (by decide))]
    have nz : ¬ F_X8_isWord 4 (M_X8_takeWord μc) = 0 := by
      rw [(W 4 (by decide) (by decide)).2, if_pos wk]
      decide
    by_cases i60 : i = 60
    · have full : (if nI i ≠ 60 then (0 : Int32) else 1) = 1 := by rw [i60]; rfl
      have ev : VX10_clause_5 μm = M_X10_wrong 3 (muX10_clause_1 μm 57 4) (muX10_clause_1 μm) := by
        unfold VX10_clause_5 muX10_clause_2
        rw [kz', if_pos (by decide), c77, i60, if_pos (by decide)]
      have zF : F_X7_readClause (if nI i ≠ 60 then 0 else 1) (M_X8_takeWord μc) = 0 := by
        rw [full]
        unfold F_X7_readClause
        rw [if_pos z1, if_pos z2, if_pos z3, if_neg nz, if_pos (show (1 : Int32) ≠ 0 by decide)]
        rfl
      obtain ⟨b1, b2⟩ := badC 3 (by decide) ev zF (by rw [full]; unfold M_X7_readClause; rw [if_pos z1, if_pos z2, if_pos z3, if_neg nz, if_pos (show (1 : Int32) ≠ 0 by decide)]; rfl)
      exact ⟨⟨w1, fun _ => ⟨by rw [full]; exact ⟨(W 1 (by decide) (by decide)).1, fun _ => ⟨(W 2 (by decide) (by decide)).1, fun _ => ⟨(W 3 (by decide) (by decide)).1, fun _ => ⟨(W 4 (by decide) (by decide)).1, fun z => absurd z nz, fun _ => ⟨fun _ => trivial, fun z => absurd z (by decide)⟩⟩, fun z => absurd z3 z⟩, fun z => absurd z2 z⟩, fun z => absurd z1 z⟩, fun z => absurd zF z⟩, b1⟩, b2⟩
    have open0 : (if nI i ≠ 60 then (0 : Int32) else 1) = 0 := if_pos fun z => i60 ((nI_eq (b := 60) (by omega) (by omega)).mp z)
    have n60 : ¬ muX10_clause_1 μm 57 7 = 60 := by rw [c77]; exact fun z => i60 ((nI_eq (b := 60) (by omega) (by omega)).mp z)
    have l1 := hO.1.2.2.2
    have cN : M_X8_takeWord μc 12 11 = nI (eF E) := by rw [w12]; exact hR.1.2.2.2.1
    have mN : μm 60 3 = nI (eF E) := hR.2.1.2.2.2.1
    by_cases mx : eF E = 6
    · have fl : ¬ F_X10_isFull 3 (muX10_clause_1 μm) = 0 := by
        have e := isFull_k 3 (by decide) (muX10_clause_1 μm)
        rw [show (nI 3 : Int32) = 3 from rfl] at e
        rw [e, c60]
        simp [mN, mx, nI]
      have ev : VX10_clause_5 μm = M_X10_wrong 3 (muX10_clause_1 μm 57 4) (muX10_clause_1 μm) := by
        unfold VX10_clause_5 muX10_clause_3
        rw [kz', if_pos (by decide), if_neg n60, if_neg fl]
      have cmx : ¬ M_X8_takeWord μc 12 11 ≠ 6 := by rw [cN, mx]; decide
      have zF : F_X7_readClause (if nI i ≠ 60 then 0 else 1) (M_X8_takeWord μc) = 0 := by
        rw [open0]
        unfold F_X7_readClause
        rw [if_pos z1, if_pos z2, if_pos z3, if_neg nz, if_neg (show ¬ (0 : Int32) ≠ 0 by decide), if_neg cmx]
        rfl
      obtain ⟨b1, b2⟩ := badC 3 (by decide) ev zF (by rw [open0]; unfold M_X7_readClause; rw [if_pos z1, if_pos z2, if_pos z3, if_neg nz, if_neg (show ¬ (0 : Int32) ≠ 0 by decide), if_neg cmx]; rfl)
      exact ⟨⟨w1, fun _ => ⟨by rw [open0]; exact ⟨(W 1 (by decide) (by decide)).1, fun _ => ⟨(W 2 (by decide) (by decide)).1, fun _ => ⟨(W 3 (by decide) (by decide)).1, fun _ => ⟨(W 4 (by decide) (by decide)).1, fun z => absurd z nz, fun _ => ⟨fun z => absurd rfl z, fun _ => ⟨fun z => absurd z cmx, fun _ => trivial⟩⟩⟩, fun z => absurd z3 z⟩, fun z => absurd z2 z⟩, fun z => absurd z1 z⟩, fun z => absurd zF z⟩, b1⟩, b2⟩
    have fl : F_X10_isFull 3 (muX10_clause_1 μm) = 0 := by
      have e := isFull_k 3 (by decide) (muX10_clause_1 μm)
      rw [show (nI 3 : Int32) = 3 from rfl] at e
      have ne : ¬ nI (eF E) = 6 := fun z => mx ((nI_eq (b := 6) (by omega) (by omega)).mp z)
      rw [e, c60]
      simp [mN, ne]
    have ev : VX10_clause_5 μm = muX10_clause_1 μm := by
      unfold VX10_clause_5
      rw [kz', if_pos (by decide), if_neg n60, if_pos fl]
    have cmx : M_X8_takeWord μc 12 11 ≠ 6 := by rw [cN]; exact fun z => mx ((nI_eq (b := 6) (by omega) (by omega)).mp z)
    obtain ⟨sP, t7, gm7, e77, o7⟩ := ht7 μm ev
    have v5 : VX10_clause_5 μm 57 5 = 0 := by rw [ev]; exact c5
    have hR7 : RdR E (M_X8_takeWord μc) (muX10_clause_7 μm) := hR.mono hO (fun r u v => w4 r (by omega)) (fun r _ v => o7 r v)
    have zF : F_X7_readClause (if nI i ≠ 60 then 0 else 1) (M_X8_takeWord μc) = F_X7_readFind (M_X8_takeWord μc) := by
      rw [open0]
      unfold F_X7_readClause
      rw [if_pos z1, if_pos z2, if_pos z3, if_neg nz, if_neg (show ¬ (0 : Int32) ≠ 0 by decide), if_pos cmx]
    have eM : M_X7_readClause (if nI i ≠ 60 then 0 else 1) (M_X8_takeWord μc) = M_X7_readFind (M_X8_takeWord μc) := by
      rw [open0]
      unfold M_X7_readClause
      rw [if_pos z1, if_pos z2, if_pos z3, if_neg nz, if_neg (show ¬ (0 : Int32) ≠ 0 by decide), if_pos cmx]
      rfl
    have ixk : ix (F_X10_kindHere μm) = 3 := by rw [kz']; rfl
    have k7 : muX10_clause_7 μm 60 (ix (F_X10_kindHere μm)) = nI (eF E) := by rw [ixk, o7 60 (by decide), mN]
    have ixn : ix (muX10_clause_7 μm 60 (ix (F_X10_kindHere μm))) = eF E := by rw [k7, nI_ix (by omega)]
    have l4 : ¬ (4 : Int32) ≤ F_X10_kindHere μm := by rw [kz']; decide
    have vk : vp_in (F_X10_kindHere μm) 6 := by rw [kz']; exact vp_of (by decide) (by decide)
    obtain ⟨q1, q3⟩ := cl_find hO hR7 t7 mx
    have Y0 : muX10_clause_33 μm = upm (muX10_clause_32 μm) (89 + eF E) 0 (F_X10_number 1 40 (muX10_clause_7 μm)) := by
      unfold muX10_clause_33
      rw [ixn]
    have Y1 : muX10_clause_35 μm = upm (muX10_clause_34 μm) (89 + eF E) 1 (F_X10_number 0 16 (muX10_clause_33 μm)) := by
      unfold muX10_clause_35
      rw [ixn]
    have z11 : VX10_clause_38 μm = upm (muX10_clause_35 μm) 60 3 (muX10_clause_35 μm 60 3 + (if muX10_clause_35 μm 57 5 ≠ 0 then 0 else 1)) := by
      unfold VX10_clause_38 muX10_clause_37 VX10_clause_36
      rw [if_neg l4, ixk]
    obtain ⟨n0, n1, clo⟩ := q3 (muX10_clause_32 μm) (muX10_clause_34 μm) (muX10_clause_33 μm) (muX10_clause_35 μm) (VX10_clause_38 μm) rfl Y0 rfl Y1 z11
    have num7 : ∀ (lo hi : Int32) (μ : Mem), (∃ pm, TxM t N pm μ) → (∃ pm, TxM t N pm (M_X10_number lo hi μ)) ∧ M_X10_number lo hi μ 57 7 = μ 57 7 := fun lo hi μ ⟨pm, hx⟩ => by
      by_cases z : μ 57 5 = 0
      · obtain ⟨-, a, -, -, -, b, -⟩ := sp_number (lo := lo) (hi := hi) hx z
        exact ⟨⟨_, a⟩, b 7 (by decide) (by decide) (by decide)⟩
      · obtain ⟨-, a, -⟩ := sp_number_no (lo := lo) (hi := hi) z
        rw [a]
        exact ⟨⟨_, hx⟩, rfl⟩
    obtain ⟨pm7, tx7, -⟩ := t7.2.1
    obtain ⟨⟨pa0, xa0⟩, na0⟩ := num7 1 40 (muX10_clause_7 μm) ⟨pm7, tx7⟩
    have ya0 : muX10_clause_33 μm = upm (M_X10_number 1 40 (muX10_clause_7 μm)) (89 + eF E) 0 (F_X10_number 1 40 (muX10_clause_7 μm)) := by rw [Y0]; rfl
    have xb0 : TxM t N pa0 (muX10_clause_33 μm) := xa0.mono (by rw [ya0, upm_other (by omega)]) (by rw [ya0, upm_other (by omega)]) (by rw [ya0, upm_other (by omega)])
    have nb0 : muX10_clause_33 μm 57 7 = muX10_clause_7 μm 57 7 := by rw [ya0, upm_other (by omega), na0]
    obtain ⟨⟨pa1, xa1⟩, na1⟩ := num7 0 16 (muX10_clause_33 μm) ⟨pa0, xb0⟩
    have ya1 : muX10_clause_35 μm = upm (M_X10_number 0 16 (muX10_clause_33 μm)) (89 + eF E) 1 (F_X10_number 0 16 (muX10_clause_33 μm)) := by rw [Y1]; rfl
    have xb1 : TxM t N pa1 (muX10_clause_35 μm) := xa1.mono (by rw [ya1, upm_other (by omega)]) (by rw [ya1, upm_other (by omega)]) (by rw [ya1, upm_other (by omega)])
    have nb1 : muX10_clause_35 μm 57 7 = muX10_clause_7 μm 57 7 := by rw [ya1, upm_other (by omega), na1, nb0]
    have eMm : M_X10_clause μm = M_X10_sign 59 (VX10_clause_38 μm) := by
      unfold M_X10_clause
      rw [if_pos v5, kz', if_neg (show ¬ (3 : Int32) = 0 by decide), if_neg (show ¬ (3 : Int32) = 1 by decide), if_neg (show ¬ (3 : Int32) = 2 by decide), if_pos (show (3 : Int32) = 3 from rfl)]
      rfl
    have x7 : VX10_clause_38 μm 57 7 = muX10_clause_7 μm 57 7 := by
      rw [z11, upm_other (by decide), nb1]
    rw [← eM] at clo
    obtain ⟨r1, r2, r3⟩ := cl_end (q := q) (p := q + ltn t N q) hw zF eMm (by omega) gcw gm7 e77 x7 (by omega) clo
    have hPm : P_X10_clause μm := by
      refine ⟨k1, fun _ => ⟨sP, vk, ?_⟩, fun z => absurd v5 z⟩
      exact ⟨fun z => absurd (kz'.symm.trans z) (by decide), fun z => absurd (kz'.symm.trans z) (by decide), fun z => absurd (kz'.symm.trans z) (by decide), fun _ => ⟨by rw [k7]; exact vp_in_nI (by omega) (by decide), n0, n1, ⟨fun z => absurd z l4, fun _ => ⟨vk, vk⟩⟩, r2⟩, fun z => absurd kz' z.2.2.2⟩
    exact ⟨⟨w1, fun _ => ⟨by rw [open0]; exact ⟨(W 1 (by decide) (by decide)).1, fun _ => ⟨(W 2 (by decide) (by decide)).1, fun _ => ⟨(W 3 (by decide) (by decide)).1, fun _ => ⟨(W 4 (by decide) (by decide)).1, fun z => absurd z nz, fun _ => ⟨fun z => absurd rfl z, fun _ => ⟨fun _ => q1, fun z => absurd z cmx⟩⟩⟩, fun z => absurd z3 z⟩, fun z => absurd z2 z⟩, fun z => absurd z1 z⟩, fun z => r1 (by rw [← zF]; exact z)⟩, hPm⟩, r3⟩
  · -- rent
    have kz' : F_X10_kindHere μm = 4 := by rw [k2, kz]
    have z1 : F_X8_isWord 1 (M_X8_takeWord μc) = 0 := by rw [(W 1 (by decide) (by decide)).2, if_neg (fun y => absurd (wd_uniq (by decide) (by decide) (by decide) (by decide) y wk) (by decide))]
    have z2 : F_X8_isWord 2 (M_X8_takeWord μc) = 0 := by rw [(W 2 (by decide) (by decide)).2, if_neg (fun y => absurd (wd_uniq (by decide) (by decide) (by decide) (by decide) y wk) (by decide))]
    have z3 : F_X8_isWord 3 (M_X8_takeWord μc) = 0 := by rw [(W 3 (by decide) (by decide)).2, if_neg (fun y => absurd (wd_uniq (by decide) (by decide) (by decide) (by decide) y wk) (by decide))]
    have z4 : F_X8_isWord 4 (M_X8_takeWord μc) = 0 := by rw [(W 4 (by decide) (by decide)).2, if_neg (fun y => absurd (wd_uniq (by decide) (by decide) (by decide) (by decide) y wk) (by decide))]
    have nz : ¬ F_X8_isWord 5 (M_X8_takeWord μc) = 0 := by
      rw [(W 5 (by decide) (by decide)).2, if_pos wk]
      decide
    by_cases i60 : i = 60
    · have full : (if nI i ≠ 60 then (0 : Int32) else 1) = 1 := by rw [i60]; rfl
      have ev : VX10_clause_5 μm = M_X10_wrong 3 (muX10_clause_1 μm 57 4) (muX10_clause_1 μm) := by
        unfold VX10_clause_5 muX10_clause_2
        rw [kz', if_pos (by decide), c77, i60, if_pos (by decide)]
      have zF : F_X7_readClause (if nI i ≠ 60 then 0 else 1) (M_X8_takeWord μc) = 0 := by
        rw [full]
        unfold F_X7_readClause
        rw [if_pos z1, if_pos z2, if_pos z3, if_pos z4, if_neg nz, if_neg (show ¬ (1 : Int32) = 0 by decide)]
        rfl
      obtain ⟨b1, b2⟩ := badC 3 (by decide) ev zF (by rw [full]; unfold M_X7_readClause; rw [if_pos z1, if_pos z2, if_pos z3, if_pos z4, if_neg nz, if_neg (show ¬ (1 : Int32) = 0 by decide)]; rfl)
      exact ⟨⟨w1, fun _ => ⟨by rw [full]; exact ⟨(W 1 (by decide) (by decide)).1, fun _ => ⟨(W 2 (by decide) (by decide)).1, fun _ => ⟨(W 3 (by decide) (by decide)).1, fun _ => ⟨(W 4 (by decide) (by decide)).1, fun _ => ⟨(W 5 (by decide) (by decide)).1, fun z => absurd z nz, fun _ => ⟨fun z => absurd z (by decide), fun _ => trivial⟩⟩, fun z => absurd z4 z⟩, fun z => absurd z3 z⟩, fun z => absurd z2 z⟩, fun z => absurd z1 z⟩, fun z => absurd zF z⟩, b1⟩, b2⟩
    have open0 : (if nI i ≠ 60 then (0 : Int32) else 1) = 0 := if_pos fun z => i60 ((nI_eq (b := 60) (by omega) (by omega)).mp z)
    have n60 : ¬ muX10_clause_1 μm 57 7 = 60 := by rw [c77]; exact fun z => i60 ((nI_eq (b := 60) (by omega) (by omega)).mp z)
    have fl : F_X10_isFull 4 (muX10_clause_1 μm) = 0 := by
      have e := isFull_k 4 (by decide) (muX10_clause_1 μm)
      rw [show (nI 4 : Int32) = 4 from rfl] at e
      rw [e]
      simp
    have ev : VX10_clause_5 μm = muX10_clause_1 μm := by
      unfold VX10_clause_5
      rw [kz', if_pos (by decide), if_neg n60, if_pos fl]
    obtain ⟨sP, t7, gm7, e77, o7⟩ := ht7 μm ev
    have v5 : VX10_clause_5 μm 57 5 = 0 := by rw [ev]; exact c5
    have hR7 : RdR E (M_X8_takeWord μc) (muX10_clause_7 μm) := hR.mono hO (fun r u v => w4 r (by omega)) (fun r _ v => o7 r v)
    have zF : F_X7_readClause (if nI i ≠ 60 then 0 else 1) (M_X8_takeWord μc) = F_X7_readRent (M_X8_takeWord μc) := by
      rw [open0]
      unfold F_X7_readClause
      rw [if_pos z1, if_pos z2, if_pos z3, if_pos z4, if_neg nz, if_pos (show (0 : Int32) = 0 by decide)]
    have eM : M_X7_readClause (if nI i ≠ 60 then 0 else 1) (M_X8_takeWord μc) = M_X7_readRent (M_X8_takeWord μc) := by
      rw [open0]
      unfold M_X7_readClause
      rw [if_pos z1, if_pos z2, if_pos z3, if_pos z4, if_neg nz, if_pos (show (0 : Int32) = 0 by decide)]
      rfl
    obtain ⟨q1, q2, q3⟩ := cl_rent hO hR7 t7
    have ixk : ix (F_X10_kindHere μm) = 4 := by rw [kz']; rfl
    have l4 : (4 : Int32) ≤ F_X10_kindHere μm := by rw [kz']; decide
    have vk : vp_in (F_X10_kindHere μm) 6 := by rw [kz']; exact vp_of (by decide) (by decide)
    have vl : VX10_clause_40 μm = 0 := by
      unfold VX10_clause_40
      rw [kz']
      rfl
    have vh : VX10_clause_41 μm = 40 := by
      unfold VX10_clause_41
      rw [kz']
      rfl
    have e42 : muX10_clause_42 μm = M_X10_number 0 40 (muX10_clause_7 μm) := by
      unfold muX10_clause_42
      rw [vl, vh]
    have z11 : VX10_clause_47 μm = (if muX10_clause_42 μm 57 5 ≠ 0 then muX10_clause_42 μm else upm (muX10_clause_42 μm) 60 4 (F_X10_number 0 40 (muX10_clause_7 μm))) := by
      unfold VX10_clause_47 VX10_clause_44 muX10_clause_43
      rw [if_pos l4, ixk, vl, vh]
    have clo := q3 (muX10_clause_42 μm) (VX10_clause_47 μm) e42 z11
    have num7 : muX10_clause_42 μm 57 7 = muX10_clause_7 μm 57 7 := by
      rw [e42]
      obtain ⟨-, -, r⟩ := TT_num (lo := 0) (hi := 40) t7 (by decide)
      rcases r with ⟨v, p', -, -, -, -, -, -, -, -, r⟩ | ⟨-, -, -, r⟩
      · exact r.1 7 (by decide)
      · exact r.1 7 (by decide) (by decide) (by decide)
    have eMm : M_X10_clause μm = M_X10_sign 59 (VX10_clause_47 μm) := by
      unfold M_X10_clause
      rw [if_pos v5, kz', if_neg (show ¬ (4 : Int32) = 0 by decide), if_neg (show ¬ (4 : Int32) = 1 by decide), if_neg (show ¬ (4 : Int32) = 2 by decide), if_neg (show ¬ (4 : Int32) = 3 by decide)]
      rfl
    have x7 : VX10_clause_47 μm 57 7 = muX10_clause_7 μm 57 7 := by
      rw [z11]; split; · exact num7
      · rw [upm_other (by decide)]; exact num7
    rw [← eM] at clo
    obtain ⟨r1, r2, r3⟩ := cl_end (q := q) (p := q + ltn t N q) hw zF eMm (by omega) gcw gm7 e77 x7 (by omega) clo
    have hPm : P_X10_clause μm := by
      refine ⟨k1, fun _ => ⟨sP, vk, ?_⟩, fun z => absurd v5 z⟩
      exact ⟨fun z => absurd (kz'.symm.trans z) (by decide), fun z => absurd (kz'.symm.trans z) (by decide), fun z => absurd (kz'.symm.trans z) (by decide), fun z => absurd (kz'.symm.trans z) (by decide), fun _ => ⟨by rw [vl, vh]; exact q2, ⟨fun _ => trivial, fun _ => vk⟩, ⟨fun _ => trivial, fun z => absurd l4 (Int32.not_le.mpr z)⟩, r2⟩⟩
    exact ⟨⟨w1, fun _ => ⟨by rw [open0]; exact ⟨(W 1 (by decide) (by decide)).1, fun _ => ⟨(W 2 (by decide) (by decide)).1, fun _ => ⟨(W 3 (by decide) (by decide)).1, fun _ => ⟨(W 4 (by decide) (by decide)).1, fun _ => ⟨(W 5 (by decide) (by decide)).1, fun z => absurd z nz, fun _ => ⟨fun _ => q1, fun z => absurd rfl z⟩⟩, fun z => absurd z4 z⟩, fun z => absurd z3 z⟩, fun z => absurd z2 z⟩, fun z => absurd z1 z⟩, fun z => r1 (by rw [← zF]; exact z)⟩, hPm⟩, r3⟩
  · -- rope
    have kz' : F_X10_kindHere μm = 5 := by rw [k2, kz]
    have z1 : F_X8_isWord 1 (M_X8_takeWord μc) = 0 := by rw [(W 1 (by decide) (by decide)).2, if_neg (fun y => absurd (wd_uniq (by decide) (by decide) (by decide) (by decide) y wk) (by decide))]
    have z2 : F_X8_isWord 2 (M_X8_takeWord μc) = 0 := by rw [(W 2 (by decide) (by decide)).2, if_neg (fun y => absurd (wd_uniq (by decide) (by decide) (by decide) (by decide) y wk) (by decide))]
    have z3 : F_X8_isWord 3 (M_X8_takeWord μc) = 0 := by rw [(W 3 (by decide) (by decide)).2, if_neg (fun y => absurd (wd_uniq (by decide) (by decide) (by decide) (by decide) y wk) (by decide))]
    have z4 : F_X8_isWord 4 (M_X8_takeWord μc) = 0 := by rw [(W 4 (by decide) (by decide)).2, if_neg (fun y => absurd (wd_uniq (by decide) (by decide) (by decide) (by decide) y wk) (by decide))]
    have z5 : F_X8_isWord 5 (M_X8_takeWord μc) = 0 := by rw [(W 5 (by decide) (by decide)).2, if_neg (fun y => absurd (wd_uniq (by decide) (by decide) (by decide) (by decide) y wk) (by decide))]
    have nz : ¬ F_X8_isWord 6 (M_X8_takeWord μc) = 0 := by
      rw [(W 6 (by decide) (by decide)).2, if_pos wk]
      decide
    by_cases i60 : i = 60
    · have full : (if nI i ≠ 60 then (0 : Int32) else 1) = 1 := by rw [i60]; rfl
      have ev : VX10_clause_5 μm = M_X10_wrong 3 (muX10_clause_1 μm 57 4) (muX10_clause_1 μm) := by
        unfold VX10_clause_5 muX10_clause_2
        rw [kz', if_pos (by decide), c77, i60, if_pos (by decide)]
      have zF : F_X7_readClause (if nI i ≠ 60 then 0 else 1) (M_X8_takeWord μc) = 0 := by
        rw [full]
        unfold F_X7_readClause
        rw [if_pos z1, if_pos z2, if_pos z3, if_pos z4, if_pos z5, if_neg nz, if_neg (show ¬ (1 : Int32) = 0 by decide)]
        rfl
      obtain ⟨b1, b2⟩ := badC 3 (by decide) ev zF (by rw [full]; unfold M_X7_readClause; rw [if_pos z1, if_pos z2, if_pos z3, if_pos z4, if_pos z5, if_neg nz, if_neg (show ¬ (1 : Int32) = 0 by decide)]; rfl)
      exact ⟨⟨w1, fun _ => ⟨by rw [full]; exact ⟨(W 1 (by decide) (by decide)).1, fun _ => ⟨(W 2 (by decide) (by decide)).1, fun _ => ⟨(W 3 (by decide) (by decide)).1, fun _ => ⟨(W 4 (by decide) (by decide)).1, fun _ => ⟨(W 5 (by decide) (by decide)).1, fun _ => ⟨(W 6 (by decide) (by decide)).1, fun z => absurd z nz, fun _ => ⟨fun z => absurd z (by decide), fun _ => trivial⟩⟩, fun z => absurd z5 z⟩, fun z => absurd z4 z⟩, fun z => absurd z3 z⟩, fun z => absurd z2 z⟩, fun z => absurd z1 z⟩, fun z => absurd zF z⟩, b1⟩, b2⟩
    have open0 : (if nI i ≠ 60 then (0 : Int32) else 1) = 0 := if_pos fun z => i60 ((nI_eq (b := 60) (by omega) (by omega)).mp z)
    have n60 : ¬ muX10_clause_1 μm 57 7 = 60 := by rw [c77]; exact fun z => i60 ((nI_eq (b := 60) (by omega) (by omega)).mp z)
    have fl : F_X10_isFull 5 (muX10_clause_1 μm) = 0 := by
      have e := isFull_k 5 (by decide) (muX10_clause_1 μm)
      rw [show (nI 5 : Int32) = 5 from rfl] at e
      rw [e]
      simp
    have ev : VX10_clause_5 μm = muX10_clause_1 μm := by
      unfold VX10_clause_5
      rw [kz', if_pos (by decide), if_neg n60, if_pos fl]
    obtain ⟨sP, t7, gm7, e77, o7⟩ := ht7 μm ev
    have v5 : VX10_clause_5 μm 57 5 = 0 := by rw [ev]; exact c5
    have hR7 : RdR E (M_X8_takeWord μc) (muX10_clause_7 μm) := hR.mono hO (fun r u v => w4 r (by omega)) (fun r _ v => o7 r v)
    have zF : F_X7_readClause (if nI i ≠ 60 then 0 else 1) (M_X8_takeWord μc) = F_X7_readRope (M_X8_takeWord μc) := by
      rw [open0]
      unfold F_X7_readClause
      rw [if_pos z1, if_pos z2, if_pos z3, if_pos z4, if_pos z5, if_neg nz, if_pos (show (0 : Int32) = 0 by decide)]
    have eM : M_X7_readClause (if nI i ≠ 60 then 0 else 1) (M_X8_takeWord μc) = M_X7_readRope (M_X8_takeWord μc) := by
      rw [open0]
      unfold M_X7_readClause
      rw [if_pos z1, if_pos z2, if_pos z3, if_pos z4, if_pos z5, if_neg nz, if_pos (show (0 : Int32) = 0 by decide)]
      rfl
    obtain ⟨q1, q2, q3⟩ := cl_rope hO hR7 t7
    have ixk : ix (F_X10_kindHere μm) = 5 := by rw [kz']; rfl
    have l4 : (4 : Int32) ≤ F_X10_kindHere μm := by rw [kz']; decide
    have vk : vp_in (F_X10_kindHere μm) 6 := by rw [kz']; exact vp_of (by decide) (by decide)
    have vl : VX10_clause_40 μm = 1 := by
      unfold VX10_clause_40
      rw [kz']
      rfl
    have vh : VX10_clause_41 μm = 9 := by
      unfold VX10_clause_41
      rw [kz']
      rfl
    have e42 : muX10_clause_42 μm = M_X10_number 1 9 (muX10_clause_7 μm) := by
      unfold muX10_clause_42
      rw [vl, vh]
    have z11 : VX10_clause_47 μm = (if muX10_clause_42 μm 57 5 ≠ 0 then muX10_clause_42 μm else upm (muX10_clause_42 μm) 60 5 (F_X10_number 1 9 (muX10_clause_7 μm))) := by
      unfold VX10_clause_47 VX10_clause_44 muX10_clause_43
      rw [if_pos l4, ixk, vl, vh]
    have clo := q3 (muX10_clause_42 μm) (VX10_clause_47 μm) e42 z11
    have num7 : muX10_clause_42 μm 57 7 = muX10_clause_7 μm 57 7 := by
      rw [e42]
      obtain ⟨-, -, r⟩ := TT_num (lo := 1) (hi := 9) t7 (by decide)
      rcases r with ⟨v, p', -, -, -, -, -, -, -, -, r⟩ | ⟨-, -, -, r⟩
      · exact r.1 7 (by decide)
      · exact r.1 7 (by decide) (by decide) (by decide)
    have eMm : M_X10_clause μm = M_X10_sign 59 (VX10_clause_47 μm) := by
      unfold M_X10_clause
      rw [if_pos v5, kz', if_neg (show ¬ (5 : Int32) = 0 by decide), if_neg (show ¬ (5 : Int32) = 1 by decide), if_neg (show ¬ (5 : Int32) = 2 by decide), if_neg (show ¬ (5 : Int32) = 3 by decide)]
      rfl
    have x7 : VX10_clause_47 μm 57 7 = muX10_clause_7 μm 57 7 := by
      rw [z11]; split; · exact num7
      · rw [upm_other (by decide)]; exact num7
    rw [← eM] at clo
    obtain ⟨r1, r2, r3⟩ := cl_end (q := q) (p := q + ltn t N q) hw zF eMm (by omega) gcw gm7 e77 x7 (by omega) clo
    have hPm : P_X10_clause μm := by
      refine ⟨k1, fun _ => ⟨sP, vk, ?_⟩, fun z => absurd v5 z⟩
      exact ⟨fun z => absurd (kz'.symm.trans z) (by decide), fun z => absurd (kz'.symm.trans z) (by decide), fun z => absurd (kz'.symm.trans z) (by decide), fun z => absurd (kz'.symm.trans z) (by decide), fun _ => ⟨by rw [vl, vh]; exact q2, ⟨fun _ => trivial, fun _ => vk⟩, ⟨fun _ => trivial, fun z => absurd l4 (Int32.not_le.mpr z)⟩, r2⟩⟩
    exact ⟨⟨w1, fun _ => ⟨by rw [open0]; exact ⟨(W 1 (by decide) (by decide)).1, fun _ => ⟨(W 2 (by decide) (by decide)).1, fun _ => ⟨(W 3 (by decide) (by decide)).1, fun _ => ⟨(W 4 (by decide) (by decide)).1, fun _ => ⟨(W 5 (by decide) (by decide)).1, fun _ => ⟨(W 6 (by decide) (by decide)).1, fun z => absurd z nz, fun _ => ⟨fun _ => q1, fun z => absurd rfl z⟩⟩, fun z => absurd z5 z⟩, fun z => absurd z4 z⟩, fun z => absurd z3 z⟩, fun z => absurd z2 z⟩, fun z => absurd z1 z⟩, fun z => r1 (by rw [← zF]; exact z)⟩, hPm⟩, r3⟩
