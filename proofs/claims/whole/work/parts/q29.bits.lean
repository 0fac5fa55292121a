/-! sets of things as bits -/
theorem bitV (x : Int32) : ∀ t, t < 10 → bitI x t = x.toBitVec.getLsbD t := by
  have key : ∀ (y : BitVec 32), decide ((y &&& 1#32) = 1#32) = y.getLsbD 0 := by
    intro y
    rw [BitVec.and_one_eq_setWidth_ofBool_getLsbD]
    cases y.getLsbD 0 <;> decide
  have kk : ∀ (y : Int32), decide ((y &&& 1) = 1) = y.toBitVec.getLsbD 0 := by
    intro y
    rw [← key]
    refine decide_eq_decide.mpr ?_
    rw [← Int32.toBitVec_inj, Int32.toBitVec_and]
    rfl
  intro t ht
  unfold bitI
  rw [kk]
  have e : ∀ t, t < 10 → (BitVec.smod (nI t &&& 31).toBitVec 32#32).toNat = t := by decide +kernel
  show (BitVec.sshiftRight' x.toBitVec (BitVec.smod (nI t &&& 31).toBitVec 32#32)).getLsbD 0 = _
  unfold BitVec.sshiftRight'
  rw [e t ht, BitVec.getLsbD_sshiftRight]
  simp
  omega
theorem shlV : ∀ t, t < 10 → ∀ i, i < 32 → ((1 : Int32) <<< ((nI t) &&& 31)).toBitVec.getLsbD i = decide (i = t) := by decide +kernel
theorem nIV (v i : Nat) (hi : i < 32) : (nI v).toBitVec.getLsbD i = v.testBit i := by
  show (BitVec.ofNat 32 v).getLsbD i = _
  rw [BitVec.getLsbD_ofNat, decide_eq_true hi, Bool.true_and]
theorem sub_bits (x f : Int32) : (x &&& (f ^^^ ((-1) : Int32))) = 0 ↔ ∀ i, i < 32 → x.toBitVec.getLsbD i = true → f.toBitVec.getLsbD i = true := by
  rw [← Int32.toBitVec_inj, Int32.toBitVec_and, Int32.toBitVec_xor]
  have m1 : ((-1) : Int32).toBitVec = BitVec.allOnes 32 := by decide
  rw [m1]
  have g : ∀ i, i < 32 → (x.toBitVec &&& (f.toBitVec ^^^ BitVec.allOnes 32)).getLsbD i = (x.toBitVec.getLsbD i && !f.toBitVec.getLsbD i) := fun i hi => by
    rw [BitVec.getLsbD_and, BitVec.getLsbD_xor, BitVec.getLsbD_allOnes, decide_eq_true hi, Bool.xor_true]
  constructor
  · intro h i hi hx
    have q := g i hi
    rw [h, hx] at q
    cases hf : f.toBitVec.getLsbD i with
    | true => rfl
    | false =>
      rw [hf] at q
      have z : (0 : Int32).toBitVec.getLsbD i = false := BitVec.getLsbD_zero
      rw [z] at q
      cases q
  · intro h
    apply BitVec.eq_of_getLsbD_eq
    intro i hi
    have z : (0 : Int32).toBitVec.getLsbD i = false := BitVec.getLsbD_zero
    rw [g i hi, z]
    cases hx : x.toBitVec.getLsbD i with
    | false => rfl
    | true => rw [h i hi hx]; rfl
/-- free: down, not tied -/
def frB (r : Nat → Int32) (t : Nat) : Bool := decide (r t ≠ -1 ∧ r (10 + t) = 0 ∧ r (20 + t) = 0)
def okS (E : EV) (r : Nat → Int32) (v : Int32) : Prop := ∀ t, t < eT E → bitI v t = true → frB r t = true
theorem sp_free {E : EV} {μ : Mem} {v b : Nat} (hM : EvM E μ) (hO : EvOK E) (hr : RowOK E b (μ 521)) (hv : v < 2 ^ eT E) : P_X10_free μ ∧ ((nI v &&& (F_X10_free μ ^^^ ((-1) : Int32))) = 0 ↔ okS E (μ 521) (nI v)) := by
  have hd := hO.1.2.1
  have hN : NX10_free_4 μ = eT E := by
    unfold NX10_free_4
    rw [hM.2.1, nI_ix (by omega)]
  have key := fo_all (fun n (s : Int32) => ∀ i, i < 32 → s.toBitVec.getLsbD i = decide (i < n ∧ frB (μ 521) i = true)) (Pb_X10_free_4 μ) (eT E) (g_X10_free_4 μ) 0 (fun i hi => by
      rw [decide_eq_false (fun q => absurd q.1 (by omega))]
      exact BitVec.getLsbD_zero) (fun n hn s hs => by
    refine ⟨⟨fun q => ?_, fun _ => ?_⟩, fun i hi => ?_⟩
    · rw [hM.2.1] at q
      exact nI_ge hn (by omega) q
    · rw [c0, c10, c20]
      exact ⟨vp_in_nI (by omega) (by omega), fun _ => trivial, fun _ => ⟨vp_in_nI (by omega) (by omega), fun _ => trivial, fun _ => vp_in_nI (by omega) (by omega)⟩⟩
    · have ef : VX10_free_4_1 μ n s = if frB (μ 521) n = true then ((1 : Int32) <<< ((nI n) &&& 31)) else 0 := by
        unfold VX10_free_4_1 frB
        rw [c0, c10, c20, nI_ix (by omega), nI_ix (by omega), nI_ix (by omega)]
        by_cases a : μ 521 n = -1
        · rw [if_pos a, decide_eq_false (fun q => q.1 a)]
          rfl
        · rw [if_neg a]
          by_cases b : μ 521 (10 + n) = 0
          · rw [if_neg (not_not_intro b)]
            by_cases c : μ 521 (20 + n) = 0
            · rw [if_neg (not_not_intro c), decide_eq_true ⟨a, b, c⟩]
              rfl
            · rw [if_pos c, decide_eq_false (fun q => c q.2.2)]
              rfl
          · rw [if_pos b, decide_eq_false (fun q => b q.2.1)]
            rfl
      show (s ||| VX10_free_4_1 μ n s).toBitVec.getLsbD i = _
      rw [Int32.toBitVec_or, BitVec.getLsbD_or, hs i hi, ef]
      have e2 : (if frB (μ 521) n = true then ((1 : Int32) <<< ((nI n) &&& 31)) else 0).toBitVec.getLsbD i = decide (i = n ∧ frB (μ 521) n = true) := by
        by_cases q : frB (μ 521) n = true
        · rw [if_pos q, shlV n (by omega) i hi]
          exact decide_eq_decide.mpr ⟨fun z => ⟨z, q⟩, fun z => z.1⟩
        · rw [if_neg q, decide_eq_false (fun z => q z.2)]
          exact BitVec.getLsbD_zero
      rw [e2, ← Bool.decide_or]
      refine decide_eq_decide.mpr ⟨fun q => ?_, fun q => ?_⟩
      · rcases q with q | q
        · exact ⟨by omega, q.2⟩
        · exact ⟨by omega, by rw [q.1]; exact q.2⟩
      · by_cases z : i = n
        · exact Or.inr ⟨z, by rw [← z]; exact q.2⟩
        · exact Or.inl ⟨by omega, q.2⟩)
  obtain ⟨k1, k2⟩ := key
  refine ⟨?_, ?_⟩
  · unfold P_X10_free
    rw [hN, hM.2.1]
    exact ⟨k1, fun _ => trivial, fun q => absurd q n_lt⟩
  · have eF : F_X10_free μ = fo (eT E) (g_X10_free_4 μ) 0 := by
      unfold F_X10_free SX10_free_4
      rw [hN]
    rw [sub_bits, eF]
    constructor
    · intro h t ht hb
      rw [bitV _ t (by omega)] at hb
      have := h t (by omega) hb
      rw [k2 t (by omega)] at this
      exact (of_decide_eq_true this).2
    · intro h i hi hb
      rw [k2 i hi]
      rw [nIV v i hi] at hb
      have hl : i < eT E := Nat.lt_of_not_le fun q => by
        have : v.testBit i = false := Nat.testBit_lt_two_pow (Nat.lt_of_lt_of_le hv (Nat.pow_le_pow_right (by decide) q))
        rw [this] at hb
        cases hb
      refine decide_eq_true ⟨hl, h i hl ?_⟩
      rw [bitV _ i (by omega), nIV v i hi]
      exact hb
theorem sp_weightOf {E : EV} {μ : Mem} {v : Int32} (hM : EvM E μ) (hO : EvOK E) : P_X10_weightOf v μ ∧ F_X10_weightOf v μ = wgR E v (eT E) := by
  have hd := hO.1.2.1
  have hN : NX10_weightOf_4 v μ = eT E := by
    unfold NX10_weightOf_4
    rw [hM.2.1, nI_ix (by omega)]
  refine ⟨?_, ?_⟩
  · unfold P_X10_weightOf
    rw [hN, hM.2.1]
    refine ⟨fun j hj => ?_, fun _ => trivial, fun q => absurd q n_lt⟩
    unfold Pb_X10_weightOf_4
    rw [hM.2.1]
    exact ⟨fun q => absurd q (nI_ge hj (by omega)), fun _ => ⟨fun _ => trivial, fun _ => vp_in_nI (by omega) (by omega)⟩⟩
  · unfold F_X10_weightOf SX10_weightOf_4 wgR
    rw [hN]
    refine fo_congr _ _ _ _ fun i hi s => ?_
    unfold g_X10_weightOf_4 VX10_weightOf_4_1
    rw [has_eq, nI_ix (by omega), hM.2.2.2.2.2.2.2.2.1 i hi 1 (by decide)]
    by_cases q : bitI v i = true
    · rw [if_pos q, if_pos q, if_neg (by decide)]
    · rw [if_neg q, if_neg q, if_pos rfl, Int32.add_zero]
/-- the class: what a set saves -/
def bdB (E : EV) (r : Nat → Int32) (v : Int32) (j : Nat) : Bool := decide (eT E ≤ j ∨ (bitI v j = true ∧ ¬ frB r j = true))
theorem sp_savedBy {E : EV} {μ : Mem} {r s : Nat → Int32} {v c : Int32} {b : Nat} (hE : EvC E μ) (hO : EvOK E) (hc : RC0 E (μ 44) r) (hs : RC0 E (μ 53) s) (hr : RowOK E b r) :
    P_X0_savedBy v c μ ∧ (okS E r v → F_X0_savedBy v c μ = if wgR E v (eT E) ≤ c then svR E r s v (eT E) else -1) ∧ (¬ okS E r v → F_X0_savedBy v c μ = -1) := by
  have hd := hO.1.2.1
  have h1 : fst 11 (bdB E r v) ≤ eT E := fst_lt (by omega) (decide_eq_true (Or.inl (Nat.le_refl _)))
  have h2 : eT E ≤ fst 11 (bdB E r v) ∨ (bitI v (fst 11 (bdB E r v)) = true ∧ ¬ frB r (fst 11 (bdB E r v)) = true) := of_decide_eq_true (show decide _ = true from fst_hit (n := 11) (c := bdB E r v) (by omega))
  have h3 : ∀ j, j < fst 11 (bdB E r v) → j < eT E ∧ ¬ (bitI v j = true ∧ ¬ frB r j = true) := fun j hj => by
    have := of_decide_eq_false (show decide _ = false from fst_min (n := 11) (c := bdB E r v) hj)
    exact ⟨Nat.lt_of_not_le fun q => this (Or.inl q), fun q => this (Or.inr q)⟩
  have dn : ∀ j, j < eT E → (F_X5_isDown 43 (nI j) μ = if r j ≠ -1 ∧ r (10 + j) = 0 then 1 else 0) ∧ F_X5_of 43 20 (nI j) μ = r (20 + j) := fun j hj => by
    unfold F_X5_isDown
    rw [of0 (by omega), of10 (by omega), of20 (by omega), hc.1 j (by omega), hc.1 (10 + j) (by omega), hc.1 (20 + j) (by omega)]
    refine ⟨?_, rfl⟩
    by_cases a : r j = -1
    · rw [if_pos a, if_neg (fun q => q.1 a)]
    · rw [if_neg a]
      by_cases b : r (10 + j) = 0
      · rw [if_neg (not_not_intro b), if_pos ⟨a, b⟩]
      · rw [if_pos b, if_neg (fun q => b q.2)]
  have hN : NX0_savedBy_8 v c μ = fst 11 (bdB E r v) := by
    unfold NX0_savedBy_8
    refine fst_congr fun j hj => ?_
    unfold Cb_X0_savedBy_8 bdB
    rw [hE.2.1]
    by_cases k1 : eT E ≤ j
    · rw [if_pos (nI_le k1 (by omega)), decide_eq_true (Or.inl k1)]
      rfl
    · rw [if_neg (nI_ge (by omega) (by omega)), (dn j (by omega)).1, (dn j (by omega)).2]
      by_cases k2 : ((v >>> ((nI j) &&& 31)) &&& 1) = 1
      · have kb : bitI v j = true := decide_eq_true k2
        rw [if_neg (not_not_intro k2)]
        by_cases k3 : r j ≠ -1 ∧ r (10 + j) = 0
        · rw [if_pos k3, if_neg (by decide)]
          rcases hr.2.2.1 j (by omega) with k4 | k4
          · rw [k4, if_pos (by decide), decide_eq_false (fun q => q.elim k1 fun z => z.2 (decide_eq_true ⟨k3.1, k3.2, k4⟩))]
            rfl
          · rw [k4, if_neg (by decide), decide_eq_true (Or.inr ⟨kb, fun z => absurd ((of_decide_eq_true z).2.2.symm.trans k4) (by decide)⟩)]
            rfl
        · rw [if_neg k3, if_pos rfl, decide_eq_true (Or.inr ⟨kb, fun z => k3 ⟨(of_decide_eq_true z).1, (of_decide_eq_true z).2.1⟩⟩)]
          rfl
      · rw [if_pos k2, decide_eq_false (fun q => q.elim k1 fun z => k2 (of_decide_eq_true z.1))]
        rfl
  have hS : SX0_savedBy_8 v c μ = (svR E r s v (fst 11 (bdB E r v)), wgR E v (fst 11 (bdB E r v))) := by
    unfold SX0_savedBy_8
    rw [hN]
    have : ∀ n, n ≤ fst 11 (bdB E r v) → fo n (g_X0_savedBy_8 v c μ) (0, 0) = (svR E r s v n, wgR E v n) := by
      intro n
      induction n with
      | zero => exact fun _ => rfl
      | succ n ih =>
        intro hn
        have hl := (h3 n (by omega)).1
        rw [fo_succ, ih (by omega)]
        unfold svR wgR
        rw [fo_succ, fo_succ]
        unfold g_X0_savedBy_8 VX0_savedBy_8_1 F_X5_isGone
        by_cases k2 : ((v >>> ((nI n) &&& 31)) &&& 1) = 1
        · have kb : bitI v n = true := decide_eq_true k2
          rw [if_neg (not_not_intro k2), if_pos kb, if_pos kb, of40 (by omega), of40 (by omega), of0 (by omega), at_k (by omega) (by omega), (hE.2.2.2.2.2.2.2.2.1 n hl).2.1, hc.1 (40 + n) (by omega)]
          have e0 := hs.1 n (by omega)
          have e4 := hs.1 (40 + n) (by omega)
          unfold wT
          rw [e0, e4]
          by_cases z : s n = -1
          · rw [if_pos z, if_neg (not_not_intro z), if_neg (by decide)]
          · rw [if_neg z, if_pos z, if_pos rfl]
        · have kb : ¬ bitI v n = true := fun z => k2 (of_decide_eq_true z)
          rw [if_pos k2, if_neg kb, if_neg kb]
    exact this _ (Nat.le_refl _)
  unfold P_X0_savedBy F_X0_savedBy
  rw [hN, hS, hE.2.1]
  generalize fst 11 (bdB E r v) = N at *
  refine ⟨⟨fun j hj => ?_, fun _ => trivial, fun q => ?_⟩, fun ho => ?_, fun ho => ?_⟩
  · obtain ⟨m1, m2⟩ := h3 j hj
    unfold Pb_X0_savedBy_8
    rw [hE.2.1, (dn j m1).1, (dn j m1).2]
    refine ⟨fun q => absurd q (nI_ge m1 (by omega)), fun _ => ⟨fun _ => trivial, fun k2 => ?_⟩⟩
    have kf : frB r j = true := Classical.byContradiction fun z => m2 ⟨decide_eq_true k2, z⟩
    obtain ⟨f1, f2, f3⟩ := of_decide_eq_true kf
    rw [if_pos ⟨f1, f2⟩, f3]
    exact ⟨fun q => absurd q (by decide), fun _ => ⟨fun _ => trivial, fun q => absurd q (by decide)⟩⟩
  · have hl : N < eT E := Nat.lt_of_not_le fun z => absurd q (Int32.not_lt.mpr (nI_le z (by omega)))
    obtain ⟨z1, z2⟩ := h2.resolve_left (by omega)
    have k2 : ((v >>> ((nI N) &&& 31)) &&& 1) = 1 := of_decide_eq_true z1
    refine ⟨fun z => z k2, fun _ => ?_⟩
    rw [(dn N hl).1, (dn N hl).2]
    refine ⟨fun _ => trivial, fun z => ⟨fun y => ?_, fun _ => trivial⟩⟩
    by_cases k3 : r N ≠ -1 ∧ r (10 + N) = 0
    · rcases hr.2.2.1 N hl with k4 | k4
      · exact z2 (decide_eq_true ⟨k3.1, k3.2, k4⟩)
      · exact y k4
    · rw [if_neg k3] at z
      exact z rfl
  · have hl : eT E ≤ N := Nat.le_of_not_lt fun z => by
      obtain ⟨z1, z2⟩ := h2.resolve_left (by omega)
      exact z2 (ho N z z1)
    have : N = eT E := by omega
    rw [this, if_pos (Int32.le_refl _)]
  · have hl : N < eT E := Nat.lt_of_not_le fun z => ho fun t ht hb => Classical.byContradiction fun y => (h3 t (by omega)).2 ⟨hb, y⟩
    rw [if_neg (nI_ge hl (by omega))]
