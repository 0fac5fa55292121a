/-! years -/
def lotN (seed : Int32) (i : Nat) : Int32 := fo i (fun _ s => s * 1103515245 + 12345) seed
theorem lot_s (seed : Int32) (i : Nat) : lotN seed (i + 1) = lotN seed i * 1103515245 + 12345 := rfl
def wdN (seed q k : Int32) (i : Nat) : Int32 := if q ≤ ((lotN seed (i + 1) >>> 16) &&& 15) then 0 else k
def yrR (E : EV) (L : LW) (rn seed q k : Int32) (n : Nat) (r : Nat → Int32) : Nat → Int32 := fo n (fun i s => tide1 E L (wdN seed q k i) rn s) r
def wnN (seed q : Int32) (n : Nat) : Int32 := fo n (fun i s => s + wdN seed q 1 i) 0
theorem yr_s (E : EV) (L : LW) (rn seed q k : Int32) (n : Nat) (r : Nat → Int32) : yrR E L rn seed q k (n + 1) r = tide1 E L (wdN seed q k n) rn (yrR E L rn seed q k n r) := rfl
theorem wn_s (seed q : Int32) (n : Nat) : wnN seed q (n + 1) = wnN seed q n + wdN seed q 1 n := rfl
theorem yr_ok {E : EV} {L : LW} {rn seed q k : Int32} {r : Nat → Int32} {b : Nat} (hO : EvOK E) (hr : RowOK E b r) (n : Nat) : RowOK E (b + n) (yrR E L rn seed q k n r) := by
  induction n with
  | zero => exact hr
  | succ n ih =>
    rw [yr_s]
    exact tide_ok hO ih
theorem yr62 {E : EV} {L : LW} {rn seed q k : Int32} {r : Nat → Int32} {a : Nat} (n : Nat) (h : r 62 = nI a) : yrR E L rn seed q k n r 62 = nI (a + n) := by
  induction n with
  | zero => exact h
  | succ n ih =>
    rw [yr_s]
    unfold tide1
    rw [tide62, ih, nI_1]
    rfl
theorem yr_hi {E : EV} {L : LW} {rn seed q k : Int32} {r : Nat → Int32} {j : Nat} (n : Nat) (hj : 63 ≤ j) : yrR E L rn seed q k n r j = r j := by
  induction n with
  | zero => rfl
  | succ n ih =>
    rw [yr_s]
    unfold tide1
    rw [tide_hi hj, ih]
theorem sp_goWindy {E : EV} {L : LW} {μ : Mem} {r : Nat → Int32} {n a b : Nat} {seed q k v : Int32} (hv : v = 0 ∨ v = 1) (hE : EvC E μ) (hO : EvOK E) (hL : LwOK L) (hR : LwC L μ) (hc : RC0 E (μ 44) r) (hp : RCP (μ 44) r) (hr : RowOK E b r) (hn : n < 1000) (ha : a < 10000) (ht : r 62 = nI a) :
    P_X0_goWindy seed (nI n) q k v μ ∧ F_X0_goWindy seed (nI n) q k v μ = wnN seed q n ∧ RC0 E (M_X0_goWindy seed (nI n) q k v μ 53) (yrR E L (eR E) seed q k n r) ∧ (v = 1 → RCP (M_X0_goWindy seed (nI n) q k v μ 53) (yrR E L (eR E) seed q k n r)) ∧ ∀ h, h ≠ 24 → h ≠ 25 → h ≠ 53 → h ≠ 54 → h ≠ 55 → h ≠ 56 → M_X0_goWindy seed (nI n) q k v μ h = μ h := by
  obtain ⟨b1, b2⟩ := sp_begin μ
  have hN : NX0_goWindy_13 seed (nI n) q k v μ = n := nI_ix (by omega)
  have key := fo_all (fun i (s : Int32 × Int32 × Mem) => s.1 = wnN seed q i ∧ s.2.1 = lotN seed i ∧ RC0 E (s.2.2 53) (yrR E L (eR E) seed q k i r) ∧ (v = 1 → RCP (s.2.2 53) (yrR E L (eR E) seed q k i r)) ∧ ∀ h, h ≠ 24 → h ≠ 25 → h ≠ 53 → h ≠ 54 → h ≠ 55 → h ≠ 56 → s.2.2 h = μ h)
    (Pb_X0_goWindy_13 seed (nI n) q k v) n (g_X0_goWindy_13 seed (nI n) q k v) (0, seed, muX0_goWindy_1 seed (nI n) q k v μ) ⟨rfl, rfl, ?_, fun _ => ?_, fun h _ _ a3 _ _ _ => ?_⟩ ?_
  · obtain ⟨k1, k2, k3, k4, k5, k6⟩ := key
    unfold P_X0_goWindy F_X0_goWindy M_X0_goWindy SX0_goWindy_13
    rw [hN]
    exact ⟨⟨b1, k1, fun _ => trivial, fun z => absurd z n_lt⟩, k2, k4, k5, k6⟩
  · show RC0 E (M_X0_begin μ 53) r
    rw [b2, upr_same]
    exact hc.cut hO
  · show RCP (M_X0_begin μ 53) r
    rw [b2, upr_same]
    exact hp.cut
  · show M_X0_begin μ h = μ h
    rw [b2, upr_other a3]
  · intro i hi s ⟨h1, h2, h3, h4, h5⟩
    have hE' : EvC E s.2.2 := hE.mono fun h hl => h5 h (by omega) (by omega) (by omega) (by omega) (by omega) (by omega)
    have hR' : LwC L s.2.2 := hR.mono (by rw [h5 21 (by omega) (by omega) (by omega) (by omega) (by omega) (by omega)]) (h5 22 (by omega) (by omega) (by omega) (by omega) (by omega) (by omega)) (h5 23 (by omega) (by omega) (by omega) (by omega) (by omega) (by omega))
    have e62 : yrR E L (eR E) seed q k i r 62 = nI (a + i) := yr62 i ht
    obtain ⟨q1, q2⟩ := sp_heightOf (a := a + i) hE' hO (by omega)
    have eTT : F_X5_tideToCome 52 s.2.2 = nI (a + i) := by rw [ofT, h3.2.2.2, e62]
    have ew : ∀ x : Int32, (if VX0_goWindy_13_1 seed (nI n) q k v i s = 0 then 0 else x) = wdN seed q x i := by
      intro x
      unfold VX0_goWindy_13_1 wdN
      rw [h2, lot_s]
      by_cases z : q ≤ ((lotN seed i * 1103515245 + 12345) >>> 16) &&& 15
      · rw [if_pos z, if_pos rfl, if_pos z]
      · rw [if_neg z, if_neg (by decide), if_neg z]
    have ew2 : VX0_goWindy_13_2 seed (nI n) q k v i s = wdN seed q 1 i := ew 1
    have ew3 : VX0_goWindy_13_3 seed (nI n) q k v i s = wdN seed q k i := ew k
    have es : yrR E L (eR E) seed q k (i + 1) r = tideR E L (hgt E (a + i) + wdN seed q k i) (eR E) (yrR E L (eR E) seed q k i r) := by
      rw [yr_s]
      unfold tide1
      rw [e62, nI_ix (by omega)]
    have e4 : muX0_goWindy_13_4 seed (nI n) q k v i s = M_X5_pass 52 (hgt E (a + i) + wdN seed q k i) s.2.2 := by
      unfold muX0_goWindy_13_4
      rw [eTT, q2, ew3]
    have e5 : muX0_goWindy_13_5 seed (nI n) q k v i s = M_X5_payDues 52 (eR E) (M_X5_pass 52 (hgt E (a + i) + wdN seed q k i) s.2.2) := by
      obtain ⟨-, -, -, -, a5⟩ := sp_pass (th := 52) (hh := hgt E (a + i) + wdN seed q k i) (Or.inr rfl) hE' hO h3 (yr_ok hO hr i)
      unfold muX0_goWindy_13_5
      rw [e4, a5 3 (by omega) (by omega) (by omega) (by omega), hE'.2.2.2.2.1]
    have hP : P_X5_pass 52 (hgt E (a + i) + wdN seed q k i) s.2.2 ∧ (v ≠ 0 → P_X5_payDues 52 (eR E) (M_X5_pass 52 (hgt E (a + i) + wdN seed q k i) s.2.2)) ∧ RC0 E (VX0_goWindy_13_6 seed (nI n) q k v i s 53) (yrR E L (eR E) seed q k (i + 1) r) ∧ (v = 1 → RCP (VX0_goWindy_13_6 seed (nI n) q k v i s 53) (yrR E L (eR E) seed q k (i + 1) r)) ∧ ∀ h, h ≠ 24 → h ≠ 25 → h ≠ 53 → h ≠ 54 → h ≠ 55 → h ≠ 56 → VX0_goWindy_13_6 seed (nI n) q k v i s h = s.2.2 h := by
      unfold VX0_goWindy_13_6
      rw [e4, e5, es]
      rcases hv with rfl | rfl
      · obtain ⟨a1, a2, -, -, a5⟩ := sp_pass (th := 52) (hh := hgt E (a + i) + wdN seed q k i) (Or.inr rfl) hE' hO h3 (yr_ok hO hr i)
        rw [if_pos rfl]
        exact ⟨a1, fun z => absurd rfl z, a2.tide hO, fun z => absurd z (by decide), fun h _ _ z3 z4 z5 z6 => a5 h z3 z4 z5 z6⟩
      · obtain ⟨t1, t2, t3, t4, t5⟩ := sp_tideC (th := 52) (hh := hgt E (a + i) + wdN seed q k i) (rn := eR E) (Or.inr rfl) hE' hO hL hR' h3 (h4 rfl) (yr_ok hO hr i)
        rw [if_neg (by decide)]
        exact ⟨t1, fun _ => t2, t3, fun _ => t4, t5⟩
    obtain ⟨p1, p2, p3, p4, p5⟩ := hP
    refine ⟨?_, ?_, ?_, p3, p4, fun h z1 z2 z3 z4 z5 z6 => ?_⟩
    · unfold Pb_X0_goWindy_13
      rw [eTT, q2, ew3, e4]
      refine ⟨fun z => absurd z (nI_ge hi (by omega)), fun _ => ⟨q1, p1, fun _ => trivial, fun z => ?_⟩⟩
      have := p2 z
      obtain ⟨-, -, -, -, a5⟩ := sp_pass (th := 52) (hh := hgt E (a + i) + wdN seed q k i) (Or.inr rfl) hE' hO h3 (yr_ok hO hr i)
      rw [a5 3 (by omega) (by omega) (by omega) (by omega), hE'.2.2.2.2.1]
      exact this
    · show s.1 + VX0_goWindy_13_2 seed (nI n) q k v i s = _
      rw [ew2, h1, wn_s]
    · show s.2.1 * 1103515245 + 12345 = _
      rw [h2, lot_s]
    · show VX0_goWindy_13_6 seed (nI n) q k v i s h = μ h
      rw [p5 h z1 z2 z3 z4 z5 z6, h5 h z1 z2 z3 z4 z5 z6]
theorem sp_yearByM {E : EV} {L : LW} {s0 : Mem} {n a : Nat} {seed q k : Int32} (hM : EvM E s0) (hO : EvOK E) (hL : LwOK L) (hR : LwR L s0) (hr : RowOK E 500 (s0 521)) (hn : n < 1000) (ha : a < 10000) (ht : s0 521 62 = nI a) (h44 : s0 57 44 = eR E) :
    P_X10_yearBy seed (nI n) q k s0 ∧ M_X10_yearBy seed (nI n) q k s0 522 = yrR E L (eR E) seed q k n (cutR (s0 521) (s0 522)) ∧ M_X10_yearBy seed (nI n) q k s0 57 49 = wnN seed q n ∧ M_X10_yearBy seed (nI n) q k s0 57 43 = 0 ∧ (∀ j, j ≠ 43 → j ≠ 48 → j ≠ 49 → M_X10_yearBy seed (nI n) q k s0 57 j = s0 57 j) ∧
    ∀ h, h ≠ 57 → h ≠ 522 → h ≠ 438 → h ≠ 439 → h ≠ 523 → h ≠ 524 → h ≠ 525 → M_X10_yearBy seed (nI n) q k s0 h = s0 h := by
  obtain ⟨cp, ce⟩ := sp_copies (μ := s0) (fr := 521) (to := 522) (by decide)
  have ek : ∀ j, j < 63 → cutR (s0 521) (s0 522) j = s0 521 j := fun j hj => cut_lt hj
  have cr : RowOK E 500 (cutR (s0 521) (s0 522)) := hr.congr hO ek
  have c62 : cutR (s0 521) (s0 522) 62 = nI a := by rw [ek 62 (by omega), ht]
  have hN : NX10_yearBy_24 seed (nI n) q k s0 = n := nI_ix (by omega)
  have e3 : ∀ h, h ≠ 57 → muX10_yearBy_3 seed (nI n) q k s0 h = M_X10_copies 521 522 s0 h := fun h hh => by
    unfold muX10_yearBy_3 muX10_yearBy_2 muX10_yearBy_1
    rw [upm_other hh, upm_other hh]
  have e357 : ∀ j, muX10_yearBy_3 seed (nI n) q k s0 57 j = if j = 49 then 0 else if j = 48 then seed else s0 57 j := fun j => by
    unfold muX10_yearBy_3 muX10_yearBy_2 muX10_yearBy_1
    rw [upm_rr, upm_rr, ce, upr_other (by decide)]
  have key := fo_all (fun i (s : Mem) => s 522 = yrR E L (eR E) seed q k i (cutR (s0 521) (s0 522)) ∧ s 57 49 = wnN seed q i ∧ s 57 48 = lotN seed i ∧ (∀ j, j ≠ 43 → j ≠ 48 → j ≠ 49 → s 57 j = s0 57 j) ∧ ∀ h, h ≠ 57 → h ≠ 522 → h ≠ 438 → h ≠ 439 → h ≠ 523 → h ≠ 524 → h ≠ 525 → s h = s0 h)
    (Pb_X10_yearBy_24 seed (nI n) q k) n (g_X10_yearBy_24 seed (nI n) q k) (muX10_yearBy_3 seed (nI n) q k s0) ⟨?_, ?_, ?_, fun j j1 j2 j3 => ?_, fun h a1 a2 _ _ _ _ _ => ?_⟩ ?_
  · obtain ⟨k1, k2, k3, k4, k5, k6⟩ := key
    have hS : SX10_yearBy_24 seed (nI n) q k s0 = fo n (g_X10_yearBy_24 seed (nI n) q k) (muX10_yearBy_3 seed (nI n) q k s0) := by
      unfold SX10_yearBy_24
      rw [hN]
    unfold P_X10_yearBy M_X10_yearBy muX10_yearBy_4
    rw [hS, hN]
    refine ⟨⟨cp, k1, fun _ => trivial, fun z => absurd z n_lt⟩, ?_, ?_, ?_, fun j j1 j2 j3 => ?_, fun h a1 a2 a3 a4 a5 a6 a7 => ?_⟩
    · rw [upm_other (by decide)]
      exact k2
    · rw [upm_rr, if_neg (by decide)]
      exact k3
    · rw [upm_rr, if_pos rfl]
    · rw [upm_rr, if_neg j1]
      exact k5 j j1 j2 j3
    · rw [upm_other a1]
      exact k6 h a1 a2 a3 a4 a5 a6 a7
  · rw [e3 522 (by decide), ce, upr_same]
    rfl
  · rw [e357, if_pos rfl]
    rfl
  · rw [e357, if_neg (by decide), if_pos rfl]
    rfl
  · rw [e357, if_neg j3, if_neg j2]
  · rw [e3 h a1, ce, upr_other a2]
  · intro i hi s ⟨h1, h2, h3, h4, h5⟩
    have f1 : muX10_yearBy_24_1 seed (nI n) q k i s = upm s 57 48 (lotN seed (i + 1)) := by
      unfold muX10_yearBy_24_1
      rw [h3, lot_s]
    have f2 : VX10_yearBy_24_2 seed (nI n) q k i s = wdN seed q k i := by
      unfold VX10_yearBy_24_2 wdN
      rw [f1, upm_rr, if_pos rfl]
    have f3 : muX10_yearBy_24_3 seed (nI n) q k i s = upm (upm s 57 48 (lotN seed (i + 1))) 57 43 (wdN seed q k i) := by
      unfold muX10_yearBy_24_3
      rw [f2, f1]
    have f4 : VX10_yearBy_24_4 seed (nI n) q k i s = wdN seed q 1 i := by
      unfold VX10_yearBy_24_4 wdN
      rw [f3, upm_rr, if_neg (show ¬ (48 : Nat) = 43 by decide), upm_rr, if_pos rfl]
    have f5 : muX10_yearBy_24_5 seed (nI n) q k i s = upm (upm (upm s 57 48 (lotN seed (i + 1))) 57 43 (wdN seed q k i)) 57 49 (wnN seed q (i + 1)) := by
      unfold muX10_yearBy_24_5
      rw [f4, f3, upm_rr, if_neg (by decide), upm_rr, if_neg (by decide), h2, wn_s]
    have o5 : ∀ h, h ≠ 57 → muX10_yearBy_24_5 seed (nI n) q k i s h = s h := fun h hh => by rw [f5, upm_other hh, upm_other hh, upm_other hh]
    have o57 : ∀ j, j ≠ 43 → j ≠ 48 → j ≠ 49 → muX10_yearBy_24_5 seed (nI n) q k i s 57 j = s0 57 j := fun j j1 j2 j3 => by rw [f5, upm_rr, if_neg j3, upm_rr, if_neg j1, upm_rr, if_neg j2, h4 j j1 j2 j3]
    have hE' : EvM E (muX10_yearBy_24_5 seed (nI n) q k i s) := hM.mono (fun h hh => by rw [o5 h (by omega), h5 h (by omega) (by omega) (by omega) (by omega) (by omega) (by omega) (by omega)]) hO
    have hR' : LwR L (muX10_yearBy_24_5 seed (nI n) q k i s) := hR.mono hL (o57 21 (by decide) (by decide) (by decide)) fun z _ _ => by rw [o5 z (by omega), h5 z (by omega) (by omega) (by omega) (by omega) (by omega) (by omega) (by omega)]
    have e522 : muX10_yearBy_24_5 seed (nI n) q k i s 522 = yrR E L (eR E) seed q k i (cutR (s0 521) (s0 522)) := by rw [o5 522 (by decide), h1]
    have e62 : muX10_yearBy_24_5 seed (nI n) q k i s 522 62 = nI (a + i) := by rw [e522]; exact yr62 i c62
    obtain ⟨x1, x2, x3⟩ := sp_tideComes (row := 522) (Or.inr rfl) hE' hO hL hR' (by rw [e522]; exact yr_ok hO cr i) (show a + i < 2 ^ 30 by omega) e62
    have e43 : muX10_yearBy_24_5 seed (nI n) q k i s 57 43 = wdN seed q k i := by rw [f5, upm_rr, if_neg (by decide), upm_rr, if_pos rfl]
    have x57 := x3 57 (by decide) (by decide) (by decide) (by decide) (by decide) (by decide)
    refine ⟨⟨fun z => absurd z (nI_ge hi (by omega)), fun _ => x1⟩, ?_, ?_, ?_, fun j j1 j2 j3 => ?_, fun h a1 a2 a3 a4 a5 a6 a7 => ?_⟩
    · show M_X10_tideComes 522 (muX10_yearBy_24_5 seed (nI n) q k i s) 522 = _
      rw [x2, e43, o57 44 (by decide) (by decide) (by decide), h44, e522, yr_s]
      unfold tide1
      rw [yr62 i c62, nI_ix (by omega)]
    · show M_X10_tideComes 522 (muX10_yearBy_24_5 seed (nI n) q k i s) 57 49 = _
      rw [x57, f5, upm_rr, if_pos rfl]
    · show M_X10_tideComes 522 (muX10_yearBy_24_5 seed (nI n) q k i s) 57 48 = _
      rw [x57, f5, upm_rr, if_neg (by decide), upm_rr, if_neg (by decide), upm_rr, if_pos rfl]
    · show M_X10_tideComes 522 (muX10_yearBy_24_5 seed (nI n) q k i s) 57 j = _
      rw [x57, o57 j j1 j2 j3]
    · show M_X10_tideComes 522 (muX10_yearBy_24_5 seed (nI n) q k i s) h = _
      rw [x3 h a2 a3 a4 a5 a6 a7, o5 h a1, h5 h a1 a2 a3 a4 a5 a6 a7]
theorem gone_nat {E : EV} (hO : EvOK E) (r : Nat → Int32) : ∃ g, g ≤ 10 ∧ goneR E r = nI g := by
  have hd := hO.1.2.1
  have key : ∀ n, ∃ g, g ≤ n ∧ fo n (fun t s => s + if r t = -1 then (1 : Int32) else 0) 0 = nI g := by
    intro n
    induction n with
    | zero => exact ⟨0, by omega, rfl⟩
    | succ n ih =>
      obtain ⟨g, hg, e⟩ := ih
      rw [fo_succ, e]
      by_cases q : r n = -1
      · rw [if_pos q, nI_1]
        exact ⟨g + 1, by omega, rfl⟩
      · rw [if_neg q, Int32.add_zero]
        exact ⟨g, by omega, rfl⟩
  obtain ⟨g, hg, e⟩ := key (eT E)
  exact ⟨g, by omega, e⟩
