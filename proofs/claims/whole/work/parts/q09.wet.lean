/-! how often a thing gets wet; when a rope breaks -/
def stC (E : EV) (L : LW) (r : Nat → Int32) (a n t : Nat) : Int32 := fo n (fun i s => s + if isW E (seaR E L (eR E) i r) (hgt E (a + i)) t = true then 1 else 0) 0
theorem wat_sea {E : EV} {L : LW} {rn hh : Int32} {r : Nat → Int32} {h : Nat} (n : Nat) (hh' : h < 6) : wat E (seaR E L rn n r) hh h = wat E r hh h := wat_congr (sea50 n hh')
theorem sp_timesWet {E : EV} {L : LW} {μ : Mem} {r : Nat → Int32} {a t n : Nat} (hE : EvC E μ) (hO : EvOK E) (hc : RC0 E (μ 44) r) (hr : RowOK E 500 r) (ht : r 62 = nI a) (hl : t < eT E) (ha : a < 10000) (hn : n < 100) :
    P_X0_timesWet (nI t) (nI n) μ ∧ F_X0_timesWet (nI t) (nI n) μ = stC E L r a n t ∧ ∀ h, h ≠ 53 → h ≠ 54 → h ≠ 55 → h ≠ 56 → M_X0_timesWet (nI t) (nI n) μ h = μ h := by
  have hd := hO.1.2.1
  have hd1 := hO.1.1
  obtain ⟨b1, b2⟩ := sp_begin μ
  have hN : NX0_timesWet_9 (nI t) (nI n) μ = n := nI_ix (by omega)
  have key := fo_all (fun i (s : Int32 × Mem) => s.1 = stC E L r a i t ∧ RC0 E (s.2 53) (seaR E L (eR E) i r) ∧ ∀ h, h ≠ 53 → h ≠ 54 → h ≠ 55 → h ≠ 56 → s.2 h = μ h)
    (Pb_X0_timesWet_9 (nI t) (nI n)) n (g_X0_timesWet_9 (nI t) (nI n)) (0, muX0_timesWet_1 (nI t) (nI n) μ) ⟨rfl, ?_, fun h a1 _ _ _ => ?_⟩ ?_
  · obtain ⟨k1, k2, k3, k4⟩ := key
    unfold P_X0_timesWet F_X0_timesWet M_X0_timesWet SX0_timesWet_9
    rw [hN]
    exact ⟨⟨b1, k1, fun _ => trivial, fun q => absurd q n_lt⟩, k2, k4⟩
  · show RC0 E (M_X0_begin μ 53) r
    rw [b2, upr_same]
    exact hc.cut hO
  · show M_X0_begin μ h = μ h
    rw [b2, upr_other a1]
  · intro i hi s ⟨h1, h2, h3⟩
    have hE' : EvC E s.2 := hE.mono fun h hl => h3 h (by omega) (by omega) (by omega) (by omega)
    have e62 : seaR E L (eR E) i r 62 = nI (a + i) := sea62 i ht
    obtain ⟨t1, t2, t3⟩ := sp_passNext (L := L) (rn := eR E) hE' hO h2 (sea_ok hO hr i) (show a + i < 2 ^ 31 by omega) e62
    have hrow := (sea_ok (L := L) (rn := eR E) hO hr i).1 t hl
    have hdn : F_X5_isDown 52 (nI t) s.2 = if seaR E L (eR E) i r t = -1 then 0 else if seaR E L (eR E) i r (10 + t) ≠ 0 then 0 else 1 := by
      unfold F_X5_isDown
      rw [of0 (by omega), of10 (by omega), h2.1 t (by omega), h2.1 (10 + t) (by omega)]
    have hwh : F_X5_of 52 0 (nI t) s.2 = seaR E L (eR E) i r t := by rw [of0 (by omega), h2.1 t (by omega)]
    have hc' : RC0 E (s.2 44) r := by rw [h3 44 (by omega) (by omega) (by omega) (by omega)]; exact hc
    refine ⟨⟨fun q => absurd q (nI_ge hi (by omega)), fun _ => ⟨⟨fun _ => trivial, fun q => ?_⟩, t1⟩⟩, ?_, ?_, fun h a1 a2 a3 a4 => ?_⟩
    · rw [hwh]
      rcases hrow with q2 | ⟨h, hl2, q2⟩
      · rw [hdn, if_pos q2] at q
        exact absurd rfl q
      · rw [q2]
        exact (sp_waterAhead hE' hO hc' ht hl2 (by omega)).1
    · show VX0_timesWet_9_1 (nI t) (nI n) i s = stC E L r a i t + if isW E (seaR E L (eR E) i r) (hgt E (a + i)) t = true then 1 else 0
      unfold VX0_timesWet_9_1
      rw [hdn, hwh, h1]
      rcases hrow with q2 | ⟨h, hl2, q2⟩
      · rw [if_pos q2, if_pos rfl, if_neg, Int32.add_zero]
        intro q
        exact (of_decide_eq_true (show decide _ = true from q)).1 q2
      · have hne : seaR E L (eR E) i r t ≠ -1 := by
          rw [q2]
          intro q
          have := nI_pos (n := h) (by omega)
          rw [q] at this
          exact this (by decide)
        rw [if_neg hne]
        by_cases q3 : seaR E L (eR E) i r (10 + t) = 0
        · rw [if_neg (not_not_intro q3), if_neg (by decide), q2, (sp_waterAhead hE' hO hc' ht hl2 (by omega)).2.1]
          by_cases q4 : wat E r (hgt E (a + i)) h ≤ 0
          · rw [if_pos q4, if_neg, Int32.add_zero]
            intro q
            have := (of_decide_eq_true (show decide _ = true from q)).2.2
            rw [q2, nI_ix (by omega), wat_sea i (by omega)] at this
            exact Int32.not_lt.mpr q4 this
          · rw [if_neg q4, if_pos]
            show decide _ = true
            refine decide_eq_true ⟨hne, q3, ?_⟩
            rw [q2, nI_ix (by omega), wat_sea i (by omega)]
            exact Int32.not_le.mp q4
        · rw [if_pos q3, if_pos rfl, if_neg, Int32.add_zero]
          intro q
          exact q3 (of_decide_eq_true (show decide _ = true from q)).2.1
    · exact t2
    · show M_X0_passNext s.2 h = μ h
      rw [t3 h a1 a2 a3 a4, h3 h a1 a2 a3 a4]
/-- a rope holds behind i TIDES, and behind the next one too -/
def brk (E : EV) (L : LW) (r : Nat → Int32) (t j : Nat) : Bool := decide (60 ≤ j ∨ seaR E L (eR E) j r (20 + t) ≠ 1 ∨ seaR E L (eR E) (j + 1) r (20 + t) = 0)
def brkV (E : EV) (L : LW) (r : Nat → Int32) (t : Nat) : Int32 := if 60 ≤ fst 61 (brk E L r t) then -1 else if seaR E L (eR E) (fst 61 (brk E L r t)) r (20 + t) ≠ 1 then -1 else nI (fst 61 (brk E L r t))
theorem e60 {n : Nat} (hn : n < 100) : (60 : Int32) ≤ nI n ↔ 60 ≤ n := nI_leI (a := 60) (by omega) (by omega)
theorem l60 {n : Nat} (hn : n < 100) : nI n < (60 : Int32) ↔ n < 60 := nI_ltI (b := 60) (by omega) (by omega)
theorem sp_breakOf {E : EV} {L : LW} {μ : Mem} {r : Nat → Int32} {a t : Nat} (hE : EvC E μ) (hO : EvOK E) (hc : RC0 E (μ 44) r) (hr : RowOK E 500 r) (ht : r 62 = nI a) (hl : t < eT E) (ha : a < 10000) :
    P_X0_breakOf (nI t) μ ∧ F_X0_breakOf (nI t) μ = brkV E L r t ∧ ∀ h, h ≠ 53 → h ≠ 54 → h ≠ 55 → h ≠ 56 → M_X0_breakOf (nI t) μ h = μ h := by
  have hd := hO.1.2.1
  obtain ⟨b1, b2⟩ := sp_begin μ
  have inv : ∀ j, j ≤ 61 → RC0 E (fo j (g_X0_breakOf_6 (nI t)) (muX0_breakOf_1 (nI t) μ) 53) (seaR E L (eR E) j r) ∧ ∀ h, h ≠ 53 → h ≠ 54 → h ≠ 55 → h ≠ 56 → fo j (g_X0_breakOf_6 (nI t)) (muX0_breakOf_1 (nI t) μ) h = μ h := by
    intro j hj
    refine fo_inv (fun i (s : Mem) => RC0 E (s 53) (seaR E L (eR E) i r) ∧ ∀ h, h ≠ 53 → h ≠ 54 → h ≠ 55 → h ≠ 56 → s h = μ h) j _ _ ⟨?_, fun h a1 _ _ _ => ?_⟩ ?_
    · show RC0 E (M_X0_begin μ 53) r
      rw [b2, upr_same]
      exact hc.cut hO
    · show M_X0_begin μ h = μ h
      rw [b2, upr_other a1]
    · intro i hi s ⟨h2, h3⟩
      have hE' : EvC E s := hE.mono fun h hl => h3 h (by omega) (by omega) (by omega) (by omega)
      obtain ⟨t1, t2, t3⟩ := sp_passNext (L := L) (rn := eR E) hE' hO h2 (sea_ok hO hr i) (show a + i < 2 ^ 31 by omega) (sea62 i ht)
      exact ⟨t2, fun h a1 a2 a3 a4 => by
        show M_X0_passNext s h = μ h
        rw [t3 h a1 a2 a3 a4, h3 h a1 a2 a3 a4]⟩
  have nxt : ∀ j, j ≤ 60 → P_X0_passNext (fo j (g_X0_breakOf_6 (nI t)) (muX0_breakOf_1 (nI t) μ)) ∧ F_X5_of 52 20 (nI t) (fo j (g_X0_breakOf_6 (nI t)) (muX0_breakOf_1 (nI t) μ)) = seaR E L (eR E) j r (20 + t) ∧
      F_X5_of 52 20 (nI t) (M_X0_passNext (fo j (g_X0_breakOf_6 (nI t)) (muX0_breakOf_1 (nI t) μ))) = seaR E L (eR E) (j + 1) r (20 + t) ∧ ∀ h, h ≠ 53 → h ≠ 54 → h ≠ 55 → h ≠ 56 → M_X0_passNext (fo j (g_X0_breakOf_6 (nI t)) (muX0_breakOf_1 (nI t) μ)) h = μ h := by
    intro j hj
    obtain ⟨h2, h3⟩ := inv j (by omega)
    have hE' : EvC E (fo j (g_X0_breakOf_6 (nI t)) (muX0_breakOf_1 (nI t) μ)) := hE.mono fun h hl => h3 h (by omega) (by omega) (by omega) (by omega)
    obtain ⟨t1, t2, t3⟩ := sp_passNext (L := L) (rn := eR E) hE' hO h2 (sea_ok hO hr j) (show a + j < 2 ^ 31 by omega) (sea62 j ht)
    refine ⟨t1, ?_, ?_, fun h a1 a2 a3 a4 => by rw [t3 h a1 a2 a3 a4, h3 h a1 a2 a3 a4]⟩
    · rw [of20 (by omega), h2.1 _ (by omega)]
    · rw [of20 (by omega), t2.1 _ (by omega)]
      rfl
  have hN : NX0_breakOf_6 (nI t) μ = fst 61 (brk E L r t) := by
    unfold NX0_breakOf_6
    refine fst_congr fun j hj => ?_
    obtain ⟨n1, n2, n3, -⟩ := nxt j (by omega)
    unfold Cb_X0_breakOf_6 muX0_breakOf_6_1 brk
    rw [n2, n3]
    by_cases k1 : 60 ≤ j
    · rw [if_pos ((e60 (by omega)).mpr k1), decide_eq_true (Or.inl k1)]
      rfl
    · rw [if_neg (fun q => k1 ((e60 (by omega)).mp q))]
      by_cases k2 : seaR E L (eR E) j r (20 + t) ≠ 1
      · rw [if_pos k2, decide_eq_true (Or.inr (Or.inl k2))]
        rfl
      · rw [if_neg k2]
        by_cases k3 : seaR E L (eR E) (j + 1) r (20 + t) ≠ 0
        · rw [if_pos k3, decide_eq_false (fun q => q.elim k1 fun q => q.elim k2 k3)]
          rfl
        · rw [if_neg k3, decide_eq_true (Or.inr (Or.inr (Decidable.not_not.mp k3)))]
          rfl
  have h60 : fst 61 (brk E L r t) ≤ 60 := fst_lt (by omega) (decide_eq_true (Or.inl (Nat.le_refl 60)))
  have hmin : ∀ j, j < fst 61 (brk E L r t) → ¬ (60 ≤ j ∨ seaR E L (eR E) j r (20 + t) ≠ 1 ∨ seaR E L (eR E) (j + 1) r (20 + t) = 0) := fun j hj => of_decide_eq_false (fst_min hj)
  have hhit := of_decide_eq_true (fst_hit (n := 61) (c := brk E L r t) (by omega))
  have hS : SX0_breakOf_6 (nI t) μ = fo (fst 61 (brk E L r t)) (g_X0_breakOf_6 (nI t)) (muX0_breakOf_1 (nI t) μ) := by
    unfold SX0_breakOf_6
    rw [hN]
  obtain ⟨n1, n2, n3, n4⟩ := nxt _ h60
  obtain ⟨i1, i2⟩ := inv _ (show fst 61 (brk E L r t) ≤ 61 by omega)
  unfold P_X0_breakOf F_X0_breakOf M_X0_breakOf brkV muX0_breakOf_2
  rw [hS, hN, n2, n3]
  generalize fst 61 (brk E L r t) = N at *
  refine ⟨⟨b1, fun j hj => ?_, fun _ => trivial, fun q => ⟨fun _ => trivial, fun q2 => ⟨n1, fun z => ?_, fun _ => trivial⟩⟩⟩, ?_, fun h a1 a2 a3 a4 => ?_⟩
  · have hm := hmin j hj
    obtain ⟨m1, m2, m3, -⟩ := nxt j (by omega)
    unfold Pb_X0_breakOf_6 muX0_breakOf_6_1
    rw [m2, m3]
    exact ⟨fun q => hm (Or.inl ((e60 (by omega)).mp q)), fun _ => ⟨fun q => hm (Or.inr (Or.inl q)), fun _ => ⟨m1, fun _ => trivial, fun q => hm (Or.inr (Or.inr q))⟩⟩⟩
  · rcases hhit with k | k | k
    · have := (l60 (by omega)).mp q
      omega
    · exact k q2
    · exact z k
  · by_cases k : 60 ≤ N
    · rw [if_pos ((e60 (by omega)).mpr k), if_pos k]
    · rw [if_neg (fun q => k ((e60 (by omega)).mp q)), if_neg k]
  · split
    · exact i2 h a1 a2 a3 a4
    · split
      · exact i2 h a1 a2 a3 a4
      · exact n4 h a1 a2 a3 a4
