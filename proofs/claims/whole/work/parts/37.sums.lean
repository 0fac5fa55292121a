/-! sums over a row, both sides; copies; TIDES ahead -/
def goneR (E : EV) (r : Nat → Int32) : Int32 := fo (eT E) (fun t s => s + if r t = -1 then 1 else 0) 0
def worthR (E : EV) (r : Nat → Int32) : Int32 := fo (eT E) (fun t s => s + if r t = -1 then 0 else r (40 + t)) 0
def paidR (E : EV) (r : Nat → Int32) : Int32 := fo (eH E) (fun h s => s + r (56 + h)) 0
theorem n_lt {x : Int32} : ¬ x < x := Int32.not_lt.mpr (Int32.le_refl _)
theorem sp_goneC {E : EV} {μ : Mem} {r : Nat → Int32} {th : Nat} (hE : EvC E μ) (hO : EvOK E) (hc : RC0 E (μ (th + 1)) r) : P_X5_goneThings th μ ∧ F_X5_goneThings th μ = goneR E r := by
  have hd := hO.1.2.1
  have hN : NX5_goneThings_4 th μ = eT E := by
    unfold NX5_goneThings_4
    rw [hE.2.1, nI_ix (by omega)]
  unfold P_X5_goneThings F_X5_goneThings SX5_goneThings_4 goneR
  rw [hN, hE.2.1]
  refine ⟨⟨fun j hj => ?_, fun _ => trivial, fun q => absurd q n_lt⟩, fo_congr _ _ _ _ fun i hi s => ?_⟩
  · unfold Pb_X5_goneThings_4
    rw [hE.2.1]
    exact ⟨fun q => absurd q (nI_ge hj (by omega)), fun _ => trivial⟩
  · unfold g_X5_goneThings_4 VX5_goneThings_4_1 F_X5_isGone
    rw [of0 (by omega), hc.1 i (by omega)]
    by_cases q : r i = -1
    · rw [if_neg (not_not_intro q), if_pos q, if_neg (by decide)]
    · rw [if_pos q, if_neg q, if_pos rfl]
theorem sp_worthC {E : EV} {μ : Mem} {r : Nat → Int32} {th : Nat} (hE : EvC E μ) (hO : EvOK E) (hc : RC0 E (μ (th + 1)) r) : P_X5_worthLeft th μ ∧ F_X5_worthLeft th μ = worthR E r := by
  have hd := hO.1.2.1
  have hN : NX5_worthLeft_4 th μ = eT E := by
    unfold NX5_worthLeft_4
    rw [hE.2.1, nI_ix (by omega)]
  unfold P_X5_worthLeft F_X5_worthLeft SX5_worthLeft_4 worthR
  rw [hN, hE.2.1]
  refine ⟨⟨fun j hj => ?_, fun _ => trivial, fun q => absurd q n_lt⟩, fo_congr _ _ _ _ fun i hi s => ?_⟩
  · unfold Pb_X5_worthLeft_4
    rw [hE.2.1]
    exact ⟨fun q => absurd q (nI_ge hj (by omega)), fun _ => trivial⟩
  · unfold g_X5_worthLeft_4 VX5_worthLeft_4_1 F_X5_isGone
    rw [of0 (by omega), of40 (by omega), hc.1 i (by omega), hc.1 (40 + i) (by omega)]
    by_cases q : r i = -1
    · rw [if_neg (not_not_intro q), if_pos q, if_neg (by decide)]
    · rw [if_pos q, if_neg q, if_pos rfl]
theorem sp_paidC {E : EV} {μ : Mem} {r : Nat → Int32} {th : Nat} (hE : EvC E μ) (hO : EvOK E) (hc : RCP (μ (th + 1)) r) : P_X5_paidInAll th μ ∧ F_X5_paidInAll th μ = paidR E r := by
  have hd := hO.1.1
  have hN : NX5_paidInAll_4 th μ = eH E := by
    unfold NX5_paidInAll_4
    rw [hE.1, nI_ix (by omega)]
  unfold P_X5_paidInAll F_X5_paidInAll SX5_paidInAll_4 paidR
  rw [hN, hE.1]
  refine ⟨⟨fun j hj => ?_, fun _ => trivial, fun q => absurd q n_lt⟩, fo_congr _ _ _ _ fun i hi s => ?_⟩
  · unfold Pb_X5_paidInAll_4
    rw [hE.1]
    exact ⟨fun q => absurd q (nI_ge hj (by omega)), fun _ => trivial⟩
  · unfold g_X5_paidInAll_4
    rw [of62 (by omega), hc i (by omega)]
theorem sp_goneM {E : EV} {μ : Mem} {row : Nat} (hE : EvM E μ) (hO : EvOK E) : P_X10_goneIn row μ ∧ F_X10_goneIn row μ = goneR E (μ row) := by
  have hd := hO.1.2.1
  have hN : NX10_goneIn_4 row μ = eT E := by
    unfold NX10_goneIn_4
    rw [hE.2.1, nI_ix (by omega)]
  unfold P_X10_goneIn F_X10_goneIn SX10_goneIn_4 goneR
  rw [hN, hE.2.1]
  refine ⟨⟨fun j hj => ?_, fun _ => trivial, fun q => absurd q n_lt⟩, fo_congr _ _ _ _ fun i hi s => ?_⟩
  · unfold Pb_X10_goneIn_4
    rw [hE.2.1, c0]
    exact ⟨fun q => absurd q (nI_ge hj (by omega)), fun _ => vp_in_nI (by omega) (by omega)⟩
  · unfold g_X10_goneIn_4 VX10_goneIn_4_1
    rw [c0, nI_ix (by omega)]
    by_cases q : μ row i = -1
    · rw [if_neg (not_not_intro q), if_pos q]
    · rw [if_pos q, if_neg q]
theorem sp_worthM {E : EV} {μ : Mem} {row : Nat} (hE : EvM E μ) (hO : EvOK E) : P_X10_worthIn row μ ∧ F_X10_worthIn row μ = worthR E (μ row) := by
  have hd := hO.1.2.1
  have hN : NX10_worthIn_4 row μ = eT E := by
    unfold NX10_worthIn_4
    rw [hE.2.1, nI_ix (by omega)]
  unfold P_X10_worthIn F_X10_worthIn SX10_worthIn_4 worthR
  rw [hN, hE.2.1]
  refine ⟨⟨fun j hj => ?_, fun _ => trivial, fun q => absurd q n_lt⟩, fo_congr _ _ _ _ fun i hi s => ?_⟩
  · unfold Pb_X10_worthIn_4
    rw [hE.2.1, c0, c40]
    exact ⟨fun q => absurd q (nI_ge hj (by omega)), fun _ => ⟨vp_in_nI (by omega) (by omega), fun _ => vp_in_nI (by omega) (by omega), fun _ => trivial⟩⟩
  · unfold g_X10_worthIn_4 VX10_worthIn_4_1
    rw [c0, c40, nI_ix (by omega), nI_ix (by omega)]
    by_cases q : μ row i = -1
    · rw [if_neg (not_not_intro q), if_pos q]
    · rw [if_pos q, if_neg q]
theorem sp_paidM {E : EV} {μ : Mem} {row : Nat} (hE : EvM E μ) (hO : EvOK E) : P_X10_paidIn row μ ∧ F_X10_paidIn row μ = paidR E (μ row) := by
  have hd := hO.1.1
  have hN : NX10_paidIn_4 row μ = eH E := by
    unfold NX10_paidIn_4
    rw [hE.1, nI_ix (by omega)]
  unfold P_X10_paidIn F_X10_paidIn SX10_paidIn_4 paidR
  rw [hN, hE.1]
  refine ⟨⟨fun j hj => ?_, fun _ => trivial, fun q => absurd q n_lt⟩, fo_congr _ _ _ _ fun i hi s => ?_⟩
  · unfold Pb_X10_paidIn_4
    rw [hE.1, c56]
    exact ⟨fun q => absurd q (nI_ge hj (by omega)), fun _ => vp_in_nI (by omega) (by omega)⟩
  · unfold g_X10_paidIn_4
    rw [c56, nI_ix (by omega)]
/-- the first 63 cells of a row, the others of another -/
def cutR (r q : Nat → Int32) : Nat → Int32 := fun k => if k < 63 then r k else q k
theorem cut_lt {r q : Nat → Int32} {k : Nat} (h : k < 63) : cutR r q k = r k := if_pos h
theorem cut_ge {r q : Nat → Int32} {k : Nat} (h : 63 ≤ k) : cutR r q k = q k := if_neg (Nat.not_lt.mpr h)
theorem sp_copies {μ : Mem} {fr to : Nat} (hne : fr ≠ to) : P_X10_copies fr to μ ∧ M_X10_copies fr to μ = upr μ to (cutR (μ fr) (μ to)) := by
  have key := fo_all (fun i (s : Mem) => (∀ k, s to k = if k < i then μ fr k else μ to k) ∧ ∀ h, h ≠ to → s h = μ h) (Pb_X10_copies_2 fr to) 63 (g_X10_copies_2 fr to) μ ⟨fun k => by rw [if_neg (by omega)], fun _ _ => rfl⟩ ?_
  · obtain ⟨k1, k2, k3⟩ := key
    have hS : SX10_copies_2 fr to μ = fo 63 (g_X10_copies_2 fr to) μ := rfl
    have hN : NX10_copies_2 fr to μ = 63 := rfl
    unfold P_X10_copies M_X10_copies
    rw [hN, hS]
    refine ⟨⟨k1, fun _ => trivial, fun q => absurd q n_lt⟩, ?_⟩
    funext h
    rw [upr_ap]
    by_cases q : h = to
    · rw [if_pos q, q]
      funext k
      exact k2 k
    · rw [if_neg q, k3 h q]
  · intro i hi s ⟨h1, h2⟩
    have v : vp_in (nI i) 63 := vp_in_nI (by omega) (by omega)
    refine ⟨⟨fun q => absurd q (nI_ge (b := 63) hi (by omega)), fun _ => ⟨v, v⟩⟩, fun k => ?_, fun h hh => ?_⟩
    · unfold g_X10_copies_2 muX10_copies_2_1
      rw [upm_rr, nI_ix (by omega), h2 fr hne, h1 k]
      by_cases q : k = i
      · rw [if_pos q, if_pos (by omega), q]
      · rw [if_neg q]
        by_cases z : k < i
        · rw [if_pos z, if_pos (by omega)]
        · rw [if_neg z, if_neg (by omega)]
    · unfold g_X10_copies_2 muX10_copies_2_1
      rw [upm_other hh, h2 h hh]
theorem sp_goesOn {E : EV} {L : LW} {μ : Mem} {n a b : Nat} (hE : EvM E μ) (hO : EvOK E) (hL : LwOK L) (hR : LwR L μ) (hr : RowOK E b (μ 522)) (hw : μ 57 43 = 0) (hn : n < 1000) (ha : a < 10000) (ht : μ 522 62 = nI a) :
    P_X10_goesOn (nI n) μ ∧ M_X10_goesOn (nI n) μ 522 = seaR E L (μ 57 44) n (μ 522) ∧ ∀ h, h ≠ 522 → h ≠ 438 → h ≠ 439 → h ≠ 523 → h ≠ 524 → h ≠ 525 → M_X10_goesOn (nI n) μ h = μ h := by
  have hN : NX10_goesOn_2 (nI n) μ = n := nI_ix (by omega)
  have key := fo_all (fun i (s : Mem) => s 522 = seaR E L (μ 57 44) i (μ 522) ∧ ∀ h, h ≠ 522 → h ≠ 438 → h ≠ 439 → h ≠ 523 → h ≠ 524 → h ≠ 525 → s h = μ h) (Pb_X10_goesOn_2 (nI n)) n (g_X10_goesOn_2 (nI n)) μ ⟨rfl, fun _ _ _ _ _ _ _ => rfl⟩ ?_
  · obtain ⟨k1, k2, k3⟩ := key
    unfold P_X10_goesOn M_X10_goesOn SX10_goesOn_2
    rw [hN]
    exact ⟨⟨k1, fun _ => trivial, fun q => absurd q n_lt⟩, k2, k3⟩
  · intro i hi s ⟨h1, h2⟩
    have e57 : s 57 = μ 57 := h2 57 (by omega) (by omega) (by omega) (by omega) (by omega) (by omega)
    have hE' : EvM E s := hE.mono (fun h hh => h2 h (by omega) (by omega) (by omega) (by omega) (by omega) (by omega)) hO
    have hR' : LwR L s := hR.mono hL (by rw [e57]) fun q _ _ => h2 q (by omega) (by omega) (by omega) (by omega) (by omega) (by omega)
    have e62 : s 522 62 = nI (a + i) := by rw [h1]; exact sea62 i ht
    have hr' : RowOK E (b + i) (s 522) := by rw [h1]; exact sea_ok hO hr i
    obtain ⟨t1, t2, t3⟩ := sp_tideComes (row := 522) (Or.inr rfl) hE' hO hL hR' hr' (show a + i < 2 ^ 30 by omega) e62
    refine ⟨⟨fun q => absurd q (nI_ge hi (by omega)), fun _ => t1⟩, ?_, fun h a1 a2 a3 a4 a5 a6 => ?_⟩
    · show M_X10_tideComes 522 s 522 = _
      rw [t2, sea_s, e57, hw]
      unfold tide1
      rw [← h1, e62, nI_ix (by omega)]
    · show M_X10_tideComes 522 s h = _
      rw [t3 h a1 a2 a3 a4 a5 a6, h2 h a1 a2 a3 a4 a5 a6]
theorem sp_copyRow {μ : Mem} {fr to nf nt sp dp n : Nat} (hsp : sp + n ≤ nf) (hdp : dp + n ≤ nt) (hf : nf < 2 ^ 30) (ht : nt < 2 ^ 30) : P_X9_copyRow fr nf (nI sp) to nt (nI dp) (nI n) μ ∧ M_X9_copyRow fr nf (nI sp) to nt (nI dp) (nI n) μ = upr μ to (va_cpy (μ fr) (μ to) sp dp n) := by
  have e1 : nI nf - nI n = nI (nf - n) := pk_sub (by omega)
  have e2 : nI nt - nI n = nI (nt - n) := pk_sub (by omega)
  have n1 : ¬ nI n < 0 := nI_pos (by omega)
  have n2 : ¬ nI sp < 0 := nI_pos (by omega)
  have n3 : ¬ nI dp < 0 := nI_pos (by omega)
  have n4 : ¬ nI (nf - n) < nI sp := nI_nlt (by omega) (by omega)
  have n5 : ¬ nI (nt - n) < nI dp := nI_nlt (by omega) (by omega)
  unfold P_X9_copyRow M_X9_copyRow muX9_copyRow_1
  rw [e1, e2, if_neg n1, if_neg n2, if_neg n3, if_neg n4, if_neg n5, nI_ix (by omega), nI_ix (by omega), nI_ix (by omega)]
  exact ⟨⟨fun _ => trivial, fun _ => ⟨fun _ => trivial, fun _ => ⟨fun _ => trivial, fun _ => ⟨fun _ => trivial, fun _ => ⟨fun _ => trivial, fun _ => ⟨n2, n3, n1, hsp, hdp⟩⟩⟩⟩⟩⟩, rfl⟩
theorem sp_copyWhole {μ : Mem} {fr to nf nt : Nat} (h : nf ≤ nt) (ht : nt < 2 ^ 30) : P_X9_copyWhole fr nf to nt μ ∧ M_X9_copyWhole fr nf to nt μ = upr μ to (va_cpy (μ fr) (μ to) 0 0 nf) := by
  have := sp_copyRow (μ := μ) (fr := fr) (to := to) (nf := nf) (nt := nt) (sp := 0) (dp := 0) (n := nf) (by omega) (by omega) (by omega) ht
  exact this
theorem cpy0_lt {f g : Nat → Int32} {n k : Nat} (h : k < n) : va_cpy f g 0 0 n k = f k := by
  rw [pk_cpy_in (Nat.zero_le _) (by omega)]
  congr 1
  omega
theorem sp_begin (μ : Mem) : P_X0_begin μ ∧ M_X0_begin μ = upr μ 53 (va_cpy (μ 44) (μ 53) 0 0 69) := by
  have := sp_copyWhole (μ := μ) (fr := 44) (to := 53) (nf := 69) (nt := 69) (by omega) (by omega)
  exact this
theorem RC0.cut {E : EV} {c q r : Nat → Int32} (hO : EvOK E) (h : RC0 E c r) : RC0 E (va_cpy c q 0 0 69) r := by
  have hd := hO.1.1
  obtain ⟨r1, r2, r3, r4⟩ := h
  refine ⟨fun k hk => ?_, fun h hl => ?_, fun h hl => ?_, ?_⟩
  · rw [cpy0_lt (by omega)]
    exact r1 k hk
  · rw [cpy0_lt (by omega)]
    exact r2 h hl
  · rw [cpy0_lt (by omega)]
    exact r3 h hl
  · rw [cpy0_lt (by omega)]
    exact r4
theorem RCP.cut {c q r : Nat → Int32} (h : RCP c r) : RCP (va_cpy c q 0 0 69) r := by
  intro h' hl
  rw [cpy0_lt (by omega)]
  exact h h' hl
/-- what the class's questions on what comes change -/
theorem sp_goAhead {E : EV} {L : LW} {μ : Mem} {r : Nat → Int32} {n a b : Nat} {rn : Int32} (hE : EvC E μ) (hO : EvOK E) (hL : LwOK L) (hR : LwC L μ) (hc : RC0 E (μ 44) r) (hp : RCP (μ 44) r) (hr : RowOK E b r) (hn : n < 1000) (ha : a < 10000) (ht : r 62 = nI a) :
    P_X0_goAhead (nI n) rn μ ∧ RC0 E (M_X0_goAhead (nI n) rn μ 53) (seaR E L rn n r) ∧ RCP (M_X0_goAhead (nI n) rn μ 53) (seaR E L rn n r) ∧ ∀ h, h ≠ 24 → h ≠ 25 → h ≠ 53 → h ≠ 54 → h ≠ 55 → h ≠ 56 → M_X0_goAhead (nI n) rn μ h = μ h := by
  obtain ⟨b1, b2⟩ := sp_begin μ
  have hN : NX0_goAhead_6 (nI n) rn μ = n := nI_ix (by omega)
  have key := fo_all (fun i (s : Mem) => RC0 E (s 53) (seaR E L rn i r) ∧ RCP (s 53) (seaR E L rn i r) ∧ ∀ h, h ≠ 24 → h ≠ 25 → h ≠ 53 → h ≠ 54 → h ≠ 55 → h ≠ 56 → s h = μ h)
    (Pb_X0_goAhead_6 (nI n) rn) n (g_X0_goAhead_6 (nI n) rn) (muX0_goAhead_1 (nI n) rn μ) ⟨?_, ?_, fun h _ _ a3 _ _ _ => ?_⟩ ?_
  · obtain ⟨k1, k2, k3, k4⟩ := key
    unfold P_X0_goAhead M_X0_goAhead SX0_goAhead_6
    rw [hN]
    exact ⟨⟨b1, k1, fun _ => trivial, fun q => absurd q n_lt⟩, k2, k3, k4⟩
  · unfold muX0_goAhead_1
    rw [b2, upr_same]
    exact hc.cut hO
  · unfold muX0_goAhead_1
    rw [b2, upr_same]
    exact hp.cut
  · unfold muX0_goAhead_1
    rw [b2, upr_other a3]
  · intro i hi s ⟨h1, h2, h3⟩
    have hE' : EvC E s := hE.mono fun h hl => h3 h (by omega) (by omega) (by omega) (by omega) (by omega) (by omega)
    have hR' : LwC L s := hR.mono (by rw [h3 21 (by omega) (by omega) (by omega) (by omega) (by omega) (by omega)]) (h3 22 (by omega) (by omega) (by omega) (by omega) (by omega) (by omega)) (h3 23 (by omega) (by omega) (by omega) (by omega) (by omega) (by omega))
    have e62 : seaR E L rn i r 62 = nI (a + i) := sea62 i ht
    obtain ⟨q1, q2⟩ := sp_heightOf (a := a + i) hE' hO (by omega)
    have eT : F_X5_tideToCome 52 s = nI (a + i) := by rw [ofT, h1.2.2.2, e62]
    obtain ⟨t1, t2, t3, t4, t5⟩ := sp_tideC (th := 52) (hh := hgt E (a + i)) (rn := rn) (Or.inr rfl) hE' hO hL hR' h1 h2 (sea_ok hO hr i)
    have ep : M_X0_passNext s = M_X5_pass 52 (hgt E (a + i)) s := by
      unfold M_X0_passNext muX0_passNext_1
      rw [eT, q2]
    have es : seaR E L rn (i + 1) r = tideR E L (hgt E (a + i)) rn (seaR E L rn i r) := by
      rw [sea_s]
      unfold tide1
      rw [e62, nI_ix (by omega), Int32.add_zero]
    have eg : g_X0_goAhead_6 (nI n) rn i s = M_X5_payDues 52 rn (M_X5_pass 52 (hgt E (a + i)) s) := by
      unfold g_X0_goAhead_6 muX0_goAhead_6_2 muX0_goAhead_6_1
      rw [ep]
    rw [eg, es]
    refine ⟨⟨fun q => absurd q (nI_ge hi (by omega)), fun _ => ⟨?_, ?_⟩⟩, t3, t4, fun h a1 a2 a3 a4 a5 a6 => ?_⟩
    · unfold P_X0_passNext
      rw [eT, q2]
      exact ⟨q1, t1⟩
    · unfold muX0_goAhead_6_1
      rw [ep]
      exact t2
    · rw [t5 h a1 a2 a3 a4 a5 a6]
      exact h3 h a1 a2 a3 a4 a5 a6
