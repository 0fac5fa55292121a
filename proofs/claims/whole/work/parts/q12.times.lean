/-! how often a TIDE is in a HOUSE -/
def smI (n : Nat) (f : Nat → Int32) : Int32 := fo n (fun i s => s + f i) 0
theorem smI_s (n : Nat) (f : Nat → Int32) : smI (n + 1) f = smI n f + f n := rfl
theorem fo_sm (n : Nat) (f : Nat → Int32) (s : Int32) : fo n (fun i t => t + f i) s = s + smI n f := by
  induction n with
  | zero => exact (Int32.add_zero s).symm
  | succ n ih => rw [fo_succ, ih, smI_s, Int32.add_assoc]
theorem smI_congr {n : Nat} {f g : Nat → Int32} (h : ∀ i, i < n → f i = g i) : smI n f = smI n g := fo_congr _ _ _ _ fun i hi s => by rw [h i hi]
theorem smI_add (n : Nat) (f g : Nat → Int32) : smI n (fun i => f i + g i) = smI n f + smI n g := by
  induction n with
  | zero => rfl
  | succ n ih =>
    rw [smI_s, smI_s, smI_s, ih]
    grind
theorem smI_zero (n : Nat) : smI n (fun _ => 0) = 0 := by
  induction n with
  | zero => rfl
  | succ n ih => rw [smI_s, ih]; rfl
theorem smI_swap (m n : Nat) (f : Nat → Nat → Int32) : smI m (fun i => smI n (fun j => f i j)) = smI n (fun j => smI m (fun i => f i j)) := by
  induction m with
  | zero => exact (smI_zero n).symm
  | succ m ih =>
    rw [smI_s, ih]
    have : (fun j => smI (m + 1) (fun i => f i j)) = fun j => smI m (fun i => f i j) + f m j := funext fun j => smI_s m _
    rw [this, smI_add]
def inW (E : EV) (r : Nat → Int32) (a i h : Nat) : Int32 := if wat E r (hgt E (a + i)) h ≤ 0 then 0 else 1
def bitI (v : Int32) (h : Nat) : Bool := decide (((v >>> ((nI h) &&& 31)) &&& 1) = 1)
theorem bit_all (h : Nat) (hh : h < 32) : bitI (-1) h = true := by
  have : ∀ h, h < 32 → bitI (-1) h = true := by decide
  exact this h hh
theorem bit_one (h k : Nat) (hh : h < 6) (hk : k < 6) : bitI ((1 : Int32) <<< ((nI h) &&& 31)) k = decide (k = h) := by
  have : ∀ h, h < 6 → ∀ k, k < 6 → bitI ((1 : Int32) <<< ((nI h) &&& 31)) k = decide (k = h) := by decide
  exact this h hh k hk
theorem sp_timesInto {E : EV} {μ : Mem} {r : Nat → Int32} {a n : Nat} {v : Int32} (hE : EvC E μ) (hO : EvOK E) (hc : RC0 E (μ 44) r) (ht : r 62 = nI a) (ha : a < 10000) (hn : n < 100) :
    P_X0_timesInto v (nI n) μ ∧ F_X0_timesInto v (nI n) μ = smI (eH E) (fun h => smI n (fun i => if bitI v h = true then inW E r a i h else 0)) := by
  have hd := hO.1.1
  have hg : ∀ h i s, h < eH E → i < n → g_X0_timesInto_20 v (nI n) (nI h) μ i s = s + if bitI v h = true then inW E r a i h else 0 := by
    intro h i s hl hi
    unfold g_X0_timesInto_20 VX0_timesInto_20_1 inW
    rw [(sp_waterAhead hE hO hc ht hl (by omega)).2.1]
    by_cases q : ((v >>> ((nI h) &&& 31)) &&& 1) = 1
    · rw [if_neg (not_not_intro q), if_pos (show bitI v h = true from decide_eq_true q)]
    · rw [if_pos q, if_neg (show ¬ bitI v h = true from fun z => q (of_decide_eq_true z))]
  have hNi : ∀ i s, NX0_timesInto_5_20 v (nI n) μ i s = n := fun i s => nI_ix (by omega)
  have hg5 : ∀ h s, h < eH E → g_X0_timesInto_5 v (nI n) μ h s = s + smI n (fun i => if bitI v h = true then inW E r a i h else 0) := by
    intro h s hl
    unfold g_X0_timesInto_5 SX0_timesInto_5_20
    rw [hNi, ← fo_sm]
    exact fo_congr _ _ _ _ fun i hi t => hg h i t hl hi
  have hN : NX0_timesInto_5 v (nI n) μ = eH E := by
    unfold NX0_timesInto_5
    rw [hE.1, nI_ix (by omega)]
  unfold P_X0_timesInto F_X0_timesInto SX0_timesInto_5
  rw [hN, hE.1]
  refine ⟨⟨fun j hj => ?_, fun _ => trivial, fun q => absurd q n_lt⟩, fo_congr _ _ _ _ fun i hi s => hg5 i s hi⟩
  unfold Pb_X0_timesInto_5
  rw [hE.1, hNi]
  refine ⟨fun q => nI_ge hj (by omega) q, fun _ => ⟨fun i hi => ?_, fun _ => trivial, fun q => absurd q n_lt⟩⟩
  unfold Pb_X0_timesInto_20
  exact ⟨fun q => nI_ge hi (by omega) q, fun _ => ⟨fun _ => trivial, fun _ => (sp_waterAhead hE hO hc ht hj (by omega)).1⟩⟩
theorem sp_standAhead {E : EV} {L : LW} {μ : Mem} {r : Nat → Int32} {n a b : Nat} {w : Int32} (hE : EvC E μ) (hO : EvOK E) (hL : LwOK L) (hR : LwC L μ) (hc : RC0 E (μ 44) r) (hp : RCP (μ 44) r) (hr : RowOK E b r) (hn : n < 100) (ha : a < 10000) (ht : r 62 = nI a) :
    P_X0_standAhead (nI n) w μ ∧ F_X0_standAhead (nI n) w μ = (if w = 0 then worthR E (seaR E L (eR E) n r) else if w = 1 then goneR E (seaR E L (eR E) n r) else if w = 3 then smI (eH E) (fun h => smI n (fun i => inW E r a i h)) else paidR E (seaR E L (eR E) n r) - paidR E r) ∧
    ∀ h, h ≠ 24 → h ≠ 25 → h ≠ 53 → h ≠ 54 → h ≠ 55 → h ≠ 56 → M_X0_standAhead (nI n) w μ h = μ h := by
  have hd := hO.1.1
  obtain ⟨g1, g2, g3, g4⟩ := sp_goAhead (n := n) (rn := eR E) hE hO hL hR hc hp hr (by omega) ha ht
  obtain ⟨t1, t2⟩ := sp_timesInto (v := -1) (n := n) hE hO hc ht ha hn
  have hE' : EvC E (M_X0_goAhead (nI n) (eR E) μ) := hE.mono fun h hl => g4 h (by omega) (by omega) (by omega) (by omega) (by omega) (by omega)
  have e44 : M_X0_goAhead (nI n) (eR E) μ 44 = μ 44 := g4 44 (by omega) (by omega) (by omega) (by omega) (by omega) (by omega)
  obtain ⟨w1, w2⟩ := sp_worthC (th := 52) hE' hO g2
  obtain ⟨v1, v2⟩ := sp_goneC (th := 52) hE' hO g2
  obtain ⟨p1, p2⟩ := sp_paidC (th := 52) hE' hO g3
  obtain ⟨q1, q2⟩ := sp_paidC (r := r) (th := 43) hE' hO (by rw [e44]; exact hp)
  have e1 : muX0_standAhead_1 (nI n) w μ = M_X0_goAhead (nI n) (eR E) μ := by
    unfold muX0_standAhead_1
    rw [hE.2.2.2.2.1]
  unfold P_X0_standAhead F_X0_standAhead M_X0_standAhead P_X0_paidThen P_X0_goneThen F_X0_paidThen F_X0_goneThen
  rw [e1, hE.2.2.2.2.1, w2, v2, p2, q2, t2]
  refine ⟨⟨fun _ => ⟨g1, fun _ => ⟨fun _ => ⟨p1, q1⟩, fun _ => v1⟩, fun _ => w1⟩, fun _ => t1⟩, ?_, fun h a1 a2 a3 a4 a5 a6 => ?_⟩
  · by_cases h3 : w = 3
    · subst h3
      rw [if_neg (not_not_intro rfl), if_neg (by decide), if_neg (by decide), if_pos rfl]
      refine smI_congr fun h hl => smI_congr fun i _ => ?_
      rw [if_pos (bit_all h (by omega))]
    · rw [if_pos h3]
      by_cases h0 : w = 0
      · rw [if_neg (not_not_intro h0), if_pos h0]
      · rw [if_pos h0, if_neg h0]
        by_cases h1 : w = 1
        · rw [if_neg (not_not_intro h1), if_pos h1]
        · rw [if_pos h1, if_neg h1, if_neg h3]
  · split
    · exact g4 h a1 a2 a3 a4 a5 a6
    · rfl
