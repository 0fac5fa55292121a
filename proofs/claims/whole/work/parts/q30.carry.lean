/-! carry: the question -/
theorem SM.of {t : Nat} {r r' : Nat → Int32} (ht : t < 10) (e : ∀ k, k < 63 → r' k = r k) : SM t r r' := ⟨e _ (by omega), e _ (by omega), e _ (by omega), e _ (by omega), e _ (by omega), fun h hh => e _ (by omega), e _ (by omega)⟩
theorem worth_sm {E : EV} {L : LW} {rn : Int32} {r r' : Nat → Int32} {n b : Nat} (hO : EvOK E) (hr : RowOK E b r) (h : ∀ t, t < eT E → SM t r r') : worthR E (seaR E L rn n r') = worthR E (seaR E L rn n r) := by
  unfold worthR
  refine fo_congr _ _ _ _ fun t ht x => ?_
  obtain ⟨s0, -, -, -, s4, -⟩ := sm_sea (L := L) (rn := rn) hO hr ht (h t ht) n
  rw [s0, s4]
theorem worth_nat {E : EV} {r : Nat → Int32} {b : Nat} (hO : EvOK E) (hr : RowOK E b r) : ∃ g, g ≤ 400 ∧ worthR E r = nI g := by
  have hd := hO.1.2.1
  have key : ∀ n, n ≤ eT E → ∃ g, g ≤ 40 * n ∧ fo n (fun t s => s + if r t = -1 then 0 else r (40 + t)) 0 = nI g := by
    intro n
    induction n with
    | zero => exact fun _ => ⟨0, by omega, rfl⟩
    | succ n ih =>
      intro hn
      obtain ⟨g, hg, e⟩ := ih (by omega)
      rw [fo_succ, e]
      by_cases q : r n = -1
      · rw [if_pos q, Int32.add_zero]
        exact ⟨g, by omega, rfl⟩
      · rw [if_neg q]
        obtain ⟨k1, k2⟩ := hr.2.2.2.1 n (by omega)
        obtain ⟨k, hk, e'⟩ := nI_of2 (n := 40) (by decide) (Int32.not_lt.mpr k1) k2
        rw [e', nI_add]
        exact ⟨g + k, by omega, rfl⟩
  obtain ⟨g, hg, e⟩ := key (eT E) (Nat.le_refl _)
  exact ⟨g, by omega, e⟩
theorem toI_sub {x b : Nat} (hx : x ≤ 400) (hb : b ≤ 400) : (nI x - nI b).toInt = (x : Int) - b := by
  rw [Int32.toInt_sub, show (nI x).toInt = (x : Int) from Int32.toInt_ofNat_of_lt (by omega), show (nI b).toInt = (b : Int) from Int32.toInt_ofNat_of_lt (by omega)]
  exact Int.bmod_eq_of_le (by omega) (by omega)
theorem sub_le3 {x y b : Nat} (hx : x ≤ 400) (hy : y ≤ 400) (hb : b ≤ 400) : nI x - nI b ≤ nI y - nI b ↔ x ≤ y := by
  rw [Int32.le_iff_toInt_le, toI_sub hx hb, toI_sub hy hb]
  omega
def okb (E : EV) (r : Nat → Int32) (v : Int32) : Bool := decide (∀ t, t < eT E → bitI v t = true → frB r t = true)
theorem okb_iff {E : EV} {r : Nat → Int32} {v : Int32} : okb E r v = true ↔ okS E r v := decide_eq_true_iff
def cvR (E : EV) (r s : Nat → Int32) (c v : Int32) : Int32 := if okb E r v = true ∧ wgR E v (eT E) ≤ c then svR E r s v (eT E) else -1
def cvF (E : EV) (r s : Nat → Int32) (c : Int32) (i : Nat) : Int32 × Int32 := fo i (fun j p => if cvR E r s c (nI (1 + j)) ≤ p.2 then (p.1, p.2) else (nI (1 + j), cvR E r s c (nI (1 + j)))) (0, 0)
theorem shl_T : ∀ T, T ≤ 10 → ((1 : Int32) <<< ((nI T) &&& 31)) = nI (2 ^ T) := by decide +kernel
theorem sp_bestCarried {E : EV} {L : LW} {μ : Mem} {r : Nat → Int32} {n a b : Nat} {c w : Int32} (hE : EvC E μ) (hO : EvOK E) (hL : LwOK L) (hR : LwC L μ) (hc : RC0 E (μ 44) r) (hp : RCP (μ 44) r) (hr : RowOK E b r) (hn : n < 1000) (ha : a < 10000) (ht : r 62 = nI a) :
    P_X0_bestCarried c (nI n) w μ ∧ F_X0_bestCarried c (nI n) w μ = (if w ≠ 1 then worthR E (seaR E L (eR E) n r) + (cvF E r (seaR E L (eR E) n r) c (2 ^ eT E - 1)).2 else (cvF E r (seaR E L (eR E) n r) c (2 ^ eT E - 1)).1) ∧ ∀ h, h ≠ 24 → h ≠ 25 → h ≠ 53 → h ≠ 54 → h ≠ 55 → h ≠ 56 → M_X0_bestCarried c (nI n) w μ h = μ h := by
  have hd := hO.1.2.1
  obtain ⟨g1, g2, g3, g4⟩ := sp_goAhead (rn := μ 3 12) hE hO hL hR hc hp hr hn ha ht
  have er : μ 3 12 = eR E := hE.2.2.2.2.1
  rw [er] at g1 g2 g3 g4
  have em : muX0_bestCarried_1 c (nI n) w μ = M_X0_goAhead (nI n) (eR E) μ := by
    unfold muX0_bestCarried_1
    rw [er]
  have hE' : EvC E (M_X0_goAhead (nI n) (eR E) μ) := hE.mono fun h hl => g4 h (by omega) (by omega) (by omega) (by omega) (by omega) (by omega)
  have e44 : M_X0_goAhead (nI n) (eR E) μ 44 = μ 44 := g4 44 (by omega) (by omega) (by omega) (by omega) (by omega) (by omega)
  have sv : ∀ v, P_X0_savedBy v c (M_X0_goAhead (nI n) (eR E) μ) ∧ F_X0_savedBy v c (M_X0_goAhead (nI n) (eR E) μ) = cvR E r (seaR E L (eR E) n r) c v := fun v => by
    obtain ⟨q1, q2, q3⟩ := sp_savedBy (v := v) (c := c) hE' hO (by rw [e44]; exact hc) g2 hr
    refine ⟨q1, ?_⟩
    unfold cvR
    by_cases z : okS E r v
    · rw [q2 z]
      by_cases y : wgR E v (eT E) ≤ c
      · rw [if_pos y, if_pos ⟨okb_iff.mpr z, y⟩]
      · rw [if_neg y, if_neg (fun q => y q.2)]
    · rw [q3 z, if_neg (fun q => z (okb_iff.mp q.1))]
  obtain ⟨w1, w2⟩ := sp_worthC (th := 52) hE' hO g2
  have hN : NX0_bestCarried_21 c (nI n) w μ = 2 ^ eT E - 1 := by
    unfold NX0_bestCarried_21
    rw [em, hE'.2.1, nI_ix (by omega)]
  have hpw : 0 < 2 ^ eT E := Nat.two_pow_pos _
  have hpl : 2 ^ eT E ≤ 2 ^ 10 := Nat.pow_le_pow_right (by decide) hd
  have hS : SX0_bestCarried_21 c (nI n) w μ = cvF E r (seaR E L (eR E) n r) c (2 ^ eT E - 1) := by
    unfold SX0_bestCarried_21 cvF
    rw [hN, em]
    refine fo_congr _ _ _ _ fun i hi s => ?_
    unfold g_X0_bestCarried_21 VX0_bestCarried_21_1 VX0_bestCarried_21_2
    rw [(sv (nI (1 + i))).2]
    by_cases z : cvR E r (seaR E L (eR E) n r) c (nI (1 + i)) ≤ s.2
    · rw [if_pos z, if_pos z, if_pos z]
    · rw [if_neg z, if_neg z, if_neg z]
  refine ⟨?_, ?_, fun h a1 a2 a3 a4 a5 a6 => ?_⟩
  · unfold P_X0_bestCarried
    rw [em, er, hN, hE'.2.1, shl_T _ hd, show 1 + (2 ^ eT E - 1) = 2 ^ eT E by omega]
    refine ⟨g1, fun j hj => ?_, fun _ => ⟨fun _ => w1, fun _ => trivial⟩, fun q => absurd q n_lt⟩
    unfold Pb_X0_bestCarried_21
    rw [hE'.2.1, shl_T _ hd]
    exact ⟨fun q => absurd q (nI_ge (by omega) (by omega)), fun _ => (sv _).1⟩
  · unfold F_X0_bestCarried
    rw [hS, em, w2]
  · unfold M_X0_bestCarried
    rw [em]
    exact g4 h a1 a2 a3 a4 a5 a6

theorem q_carry {E : EV} {L : LW} {μ : Mem} (hI : Inv E L μ) (p1 p2 p3 : Int32) : Q w1 jI μ (K_X9_carry p1 p2 p3 μ) (F_X9_carry p1 p2 p3 μ) (M_X9_carry p1 p2 p3 μ) (P_X9_carry p1 p2 p3 μ) (F_X10_carry p1 p2 p3) (M_X10_carry p1 p2 p3) (P_X10_carry p1 p2 p3) := by
  rcases gate_carry hI p1 p2 p3 with ⟨h1, h2, h3, hK, ⟨s1, s2, s3⟩, hg⟩ | h
  · have hO := hI.1
    have hE := hI.E
    have hS := hI.S
    obtain ⟨a, ha, e521, e44⟩ := hI.row
    have hd := hO.1
    obtain ⟨n, hn, rfl⟩ := inR_n (n := 24) h2 (by decide) (by decide)
    obtain ⟨f1, f2, f3⟩ := sp_bestCarried (n := n) (c := p1) (w := p3) hE hO hI.LO hI.LC hS.1 hS.2.1 hS.2.2 (by omega) (show a < 10000 by omega) e521
    refine Or.inl ⟨hK, ?_, ?_, fun ν hν => ?_⟩
    · unfold P_X9_carry
      rw [s3]
      exact fun _ _ _ => f1
    · have h2 : KQ μ (muX9_carry_4 p1 (nI n) p3 μ) := by
        unfold muX9_carry_4
        rw [s3]
        exact KQ.ahead f3
      unfold M_X9_carry
      rw [s3, s2, s1]
      repeat' split
      all_goals first | exact h2 | exact KQ.rfl μ
    · obtain ⟨bp2, bf2, m3⟩ := hg ν hν
      have m1 : muX10_carry_1 p1 (nI n) p3 ν = upm ν 57 0 0 := rfl
      obtain ⟨hI0, hk0⟩ := nu_of hI hν
      have r521 := hk0.at 521 (by omega)
      have hM := hI0.M
      have hd1 : eT E ≤ 10 := hO.1.2.1
      have hpw : 0 < 2 ^ eT E := Nat.two_pow_pos _
      have hpl : 2 ^ eT E ≤ 2 ^ 10 := Nat.pow_le_pow_right (by decide) hd1
      have c0p : (0 : Int32) ≤ p1 := (inR_t h1).1
      obtain ⟨b0, hb0, eb0⟩ := worth_nat (r := seaR E L (eR E) n (μ 521)) (b := 500 + n) hO (sea_ok hO hS.2.2 n)
      have fr : ∀ (s : Mem), s 521 = μ 521 → EvM E s → ∀ v, v < 2 ^ eT E → P_X10_free s ∧ ((nI v &&& (F_X10_free s ^^^ ((-1) : Int32))) = 0 ↔ okS E (μ 521) (nI v)) := fun s e h v hv => by
        have := sp_free (v := v) h hO (by rw [e]; exact hS.2.2) hv
        rw [e] at this
        exact this
      have stp : ∀ i, i < 2 ^ eT E → ∀ (s : Int32 × Int32 × Mem), (∀ h, h ≠ 522 → h ≠ 438 → h ≠ 439 → h ≠ 523 → h ≠ 524 → h ≠ 525 → s.2.2 h = upm ν 57 0 0 h) →
          EvM E s.2.2 ∧ P_X10_copies 521 522 s.2.2 ∧ NX10_carry_65_115 p1 (nI n) p3 (F_X10_free (upm ν 57 0 0)) i s = eT E ∧ (∀ j, j < eT E → Pb_X10_carry_115 p1 (nI n) p3 s.1 s.2.1 (F_X10_free (upm ν 57 0 0)) (nI i) j (fo j (g_X10_carry_115 p1 (nI n) p3 s.1 s.2.1 (F_X10_free (upm ν 57 0 0)) (nI i)) (muX10_carry_65_1 p1 (nI n) p3 (F_X10_free (upm ν 57 0 0)) i s))) ∧
          SX10_carry_65_115 p1 (nI n) p3 (F_X10_free (upm ν 57 0 0)) i s 61 1 = nI (eT E) ∧ P_X10_goesOn (nI n) (SX10_carry_65_115 p1 (nI n) p3 (F_X10_free (upm ν 57 0 0)) i s) ∧ P_X10_worthIn 522 (muX10_carry_65_2 p1 (nI n) p3 (F_X10_free (upm ν 57 0 0)) i s) ∧
          F_X10_worthIn 522 (muX10_carry_65_2 p1 (nI n) p3 (F_X10_free (upm ν 57 0 0)) i s) = worthR E (seaR E L (eR E) n (upS E (nI i) (μ 521))) ∧
          ∀ h, h ≠ 522 → h ≠ 438 → h ≠ 439 → h ≠ 523 → h ≠ 524 → h ≠ 525 → muX10_carry_65_2 p1 (nI n) p3 (F_X10_free (upm ν 57 0 0)) i s h = upm ν 57 0 0 h := by
        intro i hi s hs
        have e5 : s.2.2 521 = μ 521 := by rw [hs 521 (by decide) (by decide) (by decide) (by decide) (by decide) (by decide), r521]
        have hMs : EvM E s.2.2 := hM.mono (fun h hh => hs h (by omega) (by omega) (by omega) (by omega) (by omega) (by omega)) hO
        obtain ⟨d1, d2⟩ := sp_copies (μ := s.2.2) (fr := 521) (to := 522) (by decide)
        have ek : ∀ k, k < 63 → cutR (s.2.2 521) (s.2.2 522) k = μ 521 k := fun k hk => by rw [cut_lt hk, e5]
        have cr : RowOK E 500 (cutR (s.2.2 521) (s.2.2 522)) := hS.2.2.congr hO ek
        have m65 : muX10_carry_65_1 p1 (nI n) p3 (F_X10_free (upm ν 57 0 0)) i s = upr s.2.2 522 (cutR (s.2.2 521) (s.2.2 522)) := d2
        have hN : NX10_carry_65_115 p1 (nI n) p3 (F_X10_free (upm ν 57 0 0)) i s = eT E := by
          unfold NX10_carry_65_115
          rw [m65, upr_other (by decide), hMs.2.1, nI_ix (by omega)]
        have key := fo_all (fun j (t : Mem) => (∀ h, h ≠ 522 → t h = s.2.2 h) ∧ ∀ k, t 522 k = if 10 ≤ k ∧ k < 10 + j ∧ bitI (nI i) (k - 10) = true then 1 else cutR (s.2.2 521) (s.2.2 522) k)
          (Pb_X10_carry_115 p1 (nI n) p3 s.1 s.2.1 (F_X10_free (upm ν 57 0 0)) (nI i)) (eT E) (g_X10_carry_115 p1 (nI n) p3 s.1 s.2.1 (F_X10_free (upm ν 57 0 0)) (nI i)) (muX10_carry_65_1 p1 (nI n) p3 (F_X10_free (upm ν 57 0 0)) i s)
          ⟨fun h hh => by rw [m65, upr_other hh], fun k => by rw [m65, upr_same, if_neg (by omega)]⟩ (fun j hj t ht => by
            obtain ⟨t1, t2⟩ := ht
            have v63 : vp_in (10 + nI j) 63 := by rw [c10]; exact vp_in_nI (by omega) (by omega)
            refine ⟨⟨fun q => ?_, fun _ => ⟨⟨fun _ => v63, fun _ => trivial⟩, v63⟩⟩, fun h hh => ?_, fun k => ?_⟩
            · rw [t1 61 (by decide), hMs.2.1] at q
              exact nI_ge hj (by omega) q
            · show upm t 522 _ _ h = _
              rw [upm_other hh, t1 h hh]
            · show upm t 522 (ix (10 + nI j)) (VX10_carry_115_1 p1 (nI n) p3 s.1 s.2.1 (F_X10_free (upm ν 57 0 0)) (nI i) j t) 522 k = _
              unfold VX10_carry_115_1
              rw [has_eq, c10, nI_ix (by omega), upm_rr]
              by_cases z : k = 10 + j
              · rw [if_pos z, z, show 10 + j - 10 = j by omega]
                by_cases y : bitI (nI i) j = true
                · rw [if_pos y, if_neg (by decide), if_pos ⟨by omega, by omega, y⟩]
                · rw [if_neg y, if_pos rfl, t2, if_neg (by omega), if_neg (fun q => y q.2.2)]
              · rw [if_neg z, t2]
                by_cases y : 10 ≤ k ∧ k < 10 + j ∧ bitI (nI i) (k - 10) = true
                · rw [if_pos y, if_pos ⟨y.1, by omega, y.2.2⟩]
                · rw [if_neg y, if_neg (fun q => y ⟨q.1, by omega, q.2.2⟩)])
        obtain ⟨k1, k2, k3⟩ := key
        have hSS : SX10_carry_65_115 p1 (nI n) p3 (F_X10_free (upm ν 57 0 0)) i s = fo (eT E) (g_X10_carry_115 p1 (nI n) p3 s.1 s.2.1 (F_X10_free (upm ν 57 0 0)) (nI i)) (muX10_carry_65_1 p1 (nI n) p3 (F_X10_free (upm ν 57 0 0)) i s) := by
          unfold SX10_carry_65_115
          rw [hN]
        rw [← hSS] at k2 k3
        have e522 : SX10_carry_65_115 p1 (nI n) p3 (F_X10_free (upm ν 57 0 0)) i s 522 = upS E (nI i) (cutR (s.2.2 521) (s.2.2 522)) := by
          funext k
          rw [k3]
          rfl
        have oS : ∀ h, h ≠ 522 → h ≠ 438 → h ≠ 439 → h ≠ 523 → h ≠ 524 → h ≠ 525 → SX10_carry_65_115 p1 (nI n) p3 (F_X10_free (upm ν 57 0 0)) i s h = upm ν 57 0 0 h := fun h a1 a2 a3 a4 a5 a6 => by rw [k2 h a1, hs h a1 a2 a3 a4 a5 a6]
        have hMS : EvM E (SX10_carry_65_115 p1 (nI n) p3 (F_X10_free (upm ν 57 0 0)) i s) := hM.mono (fun h hh => oS h (by omega) (by omega) (by omega) (by omega) (by omega) (by omega)) hO
        have e57 : SX10_carry_65_115 p1 (nI n) p3 (F_X10_free (upm ν 57 0 0)) i s 57 = upm ν 57 0 0 57 := oS 57 (by decide) (by decide) (by decide) (by decide) (by decide) (by decide)
        have hRS : LwR L (SX10_carry_65_115 p1 (nI n) p3 (F_X10_free (upm ν 57 0 0)) i s) := hI0.LM.mono hI.LO (by rw [e57]) fun z _ _ => oS z (by omega) (by omega) (by omega) (by omega) (by omega) (by omega)
        obtain ⟨g1, g2, g3⟩ := sp_goesOn (n := n) hMS hO hI.LO hRS (by rw [e522]; exact upS_ok hO cr) (by rw [e57]; exact hI0.wd) (by omega) (show a < 10000 by omega) (by rw [e522, upS_o hO (by omega), ek 62 (by decide), e521])
        have e44' : SX10_carry_65_115 p1 (nI n) p3 (F_X10_free (upm ν 57 0 0)) i s 57 44 = eR E := by rw [e57]; exact hI0.rn
        rw [e44', e522] at g2
        have o2 : ∀ h, h ≠ 522 → h ≠ 438 → h ≠ 439 → h ≠ 523 → h ≠ 524 → h ≠ 525 → muX10_carry_65_2 p1 (nI n) p3 (F_X10_free (upm ν 57 0 0)) i s h = upm ν 57 0 0 h := fun h a1 a2 a3 a4 a5 a6 => by
          show M_X10_goesOn (nI n) _ h = _
          rw [g3 h a1 a2 a3 a4 a5 a6, oS h a1 a2 a3 a4 a5 a6]
        have hM2 : EvM E (muX10_carry_65_2 p1 (nI n) p3 (F_X10_free (upm ν 57 0 0)) i s) := hM.mono (fun h hh => o2 h (by omega) (by omega) (by omega) (by omega) (by omega) (by omega)) hO
        obtain ⟨u1, u2⟩ := sp_worthM (row := 522) hM2 hO
        refine ⟨hMs, d1, hN, k1, hMS.2.1, g1, u1, ?_, o2⟩
        rw [u2]
        have e2 : muX10_carry_65_2 p1 (nI n) p3 (F_X10_free (upm ν 57 0 0)) i s 522 = seaR E L (eR E) n (upS E (nI i) (cutR (s.2.2 521) (s.2.2 522))) := g2
        rw [e2]
        refine worth_sm hO (upS_ok hO hS.2.2) fun t ht => SM.of (by omega) fun k hk => ?_
        unfold upS
        rw [ek k hk]
      have key := fo_all (fun i (s : Int32 × Int32 × Mem) => (i = 0 → s.1 = 0 ∧ s.2.1 = -1) ∧ (0 < i → s.1 = (cvF E (μ 521) (seaR E L (eR E) n (μ 521)) p1 (i - 1)).1 ∧ s.2.1 = worthR E (seaR E L (eR E) n (μ 521)) + (cvF E (μ 521) (seaR E L (eR E) n (μ 521)) p1 (i - 1)).2 ∧ ∃ y, b0 ≤ y ∧ y ≤ 400 ∧ (cvF E (μ 521) (seaR E L (eR E) n (μ 521)) p1 (i - 1)).2 = nI y - nI b0) ∧ (∀ h, h ≠ 522 → h ≠ 438 → h ≠ 439 → h ≠ 523 → h ≠ 524 → h ≠ 525 → s.2.2 h = upm ν 57 0 0 h))
        (Pb_X10_carry_65 p1 (nI n) p3 (F_X10_free (upm ν 57 0 0))) (2 ^ eT E) (g_X10_carry_65 p1 (nI n) p3 (F_X10_free (upm ν 57 0 0))) (0, -1, upm ν 57 0 0) ⟨fun _ => ⟨rfl, rfl⟩, fun q => absurd q (by omega), fun _ _ _ _ _ _ _ => rfl⟩ (fun i hi s hs => by
        obtain ⟨i1, i2, i3⟩ := hs
        obtain ⟨t1, t2, t3, t4, t5, t6, t7, t8, t9⟩ := stp i hi s i3
        obtain ⟨-, r2⟩ := fr (upm ν 57 0 0) r521 hM i hi
        obtain ⟨v1, v2⟩ := sp_weightOf (v := nI i) t1 hO
        refine ⟨?_, ?_⟩
        · unfold Pb_X10_carry_65
          rw [t1.2.1, shl_T _ hd1, t3, t5]
          exact ⟨fun q => absurd q (nI_ge hi (by omega)), fun _ => ⟨fun _ => trivial, fun _ => ⟨v1, fun _ => ⟨t2, t4, fun _ => ⟨t6, t7, fun _ => t7, fun _ => trivial⟩, fun q => absurd q n_lt⟩, fun _ => trivial⟩⟩⟩
        · have eg : g_X10_carry_65 p1 (nI n) p3 (F_X10_free (upm ν 57 0 0)) i s = if okb E (μ 521) (nI i) = true ∧ wgR E (nI i) (eT E) ≤ p1 then (if s.2.1 < worthR E (seaR E L (eR E) n (upS E (nI i) (μ 521))) then nI i else s.1, if s.2.1 < worthR E (seaR E L (eR E) n (upS E (nI i) (μ 521))) then worthR E (seaR E L (eR E) n (upS E (nI i) (μ 521))) else s.2.1, muX10_carry_65_2 p1 (nI n) p3 (F_X10_free (upm ν 57 0 0)) i s) else (s.1, s.2.1, s.2.2) := by
            unfold g_X10_carry_65 VX10_carry_65_3 VX10_carry_65_4
            rw [v2, t8]
            by_cases z : okS E (μ 521) (nI i)
            · rw [if_neg (not_not_intro (r2.mpr z))]
              by_cases y : wgR E (nI i) (eT E) ≤ p1
              · rw [if_pos y, if_pos (show okb E (μ 521) (nI i) = true ∧ wgR E (nI i) (eT E) ≤ p1 from ⟨okb_iff.mpr z, y⟩)]
              · rw [if_neg y, if_neg (fun q => y q.2)]
            · rw [if_pos (fun q => z (r2.mp q)), if_neg (fun q => z (okb_iff.mp q.1))]
          have wu : okS E (μ 521) (nI i) → worthR E (seaR E L (eR E) n (upS E (nI i) (μ 521))) = worthR E (seaR E L (eR E) n (μ 521)) + svR E (μ 521) (seaR E L (eR E) n (μ 521)) (nI i) (eT E) := fun z => worth_up hO hS.2.2 fun t ht hb => (of_decide_eq_true (z t ht hb)).1
          have third : ∀ h, h ≠ 522 → h ≠ 438 → h ≠ 439 → h ≠ 523 → h ≠ 524 → h ≠ 525 → (g_X10_carry_65 p1 (nI n) p3 (F_X10_free (upm ν 57 0 0)) i s).2.2 h = upm ν 57 0 0 h := fun h a1 a2 a3 a4 a5 a6 => by
            rw [eg]
            split
            · exact t9 h a1 a2 a3 a4 a5 a6
            · exact i3 h a1 a2 a3 a4 a5 a6
          refine ⟨fun q => absurd q (Nat.succ_ne_zero i), fun _ => ?_, third⟩
          cases i with
          | zero =>
            obtain ⟨j1, j2⟩ := i1 rfl
            have b0' : ∀ t, t < eT E → bitI (nI 0) t = false := fun t ht => by
              rw [bitV _ t (by omega), nIV 0 t (by omega), Nat.zero_testBit]
            have ok0 : okS E (μ 521) (nI 0) := fun t ht hb => by rw [b0' t ht] at hb; cases hb
            have w0 : wgR E (nI 0) (eT E) = 0 := by
              unfold wgR
              have : ∀ k, k ≤ eT E → fo k (fun t x => if bitI (nI 0) t = true then x + eX E t 1 else x) (0 : Int32) = 0 := by
                intro k
                induction k with
                | zero => exact fun _ => rfl
                | succ k ih => exact fun hk => by rw [fo_succ, ih (by omega), if_neg (by rw [b0' k (by omega)]; decide)]
              exact this _ (Nat.le_refl _)
            have s0 : svR E (μ 521) (seaR E L (eR E) n (μ 521)) (nI 0) (eT E) = 0 := by
              unfold svR
              have : ∀ k, k ≤ eT E → fo k (fun t x => if bitI (nI 0) t = true then x + (μ 521 (40 + t) - wT (seaR E L (eR E) n (μ 521)) t) else x) (0 : Int32) = 0 := by
                intro k
                induction k with
                | zero => exact fun _ => rfl
                | succ k ih => exact fun hk => by rw [fo_succ, ih (by omega), if_neg (by rw [b0' k (by omega)]; decide)]
              exact this _ (Nat.le_refl _)
            have lt : s.2.1 < worthR E (seaR E L (eR E) n (upS E (nI 0) (μ 521))) := by
              rw [j2, wu ok0, s0, Int32.add_zero, eb0]
              have h0 : (0 : Int32) ≤ nI b0 := (nI_leI (a := 0) (by omega) (by omega)).mpr (Nat.zero_le _)
              exact Int32.lt_of_lt_of_le (by decide) h0
            rw [eg, if_pos ⟨okb_iff.mpr ok0, by rw [w0]; exact c0p⟩, if_pos lt, if_pos lt]
            refine ⟨rfl, ?_, b0, Nat.le_refl _, hb0, ?_⟩
            · show worthR E (seaR E L (eR E) n (upS E (nI 0) (μ 521))) = worthR E (seaR E L (eR E) n (μ 521)) + 0
              rw [wu ok0, s0]
            · show (0 : Int32) = _
              rw [Int32.sub_self]
          | succ i =>
            obtain ⟨j1, j2, y, hy1, hy2, j3⟩ := i2 (by omega)
            have es : cvF E (μ 521) (seaR E L (eR E) n (μ 521)) p1 (i + 1 + 1 - 1) = if cvR E (μ 521) (seaR E L (eR E) n (μ 521)) p1 (nI (i + 1)) ≤ (cvF E (μ 521) (seaR E L (eR E) n (μ 521)) p1 (i + 1 - 1)).2 then ((cvF E (μ 521) (seaR E L (eR E) n (μ 521)) p1 (i + 1 - 1)).1, (cvF E (μ 521) (seaR E L (eR E) n (μ 521)) p1 (i + 1 - 1)).2) else (nI (i + 1), cvR E (μ 521) (seaR E L (eR E) n (μ 521)) p1 (nI (i + 1))) := by
              have es0 : cvF E (μ 521) (seaR E L (eR E) n (μ 521)) p1 (i + 1) = if cvR E (μ 521) (seaR E L (eR E) n (μ 521)) p1 (nI (1 + i)) ≤ (cvF E (μ 521) (seaR E L (eR E) n (μ 521)) p1 i).2 then ((cvF E (μ 521) (seaR E L (eR E) n (μ 521)) p1 i).1, (cvF E (μ 521) (seaR E L (eR E) n (μ 521)) p1 i).2) else (nI (1 + i), cvR E (μ 521) (seaR E L (eR E) n (μ 521)) p1 (nI (1 + i))) := rfl
              rw [Nat.add_comm 1 i] at es0
              exact es0
            generalize cvF E (μ 521) (seaR E L (eR E) n (μ 521)) p1 (i + 1 - 1) = F at *
            rw [eg, es]
            unfold cvR
            by_cases z : okb E (μ 521) (nI (i + 1)) = true ∧ wgR E (nI (i + 1)) (eT E) ≤ p1
            · rw [if_pos z, if_pos z]
              have ew := wu (okb_iff.mp z.1)
              obtain ⟨x, hx, ex⟩ := worth_nat (r := seaR E L (eR E) n (upS E (nI (i + 1)) (μ 521))) (b := 500 + n) hO (sea_ok hO (upS_ok hO hS.2.2) n)
              have esv : svR E (μ 521) (seaR E L (eR E) n (μ 521)) (nI (i + 1)) (eT E) = nI x - nI b0 := by
                rw [ex, eb0] at ew
                rw [ew, Int32.add_comm]
                exact (Int32.add_sub_cancel _ _).symm
              have eF : nI b0 + (nI y - nI b0) = nI y := by rw [Int32.add_comm, Int32.sub_add_cancel]
              have eX : nI b0 + (nI x - nI b0) = nI x := by rw [Int32.add_comm, Int32.sub_add_cancel]
              rw [esv, j3, j1, j2, ex, j3, eb0, eF]
              by_cases q : x ≤ y
              · rw [if_neg (fun w => absurd ((nI_ltI (by omega) (by omega)).mp w) (by omega)), if_neg (fun w => absurd ((nI_ltI (by omega) (by omega)).mp w) (by omega)), if_pos ((sub_le3 hx hy2 hb0).mpr q)]
                exact ⟨rfl, eF.symm, y, hy1, hy2, rfl⟩
              · rw [if_pos ((nI_ltI (by omega) (by omega)).mpr (by omega)), if_pos ((nI_ltI (by omega) (by omega)).mpr (by omega)), if_neg (fun w => q ((sub_le3 hx hy2 hb0).mp w))]
                exact ⟨rfl, eX.symm, x, by omega, hx, rfl⟩
            · rw [if_neg z, if_neg z]
              have le : (-1 : Int32) ≤ F.2 := by
                rw [j3, Int32.le_iff_toInt_le, toI_sub hy2 hb0]
                have : (-1 : Int32).toInt = -1 := by decide
                omega
              rw [if_pos le]
              exact ⟨j1, j2, y, hy1, hy2, j3⟩)
      have hS' : SX10_carry_65 p1 (nI n) p3 ν = fo (2 ^ eT E) (g_X10_carry_65 p1 (nI n) p3 (F_X10_free (upm ν 57 0 0))) (0, -1, upm ν 57 0 0) := by
        unfold SX10_carry_65 NX10_carry_65
        rw [m3, hM.2.1, nI_ix (by omega)]
      have hN' : NX10_carry_65 p1 (nI n) p3 ν = 2 ^ eT E := by
        unfold NX10_carry_65
        rw [m3, hM.2.1, nI_ix (by omega)]
      obtain ⟨ky0, -, ky2, ky3⟩ := key
      rw [← hS'] at ky2 ky3
      obtain ⟨y1, y2, -⟩ := ky2 hpw
      obtain ⟨km1, km2, km3⟩ : KQ ν (M_X10_carry p1 (nI n) p3 ν) ∧ M_X10_carry p1 (nI n) p3 ν 57 0 = 0 ∧ M_X10_carry p1 (nI n) p3 ν 548 0 = ν 548 0 := by
        unfold M_X10_carry
        rw [m1, if_pos bf2]
        exact km (KM.off fun q q1 q2 q3 q4 => ky3 q (by omega) q1 q2 (by omega) (by omega) (by omega))
      refine ⟨?_, ?_, km1, km2, km3⟩
      · unfold P_X10_carry
        rw [m3, hN', ky3 61 (by decide) (by decide) (by decide) (by decide) (by decide) (by decide), hM.2.1, shl_T _ hd1]
        exact ⟨bp2, fun _ => ⟨(fr (upm ν 57 0 0) r521 hM 0 hpw).1, ky0, fun _ => trivial, fun q => absurd q n_lt⟩, fun _ => trivial⟩
      · unfold F_X10_carry F_X9_carry
        rw [m1, if_pos bf2, s3, f2, y1, y2]
        obtain ⟨t, ht, rfl⟩ := inR_n (n := 1) h3 (by decide) (by decide)
        rcases (show t = 0 ∨ t = 1 by omega) with rfl | rfl
        · rw [if_neg (show ¬ nI 0 ≠ 0 by decide), if_pos (show nI 0 ≠ 1 by decide)]
        · rw [if_pos (show nI 1 ≠ 0 by decide), if_neg (show ¬ nI 1 ≠ 1 by decide)]
  · exact Or.inr h
theorem case_carry {E : EV} {L : LW} {μ : Mem} (hI : Inv E L μ) (p1 p2 p3 : Int32) : P_W_17 p1 p2 p3 μ ∧ Inv E L (M_W_17 p1 p2 p3 μ) := by
  have h := wrapI (K_X9_carry p1 p2 p3 μ) (F_X9_carry p1 p2 p3 μ) (M_X9_carry p1 p2 p3 μ) (P_X9_carry p1 p2 p3 μ) (F_X10_carry p1 p2 p3) (M_X10_carry p1 p2 p3) (P_X10_carry p1 p2 p3) hI (q_carry hI p1 p2 p3)
  unfold P_W_17 M_W_17 muL_law_c17_2 muL_law_c17_1 M_L_carry W_L_carry F_X10_thrown
  exact h
