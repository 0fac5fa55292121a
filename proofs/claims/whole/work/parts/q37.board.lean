/-! board: the question -/
def bdS (E : EV) (r mk : Nat → Int32) (h : Nat) (p : Int32 × Int32) : Int32 × Int32 := if mk h = -1 then (if p.1 = -1 then (nI h, nI (wV E r mk h)) else (if p.2 ≤ nI (wV E r mk h) then p else (nI h, nI (wV E r mk h)))) else p
def bdF (E : EV) (r mk : Nat → Int32) (z : Int32) (i : Nat) : Int32 × Int32 := fo i (bdS E r mk) (-1, z)
theorem bd_rel (E : EV) (r mk : Nat → Int32) : ∀ i, i ≤ 6 → ((bdF E r mk 0 i).1 = -1 ∧ (bdF E r mk (-1) i).1 = -1 ∧ (bdF E r mk (-1) i).2 = -1) ∨ ∃ h, h < i ∧ (bdF E r mk 0 i) = (nI h, nI (wV E r mk h)) ∧ bdF E r mk (-1) i = (nI h, nI (wV E r mk h)) := by
  intro i
  induction i with
  | zero => exact fun _ => Or.inl ⟨rfl, rfl, rfl⟩
  | succ i ih =>
    intro hi
    have e : ∀ z, bdF E r mk z (i + 1) = bdS E r mk i (bdF E r mk z i) := fun z => rfl
    rw [e, e]
    rcases ih (by omega) with ⟨a, b, c⟩ | ⟨h, hh, a, b⟩
    · unfold bdS
      by_cases q : mk i = -1
      · rw [if_pos q, if_pos q, if_pos a, if_pos b]
        exact Or.inr ⟨i, by omega, rfl, rfl⟩
      · rw [if_neg q, if_neg q]
        exact Or.inl ⟨a, b, c⟩
    · rw [a, b]
      unfold bdS
      by_cases q : mk i = -1
      · have n1 : ¬ nI h = -1 := nI_m1 (by omega)
        rw [if_pos q, if_neg n1]
        by_cases x : nI (wV E r mk h) ≤ nI (wV E r mk i)
        · rw [if_pos x]
          exact Or.inr ⟨h, by omega, rfl, rfl⟩
        · rw [if_neg x]
          exact Or.inr ⟨i, by omega, rfl, rfl⟩
      · rw [if_neg q]
        exact Or.inr ⟨h, by omega, rfl, rfl⟩
theorem KQ.c39 {μ M : Mem} (h : ∀ q, q ≠ 39 → M q = μ q) : KQ μ M := ⟨fun q _ _ q3 _ _ _ _ _ _ _ _ => h q q3, fun k _ _ _ => by rw [h 57 (by decide)]⟩
theorem sp_nextBoard {E : EV} {μ : Mem} {r : Nat → Int32} {b : Nat} (hE : EvC E μ) (hO : EvOK E) (hc : RC0 E (μ 44) r) (hr : RowOK E b r) :
    P_X2_nextBoard μ ∧ F_X2_nextBoard μ = (bdF E r (μ 38) 0 (eH E)).1 ∧ ∀ q, q ≠ 39 → M_X2_nextBoard μ q = μ q := by
  have hd := hO.1.1
  have hN : NX2_nextBoard_8 μ = eH E := by
    unfold NX2_nextBoard_8
    rw [hE.1, nI_ix (by omega)]
  obtain ⟨k1, k2, k3⟩ := fo_all (fun i (s : Int32 × Int32 × Mem) => (s.1, s.2.1) = bdF E r (μ 38) 0 i ∧ ∀ q, q ≠ 39 → s.2.2 q = μ q) Pb_X2_nextBoard_8 (eH E) g_X2_nextBoard_8 (-1, 0, μ) ⟨rfl, fun _ _ => rfl⟩ (fun i hi s hs => by
    obtain ⟨a0, a1⟩ := hs
    have hEs : EvC E s.2.2 := hE.mono fun q hq => a1 q (by omega)
    obtain ⟨w1, w2, w3⟩ := sp_worstLeft (h := i) hEs hO (by rw [a1 44 (by decide)]; exact hc) hr hi
    rw [a1 38 (by decide)] at w2
    have w2' : F_X2_worstLeft (nI i) s.2.2 = nI (wV E r (μ 38) i) := w2
    have e : bdF E r (μ 38) 0 (i + 1) = bdS E r (μ 38) i (bdF E r (μ 38) 0 i) := rfl
    refine ⟨⟨fun q => ?_, fun _ => ⟨fun _ => w1, fun _ => trivial⟩⟩, ?_, fun q hq => ?_⟩
    · rw [hEs.1] at q
      exact nI_ge hi (by omega) q
    · rw [e, ← a0]
      show (VX2_nextBoard_8_3 i s, VX2_nextBoard_8_2 i s) = _
      unfold VX2_nextBoard_8_3 VX2_nextBoard_8_2 bdS
      rw [at_k (by omega) (by decide), a1 38 (by decide), w2']
      by_cases x : μ 38 i = -1
      · rw [if_pos x, if_pos x, if_pos x]
        by_cases y : s.1 = -1
        · rw [if_pos y, if_pos y, if_pos y]
        · rw [if_neg y, if_neg y, if_neg y]
          by_cases v : s.2.1 ≤ nI (wV E r (μ 38) i)
          · rw [if_pos v, if_pos v, if_pos v]
          · rw [if_neg v, if_neg v, if_neg v]
      · rw [if_neg x, if_neg x, if_neg x]
    · show VX2_nextBoard_8_4 i s q = _
      unfold VX2_nextBoard_8_4 muX2_nextBoard_8_1
      split
      · rw [w3 q hq, a1 q hq]
      · exact a1 q hq)
  have hS : SX2_nextBoard_8 μ = fo (eH E) g_X2_nextBoard_8 (-1, 0, μ) := by
    unfold SX2_nextBoard_8
    rw [hN]
  rw [← hS] at k2 k3
  refine ⟨⟨by rw [hN]; exact k1, fun _ => trivial, fun q => ?_⟩, ?_, k3⟩
  · rw [hN, k3 3 (by decide), hE.1] at q
    exact absurd q n_lt
  · rw [← k2]
    rfl

theorem q_board {E : EV} {L : LW} {μ : Mem} (hI : Inv E L μ) (p1 : Int32) : Q w1 jI μ (K_X9_board p1 μ) (F_X9_board p1 μ) (M_X9_board p1 μ) (P_X9_board p1 μ) (F_X10_board p1) (M_X10_board p1) (P_X10_board p1) := by
  rcases gate_board hI p1 with ⟨h1, hK, s1, hg⟩ | h
  · have hO := hI.1
    have hE := hI.E
    have hS := hI.S
    obtain ⟨a, ha, e521, e44⟩ := hI.row
    have hd := hO.1
    obtain ⟨l1, l2, l3⟩ := sp_nextBoard hE hO hS.1 hS.2.2
    have rel := bd_rel E (μ 521) (μ 38) (eH E) hd.1
    have hE2 : EvC E (M_X2_nextBoard μ) := hE.mono fun q hq => l3 q (by omega)
    have wl : ∀ h, h < eH E → P_X2_worstLeft (nI h) (M_X2_nextBoard μ) ∧ F_X2_worstLeft (nI h) (M_X2_nextBoard μ) = nI (wV E (μ 521) (μ 38) h) ∧ ∀ q, q ≠ 39 → M_X2_worstLeft (nI h) (M_X2_nextBoard μ) q = μ q := fun h hh => by
      obtain ⟨w1, w2, w3⟩ := sp_worstLeft (h := h) hE2 hO (by rw [l3 44 (by decide)]; exact hS.1) hS.2.2 hh
      rw [l3 38 (by decide)] at w2
      exact ⟨w1, w2, fun q hq => by rw [w3 q hq, l3 q hq]⟩
    have m2 : muX9_board_2 p1 μ = M_X2_nextBoard μ := by
      unfold muX9_board_2
      rw [s1]
    refine Or.inl ⟨hK, ?_, ?_, fun ν hν => ?_⟩
    · unfold P_X9_board
      rw [s1, m2, l2]
      refine fun _ => ⟨l1, fun _ => trivial, fun _ => ⟨fun z => ?_, fun _ => trivial⟩⟩
      rcases rel with ⟨a0, -, -⟩ | ⟨h, hh, a0, -⟩
      · exact absurd a0 z
      · rw [a0]
        exact (wl h hh).1
    · unfold M_X9_board muX9_board_3
      rw [m2, s1, l2]
      have k1 : KQ μ (M_X2_nextBoard μ) := KQ.c39 l3
      have k2 : (bdF E (μ 521) (μ 38) 0 (eH E)).1 ≠ -1 → KQ μ (M_X2_worstLeft (bdF E (μ 521) (μ 38) 0 (eH E)).1 (M_X2_nextBoard μ)) := fun z => by
        rcases rel with ⟨a0, -, -⟩ | ⟨h, hh, a0, -⟩
        · exact absurd a0 z
        · rw [a0]
          exact KQ.c39 (wl h hh).2.2
      by_cases c1 : K_X9_needRange p1 0 1 μ = 0
      · rw [if_pos c1]
        by_cases c2 : p1 = 0
        · rw [if_pos c2]
          exact k1
        · rw [if_neg c2]
          by_cases c3 : (bdF E (μ 521) (μ 38) 0 (eH E)).1 ≠ -1
          · rw [if_pos c3]
            exact k2 c3
          · rw [if_neg c3]
            exact k1
      · rw [if_neg c1]
        exact KQ.rfl μ
    · obtain ⟨bp2, bf2, m3⟩ := hg ν hν
      have m1 : muX10_board_1 p1 ν = upm ν 57 0 0 := rfl
      obtain ⟨hI0, hk0⟩ := nu_of hI hν
      have r521 := hk0.at 521 (by omega)
      have hM := hI0.M
      have r38 := hk0.at 38 (by omega)
      have hMk := hI0.2.2.2.2.2.2.2.1
      have e61 : upm ν 57 0 0 61 0 = nI (eH E) := hM.1
      obtain ⟨ky0, ky1, ky2⟩ := fo_all (fun i (s : Int32 × Int32 × Mem) => (s.1, s.2.1) = bdF E (μ 521) (μ 38) (-1) i ∧ ∀ q, q ≠ 547 → s.2.2 q = upm ν 57 0 0 q) (Pb_X10_board_37 p1) (eH E) (g_X10_board_37 p1) (-1, -1, upm ν 57 0 0) ⟨rfl, fun _ _ => rfl⟩ (fun i hi s hs => by
        obtain ⟨a0, a1⟩ := hs
        have hMs : EvM E s.2.2 := hM.mono (fun q hq => a1 q (by omega)) hO
        have hKs : MkR E s.2.2 := hMk.mono a1
        have e521' : s.2.2 521 = μ 521 := by rw [a1 521 (by decide), r521]
        have e38' : s.2.2 38 = μ 38 := by rw [a1 38 (by decide), r38]
        obtain ⟨t1, t2⟩ := sp_isTold hO hKs hi
        obtain ⟨w1, w2, w3⟩ := sp_worstAt (h := i) hMs hO (by rw [e521']; exact hS.2.2) hKs hi
        rw [e38'] at t2
        rw [e521', e38'] at w2
        have e : bdF E (μ 521) (μ 38) (-1) (i + 1) = bdS E (μ 521) (μ 38) i (bdF E (μ 521) (μ 38) (-1) i) := rfl
        refine ⟨⟨fun q => ?_, fun _ => ⟨t1, fun _ => w1, fun _ => trivial⟩⟩, ?_, fun q hq => ?_⟩
        · rw [hMs.1] at q
          exact nI_ge hi (by omega) q
        · rw [e, ← a0]
          show (VX10_board_37_3 p1 i s, VX10_board_37_2 p1 i s) = _
          unfold VX10_board_37_3 VX10_board_37_2 bdS
          rw [t2, w2]
          by_cases x : μ 38 i = -1
          · rw [if_pos x, if_pos rfl, if_pos rfl, if_pos x]
            by_cases y : s.1 = -1
            · rw [if_pos y, if_pos y, if_pos y]
            · rw [if_neg y, if_neg y, if_neg y]
              by_cases v : s.2.1 ≤ nI (wV E (μ 521) (μ 38) i)
              · rw [if_neg (Int32.not_lt.mpr v), if_neg (Int32.not_lt.mpr v), if_pos v]
              · rw [if_pos (Int32.not_le.mp v), if_pos (Int32.not_le.mp v), if_neg v]
          · rw [if_neg x, if_neg (by decide), if_neg (by decide), if_neg x]
        · show VX10_board_37_4 p1 i s q = _
          unfold VX10_board_37_4 muX10_board_37_1
          split
          · rw [w3 q hq, a1 q hq]
          · exact a1 q hq)
      have hN : NX10_board_37 p1 ν = eH E := by
        unfold NX10_board_37
        rw [m3, e61, nI_ix (by omega)]
      have hS' : SX10_board_37 p1 ν = fo (eH E) (g_X10_board_37 p1) (-1, -1, upm ν 57 0 0) := by
        unfold SX10_board_37
        rw [hN, m3]
      rw [← hS'] at ky1 ky2
      have z1 : (SX10_board_37 p1 ν).1 = (bdF E (μ 521) (μ 38) (-1) (eH E)).1 := by rw [← ky1]
      have z2 : (SX10_board_37 p1 ν).2.1 = (bdF E (μ 521) (μ 38) (-1) (eH E)).2 := by rw [← ky1]
      obtain ⟨km1, km2, km3⟩ : KQ ν (M_X10_board p1 ν) ∧ M_X10_board p1 ν 57 0 = 0 ∧ M_X10_board p1 ν 548 0 = ν 548 0 := by
        unfold M_X10_board
        rw [m1, if_pos bf2]
        exact km (KM.off fun q q1 q2 q3 q4 => ky2 q q4)
      refine ⟨?_, ?_, km1, km2, km3⟩
      · unfold P_X10_board
        rw [m1, m3, hN, ky2 61 (by decide), e61]
        exact ⟨bp2, fun _ => ⟨ky0, fun _ => trivial, fun q => absurd q n_lt⟩, fun _ => trivial⟩
      · unfold F_X10_board F_X9_board
        rw [m1, if_pos bf2, s1, m2, l2, z1, z2]
        rcases rel with ⟨a0, a1, a2⟩ | ⟨h, hh, a0, a1⟩
        · rw [a0, a1, a2, if_neg (not_not_intro rfl), ite_self, ite_self]
        · rw [a0, a1]
          by_cases c : p1 = 0
          · rw [if_pos c, if_neg (not_not_intro c)]
          · rw [if_neg c, if_pos c, if_pos (show nI h ≠ -1 from nI_m1 (by omega))]
            exact (wl h hh).2.1.symm
  · exact Or.inr h
theorem case_board {E : EV} {L : LW} {μ : Mem} (hI : Inv E L μ) (p1 : Int32) : P_W_22 p1 μ ∧ Inv E L (M_W_22 p1 μ) := by
  have h := wrapI (K_X9_board p1 μ) (F_X9_board p1 μ) (M_X9_board p1 μ) (P_X9_board p1 μ) (F_X10_board p1) (M_X10_board p1) (P_X10_board p1) hI (q_board hI p1)
  unfold P_W_22 M_W_22 muL_law_c22_2 muL_law_c22_1 M_L_board W_L_board F_X10_thrown
  exact h
