/-! the parlour -/
theorem fo_rel {α : Type} (I : Nat → α → Prop) (n : Nat) (g g' : Nat → α → α) (a : α) (h0 : I 0 a) (h : ∀ i, i < n → ∀ s, I i s → g i s = g' i s ∧ I (i + 1) (g' i s)) : fo n g a = fo n g' a ∧ I n (fo n g' a) := by
  induction n with
  | zero => exact ⟨rfl, h0⟩
  | succ n ih =>
    obtain ⟨e, hi⟩ := ih fun i hi => h i (Nat.lt_succ_of_lt hi)
    obtain ⟨e2, hi2⟩ := h n (Nat.lt_succ_self n) _ hi
    exact ⟨by rw [fo_succ, fo_succ, e, e2], hi2⟩
theorem rest_eq (k q a b : Int32) (μ ν : Mem) : F_X3_isRest k q a b μ = F_X10_isRest a b k q ν := rfl
theorem sea_eq (k q a b : Int32) (μ ν : Mem) : F_X3_seaHas k q a b μ = F_X10_seaHas a b k q ν := rfl
theorem hou_eq (k q a b : Int32) (μ ν : Mem) : F_X3_houseHas k q a b μ = F_X10_houseHas a b k q ν := rfl
theorem restP {K : Nat} (hK : K ≤ 12) (q a b : Int32) (μ : Mem) : P_X10_isRest a b (nI K) q μ := by
  have hC : ∀ j, Cb_X10_isRest_3 a b (nI K) q μ j () = true → ¬ nI K < nI j ∧ ¬ F_X10_seaHas a b (nI K) q μ < F_X10_seaHas (nI j) b (nI K) q μ ∧ F_X10_houseHas a (nI j) (nI K) q μ ≤ F_X10_houseHas a b (nI K) q μ := by
    intro j hj
    unfold Cb_X10_isRest_3 at hj
    by_cases h1 : nI K < nI j
    · rw [if_pos h1] at hj
      cases hj
    · rw [if_neg h1] at hj
      by_cases h2 : F_X10_seaHas a b (nI K) q μ < F_X10_seaHas (nI j) b (nI K) q μ
      · rw [if_pos h2] at hj
        cases hj
      · rw [if_neg h2] at hj
        by_cases h3 : F_X10_houseHas a (nI j) (nI K) q μ ≤ F_X10_houseHas a b (nI K) q μ
        · exact ⟨h1, h2, h3⟩
        · rw [if_neg h3] at hj
          cases hj
  have hu : ∀ j, fo j (g_X10_isRest_3 a b (nI K) q μ) () = () := fun _ => rfl
  have hle : NX10_isRest_3 a b (nI K) q μ ≤ K + 1 := by
    refine fst_lt (by omega) ?_
    show (!Cb_X10_isRest_3 a b (nI K) q μ (K + 1) ()) = true
    have : Cb_X10_isRest_3 a b (nI K) q μ (K + 1) () = false := by
      unfold Cb_X10_isRest_3
      rw [if_pos (nI_lt (by omega) (by omega))]
    rw [this]
    rfl
  have hmin : ∀ j, j < NX10_isRest_3 a b (nI K) q μ → Cb_X10_isRest_3 a b (nI K) q μ j () = true := fun j hj => by
    have := fst_min (n := 14) (c := fun j => !Cb_X10_isRest_3 a b (nI K) q μ j (fo j (g_X10_isRest_3 a b (nI K) q μ) ())) hj
    have h2 : (!Cb_X10_isRest_3 a b (nI K) q μ j ()) = false := this
    cases hc : Cb_X10_isRest_3 a b (nI K) q μ j () with
    | true => rfl
    | false => rw [hc] at h2; cases h2
  have hhit : Cb_X10_isRest_3 a b (nI K) q μ (NX10_isRest_3 a b (nI K) q μ) () = false := by
    have := fst_hit (n := 14) (c := fun j => !Cb_X10_isRest_3 a b (nI K) q μ j (fo j (g_X10_isRest_3 a b (nI K) q μ) ())) (show NX10_isRest_3 a b (nI K) q μ < 14 by omega)
    have h2 : (!Cb_X10_isRest_3 a b (nI K) q μ (NX10_isRest_3 a b (nI K) q μ) ()) = true := this
    cases hc : Cb_X10_isRest_3 a b (nI K) q μ (NX10_isRest_3 a b (nI K) q μ) () with
    | false => rfl
    | true => rw [hc] at h2; cases h2
  unfold P_X10_isRest
  generalize NX10_isRest_3 a b (nI K) q μ = N at *
  refine ⟨fun j hj => ?_, fun _ => trivial, fun z => ⟨fun _ => trivial, fun y => ⟨fun x => ?_, fun _ => trivial⟩⟩⟩
  · obtain ⟨h1, h2, h3⟩ := hC j (hmin j hj)
    unfold Pb_X10_isRest_3
    exact ⟨h1, fun _ => ⟨h2, fun _ => ⟨fun _ => trivial, fun y => Int32.not_le.mpr y h3⟩⟩⟩
  · unfold Cb_X10_isRest_3 at hhit
    rw [if_neg (Int32.not_lt.mpr z), if_neg (Int32.not_lt.mpr y), if_pos x] at hhit
    cases hhit
def prS (K : Nat) (q : Int32) : Int32 × Int32 × Int32 := fo (K + 1) (fun a s => fo (K + 1) (fun b t => if F_X10_isRest (nI a) (nI b) (nI K) q (fun _ _ => 0) ≠ 0 then (t.1 + 1, if t.1 ≠ 0 then t.2.1 else 100 * nI a + nI b, if t.1 ≠ 0 then t.2.2 else F_X10_seaHas (nI a) (nI b) (nI K) q (fun _ _ => 0) + F_X10_houseHas (nI a) (nI b) (nI K) q (fun _ _ => 0)) else t) (s.1, s.2.1, s.2.2)) (0, -1, 0)
theorem hundred {a b : Nat} (ha : a < 1000) (hb : b < 1000) : (100 : Int32) * nI a + nI b = nI (100 * a + b) := by
  have : (100 : Int32) * nI a = nI (100 * a) := pk_mul 100 a
  rw [this, nI_add]
theorem nI_m1 {n : Nat} (h : n < 2 ^ 31) : nI n ≠ -1 := fun q => by
  have := nI_pos (n := n) h
  rw [q] at this
  exact this (by decide)
theorem sp_rests {K : Nat} {q w : Int32} (hK : K ≤ 12) (μ : Mem) : P_X3_rests (nI K) q w μ ∧ F_X3_rests (nI K) q w μ = if w ≠ 0 then (if w ≠ 1 then (prS K q).2.2 else (prS K q).2.1) else (prS K q).1 := by
  have eK : ix (nI K) = K := nI_ix (by omega)
  have hNi : ∀ i s, NX3_rests_11_20 (nI K) q w μ i s = K + 1 := fun i s => by unfold NX3_rests_11_20; rw [eK]
  have hN : NX3_rests_11 (nI K) q w μ = K + 1 := by unfold NX3_rests_11; rw [eK]
  have hin : ∀ a, a ≤ 12 → ∀ s : Int32 × Int32 × Int32, (∃ m, m ≤ 13 * a ∧ s.1 = nI m ∧ (m = 0 ↔ s.2.1 = -1)) →
      fo (K + 1) (g_X3_rests_20 (nI K) q w (nI a) μ) (s.1, s.2.1, s.2.2) = fo (K + 1) (fun b t => if F_X10_isRest (nI a) (nI b) (nI K) q (fun _ _ => 0) ≠ 0 then (t.1 + 1, if t.1 ≠ 0 then t.2.1 else 100 * nI a + nI b, if t.1 ≠ 0 then t.2.2 else F_X10_seaHas (nI a) (nI b) (nI K) q (fun _ _ => 0) + F_X10_houseHas (nI a) (nI b) (nI K) q (fun _ _ => 0)) else t) (s.1, s.2.1, s.2.2) ∧
      ∃ m, m ≤ 13 * a + (K + 1) ∧ (fo (K + 1) (fun b t => if F_X10_isRest (nI a) (nI b) (nI K) q (fun _ _ => 0) ≠ 0 then (t.1 + 1, if t.1 ≠ 0 then t.2.1 else 100 * nI a + nI b, if t.1 ≠ 0 then t.2.2 else F_X10_seaHas (nI a) (nI b) (nI K) q (fun _ _ => 0) + F_X10_houseHas (nI a) (nI b) (nI K) q (fun _ _ => 0)) else t) (s.1, s.2.1, s.2.2)).1 = nI m ∧ (m = 0 ↔ (fo (K + 1) (fun b t => if F_X10_isRest (nI a) (nI b) (nI K) q (fun _ _ => 0) ≠ 0 then (t.1 + 1, if t.1 ≠ 0 then t.2.1 else 100 * nI a + nI b, if t.1 ≠ 0 then t.2.2 else F_X10_seaHas (nI a) (nI b) (nI K) q (fun _ _ => 0) + F_X10_houseHas (nI a) (nI b) (nI K) q (fun _ _ => 0)) else t) (s.1, s.2.1, s.2.2)).2.1 = -1) := by
    intro a ha s hs
    refine fo_rel (fun j (t : Int32 × Int32 × Int32) => ∃ m, m ≤ 13 * a + j ∧ t.1 = nI m ∧ (m = 0 ↔ t.2.1 = -1)) (K + 1) _ _ _ hs ?_
    intro b hb t ⟨m, m1, m2, m3⟩
    unfold g_X3_rests_20 VX3_rests_20_1 VX3_rests_20_2 VX3_rests_20_3
    rw [rest_eq (nI K) q (nI a) (nI b) μ (fun _ _ => 0), sea_eq (nI K) q (nI a) (nI b) μ (fun _ _ => 0), hou_eq (nI K) q (nI a) (nI b) μ (fun _ _ => 0)]
    by_cases z : F_X10_isRest (nI a) (nI b) (nI K) q (fun _ _ => 0) = 0
    · rw [if_pos z, if_pos z, if_pos z, if_neg (not_not_intro z)]
      exact ⟨rfl, m, by omega, m2, m3⟩
    · rw [if_neg z, if_neg z, if_neg z, if_pos z]
      by_cases y : m = 0
      · have y1 : t.1 = 0 := by rw [m2, y, nI_0]
        have y2 : t.2.1 = -1 := m3.mp y
        rw [if_neg (not_not_intro y2), if_neg (not_not_intro y2), if_neg (not_not_intro y1), if_neg (not_not_intro y1)]
        refine ⟨rfl, 1, by omega, ?_, ?_⟩
        · show t.1 + 1 = nI 1
          rw [y1]
          rfl
        · rw [hundred (by omega) (by omega)]
          exact ⟨fun x => by omega, fun x => absurd x (nI_m1 (by omega))⟩
      · have y1 : t.1 ≠ 0 := by rw [m2]; exact nI_ne0 (by omega) (by omega)
        have y2 : t.2.1 ≠ -1 := fun x => y (m3.mpr x)
        rw [if_pos y2, if_pos y2, if_pos y1, if_pos y1]
        refine ⟨rfl, m + 1, by omega, ?_, ?_⟩
        · show t.1 + 1 = nI (m + 1)
          rw [m2, nI_1]
        · exact ⟨fun x => by omega, fun x => absurd x y2⟩
  have hS : SX3_rests_11 (nI K) q w μ = prS K q := by
    unfold SX3_rests_11 prS
    rw [hN]
    refine (fo_rel (fun a (s : Int32 × Int32 × Int32) => ∃ m, m ≤ 13 * a ∧ s.1 = nI m ∧ (m = 0 ↔ s.2.1 = -1)) (K + 1) _ _ _ ⟨0, by omega, rfl, fun _ => rfl, fun _ => rfl⟩ ?_).1
    intro a ha s hs
    obtain ⟨e, m, m1, m2, m3⟩ := hin a (by omega) s hs
    refine ⟨?_, m, by omega, m2, m3⟩
    unfold g_X3_rests_11 SX3_rests_11_20
    rw [hNi, e]
  have rP : ∀ a b, P_X3_isRest (nI K) q a b μ := fun a b => restP hK q a b μ
  unfold P_X3_rests F_X3_rests
  rw [hS, hN]
  refine ⟨⟨fun j hj => ?_, fun _ => trivial, fun z => absurd z (nI_ge (by omega) (by omega))⟩, rfl⟩
  unfold Pb_X3_rests_11
  refine ⟨fun z => nI_nlt (a := K) (b := j) (by omega) (by omega) z, fun _ => ⟨fun i hi => ?_, fun _ => trivial, fun z => ?_⟩⟩
  · rw [hNi] at hi
    unfold Pb_X3_rests_20
    exact ⟨fun z => nI_nlt (a := K) (b := i) (by omega) (by omega) z, fun _ => rP _ _⟩
  · rw [hNi] at z
    exact absurd z (nI_ge (by omega) (by omega))
