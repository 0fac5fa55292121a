/-! the law's loop -/
/-- what a script's int says: which call -/
def cN (v : Int32) : Nat := ix (v &&& 63)
/-- the ints of call j -/
def rd (x : Nat → Int32) (j : Nat) : Nat → Int32 := fun k => x (8 * j + k)
def caseP (c : Nat) (a : Nat → Int32) (μ : Mem) : Prop := match c with
  | 0 => P_W_0 (a 1) (a 2) (a 3) (a 4) (a 5) μ
  | 1 => P_W_1 (a 1) μ
  | 2 => P_W_2 (a 1) μ
  | 3 => P_W_3 (a 1) μ
  | 4 => P_W_4 (a 1) μ
  | 5 => P_W_5  μ
  | 6 => P_W_6  μ
  | 7 => P_W_7 (a 1) μ
  | 8 => P_W_8 (a 1) (a 2) μ
  | 9 => P_W_9 (a 1) (a 2) μ
  | 10 => P_W_10 (a 1) μ
  | 11 => P_W_11 (a 1) (a 2) μ
  | 12 => P_W_12 (a 1) μ
  | 13 => P_W_13 (a 1) (a 2) (a 3) (a 4) (a 5) (a 6) μ
  | 14 => P_W_14 (a 1) (a 2) μ
  | 15 => P_W_15 (a 1) μ
  | 16 => P_W_16 (a 1) μ
  | 17 => P_W_17 (a 1) (a 2) (a 3) μ
  | 18 => P_W_18 (a 1) (a 2) μ
  | 19 => P_W_19 (a 1) (a 2) μ
  | 20 => P_W_20 (a 1) (a 2) (a 3) μ
  | 21 => P_W_21 (a 1) μ
  | 22 => P_W_22 (a 1) μ
  | 23 => P_W_23 (a 1) (a 2) (a 3) μ
  | 24 => P_W_24 (a 1) (a 2) (a 3) μ
  | 25 => P_W_25 (a 1) (a 2) (a 3) μ
  | 26 => P_W_26 (a 1) (a 2) (a 3) μ
  | 27 => P_W_27 (a 1) (a 2) μ
  | 28 => P_W_28 (a 1) μ
  | 29 => P_W_29 (a 1) μ
  | 30 => P_W_30 (a 1) (a 2) μ
  | 31 => P_W_31 (a 1) μ
  | 32 => P_W_32 (a 1) (a 2) μ
  | 33 => P_W_33 (a 1) μ
  | 34 => P_W_34 (a 1) (a 2) μ
  | 35 => P_W_35 (a 1) (a 2) (a 3) (a 4) (a 5) μ
  | 36 => P_W_36 (a 1) (a 2) (a 3) (a 4) (a 5) (a 6) (a 7) μ
  | 37 => P_W_37  μ
  | 38 => P_W_38  μ
  | 39 => P_W_39 (a 1) μ
  | 40 => P_W_40 (a 1) μ
  | _ => True
def caseM (c : Nat) (a : Nat → Int32) (μ : Mem) : Mem := match c with
  | 0 => M_W_0 (a 1) (a 2) (a 3) (a 4) (a 5) μ
  | 1 => M_W_1 (a 1) μ
  | 2 => M_W_2 (a 1) μ
  | 3 => M_W_3 (a 1) μ
  | 4 => M_W_4 (a 1) μ
  | 5 => M_W_5  μ
  | 6 => M_W_6  μ
  | 7 => M_W_7 (a 1) μ
  | 8 => M_W_8 (a 1) (a 2) μ
  | 9 => M_W_9 (a 1) (a 2) μ
  | 10 => M_W_10 (a 1) μ
  | 11 => M_W_11 (a 1) (a 2) μ
  | 12 => M_W_12 (a 1) μ
  | 13 => M_W_13 (a 1) (a 2) (a 3) (a 4) (a 5) (a 6) μ
  | 14 => M_W_14 (a 1) (a 2) μ
  | 15 => M_W_15 (a 1) μ
  | 16 => M_W_16 (a 1) μ
  | 17 => M_W_17 (a 1) (a 2) (a 3) μ
  | 18 => M_W_18 (a 1) (a 2) μ
  | 19 => M_W_19 (a 1) (a 2) μ
  | 20 => M_W_20 (a 1) (a 2) (a 3) μ
  | 21 => M_W_21 (a 1) μ
  | 22 => M_W_22 (a 1) μ
  | 23 => M_W_23 (a 1) (a 2) (a 3) μ
  | 24 => M_W_24 (a 1) (a 2) (a 3) μ
  | 25 => M_W_25 (a 1) (a 2) (a 3) μ
  | 26 => M_W_26 (a 1) (a 2) (a 3) μ
  | 27 => M_W_27 (a 1) (a 2) μ
  | 28 => M_W_28 (a 1) μ
  | 29 => M_W_29 (a 1) μ
  | 30 => M_W_30 (a 1) (a 2) μ
  | 31 => M_W_31 (a 1) μ
  | 32 => M_W_32 (a 1) (a 2) μ
  | 33 => M_W_33 (a 1) μ
  | 34 => M_W_34 (a 1) (a 2) μ
  | 35 => M_W_35 (a 1) (a 2) (a 3) (a 4) (a 5) μ
  | 36 => M_W_36 (a 1) (a 2) (a 3) (a 4) (a 5) (a 6) (a 7) μ
  | 37 => M_W_37  μ
  | 38 => M_W_38  μ
  | 39 => M_W_39 (a 1) μ
  | 40 => M_W_40 (a 1) μ
  | _ => μ
def runM (x : Nat → Int32) (j : Nat) (μ : Mem) : Mem := match j with
  | 0 => μ
  | j + 1 => caseM (cN (x (8 * j))) (rd x j) (runM x j μ)
theorem cN_eq {v : Int32} {c : Nat} (h : v &&& 63 = nI c) (hc : c < 64) : cN v = c := by
  unfold cN
  rw [h]
  exact nI_clamp (by omega)
theorem and63 (v : Int32) : v &&& 63 = nI (cN v) := by
  obtain ⟨j, hj, e⟩ := pk_andE v (m := 63) 6 (by decide)
  unfold cN
  rw [e, nI_clamp (show j < 2 ^ 31 by omega)]
theorem sc_at {G : SG} {i k : Nat} (hi : 8 * i + 8 ≤ gs G) (hg : gs G ≤ 4096) (hk : k < 8) : vp_in (nI (8 * i) + nI k) (gs G) ∧ gx G (ix (nI (8 * i) + nI k)) = rd (gx G) i k := by
  rw [nI_add]
  have e : ix (nI (8 * i + k)) = 8 * i + k := nI_clamp (by omega)
  refine ⟨vp_of (nI_pos' (by omega)) (by rw [e]; omega), ?_⟩
  rw [e]
  rfl
set_option maxRecDepth 20000 in
set_option maxHeartbeats 2000000 in
theorem law_round {G : SG} (hG : GK 549 G) (hg : gs G ≤ 4096) {i : Nat} (hi : 8 * i + 8 ≤ gs G) {μ : Mem} {t : Nat} {Q : PQ} {X : PX} (hP : caseP (cN (gx G (8 * i))) (rd (gx G) i) μ) (h : R G mL_law_ 23 [(0, .ref (gb G)), (1, .ref (ga G 0)), (2, .ref (ga G 57)), (3, .ref (ga G 548)), (4, .int (nI (8 * (i + 1))))] [] (caseM (cN (gx G (8 * i))) (rd (gx G) i) μ) t Q X) : R G mL_law_ 23 [(0, .ref (gb G)), (1, .ref (ga G 0)), (2, .ref (ga G 57)), (3, .ref (ga G 548)), (4, .int (nI (8 * i)))] [] μ (8 + t) Q X := by
  have e8 : nI (8 * (i + 1)) = nI (8 * i) + 8 := (nI_add (8 * i) 8).symm
  rw [e8] at h
  have h0 : vp_in (nI (8 * i)) (gs G) ∧ gx G (ix (nI (8 * i))) = gx G (8 * i) := by
    have e : ix (nI (8 * i)) = 8 * i := nI_clamp (by omega)
    exact ⟨vp_of (nI_pos' (by omega)) (by rw [e]; omega), by rw [e]⟩
  have hlt : ¬ Int32.ofNat (gs G) - 8 < nI (8 * i) := by
    have e : Int32.ofNat (gs G) - 8 = nI (gs G - 8) := by
      have e2 : Int32.ofNat (gs G) = nI (gs G - 8) + 8 := by
        show nI (gs G) = nI (gs G - 8) + nI 8
        rw [nI_add, Nat.sub_add_cancel (by omega)]
      rw [e2]
      grind
    rw [e]
    exact nI_nlt (by omega) (by omega)
  refine r_iload dL_law__23 4 rfl ?_
  refine r_aload_n dL_law__25 0 rfl ?_
  refine r_slen dL_law__26 ?_
  refine r_bipush 8 dL_law__27 rfl ?_
  refine r_isub dL_law__29 ?_
  refine r_icmp_gt 2755 dL_law__30 (by decide) (fun c1 => absurd c1 hlt) (fun _ => ?_)
  refine r_aload_n dL_law__33 0 rfl ?_
  refine r_iload dL_law__34 4 rfl ?_
  refine r_sldA h0 dL_law__36 ?_
  refine r_bipush 63 dL_law__37 rfl ?_
  refine r_iand dL_law__39 ?_
  generalize hv : gx G (8 * i) = v at hP h
  clear h0 hlt e8
  by_cases k0 : v &&& 63 = 0
  · rw [cN_eq (c := 0) k0 (by decide)] at hP h
    refine r_tableIn (180) 220 dL_law__40 (by rw [k0]; decide) (by rw [k0]; decide) (by rw [k0]; rfl) (by decide) ?_
    exact case_0 hG (nI (8 * i)) _ _ _ _ _ (sc_at (k := 1) hi hg (by decide)) (sc_at (k := 2) hi hg (by decide)) (sc_at (k := 3) hi hg (by decide)) (sc_at (k := 4) hi hg (by decide)) (sc_at (k := 5) hi hg (by decide)) hP h
  by_cases k1 : v &&& 63 = 1
  · rw [cN_eq (c := 1) k1 (by decide)] at hP h
    refine r_tableIn (253) 293 dL_law__40 (by rw [k1]; decide) (by rw [k1]; decide) (by rw [k1]; rfl) (by decide) ?_
    exact case_1 hG (nI (8 * i)) _ (sc_at (k := 1) hi hg (by decide)) hP h
  by_cases k2 : v &&& 63 = 2
  · rw [cN_eq (c := 2) k2 (by decide)] at hP h
    refine r_tableIn (309) 349 dL_law__40 (by rw [k2]; decide) (by rw [k2]; decide) (by rw [k2]; rfl) (by decide) ?_
    exact case_2 hG (nI (8 * i)) _ (sc_at (k := 1) hi hg (by decide)) hP h
  by_cases k3 : v &&& 63 = 3
  · rw [cN_eq (c := 3) k3 (by decide)] at hP h
    refine r_tableIn (365) 405 dL_law__40 (by rw [k3]; decide) (by rw [k3]; decide) (by rw [k3]; rfl) (by decide) ?_
    exact case_3 hG (nI (8 * i)) _ (sc_at (k := 1) hi hg (by decide)) hP h
  by_cases k4 : v &&& 63 = 4
  · rw [cN_eq (c := 4) k4 (by decide)] at hP h
    refine r_tableIn (421) 461 dL_law__40 (by rw [k4]; decide) (by rw [k4]; decide) (by rw [k4]; rfl) (by decide) ?_
    exact case_4 hG (nI (8 * i)) _ (sc_at (k := 1) hi hg (by decide)) hP h
  by_cases k5 : v &&& 63 = 5
  · rw [cN_eq (c := 5) k5 (by decide)] at hP h
    refine r_tableIn (477) 517 dL_law__40 (by rw [k5]; decide) (by rw [k5]; decide) (by rw [k5]; rfl) (by decide) ?_
    exact case_5 hG (nI (8 * i))   hP h
  by_cases k6 : v &&& 63 = 6
  · rw [cN_eq (c := 6) k6 (by decide)] at hP h
    refine r_tableIn (490) 530 dL_law__40 (by rw [k6]; decide) (by rw [k6]; decide) (by rw [k6]; rfl) (by decide) ?_
    exact case_6 hG (nI (8 * i))   hP h
  by_cases k7 : v &&& 63 = 7
  · rw [cN_eq (c := 7) k7 (by decide)] at hP h
    refine r_tableIn (503) 543 dL_law__40 (by rw [k7]; decide) (by rw [k7]; decide) (by rw [k7]; rfl) (by decide) ?_
    exact case_7 hG (nI (8 * i)) _ (sc_at (k := 1) hi hg (by decide)) hP h
  by_cases k8 : v &&& 63 = 8
  · rw [cN_eq (c := 8) k8 (by decide)] at hP h
    refine r_tableIn (559) 599 dL_law__40 (by rw [k8]; decide) (by rw [k8]; decide) (by rw [k8]; rfl) (by decide) ?_
    exact case_8 hG (nI (8 * i)) _ _ (sc_at (k := 1) hi hg (by decide)) (sc_at (k := 2) hi hg (by decide)) hP h
  by_cases k9 : v &&& 63 = 9
  · rw [cN_eq (c := 9) k9 (by decide)] at hP h
    refine r_tableIn (627) 667 dL_law__40 (by rw [k9]; decide) (by rw [k9]; decide) (by rw [k9]; rfl) (by decide) ?_
    exact case_9 hG (nI (8 * i)) _ _ (sc_at (k := 1) hi hg (by decide)) (sc_at (k := 2) hi hg (by decide)) hP h
  by_cases k10 : v &&& 63 = 10
  · rw [cN_eq (c := 10) k10 (by decide)] at hP h
    refine r_tableIn (695) 735 dL_law__40 (by rw [k10]; decide) (by rw [k10]; decide) (by rw [k10]; rfl) (by decide) ?_
    exact case_10 hG (nI (8 * i)) _ (sc_at (k := 1) hi hg (by decide)) hP h
  by_cases k11 : v &&& 63 = 11
  · rw [cN_eq (c := 11) k11 (by decide)] at hP h
    refine r_tableIn (751) 791 dL_law__40 (by rw [k11]; decide) (by rw [k11]; decide) (by rw [k11]; rfl) (by decide) ?_
    exact case_11 hG (nI (8 * i)) _ _ (sc_at (k := 1) hi hg (by decide)) (sc_at (k := 2) hi hg (by decide)) hP h
  by_cases k12 : v &&& 63 = 12
  · rw [cN_eq (c := 12) k12 (by decide)] at hP h
    refine r_tableIn (819) 859 dL_law__40 (by rw [k12]; decide) (by rw [k12]; decide) (by rw [k12]; rfl) (by decide) ?_
    exact case_12 hG (nI (8 * i)) _ (sc_at (k := 1) hi hg (by decide)) hP h
  by_cases k13 : v &&& 63 = 13
  · rw [cN_eq (c := 13) k13 (by decide)] at hP h
    refine r_tableIn (875) 915 dL_law__40 (by rw [k13]; decide) (by rw [k13]; decide) (by rw [k13]; rfl) (by decide) ?_
    exact case_13 hG (nI (8 * i)) _ _ _ _ _ _ (sc_at (k := 1) hi hg (by decide)) (sc_at (k := 2) hi hg (by decide)) (sc_at (k := 3) hi hg (by decide)) (sc_at (k := 4) hi hg (by decide)) (sc_at (k := 5) hi hg (by decide)) (sc_at (k := 6) hi hg (by decide)) hP h
  by_cases k14 : v &&& 63 = 14
  · rw [cN_eq (c := 14) k14 (by decide)] at hP h
    refine r_tableIn (993) 1033 dL_law__40 (by rw [k14]; decide) (by rw [k14]; decide) (by rw [k14]; rfl) (by decide) ?_
    exact case_14 hG (nI (8 * i)) _ _ (sc_at (k := 1) hi hg (by decide)) (sc_at (k := 2) hi hg (by decide)) hP h
  by_cases k15 : v &&& 63 = 15
  · rw [cN_eq (c := 15) k15 (by decide)] at hP h
    refine r_tableIn (1061) 1101 dL_law__40 (by rw [k15]; decide) (by rw [k15]; decide) (by rw [k15]; rfl) (by decide) ?_
    exact case_15 hG (nI (8 * i)) _ (sc_at (k := 1) hi hg (by decide)) hP h
  by_cases k16 : v &&& 63 = 16
  · rw [cN_eq (c := 16) k16 (by decide)] at hP h
    refine r_tableIn (1117) 1157 dL_law__40 (by rw [k16]; decide) (by rw [k16]; decide) (by rw [k16]; rfl) (by decide) ?_
    exact case_16 hG (nI (8 * i)) _ (sc_at (k := 1) hi hg (by decide)) hP h
  by_cases k17 : v &&& 63 = 17
  · rw [cN_eq (c := 17) k17 (by decide)] at hP h
    refine r_tableIn (1173) 1213 dL_law__40 (by rw [k17]; decide) (by rw [k17]; decide) (by rw [k17]; rfl) (by decide) ?_
    exact case_17 hG (nI (8 * i)) _ _ _ (sc_at (k := 1) hi hg (by decide)) (sc_at (k := 2) hi hg (by decide)) (sc_at (k := 3) hi hg (by decide)) hP h
  by_cases k18 : v &&& 63 = 18
  · rw [cN_eq (c := 18) k18 (by decide)] at hP h
    refine r_tableIn (1253) 1293 dL_law__40 (by rw [k18]; decide) (by rw [k18]; decide) (by rw [k18]; rfl) (by decide) ?_
    exact case_18 hG (nI (8 * i)) _ _ (sc_at (k := 1) hi hg (by decide)) (sc_at (k := 2) hi hg (by decide)) hP h
  by_cases k19 : v &&& 63 = 19
  · rw [cN_eq (c := 19) k19 (by decide)] at hP h
    refine r_tableIn (1321) 1361 dL_law__40 (by rw [k19]; decide) (by rw [k19]; decide) (by rw [k19]; rfl) (by decide) ?_
    exact case_19 hG (nI (8 * i)) _ _ (sc_at (k := 1) hi hg (by decide)) (sc_at (k := 2) hi hg (by decide)) hP h
  by_cases k20 : v &&& 63 = 20
  · rw [cN_eq (c := 20) k20 (by decide)] at hP h
    refine r_tableIn (1389) 1429 dL_law__40 (by rw [k20]; decide) (by rw [k20]; decide) (by rw [k20]; rfl) (by decide) ?_
    exact case_20 hG (nI (8 * i)) _ _ _ (sc_at (k := 1) hi hg (by decide)) (sc_at (k := 2) hi hg (by decide)) (sc_at (k := 3) hi hg (by decide)) hP h
  by_cases k21 : v &&& 63 = 21
  · rw [cN_eq (c := 21) k21 (by decide)] at hP h
    refine r_tableIn (1469) 1509 dL_law__40 (by rw [k21]; decide) (by rw [k21]; decide) (by rw [k21]; rfl) (by decide) ?_
    exact case_21 hG (nI (8 * i)) _ (sc_at (k := 1) hi hg (by decide)) hP h
  by_cases k22 : v &&& 63 = 22
  · rw [cN_eq (c := 22) k22 (by decide)] at hP h
    refine r_tableIn (1525) 1565 dL_law__40 (by rw [k22]; decide) (by rw [k22]; decide) (by rw [k22]; rfl) (by decide) ?_
    exact case_22 hG (nI (8 * i)) _ (sc_at (k := 1) hi hg (by decide)) hP h
  by_cases k23 : v &&& 63 = 23
  · rw [cN_eq (c := 23) k23 (by decide)] at hP h
    refine r_tableIn (1581) 1621 dL_law__40 (by rw [k23]; decide) (by rw [k23]; decide) (by rw [k23]; rfl) (by decide) ?_
    exact case_23 hG (nI (8 * i)) _ _ _ (sc_at (k := 1) hi hg (by decide)) (sc_at (k := 2) hi hg (by decide)) (sc_at (k := 3) hi hg (by decide)) hP h
  by_cases k24 : v &&& 63 = 24
  · rw [cN_eq (c := 24) k24 (by decide)] at hP h
    refine r_tableIn (1661) 1701 dL_law__40 (by rw [k24]; decide) (by rw [k24]; decide) (by rw [k24]; rfl) (by decide) ?_
    exact case_24 hG (nI (8 * i)) _ _ _ (sc_at (k := 1) hi hg (by decide)) (sc_at (k := 2) hi hg (by decide)) (sc_at (k := 3) hi hg (by decide)) hP h
  by_cases k25 : v &&& 63 = 25
  · rw [cN_eq (c := 25) k25 (by decide)] at hP h
    refine r_tableIn (1741) 1781 dL_law__40 (by rw [k25]; decide) (by rw [k25]; decide) (by rw [k25]; rfl) (by decide) ?_
    exact case_25 hG (nI (8 * i)) _ _ _ (sc_at (k := 1) hi hg (by decide)) (sc_at (k := 2) hi hg (by decide)) (sc_at (k := 3) hi hg (by decide)) hP h
  by_cases k26 : v &&& 63 = 26
  · rw [cN_eq (c := 26) k26 (by decide)] at hP h
    refine r_tableIn (1821) 1861 dL_law__40 (by rw [k26]; decide) (by rw [k26]; decide) (by rw [k26]; rfl) (by decide) ?_
    exact case_26 hG (nI (8 * i)) _ _ _ (sc_at (k := 1) hi hg (by decide)) (sc_at (k := 2) hi hg (by decide)) (sc_at (k := 3) hi hg (by decide)) hP h
  by_cases k27 : v &&& 63 = 27
  · rw [cN_eq (c := 27) k27 (by decide)] at hP h
    refine r_tableIn (1901) 1941 dL_law__40 (by rw [k27]; decide) (by rw [k27]; decide) (by rw [k27]; rfl) (by decide) ?_
    exact case_27 hG (nI (8 * i)) _ _ (sc_at (k := 1) hi hg (by decide)) (sc_at (k := 2) hi hg (by decide)) hP h
  by_cases k28 : v &&& 63 = 28
  · rw [cN_eq (c := 28) k28 (by decide)] at hP h
    refine r_tableIn (1969) 2009 dL_law__40 (by rw [k28]; decide) (by rw [k28]; decide) (by rw [k28]; rfl) (by decide) ?_
    exact case_28 hG (nI (8 * i)) _ (sc_at (k := 1) hi hg (by decide)) hP h
  by_cases k29 : v &&& 63 = 29
  · rw [cN_eq (c := 29) k29 (by decide)] at hP h
    refine r_tableIn (2025) 2065 dL_law__40 (by rw [k29]; decide) (by rw [k29]; decide) (by rw [k29]; rfl) (by decide) ?_
    exact case_29 hG (nI (8 * i)) _ (sc_at (k := 1) hi hg (by decide)) hP h
  by_cases k30 : v &&& 63 = 30
  · rw [cN_eq (c := 30) k30 (by decide)] at hP h
    refine r_tableIn (2081) 2121 dL_law__40 (by rw [k30]; decide) (by rw [k30]; decide) (by rw [k30]; rfl) (by decide) ?_
    exact case_30 hG (nI (8 * i)) _ _ (sc_at (k := 1) hi hg (by decide)) (sc_at (k := 2) hi hg (by decide)) hP h
  by_cases k31 : v &&& 63 = 31
  · rw [cN_eq (c := 31) k31 (by decide)] at hP h
    refine r_tableIn (2149) 2189 dL_law__40 (by rw [k31]; decide) (by rw [k31]; decide) (by rw [k31]; rfl) (by decide) ?_
    exact case_31 hG (nI (8 * i)) _ (sc_at (k := 1) hi hg (by decide)) hP h
  by_cases k32 : v &&& 63 = 32
  · rw [cN_eq (c := 32) k32 (by decide)] at hP h
    refine r_tableIn (2205) 2245 dL_law__40 (by rw [k32]; decide) (by rw [k32]; decide) (by rw [k32]; rfl) (by decide) ?_
    exact case_32 hG (nI (8 * i)) _ _ (sc_at (k := 1) hi hg (by decide)) (sc_at (k := 2) hi hg (by decide)) hP h
  by_cases k33 : v &&& 63 = 33
  · rw [cN_eq (c := 33) k33 (by decide)] at hP h
    refine r_tableIn (2273) 2313 dL_law__40 (by rw [k33]; decide) (by rw [k33]; decide) (by rw [k33]; rfl) (by decide) ?_
    exact case_33 hG (nI (8 * i)) _ (sc_at (k := 1) hi hg (by decide)) hP h
  by_cases k34 : v &&& 63 = 34
  · rw [cN_eq (c := 34) k34 (by decide)] at hP h
    refine r_tableIn (2329) 2369 dL_law__40 (by rw [k34]; decide) (by rw [k34]; decide) (by rw [k34]; rfl) (by decide) ?_
    exact case_34 hG (nI (8 * i)) _ _ (sc_at (k := 1) hi hg (by decide)) (sc_at (k := 2) hi hg (by decide)) hP h
  by_cases k35 : v &&& 63 = 35
  · rw [cN_eq (c := 35) k35 (by decide)] at hP h
    refine r_tableIn (2397) 2437 dL_law__40 (by rw [k35]; decide) (by rw [k35]; decide) (by rw [k35]; rfl) (by decide) ?_
    exact case_35 hG (nI (8 * i)) _ _ _ _ _ (sc_at (k := 1) hi hg (by decide)) (sc_at (k := 2) hi hg (by decide)) (sc_at (k := 3) hi hg (by decide)) (sc_at (k := 4) hi hg (by decide)) (sc_at (k := 5) hi hg (by decide)) hP h
  by_cases k36 : v &&& 63 = 36
  · rw [cN_eq (c := 36) k36 (by decide)] at hP h
    refine r_tableIn (2501) 2541 dL_law__40 (by rw [k36]; decide) (by rw [k36]; decide) (by rw [k36]; rfl) (by decide) ?_
    exact case_36 hG (nI (8 * i)) _ _ _ _ _ _ _ (sc_at (k := 1) hi hg (by decide)) (sc_at (k := 2) hi hg (by decide)) (sc_at (k := 3) hi hg (by decide)) (sc_at (k := 4) hi hg (by decide)) (sc_at (k := 5) hi hg (by decide)) (sc_at (k := 6) hi hg (by decide)) (sc_at (k := 7) hi hg (by decide)) hP h
  by_cases k37 : v &&& 63 = 37
  · rw [cN_eq (c := 37) k37 (by decide)] at hP h
    refine r_tableIn (2633) 2673 dL_law__40 (by rw [k37]; decide) (by rw [k37]; decide) (by rw [k37]; rfl) (by decide) ?_
    exact case_37 hG (nI (8 * i))   hP h
  by_cases k38 : v &&& 63 = 38
  · rw [cN_eq (c := 38) k38 (by decide)] at hP h
    refine r_tableIn (2646) 2686 dL_law__40 (by rw [k38]; decide) (by rw [k38]; decide) (by rw [k38]; rfl) (by decide) ?_
    exact case_38 hG (nI (8 * i))   hP h
  by_cases k39 : v &&& 63 = 39
  · rw [cN_eq (c := 39) k39 (by decide)] at hP h
    refine r_tableIn (2659) 2699 dL_law__40 (by rw [k39]; decide) (by rw [k39]; decide) (by rw [k39]; rfl) (by decide) ?_
    exact case_39 hG (nI (8 * i)) _ (sc_at (k := 1) hi hg (by decide)) hP h
  by_cases k40 : v &&& 63 = 40
  · rw [cN_eq (c := 40) k40 (by decide)] at hP h
    refine r_tableIn (2684) 2724 dL_law__40 (by rw [k40]; decide) (by rw [k40]; decide) (by rw [k40]; rfl) (by decide) ?_
    exact case_40 hG (nI (8 * i)) _ (sc_at (k := 1) hi hg (by decide)) hP h
  · have hn : ∀ c, c < 41 → cN v ≠ c := fun c hc q => by
      have e : v &&& 63 = nI c := by
        rw [← q]
        exact and63 v
      have hm : ∀ c, c < 41 → v &&& 63 ≠ nI c := by
        intro c hc
        match c, hc with
        | 0, _ => exact k0
        | 1, _ => exact k1
        | 2, _ => exact k2
        | 3, _ => exact k3
        | 4, _ => exact k4
        | 5, _ => exact k5
        | 6, _ => exact k6
        | 7, _ => exact k7
        | 8, _ => exact k8
        | 9, _ => exact k9
        | 10, _ => exact k10
        | 11, _ => exact k11
        | 12, _ => exact k12
        | 13, _ => exact k13
        | 14, _ => exact k14
        | 15, _ => exact k15
        | 16, _ => exact k16
        | 17, _ => exact k17
        | 18, _ => exact k18
        | 19, _ => exact k19
        | 20, _ => exact k20
        | 21, _ => exact k21
        | 22, _ => exact k22
        | 23, _ => exact k23
        | 24, _ => exact k24
        | 25, _ => exact k25
        | 26, _ => exact k26
        | 27, _ => exact k27
        | 28, _ => exact k28
        | 29, _ => exact k29
        | 30, _ => exact k30
        | 31, _ => exact k31
        | 32, _ => exact k32
        | 33, _ => exact k33
        | 34, _ => exact k34
        | 35, _ => exact k35
        | 36, _ => exact k36
        | 37, _ => exact k37
        | 38, _ => exact k38
        | 39, _ => exact k39
        | 40, _ => exact k40
      exact hm c hc e
    have hM : caseM (cN v) (rd (gx G) i) μ = μ := by
      have h41 : 41 ≤ cN v := Nat.le_of_not_lt fun q => hn _ q rfl
      generalize cN v = c at h41
      unfold caseM
      split <;> first | rfl | omega
    rw [hM] at h
    have ek0 := i32_ti k0
    have ek1 := i32_ti k1
    have ek2 := i32_ti k2
    have ek3 := i32_ti k3
    have ek4 := i32_ti k4
    have ek5 := i32_ti k5
    have ek6 := i32_ti k6
    have ek7 := i32_ti k7
    have ek8 := i32_ti k8
    have ek9 := i32_ti k9
    have ek10 := i32_ti k10
    have ek11 := i32_ti k11
    have ek12 := i32_ti k12
    have ek13 := i32_ti k13
    have ek14 := i32_ti k14
    have ek15 := i32_ti k15
    have ek16 := i32_ti k16
    have ek17 := i32_ti k17
    have ek18 := i32_ti k18
    have ek19 := i32_ti k19
    have ek20 := i32_ti k20
    have ek21 := i32_ti k21
    have ek22 := i32_ti k22
    have ek23 := i32_ti k23
    have ek24 := i32_ti k24
    have ek25 := i32_ti k25
    have ek26 := i32_ti k26
    have ek27 := i32_ti k27
    have ek28 := i32_ti k28
    have ek29 := i32_ti k29
    have ek30 := i32_ti k30
    have ek31 := i32_ti k31
    have ek32 := i32_ti k32
    have ek33 := i32_ti k33
    have ek34 := i32_ti k34
    have ek35 := i32_ti k35
    have ek36 := i32_ti k36
    have ek37 := i32_ti k37
    have ek38 := i32_ti k38
    have ek39 := i32_ti k39
    have ek40 := i32_ti k40
    refine r_tableOut 2749 dL_law__40 (by simp only [Int32.reduceToInt] at ek0 ek1 ek2 ek3 ek4 ek5 ek6 ek7 ek8 ek9 ek10 ek11 ek12 ek13 ek14 ek15 ek16 ek17 ek18 ek19 ek20 ek21 ek22 ek23 ek24 ek25 ek26 ek27 ek28 ek29 ek30 ek31 ek32 ek33 ek34 ek35 ek36 ek37 ek38 ek39 ek40; omega) (by decide) ?_
    refine r_weak (t' := t) (Nat.le_add_left _ _) (fun _ _ h => h) (fun _ _ h => h) ?_
    refine r_iinc ((nI (8 * i)) + 8) [(4, _), (0, _), (1, _), (2, _), (3, _)] dL_law__2749 4 rfl rfl (Nat.le_of_ble_eq_true rfl) rfl ?_
    refine r_goto 23 dL_law__2752 (by decide) ?_
    exact r_sub [1, 2, 3, 4, 0] rfl h
set_option maxRecDepth 20000 in
set_option maxHeartbeats 2000000 in
theorem law_loop {G : SG} (hG : GK 549 G) (hg : gs G ≤ 4096) (μ0 : Mem) {t : Nat} {Q : PQ} {X : PX} (h : ∀ j, j < gs G / 8 → caseP (cN (gx G (8 * j))) (rd (gx G) j) (runM (gx G) j μ0)) (hQ : Q (some (.int 1)) (runM (gx G) (gs G / 8) μ0)) : R G mL_law_ 23 [(0, .ref (gb G)), (1, .ref (ga G 0)), (2, .ref (ga G 57)), (3, .ref (ga G 548)), (4, .int 0)] [] μ0 (8 * (gs G / 8) + t) Q X := by
  have key := down_i (gs G / 8) (fun i => R G mL_law_ 23 [(0, .ref (gb G)), (1, .ref (ga G 0)), (2, .ref (ga G 57)), (3, .ref (ga G 548)), (4, .int (nI (8 * i)))] [] (runM (gx G) i μ0) (8 * (gs G / 8 - i) + t) Q X) ?_ (fun i hi hS => ?_)
  · exact key
  · refine r_iload dL_law__23 4 rfl ?_
    refine r_aload_n dL_law__25 0 rfl ?_
    refine r_slen dL_law__26 ?_
    refine r_bipush 8 dL_law__27 rfl ?_
    refine r_isub dL_law__29 ?_
    refine r_icmp_gt 2755 dL_law__30 (by decide) (fun _ => ?_) (fun c1 => absurd ?_ c1)
    · refine r_iconst 1 dL_law__2755 rfl ?_
      exact r_ireturn _ dL_law__2756 rfl rfl hQ
    · show nI (gs G) - 8 < nI (8 * (gs G / 8))
      rcases Nat.lt_or_ge (gs G) 8 with h8 | h8
      · have e : gs G / 8 = 0 := by omega
        rw [e]
        have hm : ∀ n, n < 8 → nI n - 8 < nI (8 * 0) := by decide
        exact hm _ h8
      · have e2 : nI (gs G) = nI (gs G - 8) + 8 := by
          show nI (gs G) = nI (gs G - 8) + nI 8
          rw [nI_add, Nat.sub_add_cancel (by omega)]
        have e : nI (gs G) - 8 = nI (gs G - 8) := by rw [e2]; grind
        rw [e]
        exact nI_lt (by omega) (by omega)
  · have e : 8 * (gs G / 8 - i) + t = 8 + (8 * (gs G / 8 - (i + 1)) + t) := by omega
    rw [e]
    exact law_round hG hg (by omega) (h i hi) hS
