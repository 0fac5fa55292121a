/-! the law's loop -/
/-- what a script's int says: which call -/
def cN (v : Int32) : Nat := ix (v &&& 63)
/-- the ints of call j -/
def rd (x : Nat → Int32) (j : Nat) : Nat → Int32 := fun k => x (8 * j + k)
def caseP (c : Nat) (a : Nat → Int32) (μ : Mem) : Prop := match c with
  | 0 => P_W_0 (a 1) (a 2) (a 3) (a 4) (a 5) μ
  | 1 => P_W_1 (a 1) μ
  | 2 => P_W_2 (a 1) μ
  | 3 => P_W_3 (a 1) μ
  | 4 => P_W_4 (a 1) μ
  | 5 => P_W_5  μ
  | 6 => P_W_6  μ
  | 7 => P_W_7 (a 1) μ
  | 8 => P_W_8 (a 1) (a 2) μ
  | 9 => P_W_9 (a 1) (a 2) μ
  | 10 => P_W_10 (a 1) μ
  | 11 => P_W_11 (a 1) (a 2) μ
  | 12 => P_W_12 (a 1) μ
  | 13 => P_W_13 (a 1) (a 2) (a 3) (a 4) (a 5) (a 6) μ
  | 14 => P_W_14 (a 1) (a 2) μ
  | 15 => P_W_15 (a 1) μ
  | 16 => P_W_16 (a 1) μ
  | 17 => P_W_17 (a 1) (a 2) (a 3) μ
  | 18 => P_W_18 (a 1) (a 2) μ
  | 19 => P_W_19 (a 1) (a 2) μ
  | 20 => P_W_20 (a 1) (a 2) (a 3) μ
  | 21 => P_W_21 (a 1) μ
  | 22 => P_W_22 (a 1) μ
  | 23 => P_W_23 (a 1) (a 2) (a 3) μ
  | 24 => P_W_24 (a 1) (a 2) (a 3) μ
  | 25 => P_W_25 (a 1) (a 2) (a 3) μ
  | 26 => P_W_26 (a 1) (a 2) (a 3) μ
  | 27 => P_W_27 (a 1) (a 2) μ
  | 28 => P_W_28 (a 1) μ
  | 29 => P_W_29 (a 1) μ
  | 30 => P_W_30 (a 1) (a 2) μ
  | 31 => P_W_31 (a 1) μ
  | 32 => P_W_32 (a 1) (a 2) μ
  | 33 => P_W_33 (a 1) μ
  | 34 => P_W_34 (a 1) (a 2) μ
  | 35 => P_W_35 (a 1) (a 2) (a 3) (a 4) (a 5) μ
  | 36 => P_W_36 (a 1) (a 2) (a 3) (a 4) (a 5) (a 6) (a 7) μ
  | 37 => P_W_37  μ
  | 38 => P_W_38  μ
  | 39 => P_W_39 (a 1) μ
  | 40 => P_W_40 (a 1) μ
  | _ => True
def caseM (c : Nat) (a : Nat → Int32) (μ : Mem) : Mem := match c with
  | 0 => M_W_0 (a 1) (a 2) (a 3) (a 4) (a 5) μ
  | 1 => M_W_1 (a 1) μ
  | 2 => M_W_2 (a 1) μ
  | 3 => M_W_3 (a 1) μ
  | 4 => M_W_4 (a 1) μ
  | 5 => M_W_5  μ
  | 6 => M_W_6  μ
  | 7 => M_W_7 (a 1) μ
  | 8 => M_W_8 (a 1) (a 2) μ
  | 9 => M_W_9 (a 1) (a 2) μ
  | 10 => M_W_10 (a 1) μ
  | 11 => M_W_11 (a 1) (a 2) μ
  | 12 => M_W_12 (a 1) μ
  | 13 => M_W_13 (a 1) (a 2) (a 3) (a 4) (a 5) (a 6) μ
  | 14 => M_W_14 (a 1) (a 2) μ
  | 15 => M_W_15 (a 1) μ
  | 16 => M_W_16 (a 1) μ
  | 17 => M_W_17 (a 1) (a 2) (a 3) μ
  | 18 => M_W_18 (a 1) (a 2) μ
  | 19 => M_W_19 (a 1) (a 2) μ
  | 20 => M_W_20 (a 1) (a 2) (a 3) μ
  | 21 => M_W_21 (a 1) μ
  | 22 => M_W_22 (a 1) μ
  | 23 => M_W_23 (a 1) (a 2) (a 3) μ
  | 24 => M_W_24 (a 1) (a 2) (a 3) μ
  | 25 => M_W_25 (a 1) (a 2) (a 3) μ
  | 26 => M_W_26 (a 1) (a 2) (a 3) μ
  | 27 => M_W_27 (a 1) (a 2) μ
  | 28 => M_W_28 (a 1) μ
  | 29 => M_W_29 (a 1) μ
  | 30 => M_W_30 (a 1) (a 2) μ
  | 31 => M_W_31 (a 1) μ
  | 32 => M_W_32 (a 1) (a 2) μ
  | 33 => M_W_33 (a 1) μ
  | 34 => M_W_34 (a 1) (a 2) μ
  | 35 => M_W_35 (a 1) (a 2) (a 3) (a 4) (a 5) μ
  | 36 => M_W_36 (a 1) (a 2) (a 3) (a 4) (a 5) (a 6) (a 7) μ
  | 37 => M_W_37  μ
  | 38 => M_W_38  μ
  | 39 => M_W_39 (a 1) μ
  | 40 => M_W_40 (a 1) μ
  | _ => μ
theorem caseM_hi {c : Nat} (h : 41 ≤ c) (a : Nat → Int32) (μ : Mem) : caseM c a μ = μ := by
  obtain ⟨d, rfl⟩ : ∃ d, c = d + 41 := ⟨c - 41, by omega⟩
  rfl
def runM (x : Nat → Int32) (j : Nat) (μ : Mem) : Mem := match j with
  | 0 => μ
  | j + 1 => caseM (cN (x (8 * j))) (rd x j) (runM x j μ)
theorem cN_eq {v : Int32} {c : Nat} (h : v &&& 63 = nI c) (hc : c < 64) : cN v = c := by
  unfold cN
  rw [h]
  exact nI_clamp (by omega)
theorem and63 (v : Int32) : v &&& 63 = nI (cN v) := by
  obtain ⟨j, hj, e⟩ := pk_andE v (m := 63) 6 (by decide)
  unfold cN
  rw [e]
  exact (congrArg nI (nI_clamp (show j < 2 ^ 31 by omega))).symm
theorem sc_at {G : SG} {i k : Nat} (hi : 8 * i + 8 ≤ gs G) (hg : gs G ≤ 4096) (hk : k < 8) : vp_in (nI (8 * i) + nI k) (gs G) ∧ gx G (ix (nI (8 * i) + nI k)) = rd (gx G) i k := by
  rw [nI_add]
  have e : ix (nI (8 * i + k)) = 8 * i + k := nI_clamp (by omega)
  refine ⟨vp_of (nI_pos' (by omega)) (by rw [e]; omega), ?_⟩
  rw [e]
  rfl
set_option maxRecDepth 20000 in
set_option maxHeartbeats 2000000 in
theorem law_round {G : SG} (hG : GK 549 G) (hg : gs G ≤ 4096) {i : Nat} (hi : 8 * i + 8 ≤ gs G) {μ : Mem} {t : Nat} {Q : PQ} {X : PX} (hP : caseP (cN (gx G (8 * i))) (rd (gx G) i) μ) (h : R G mL_law_ 23 [(0, .ref (gb G)), (1, .ref (ga G 0)), (2, .ref (ga G 57)), (3, .ref (ga G 548)), (4, .int (nI (8 * (i + 1))))] [] (caseM (cN (gx G (8 * i))) (rd (gx G) i) μ) t Q X) : R G mL_law_ 23 [(0, .ref (gb G)), (1, .ref (ga G 0)), (2, .ref (ga G 57)), (3, .ref (ga G 548)), (4, .int (nI (8 * i)))] [] μ (8 + t) Q X := by
  have e8 : nI (8 * (i + 1)) = nI (8 * i) + 8 := (nI_add (8 * i) 8).symm
  rw [e8] at h
  have h0 : vp_in (nI (8 * i)) (gs G) ∧ gx G (ix (nI (8 * i))) = gx G (8 * i) := by
    have e : ix (nI (8 * i)) = 8 * i := nI_clamp (by omega)
    exact ⟨vp_of (nI_pos' (by omega)) (by rw [e]; omega), by rw [e]⟩
  have hlt : ¬ Int32.ofNat (gs G) - 8 < nI (8 * i) := by
    have e : Int32.ofNat (gs G) - 8 = nI (gs G - 8) := by
      have e2 : Int32.ofNat (gs G) = nI (gs G - 8) + 8 := by
        show nI (gs G) = nI (gs G - 8) + nI 8
        rw [nI_add, Nat.sub_add_cancel (by omega)]
      rw [e2]
      grind
    rw [e]
    exact nI_nlt (by omega) (by omega)
  refine r_iload dL_law__23 4 rfl ?_
  refine r_aload_n dL_law__25 0 rfl ?_
  refine r_slen dL_law__26 ?_
  refine r_bipush 8 dL_law__27 rfl ?_
  refine r_isub dL_law__29 ?_
  refine r_icmp_gt 2755 dL_law__30 (by decide) (fun c1 => absurd c1 hlt) (fun _ => ?_)
  refine r_aload_n dL_law__33 0 rfl ?_
  refine r_iload dL_law__34 4 rfl ?_
  refine r_sldA h0 dL_law__36 ?_
  refine r_bipush 63 dL_law__37 rfl ?_
  refine r_iand dL_law__39 ?_
  generalize hv : gx G (8 * i) = v at hP h
  clear h0 hlt e8
  obtain ⟨j, hj, ej⟩ := pk_andE v (m := 63) 6 (by decide)
  have ecn : cN v = j := by
    unfold cN
    rw [ej]
    exact nI_clamp (by omega)
  rw [ecn] at hP h
  rw [ej]
  clear ecn ej hv
  by_cases k0 : j = 0
  · subst k0
    refine r_tableIn (180) 220 dL_law__40 (by decide) (by decide) rfl (by decide) ?_
    exact case_0 hG (nI (8 * i)) _ _ _ _ _ (sc_at (k := 1) hi hg (by decide)) (sc_at (k := 2) hi hg (by decide)) (sc_at (k := 3) hi hg (by decide)) (sc_at (k := 4) hi hg (by decide)) (sc_at (k := 5) hi hg (by decide)) hP h
  by_cases k1 : j = 1
  · subst k1
    refine r_tableIn (253) 293 dL_law__40 (by decide) (by decide) rfl (by decide) ?_
    exact case_1 hG (nI (8 * i)) _ (sc_at (k := 1) hi hg (by decide)) hP h
  by_cases k2 : j = 2
  · subst k2
    refine r_tableIn (309) 349 dL_law__40 (by decide) (by decide) rfl (by decide) ?_
    exact case_2 hG (nI (8 * i)) _ (sc_at (k := 1) hi hg (by decide)) hP h
  by_cases k3 : j = 3
  · subst k3
    refine r_tableIn (365) 405 dL_law__40 (by decide) (by decide) rfl (by decide) ?_
    exact case_3 hG (nI (8 * i)) _ (sc_at (k := 1) hi hg (by decide)) hP h
  by_cases k4 : j = 4
  · subst k4
    refine r_tableIn (421) 461 dL_law__40 (by decide) (by decide) rfl (by decide) ?_
    exact case_4 hG (nI (8 * i)) _ (sc_at (k := 1) hi hg (by decide)) hP h
  by_cases k5 : j = 5
  · subst k5
    refine r_tableIn (477) 517 dL_law__40 (by decide) (by decide) rfl (by decide) ?_
    exact case_5 hG (nI (8 * i))   hP h
  by_cases k6 : j = 6
  · subst k6
    refine r_tableIn (490) 530 dL_law__40 (by decide) (by decide) rfl (by decide) ?_
    exact case_6 hG (nI (8 * i))   hP h
  by_cases k7 : j = 7
  · subst k7
    refine r_tableIn (503) 543 dL_law__40 (by decide) (by decide) rfl (by decide) ?_
    exact case_7 hG (nI (8 * i)) _ (sc_at (k := 1) hi hg (by decide)) hP h
  by_cases k8 : j = 8
  · subst k8
    refine r_tableIn (559) 599 dL_law__40 (by decide) (by decide) rfl (by decide) ?_
    exact case_8 hG (nI (8 * i)) _ _ (sc_at (k := 1) hi hg (by decide)) (sc_at (k := 2) hi hg (by decide)) hP h
  by_cases k9 : j = 9
  · subst k9
    refine r_tableIn (627) 667 dL_law__40 (by decide) (by decide) rfl (by decide) ?_
    exact case_9 hG (nI (8 * i)) _ _ (sc_at (k := 1) hi hg (by decide)) (sc_at (k := 2) hi hg (by decide)) hP h
  by_cases k10 : j = 10
  · subst k10
    refine r_tableIn (695) 735 dL_law__40 (by decide) (by decide) rfl (by decide) ?_
    exact case_10 hG (nI (8 * i)) _ (sc_at (k := 1) hi hg (by decide)) hP h
  by_cases k11 : j = 11
  · subst k11
    refine r_tableIn (751) 791 dL_law__40 (by decide) (by decide) rfl (by decide) ?_
    exact case_11 hG (nI (8 * i)) _ _ (sc_at (k := 1) hi hg (by decide)) (sc_at (k := 2) hi hg (by decide)) hP h
  by_cases k12 : j = 12
  · subst k12
    refine r_tableIn (819) 859 dL_law__40 (by decide) (by decide) rfl (by decide) ?_
    exact case_12 hG (nI (8 * i)) _ (sc_at (k := 1) hi hg (by decide)) hP h
  by_cases k13 : j = 13
  · subst k13
    refine r_tableIn (875) 915 dL_law__40 (by decide) (by decide) rfl (by decide) ?_
    exact case_13 hG (nI (8 * i)) _ _ _ _ _ _ (sc_at (k := 1) hi hg (by decide)) (sc_at (k := 2) hi hg (by decide)) (sc_at (k := 3) hi hg (by decide)) (sc_at (k := 4) hi hg (by decide)) (sc_at (k := 5) hi hg (by decide)) (sc_at (k := 6) hi hg (by decide)) hP h
  by_cases k14 : j = 14
  · subst k14
    refine r_tableIn (993) 1033 dL_law__40 (by decide) (by decide) rfl (by decide) ?_
    exact case_14 hG (nI (8 * i)) _ _ (sc_at (k := 1) hi hg (by decide)) (sc_at (k := 2) hi hg (by decide)) hP h
  by_cases k15 : j = 15
  · subst k15
    refine r_tableIn (1061) 1101 dL_law__40 (by decide) (by decide) rfl (by decide) ?_
    exact case_15 hG (nI (8 * i)) _ (sc_at (k := 1) hi hg (by decide)) hP h
  by_cases k16 : j = 16
  · subst k16
    refine r_tableIn (1117) 1157 dL_law__40 (by decide) (by decide) rfl (by decide) ?_
    exact case_16 hG (nI (8 * i)) _ (sc_at (k := 1) hi hg (by decide)) hP h
  by_cases k17 : j = 17
  · subst k17
    refine r_tableIn (1173) 1213 dL_law__40 (by decide) (by decide) rfl (by decide) ?_
    exact case_17 hG (nI (8 * i)) _ _ _ (sc_at (k := 1) hi hg (by decide)) (sc_at (k := 2) hi hg (by decide)) (sc_at (k := 3) hi hg (by decide)) hP h
  by_cases k18 : j = 18
  · subst k18
    refine r_tableIn (1253) 1293 dL_law__40 (by decide) (by decide) rfl (by decide) ?_
    exact case_18 hG (nI (8 * i)) _ _ (sc_at (k := 1) hi hg (by decide)) (sc_at (k := 2) hi hg (by decide)) hP h
  by_cases k19 : j = 19
  · subst k19
    refine r_tableIn (1321) 1361 dL_law__40 (by decide) (by decide) rfl (by decide) ?_
    exact case_19 hG (nI (8 * i)) _ _ (sc_at (k := 1) hi hg (by decide)) (sc_at (k := 2) hi hg (by decide)) hP h
  by_cases k20 : j = 20
  · subst k20
    refine r_tableIn (1389) 1429 dL_law__40 (by decide) (by decide) rfl (by decide) ?_
    exact case_20 hG (nI (8 * i)) _ _ _ (sc_at (k := 1) hi hg (by decide)) (sc_at (k := 2) hi hg (by decide)) (sc_at (k := 3) hi hg (by decide)) hP h
  by_cases k21 : j = 21
  · subst k21
    refine r_tableIn (1469) 1509 dL_law__40 (by decide) (by decide) rfl (by decide) ?_
    exact case_21 hG (nI (8 * i)) _ (sc_at (k := 1) hi hg (by decide)) hP h
  by_cases k22 : j = 22
  · subst k22
    refine r_tableIn (1525) 1565 dL_law__40 (by decide) (by decide) rfl (by decide) ?_
    exact case_22 hG (nI (8 * i)) _ (sc_at (k := 1) hi hg (by decide)) hP h
  by_cases k23 : j = 23
  · subst k23
    refine r_tableIn (1581) 1621 dL_law__40 (by decide) (by decide) rfl (by decide) ?_
    exact case_23 hG (nI (8 * i)) _ _ _ (sc_at (k := 1) hi hg (by decide)) (sc_at (k := 2) hi hg (by decide)) (sc_at (k := 3) hi hg (by decide)) hP h
  by_cases k24 : j = 24
  · subst k24
    refine r_tableIn (1661) 1701 dL_law__40 (by decide) (by decide) rfl (by decide) ?_
    exact case_24 hG (nI (8 * i)) _ _ _ (sc_at (k := 1) hi hg (by decide)) (sc_at (k := 2) hi hg (by decide)) (sc_at (k := 3) hi hg (by decide)) hP h
  by_cases k25 : j = 25
  · subst k25
    refine r_tableIn (1741) 1781 dL_law__40 (by decide) (by decide) rfl (by decide) ?_
    exact case_25 hG (nI (8 * i)) _ _ _ (sc_at (k := 1) hi hg (by decide)) (sc_at (k := 2) hi hg (by decide)) (sc_at (k := 3) hi hg (by decide)) hP h
  by_cases k26 : j = 26
  · subst k26
    refine r_tableIn (1821) 1861 dL_law__40 (by decide) (by decide) rfl (by decide) ?_
    exact case_26 hG (nI (8 * i)) _ _ _ (sc_at (k := 1) hi hg (by decide)) (sc_at (k := 2) hi hg (by decide)) (sc_at (k := 3) hi hg (by decide)) hP h
  by_cases k27 : j = 27
  · subst k27
    refine r_tableIn (1901) 1941 dL_law__40 (by decide) (by decide) rfl (by decide) ?_
    exact case_27 hG (nI (8 * i)) _ _ (sc_at (k := 1) hi hg (by decide)) (sc_at (k := 2) hi hg (by decide)) hP h
  by_cases k28 : j = 28
  · subst k28
    refine r_tableIn (1969) 2009 dL_law__40 (by decide) (by decide) rfl (by decide) ?_
    exact case_28 hG (nI (8 * i)) _ (sc_at (k := 1) hi hg (by decide)) hP h
  by_cases k29 : j = 29
  · subst k29
    refine r_tableIn (2025) 2065 dL_law__40 (by decide) (by decide) rfl (by decide) ?_
    exact case_29 hG (nI (8 * i)) _ (sc_at (k := 1) hi hg (by decide)) hP h
  by_cases k30 : j = 30
  · subst k30
    refine r_tableIn (2081) 2121 dL_law__40 (by decide) (by decide) rfl (by decide) ?_
    exact case_30 hG (nI (8 * i)) _ _ (sc_at (k := 1) hi hg (by decide)) (sc_at (k := 2) hi hg (by decide)) hP h
  by_cases k31 : j = 31
  · subst k31
    refine r_tableIn (2149) 2189 dL_law__40 (by decide) (by decide) rfl (by decide) ?_
    exact case_31 hG (nI (8 * i)) _ (sc_at (k := 1) hi hg (by decide)) hP h
  by_cases k32 : j = 32
  · subst k32
    refine r_tableIn (2205) 2245 dL_law__40 (by decide) (by decide) rfl (by decide) ?_
    exact case_32 hG (nI (8 * i)) _ _ (sc_at (k := 1) hi hg (by decide)) (sc_at (k := 2) hi hg (by decide)) hP h
  by_cases k33 : j = 33
  · subst k33
    refine r_tableIn (2273) 2313 dL_law__40 (by decide) (by decide) rfl (by decide) ?_
    exact case_33 hG (nI (8 * i)) _ (sc_at (k := 1) hi hg (by decide)) hP h
  by_cases k34 : j = 34
  · subst k34
    refine r_tableIn (2329) 2369 dL_law__40 (by decide) (by decide) rfl (by decide) ?_
    exact case_34 hG (nI (8 * i)) _ _ (sc_at (k := 1) hi hg (by decide)) (sc_at (k := 2) hi hg (by decide)) hP h
  by_cases k35 : j = 35
  · subst k35
    refine r_tableIn (2397) 2437 dL_law__40 (by decide) (by decide) rfl (by decide) ?_
    exact case_35 hG (nI (8 * i)) _ _ _ _ _ (sc_at (k := 1) hi hg (by decide)) (sc_at (k := 2) hi hg (by decide)) (sc_at (k := 3) hi hg (by decide)) (sc_at (k := 4) hi hg (by decide)) (sc_at (k := 5) hi hg (by decide)) hP h
  by_cases k36 : j = 36
  · subst k36
    refine r_tableIn (2501) 2541 dL_law__40 (by decide) (by decide) rfl (by decide) ?_
    exact case_36 hG (nI (8 * i)) _ _ _ _ _ _ _ (sc_at (k := 1) hi hg (by decide)) (sc_at (k := 2) hi hg (by decide)) (sc_at (k := 3) hi hg (by decide)) (sc_at (k := 4) hi hg (by decide)) (sc_at (k := 5) hi hg (by decide)) (sc_at (k := 6) hi hg (by decide)) (sc_at (k := 7) hi hg (by decide)) hP h
  by_cases k37 : j = 37
  · subst k37
    refine r_tableIn (2633) 2673 dL_law__40 (by decide) (by decide) rfl (by decide) ?_
    exact case_37 hG (nI (8 * i))   hP h
  by_cases k38 : j = 38
  · subst k38
    refine r_tableIn (2646) 2686 dL_law__40 (by decide) (by decide) rfl (by decide) ?_
    exact case_38 hG (nI (8 * i))   hP h
  by_cases k39 : j = 39
  · subst k39
    refine r_tableIn (2659) 2699 dL_law__40 (by decide) (by decide) rfl (by decide) ?_
    exact case_39 hG (nI (8 * i)) _ (sc_at (k := 1) hi hg (by decide)) hP h
  by_cases k40 : j = 40
  · subst k40
    refine r_tableIn (2684) 2724 dL_law__40 (by decide) (by decide) rfl (by decide) ?_
    exact case_40 hG (nI (8 * i)) _ (sc_at (k := 1) hi hg (by decide)) hP h
  · have g0 := Nat.zero_le j
    have g1 := Nat.lt_of_le_of_ne g0 (Ne.symm k0)
    have g2 := Nat.lt_of_le_of_ne g1 (Ne.symm k1)
    have g3 := Nat.lt_of_le_of_ne g2 (Ne.symm k2)
    have g4 := Nat.lt_of_le_of_ne g3 (Ne.symm k3)
    have g5 := Nat.lt_of_le_of_ne g4 (Ne.symm k4)
    have g6 := Nat.lt_of_le_of_ne g5 (Ne.symm k5)
    have g7 := Nat.lt_of_le_of_ne g6 (Ne.symm k6)
    have g8 := Nat.lt_of_le_of_ne g7 (Ne.symm k7)
    have g9 := Nat.lt_of_le_of_ne g8 (Ne.symm k8)
    have g10 := Nat.lt_of_le_of_ne g9 (Ne.symm k9)
    have g11 := Nat.lt_of_le_of_ne g10 (Ne.symm k10)
    have g12 := Nat.lt_of_le_of_ne g11 (Ne.symm k11)
    have g13 := Nat.lt_of_le_of_ne g12 (Ne.symm k12)
    have g14 := Nat.lt_of_le_of_ne g13 (Ne.symm k13)
    have g15 := Nat.lt_of_le_of_ne g14 (Ne.symm k14)
    have g16 := Nat.lt_of_le_of_ne g15 (Ne.symm k15)
    have g17 := Nat.lt_of_le_of_ne g16 (Ne.symm k16)
    have g18 := Nat.lt_of_le_of_ne g17 (Ne.symm k17)
    have g19 := Nat.lt_of_le_of_ne g18 (Ne.symm k18)
    have g20 := Nat.lt_of_le_of_ne g19 (Ne.symm k19)
    have g21 := Nat.lt_of_le_of_ne g20 (Ne.symm k20)
    have g22 := Nat.lt_of_le_of_ne g21 (Ne.symm k21)
    have g23 := Nat.lt_of_le_of_ne g22 (Ne.symm k22)
    have g24 := Nat.lt_of_le_of_ne g23 (Ne.symm k23)
    have g25 := Nat.lt_of_le_of_ne g24 (Ne.symm k24)
    have g26 := Nat.lt_of_le_of_ne g25 (Ne.symm k25)
    have g27 := Nat.lt_of_le_of_ne g26 (Ne.symm k26)
    have g28 := Nat.lt_of_le_of_ne g27 (Ne.symm k27)
    have g29 := Nat.lt_of_le_of_ne g28 (Ne.symm k28)
    have g30 := Nat.lt_of_le_of_ne g29 (Ne.symm k29)
    have g31 := Nat.lt_of_le_of_ne g30 (Ne.symm k30)
    have g32 := Nat.lt_of_le_of_ne g31 (Ne.symm k31)
    have g33 := Nat.lt_of_le_of_ne g32 (Ne.symm k32)
    have g34 := Nat.lt_of_le_of_ne g33 (Ne.symm k33)
    have g35 := Nat.lt_of_le_of_ne g34 (Ne.symm k34)
    have g36 := Nat.lt_of_le_of_ne g35 (Ne.symm k35)
    have g37 := Nat.lt_of_le_of_ne g36 (Ne.symm k36)
    have g38 := Nat.lt_of_le_of_ne g37 (Ne.symm k37)
    have g39 := Nat.lt_of_le_of_ne g38 (Ne.symm k38)
    have g40 := Nat.lt_of_le_of_ne g39 (Ne.symm k39)
    have g41 := Nat.lt_of_le_of_ne g40 (Ne.symm k40)
    have hM : caseM j (rd (gx G) i) μ = μ := caseM_hi g41 _ _
    rw [hM] at h
    refine r_tableOut 2749 dL_law__40 (Or.inr (by rw [nI_toInt (by omega)]; omega)) (by decide) ?_
    refine r_weak (t' := t) (Nat.le_add_left _ _) (fun _ _ h => h) (fun _ _ h => h) ?_
    refine r_iinc ((nI (8 * i)) + 8) [(4, _), (0, _), (1, _), (2, _), (3, _)] dL_law__2749 4 rfl rfl (Nat.le_of_ble_eq_true rfl) rfl ?_
    refine r_goto 23 dL_law__2752 (by decide) ?_
    exact r_sub [1, 2, 3, 4, 0] rfl h
set_option maxRecDepth 20000 in
set_option maxHeartbeats 2000000 in
theorem law_loop {G : SG} (hG : GK 549 G) (hg : gs G ≤ 4096) (μ0 : Mem) {t : Nat} {Q : PQ} {X : PX} (h : ∀ j, j < gs G / 8 → caseP (cN (gx G (8 * j))) (rd (gx G) j) (runM (gx G) j μ0)) (hQ : Q (some (.int 1)) (runM (gx G) (gs G / 8) μ0)) : R G mL_law_ 23 [(0, .ref (gb G)), (1, .ref (ga G 0)), (2, .ref (ga G 57)), (3, .ref (ga G 548)), (4, .int 0)] [] μ0 (8 * (gs G / 8) + t) Q X := by
  have key := down_i (gs G / 8) (fun i => R G mL_law_ 23 [(0, .ref (gb G)), (1, .ref (ga G 0)), (2, .ref (ga G 57)), (3, .ref (ga G 548)), (4, .int (nI (8 * i)))] [] (runM (gx G) i μ0) (8 * (gs G / 8 - i) + t) Q X) ?_ (fun i hi hS => ?_)
  · exact key
  · refine r_iload dL_law__23 4 rfl ?_
    refine r_aload_n dL_law__25 0 rfl ?_
    refine r_slen dL_law__26 ?_
    refine r_bipush 8 dL_law__27 rfl ?_
    refine r_isub dL_law__29 ?_
    refine r_icmp_gt 2755 dL_law__30 (by decide) (fun _ => ?_) (fun c1 => absurd c1 ?_)
    · refine r_iconst 1 dL_law__2755 rfl ?_
      exact r_ireturn _ dL_law__2756 rfl rfl hQ
    · refine Int32.not_le.mpr ?_
      show nI (gs G) - 8 < nI (8 * (gs G / 8))
      rcases Nat.lt_or_ge (gs G) 8 with h8 | h8
      · have e : gs G / 8 = 0 := by omega
        rw [e]
        have hm : ∀ n, n < 8 → nI n - 8 < nI (8 * 0) := by decide
        exact hm _ h8
      · have e2 : nI (gs G) = nI (gs G - 8) + 8 := by
          show nI (gs G) = nI (gs G - 8) + nI 8
          rw [nI_add, Nat.sub_add_cancel (by omega)]
        have e : nI (gs G) - 8 = nI (gs G - 8) := by rw [e2]; grind
        rw [e]
        exact nI_lt (by omega) (by omega)
  · have e : 8 * (gs G / 8 - i) + t = 8 + (8 * (gs G / 8 - (i + 1)) + t) := by omega
    rw [e]
    exact law_round hG hg (by omega) (h i hi) hS
