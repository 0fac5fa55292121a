/-! rows on the shape, by program -/
theorem vpI (n : Nat) {x : Int32} (h0 : 0 ≤ x) (h1 : x < nI n) (hn : n < 4000) : vp_in x n := by
  refine vp_of h0 ?_
  have e0 := Int32.le_iff_toInt_le.mp h0
  have e1 := Int32.lt_iff_toInt_lt.mp h1
  rw [nI_toInt (by omega)] at e1
  rw [Int32.toInt_zero] at e0
  unfold ix Int32.toNatClampNeg
  omega
theorem shp_all : ∀ h, h < 549 → (shp h).2.1 < 4000 := by decide +kernel
theorem shp_lt {h a n k : Nat} (hs : shp h = (a, n, k)) : n < 4000 := by
  by_cases hh : h < 549
  · have := shp_all h hh
    rw [hs] at this
    exact this
  · have h1 : shp h = (9, 0, 0) := by
      unfold shp
      rw [List.getD_eq_getElem?_getD, List.getElem?_eq_none (Nat.le_trans (by decide +kernel) (Nat.le_of_not_lt hh))]
      rfl
    rw [hs] at h1
    cases h1
    omega
theorem ltR {n k i m : Nat} {G : SG} (h : i < n) (hk : k + n ≤ m) (g : GK m G) : k + i < gh G := g.lt (by omega)
theorem sh0 : shp 0 = (0, 8, 0) := by decide +kernel
theorem fs0_0 : (fsh 0)[0]? = some (some 1) := rfl
theorem fs0_1 : (fsh 0)[1]? = some (some 3) := rfl
theorem fs0_2 : (fsh 0)[2]? = some (some 12) := rfl
theorem fs0_3 : (fsh 0)[3]? = some (some 21) := rfl
theorem fs0_4 : (fsh 0)[4]? = some (some 26) := rfl
theorem fs0_5 : (fsh 0)[5]? = some (some 31) := rfl
theorem fs0_6 : (fsh 0)[6]? = some (some 37) := rfl
theorem fs0_7 : (fsh 0)[7]? = some (some 40) := rfl
theorem fs0_8 : (fsh 0)[8]? = some (some 43) := rfl
theorem fs0_9 : (fsh 0)[9]? = some (some 48) := rfl
theorem fs0_10 : (fsh 0)[10]? = some (some 51) := rfl
theorem fs0_11 : (fsh 0)[11]? = some none := rfl
theorem fs0_12 : (fsh 0)[12]? = some none := rfl
theorem fs0_13 : (fsh 0)[13]? = some none := rfl
theorem sh1 : shp 1 = (0, 7, 0) := by decide +kernel
theorem fs1_0 : (fsh 1)[0]? = some (some 2) := rfl
theorem fs1_1 : (fsh 1)[1]? = some none := rfl
theorem fs1_2 : (fsh 1)[2]? = some none := rfl
theorem fs1_3 : (fsh 1)[3]? = some none := rfl
theorem fs1_4 : (fsh 1)[4]? = some none := rfl
theorem fs1_5 : (fsh 1)[5]? = some none := rfl
theorem fs1_6 : (fsh 1)[6]? = some none := rfl
theorem fs1_7 : (fsh 1)[7]? = some none := rfl
theorem sh2 : shp 2 = (1, 600, 0) := by decide +kernel
theorem sh3 : shp 3 = (0, 6, 0) := by decide +kernel
theorem fs3_0 : (fsh 3)[0]? = some (some 4) := rfl
theorem fs3_1 : (fsh 3)[1]? = some (some 5) := rfl
theorem fs3_2 : (fsh 3)[2]? = some (some 6) := rfl
theorem fs3_3 : (fsh 3)[3]? = some (some 7) := rfl
theorem fs3_4 : (fsh 3)[4]? = some (some 8) := rfl
theorem fs3_5 : (fsh 3)[5]? = some (some 9) := rfl
theorem fs3_6 : (fsh 3)[6]? = some (some 10) := rfl
theorem fs3_7 : (fsh 3)[7]? = some (some 11) := rfl
theorem fs3_8 : (fsh 3)[8]? = some none := rfl
theorem fs3_9 : (fsh 3)[9]? = some none := rfl
theorem fs3_10 : (fsh 3)[10]? = some none := rfl
theorem fs3_11 : (fsh 3)[11]? = some none := rfl
theorem fs3_12 : (fsh 3)[12]? = some none := rfl
theorem fs3_13 : (fsh 3)[13]? = some none := rfl
theorem sh4 : shp 4 = (1, 6, 0) := by decide +kernel
theorem sh5 : shp 5 = (1, 10, 0) := by decide +kernel
theorem sh6 : shp 6 = (1, 10, 0) := by decide +kernel
theorem sh7 : shp 7 = (1, 10, 0) := by decide +kernel
theorem sh8 : shp 8 = (1, 10, 0) := by decide +kernel
theorem sh9 : shp 9 = (1, 12, 0) := by decide +kernel
theorem sh10 : shp 10 = (1, 6, 0) := by decide +kernel
theorem sh11 : shp 11 = (1, 6, 0) := by decide +kernel
theorem sh12 : shp 12 = (0, 6, 0) := by decide +kernel
theorem fs12_0 : (fsh 12)[0]? = some (some 13) := rfl
theorem fs12_1 : (fsh 12)[1]? = some (some 14) := rfl
theorem fs12_2 : (fsh 12)[2]? = some (some 15) := rfl
theorem fs12_3 : (fsh 12)[3]? = some (some 16) := rfl
theorem fs12_4 : (fsh 12)[4]? = some (some 17) := rfl
theorem fs12_5 : (fsh 12)[5]? = some (some 18) := rfl
theorem fs12_6 : (fsh 12)[6]? = some (some 19) := rfl
theorem fs12_7 : (fsh 12)[7]? = some (some 20) := rfl
theorem fs12_8 : (fsh 12)[8]? = some none := rfl
theorem fs12_9 : (fsh 12)[9]? = some none := rfl
theorem fs12_10 : (fsh 12)[10]? = some none := rfl
theorem fs12_11 : (fsh 12)[11]? = some none := rfl
theorem fs12_12 : (fsh 12)[12]? = some none := rfl
theorem fs12_13 : (fsh 12)[13]? = some none := rfl
theorem sh13 : shp 13 = (1, 6, 0) := by decide +kernel
theorem sh14 : shp 14 = (1, 10, 0) := by decide +kernel
theorem sh15 : shp 15 = (1, 10, 0) := by decide +kernel
theorem sh16 : shp 16 = (1, 10, 0) := by decide +kernel
theorem sh17 : shp 17 = (1, 10, 0) := by decide +kernel
theorem sh18 : shp 18 = (1, 12, 0) := by decide +kernel
theorem sh19 : shp 19 = (1, 6, 0) := by decide +kernel
theorem sh20 : shp 20 = (1, 6, 0) := by decide +kernel
theorem sh21 : shp 21 = (0, 1, 0) := by decide +kernel
theorem fs21_0 : (fsh 21)[0]? = some (some 22) := rfl
theorem fs21_1 : (fsh 21)[1]? = some (some 23) := rfl
theorem fs21_2 : (fsh 21)[2]? = some (some 24) := rfl
theorem fs21_3 : (fsh 21)[3]? = some (some 25) := rfl
theorem fs21_4 : (fsh 21)[4]? = some none := rfl
theorem sh22 : shp 22 = (1, 150, 0) := by decide +kernel
theorem sh23 : shp 23 = (1, 150, 0) := by decide +kernel
theorem sh24 : shp 24 = (1, 7, 0) := by decide +kernel
theorem sh25 : shp 25 = (1, 150, 0) := by decide +kernel
theorem sh26 : shp 26 = (0, 1, 0) := by decide +kernel
theorem fs26_0 : (fsh 26)[0]? = some (some 27) := rfl
theorem fs26_1 : (fsh 26)[1]? = some (some 28) := rfl
theorem fs26_2 : (fsh 26)[2]? = some (some 29) := rfl
theorem fs26_3 : (fsh 26)[3]? = some (some 30) := rfl
theorem fs26_4 : (fsh 26)[4]? = some none := rfl
theorem sh27 : shp 27 = (1, 150, 0) := by decide +kernel
theorem sh28 : shp 28 = (1, 150, 0) := by decide +kernel
theorem sh29 : shp 29 = (1, 7, 0) := by decide +kernel
theorem sh30 : shp 30 = (1, 150, 0) := by decide +kernel
theorem sh31 : shp 31 = (0, 5, 0) := by decide +kernel
theorem fs31_0 : (fsh 31)[0]? = some (some 32) := rfl
theorem fs31_1 : (fsh 31)[1]? = some (some 33) := rfl
theorem fs31_2 : (fsh 31)[2]? = some (some 34) := rfl
theorem fs31_3 : (fsh 31)[3]? = some (some 35) := rfl
theorem fs31_4 : (fsh 31)[4]? = some (some 36) := rfl
theorem fs31_5 : (fsh 31)[5]? = some none := rfl
theorem fs31_6 : (fsh 31)[6]? = some none := rfl
theorem fs31_7 : (fsh 31)[7]? = some none := rfl
theorem sh32 : shp 32 = (1, 150, 0) := by decide +kernel
theorem sh33 : shp 33 = (1, 150, 0) := by decide +kernel
theorem sh34 : shp 34 = (1, 150, 0) := by decide +kernel
theorem sh35 : shp 35 = (1, 6, 0) := by decide +kernel
theorem sh36 : shp 36 = (1, 6, 0) := by decide +kernel
theorem sh37 : shp 37 = (0, 2, 0) := by decide +kernel
theorem fs37_0 : (fsh 37)[0]? = some (some 38) := rfl
theorem fs37_1 : (fsh 37)[1]? = some (some 39) := rfl
theorem fs37_2 : (fsh 37)[2]? = some none := rfl
theorem sh38 : shp 38 = (1, 6, 0) := by decide +kernel
theorem sh39 : shp 39 = (1, 61, 0) := by decide +kernel
theorem sh40 : shp 40 = (0, 2, 0) := by decide +kernel
theorem fs40_0 : (fsh 40)[0]? = some (some 41) := rfl
theorem fs40_1 : (fsh 40)[1]? = some (some 42) := rfl
theorem fs40_2 : (fsh 40)[2]? = some none := rfl
theorem sh41 : shp 41 = (1, 6, 0) := by decide +kernel
theorem sh42 : shp 42 = (1, 61, 0) := by decide +kernel
theorem sh43 : shp 43 = (0, 4, 0) := by decide +kernel
theorem fs43_0 : (fsh 43)[0]? = some (some 44) := rfl
theorem fs43_1 : (fsh 43)[1]? = some (some 45) := rfl
theorem fs43_2 : (fsh 43)[2]? = some (some 46) := rfl
theorem fs43_3 : (fsh 43)[3]? = some (some 47) := rfl
theorem sh44 : shp 44 = (1, 69, 0) := by decide +kernel
theorem sh45 : shp 45 = (1, 6, 0) := by decide +kernel
theorem sh46 : shp 46 = (1, 6, 0) := by decide +kernel
theorem sh47 : shp 47 = (1, 6, 0) := by decide +kernel
theorem sh48 : shp 48 = (0, 3, 0) := by decide +kernel
theorem fs48_0 : (fsh 48)[0]? = some (some 49) := rfl
theorem fs48_1 : (fsh 48)[1]? = some (some 50) := rfl
theorem fs48_2 : (fsh 48)[2]? = some none := rfl
theorem fs48_3 : (fsh 48)[3]? = some none := rfl
theorem sh49 : shp 49 = (1, 1104, 0) := by decide +kernel
theorem sh50 : shp 50 = (1, 3522, 0) := by decide +kernel
theorem sh51 : shp 51 = (0, 0, 0) := by decide +kernel
theorem fs51_0 : (fsh 51)[0]? = some (some 3) := rfl
theorem fs51_1 : (fsh 51)[1]? = some (some 21) := rfl
theorem fs51_2 : (fsh 51)[2]? = some (some 43) := rfl
theorem fs51_3 : (fsh 51)[3]? = some (some 52) := rfl
theorem sh52 : shp 52 = (0, 4, 0) := by decide +kernel
theorem fs52_0 : (fsh 52)[0]? = some (some 53) := rfl
theorem fs52_1 : (fsh 52)[1]? = some (some 54) := rfl
theorem fs52_2 : (fsh 52)[2]? = some (some 55) := rfl
theorem fs52_3 : (fsh 52)[3]? = some (some 56) := rfl
theorem sh53 : shp 53 = (1, 69, 0) := by decide +kernel
theorem sh54 : shp 54 = (1, 6, 0) := by decide +kernel
theorem sh55 : shp 55 = (1, 6, 0) := by decide +kernel
theorem sh56 : shp 56 = (1, 6, 0) := by decide +kernel
theorem sh57 : shp 57 = (0, 9, 0) := by decide +kernel
theorem fs57_0 : (fsh 57)[0]? = some none := rfl
theorem fs57_1 : (fsh 57)[1]? = some none := rfl
theorem fs57_2 : (fsh 57)[2]? = some none := rfl
theorem fs57_3 : (fsh 57)[3]? = some none := rfl
theorem fs57_4 : (fsh 57)[4]? = some none := rfl
theorem fs57_5 : (fsh 57)[5]? = some none := rfl
theorem fs57_6 : (fsh 57)[6]? = some none := rfl
theorem fs57_7 : (fsh 57)[7]? = some none := rfl
theorem fs57_8 : (fsh 57)[8]? = some none := rfl
theorem fs57_9 : (fsh 57)[9]? = some (some 58) := rfl
theorem fs57_10 : (fsh 57)[10]? = some (some 59) := rfl
theorem fs57_11 : (fsh 57)[11]? = some (some 60) := rfl
theorem fs57_12 : (fsh 57)[12]? = some (some 61) := rfl
theorem fs57_13 : (fsh 57)[13]? = some (some 62) := rfl
theorem fs57_14 : (fsh 57)[14]? = some (some 63) := rfl
theorem fs57_15 : (fsh 57)[15]? = some (some 64) := rfl
theorem fs57_16 : (fsh 57)[16]? = some (some 65) := rfl
theorem fs57_17 : (fsh 57)[17]? = some (some 66) := rfl
theorem fs57_18 : (fsh 57)[18]? = some (some 77) := rfl
theorem fs57_19 : (fsh 57)[19]? = some (some 88) := rfl
theorem fs57_20 : (fsh 57)[20]? = some (some 95) := rfl
theorem fs57_21 : (fsh 57)[21]? = some none := rfl
theorem fs57_22 : (fsh 57)[22]? = some none := rfl
theorem fs57_23 : (fsh 57)[23]? = some (some 102) := rfl
theorem fs57_24 : (fsh 57)[24]? = some (some 263) := rfl
theorem fs57_25 : (fsh 57)[25]? = some (some 424) := rfl
theorem fs57_26 : (fsh 57)[26]? = some (some 431) := rfl
theorem fs57_27 : (fsh 57)[27]? = some (some 438) := rfl
theorem fs57_28 : (fsh 57)[28]? = some (some 439) := rfl
theorem fs57_29 : (fsh 57)[29]? = some (some 440) := rfl
theorem fs57_30 : (fsh 57)[30]? = some none := rfl
theorem fs57_31 : (fsh 57)[31]? = some (some 521) := rfl
theorem fs57_32 : (fsh 57)[32]? = some (some 522) := rfl
theorem fs57_33 : (fsh 57)[33]? = some (some 523) := rfl
theorem fs57_34 : (fsh 57)[34]? = some (some 524) := rfl
theorem fs57_35 : (fsh 57)[35]? = some (some 525) := rfl
theorem fs57_36 : (fsh 57)[36]? = some (some 526) := rfl
theorem fs57_37 : (fsh 57)[37]? = some (some 543) := rfl
theorem fs57_38 : (fsh 57)[38]? = some none := rfl
theorem fs57_39 : (fsh 57)[39]? = some none := rfl
theorem fs57_40 : (fsh 57)[40]? = some none := rfl
theorem fs57_41 : (fsh 57)[41]? = some none := rfl
theorem fs57_42 : (fsh 57)[42]? = some none := rfl
theorem fs57_43 : (fsh 57)[43]? = some none := rfl
theorem fs57_44 : (fsh 57)[44]? = some none := rfl
theorem fs57_45 : (fsh 57)[45]? = some none := rfl
theorem fs57_46 : (fsh 57)[46]? = some none := rfl
theorem fs57_47 : (fsh 57)[47]? = some (some 547) := rfl
theorem fs57_48 : (fsh 57)[48]? = some none := rfl
theorem fs57_49 : (fsh 57)[49]? = some none := rfl
theorem sh58 : shp 58 = (1, 600, 0) := by decide +kernel
theorem sh59 : shp 59 = (1, 2, 0) := by decide +kernel
theorem sh60 : shp 60 = (1, 6, 0) := by decide +kernel
theorem sh61 : shp 61 = (1, 6, 0) := by decide +kernel
theorem sh62 : shp 62 = (1, 6, 0) := by decide +kernel
theorem sh63 : shp 63 = (1, 6, 0) := by decide +kernel
theorem sh64 : shp 64 = (1, 12, 0) := by decide +kernel
theorem sh65 : shp 65 = (1, 12, 0) := by decide +kernel
theorem sh66 : shp 66 = (2, 10, 67) := by decide +kernel
theorem shr66 : ∀ i, i < 10 → shp (67 + i) = (1, 4, 0) := by decide +kernel
theorem sh77 : shp 77 = (2, 10, 78) := by decide +kernel
theorem shr77 : ∀ i, i < 10 → shp (78 + i) = (1, 4, 0) := by decide +kernel
theorem sh88 : shp 88 = (2, 6, 89) := by decide +kernel
theorem shr88 : ∀ i, i < 6 → shp (89 + i) = (1, 2, 0) := by decide +kernel
theorem sh95 : shp 95 = (2, 6, 96) := by decide +kernel
theorem shr95 : ∀ i, i < 6 → shp (96 + i) = (1, 2, 0) := by decide +kernel
theorem sh102 : shp 102 = (2, 160, 103) := by decide +kernel
theorem shr102 : ∀ i, i < 160 → shp (103 + i) = (1, 2, 0) := by decide +kernel
theorem sh263 : shp 263 = (2, 160, 264) := by decide +kernel
theorem shr263 : ∀ i, i < 160 → shp (264 + i) = (1, 2, 0) := by decide +kernel
theorem sh424 : shp 424 = (2, 6, 425) := by decide +kernel
theorem shr424 : ∀ i, i < 6 → shp (425 + i) = (1, 2, 0) := by decide +kernel
theorem sh431 : shp 431 = (2, 6, 432) := by decide +kernel
theorem shr431 : ∀ i, i < 6 → shp (432 + i) = (1, 2, 0) := by decide +kernel
theorem sh438 : shp 438 = (1, 160, 0) := by decide +kernel
theorem sh439 : shp 439 = (1, 7, 0) := by decide +kernel
theorem sh440 : shp 440 = (2, 80, 441) := by decide +kernel
theorem shr440 : ∀ i, i < 80 → shp (441 + i) = (1, 3, 0) := by decide +kernel
theorem sh521 : shp 521 = (1, 63, 0) := by decide +kernel
theorem sh522 : shp 522 = (1, 63, 0) := by decide +kernel
theorem sh523 : shp 523 = (1, 6, 0) := by decide +kernel
theorem sh524 : shp 524 = (1, 6, 0) := by decide +kernel
theorem sh525 : shp 525 = (1, 6, 0) := by decide +kernel
theorem sh526 : shp 526 = (2, 16, 527) := by decide +kernel
theorem shr526 : ∀ i, i < 16 → shp (527 + i) = (1, 63, 0) := by decide +kernel
theorem sh543 : shp 543 = (2, 3, 544) := by decide +kernel
theorem shr543 : ∀ i, i < 3 → shp (544 + i) = (1, 1072, 0) := by decide +kernel
theorem sh547 : shp 547 = (1, 61, 0) := by decide +kernel
theorem sh548 : shp 548 = (3, 1, 0) := by decide +kernel
def IsSt (th : Nat) : Prop := th = 43 ∨ th = 52
theorem IsSt.of43 : IsSt 43 := Or.inl rfl
theorem IsSt.of52 : IsSt 52 := Or.inr rfl
theorem IsSt.sh {th : Nat} (h : IsSt th) : shp th = (0, 4, 0) := by rcases h with rfl | rfl <;> decide +kernel
theorem IsSt.lt {th n : Nat} {G : SG} (h : IsSt th) (g : GK (n + 57) G) : th < gh G := by rcases h with rfl | rfl <;> exact g.lt (by omega)
theorem IsSt.f0 {th : Nat} (h : IsSt th) : (fsh th)[0]? = some (some (th + 1)) := by rcases h with rfl | rfl <;> rfl
theorem IsSt.s0 {th : Nat} (h : IsSt th) : shp (th + 1) = (1, 69, 0) := by rcases h with rfl | rfl <;> decide +kernel
theorem IsSt.lt0 {th n : Nat} {G : SG} (h : IsSt th) (g : GK (n + 57) G) : th + 1 < gh G := by rcases h with rfl | rfl <;> exact g.lt (by omega)
theorem IsSt.f1 {th : Nat} (h : IsSt th) : (fsh th)[1]? = some (some (th + 2)) := by rcases h with rfl | rfl <;> rfl
theorem IsSt.s1 {th : Nat} (h : IsSt th) : shp (th + 2) = (1, 6, 0) := by rcases h with rfl | rfl <;> decide +kernel
theorem IsSt.lt1 {th n : Nat} {G : SG} (h : IsSt th) (g : GK (n + 57) G) : th + 2 < gh G := by rcases h with rfl | rfl <;> exact g.lt (by omega)
theorem IsSt.f2 {th : Nat} (h : IsSt th) : (fsh th)[2]? = some (some (th + 3)) := by rcases h with rfl | rfl <;> rfl
theorem IsSt.s2 {th : Nat} (h : IsSt th) : shp (th + 3) = (1, 6, 0) := by rcases h with rfl | rfl <;> decide +kernel
theorem IsSt.lt2 {th n : Nat} {G : SG} (h : IsSt th) (g : GK (n + 57) G) : th + 3 < gh G := by rcases h with rfl | rfl <;> exact g.lt (by omega)
theorem IsSt.f3 {th : Nat} (h : IsSt th) : (fsh th)[3]? = some (some (th + 4)) := by rcases h with rfl | rfl <;> rfl
theorem IsSt.s3 {th : Nat} (h : IsSt th) : shp (th + 4) = (1, 6, 0) := by rcases h with rfl | rfl <;> decide +kernel
theorem IsSt.lt3 {th n : Nat} {G : SG} (h : IsSt th) (g : GK (n + 57) G) : th + 4 < gh G := by rcases h with rfl | rfl <;> exact g.lt (by omega)
def IsLw (th : Nat) : Prop := th = 21 ∨ th = 26
theorem IsLw.of21 : IsLw 21 := Or.inl rfl
theorem IsLw.of26 : IsLw 26 := Or.inr rfl
theorem IsLw.sh {th : Nat} (h : IsLw th) : shp th = (0, 1, 0) := by rcases h with rfl | rfl <;> decide +kernel
theorem IsLw.lt {th n : Nat} {G : SG} (h : IsLw th) (g : GK (n + 57) G) : th < gh G := by rcases h with rfl | rfl <;> exact g.lt (by omega)
theorem IsLw.f0 {th : Nat} (h : IsLw th) : (fsh th)[0]? = some (some (th + 1)) := by rcases h with rfl | rfl <;> rfl
theorem IsLw.s0 {th : Nat} (h : IsLw th) : shp (th + 1) = (1, 150, 0) := by rcases h with rfl | rfl <;> decide +kernel
theorem IsLw.lt0 {th n : Nat} {G : SG} (h : IsLw th) (g : GK (n + 57) G) : th + 1 < gh G := by rcases h with rfl | rfl <;> exact g.lt (by omega)
theorem IsLw.f1 {th : Nat} (h : IsLw th) : (fsh th)[1]? = some (some (th + 2)) := by rcases h with rfl | rfl <;> rfl
theorem IsLw.s1 {th : Nat} (h : IsLw th) : shp (th + 2) = (1, 150, 0) := by rcases h with rfl | rfl <;> decide +kernel
theorem IsLw.lt1 {th n : Nat} {G : SG} (h : IsLw th) (g : GK (n + 57) G) : th + 2 < gh G := by rcases h with rfl | rfl <;> exact g.lt (by omega)
theorem IsLw.f2 {th : Nat} (h : IsLw th) : (fsh th)[2]? = some (some (th + 3)) := by rcases h with rfl | rfl <;> rfl
theorem IsLw.s2 {th : Nat} (h : IsLw th) : shp (th + 3) = (1, 7, 0) := by rcases h with rfl | rfl <;> decide +kernel
theorem IsLw.lt2 {th n : Nat} {G : SG} (h : IsLw th) (g : GK (n + 57) G) : th + 3 < gh G := by rcases h with rfl | rfl <;> exact g.lt (by omega)
theorem IsLw.f3 {th : Nat} (h : IsLw th) : (fsh th)[3]? = some (some (th + 4)) := by rcases h with rfl | rfl <;> rfl
theorem IsLw.s3 {th : Nat} (h : IsLw th) : shp (th + 4) = (1, 150, 0) := by rcases h with rfl | rfl <;> decide +kernel
theorem IsLw.lt3 {th n : Nat} {G : SG} (h : IsLw th) (g : GK (n + 57) G) : th + 4 < gh G := by rcases h with rfl | rfl <;> exact g.lt (by omega)
theorem IsLw.f4 {th : Nat} (h : IsLw th) : (fsh th)[4]? = some none := by rcases h with rfl | rfl <;> rfl
def IsMk (th : Nat) : Prop := th = 37 ∨ th = 40
theorem IsMk.of37 : IsMk 37 := Or.inl rfl
theorem IsMk.of40 : IsMk 40 := Or.inr rfl
theorem IsMk.sh {th : Nat} (h : IsMk th) : shp th = (0, 2, 0) := by rcases h with rfl | rfl <;> decide +kernel
theorem IsMk.lt {th n : Nat} {G : SG} (h : IsMk th) (g : GK (n + 57) G) : th < gh G := by rcases h with rfl | rfl <;> exact g.lt (by omega)
theorem IsMk.f0 {th : Nat} (h : IsMk th) : (fsh th)[0]? = some (some (th + 1)) := by rcases h with rfl | rfl <;> rfl
theorem IsMk.s0 {th : Nat} (h : IsMk th) : shp (th + 1) = (1, 6, 0) := by rcases h with rfl | rfl <;> decide +kernel
theorem IsMk.lt0 {th n : Nat} {G : SG} (h : IsMk th) (g : GK (n + 57) G) : th + 1 < gh G := by rcases h with rfl | rfl <;> exact g.lt (by omega)
theorem IsMk.f1 {th : Nat} (h : IsMk th) : (fsh th)[1]? = some (some (th + 2)) := by rcases h with rfl | rfl <;> rfl
theorem IsMk.s1 {th : Nat} (h : IsMk th) : shp (th + 2) = (1, 61, 0) := by rcases h with rfl | rfl <;> decide +kernel
theorem IsMk.lt1 {th n : Nat} {G : SG} (h : IsMk th) (g : GK (n + 57) G) : th + 2 < gh G := by rcases h with rfl | rfl <;> exact g.lt (by omega)
theorem IsMk.f2 {th : Nat} (h : IsMk th) : (fsh th)[2]? = some none := by rcases h with rfl | rfl <;> rfl
