/-! THE START: what lies below, by program -/
abbrev gv_L : List Cond := flatC (Jvm.Cond.and given_1 narrow_1)
def tm_L : List (String × Nat) := [("TideLodger", 365), ("TideLodger$Street", 80), ("TideLodger$Street", 93), ("TideLodger$Street", 98), ("TideLodger$Street", 103), ("TideLodger$Street", 108), ("TideLodger$Street", 113), ("TideLodger$Law", 92), ("TideLodger$Law", 98), ("TideLodger$Law", 100), ("TideLodger$Law", 104), ("TideLodger$Law", 110), ("TideLodger$Law", 112), ("TideLodger$Steps", 99), ("TideLodger$Steps", 105), ("TideLodger$Steps", 107), ("TideLodger$Steps", 109), ("TideLodger$Steps", 111), ("TideLodger$Steps", 115), ("TideLodger", 358)]
def tm_S (i : Nat) : Term := .string (tm_L.getD i ("", 0)).1 (tm_L.getD i ("", 0)).2
def ps_ex : List Nat := [33, 65, 75, 86, 97, 109, 122, 136, 152, 168, 202, 263, 286, 309, 333, 359, 384, 412, 468, 499]
def ps_co : List Nat := [34, 66, 76, 87, 98, 110, 123, 137, 153, 169, 203, 264, 287, 310, 334, 360, 385, 413, 469, 500]
def ps_ar : List Nat := [35, 67, 77, 88, 99, 111, 124, 138, 154, 170, 204, 265, 288, 311, 335, 361, 386, 414, 470, 501]
def ps_le : List Nat := [36, 68, 78, 89, 100, 112, 125, 139, 155, 171, 205, 266, 289, 312, 336, 362, 387, 415, 471, 502]
def ps_el : List (List Nat) := [[37, 38, 39, 40, 41, 42, 43, 44, 45, 46, 47, 48, 49, 50, 51, 52, 53, 54, 55, 56, 57, 58, 59, 60, 61, 62, 63, 64], [69, 70, 71, 72, 73], [79, 80, 81, 82, 83], [90, 91, 92, 93], [101, 102, 103, 104], [113, 114, 115, 116], [126, 127, 128, 129], [140, 141, 142, 143, 144], [156, 157, 158, 159], [172, 173, 174], [206, 207, 208, 209], [267, 268, 269, 270, 271], [290, 291, 292, 293], [313, 314, 315, 316], [337, 338, 339, 340, 341], [363, 364, 365], [388, 389, 390, 391, 392], [416, 417, 418], [472, 473, 474, 475, 476], [503, 504, 505, 506, 507, 508, 509, 510, 511, 512, 513, 514, 515, 516, 517, 518, 519, 520, 521, 522]]
def ps_ne : List (List Nat) := [[0, 74, 84, 94, 105, 117, 130, 145, 160, 175, 210, 272, 294, 317, 342, 366, 393, 419, 477, 523], [0, 0, 85, 95, 106, 118, 131, 146, 161, 176, 211, 273, 295, 318, 343, 367, 394, 420, 478, 524], [0, 0, 0, 96, 107, 119, 132, 147, 162, 177, 212, 274, 296, 319, 344, 368, 395, 421, 479, 525], [0, 0, 0, 0, 108, 120, 133, 148, 163, 178, 213, 275, 297, 320, 345, 369, 396, 422, 480, 526], [0, 0, 0, 0, 0, 121, 134, 149, 164, 179, 214, 276, 298, 321, 346, 370, 397, 423, 481, 527], [0, 0, 0, 0, 0, 0, 135, 150, 165, 180, 215, 277, 299, 322, 347, 371, 398, 424, 482, 528], [0, 0, 0, 0, 0, 0, 0, 151, 166, 181, 216, 278, 300, 323, 348, 372, 399, 425, 483, 529], [0, 0, 0, 0, 0, 0, 0, 0, 167, 182, 217, 279, 301, 324, 349, 373, 400, 426, 484, 530], [0, 0, 0, 0, 0, 0, 0, 0, 0, 183, 218, 280, 302, 325, 350, 374, 401, 427, 485, 531], [0, 0, 0, 0, 0, 0, 0, 0, 0, 0, 219, 281, 303, 326, 351, 375, 402, 428, 486, 532], [0, 0, 0, 0, 0, 0, 0, 0, 0, 0, 0, 283, 305, 328, 353, 377, 404, 430, 488, 534], [0, 0, 0, 0, 0, 0, 0, 0, 0, 0, 0, 0, 308, 331, 356, 380, 407, 433, 491, 537], [0, 0, 0, 0, 0, 0, 0, 0, 0, 0, 0, 0, 0, 332, 357, 381, 408, 434, 492, 538], [0, 0, 0, 0, 0, 0, 0, 0, 0, 0, 0, 0, 0, 0, 358, 382, 409, 435, 493, 539], [0, 0, 0, 0, 0, 0, 0, 0, 0, 0, 0, 0, 0, 0, 0, 383, 410, 436, 494, 540], [0, 0, 0, 0, 0, 0, 0, 0, 0, 0, 0, 0, 0, 0, 0, 0, 411, 437, 495, 541], [0, 0, 0, 0, 0, 0, 0, 0, 0, 0, 0, 0, 0, 0, 0, 0, 0, 438, 496, 542], [0, 0, 0, 0, 0, 0, 0, 0, 0, 0, 0, 0, 0, 0, 0, 0, 0, 0, 497, 543], [0, 0, 0, 0, 0, 0, 0, 0, 0, 0, 0, 0, 0, 0, 0, 0, 0, 0, 0, 545], [0, 0, 0, 0, 0, 0, 0, 0, 0, 0, 0, 0, 0, 0, 0, 0, 0, 0, 0, 0]]
theorem gv_ex : ∀ i, i < 20 → gv_L[ps_ex.getD i 0]? = some (.exactly (tm_S i) "java/lang/String") := by decide +kernel
theorem gv_co : ∀ i, i < 20 → gv_L[ps_co.getD i 0]? = some (.eq (.field (tm_S i) "java/lang/String" "coder" "B") (.int 0)) := by decide +kernel
theorem gv_ar : ∀ i, i < 20 → gv_L[ps_ar.getD i 0]? = some (.arrayOf (.field (tm_S i) "java/lang/String" "value" "[B") .byte) := by decide +kernel
theorem gv_le : ∀ i, i < 20 → gv_L[ps_le.getD i 0]? = some (.eq (.length (.field (tm_S i) "java/lang/String" "value" "[B")) (.int (Int32.ofNat (strLen.getD i 0)))) := by decide +kernel
theorem gv_el : ∀ i, i < 20 → ∀ j, j < strLen.getD i 0 → gv_L[(ps_el.getD i []).getD j 0]? = some (.eq (.elem (.field (tm_S i) "java/lang/String" "value" "[B") (.int (Int32.ofNat j))) (.int ((strByt.getD i []).getD j 0))) := by decide +kernel
theorem gv_ne : ∀ i, i < 20 → ∀ j, j < 20 → i < j → gv_L[(ps_ne.getD i []).getD j 0]? = some (.not (.eq (tm_S i) (tm_S j))) := by decide +kernel
theorem vkS_as {N : Nat} {len : List Nat} {byt : List (List Int32)} {ad ad' av av' : Nat → Nat} {A : Nat → Prop} {U : State} {H : Heap} (h1 : ∀ i, i < N → ad' i = ad i) (h2 : ∀ i, i < N → av' i = av i) (h : vk_S N len byt ad av A U H) : vk_S N len byt ad' av' A U H := by
  refine ⟨fun i hi => ?_, fun i j hi hj e => h.2 i j hi hj ?_⟩
  · rw [h1 i hi, h2 i hi]
    exact h.1 i hi
  · rw [← h1 i hi, ← h1 j hj]
    exact e
section ENVS
variable {args : Array Value} {s : State}
theorem st_str (hs : ∀ w ∈ gv_L, w.before args s = true) (hA : ∀ a : Nat, a < s.heap.size → ¬ (fun q => s.heap.size ≤ q) a) : ∃ adK adV : Nat → Nat, vk_S nStr strLen strByt adK adV (fun q => s.heap.size ≤ q) s s.heap ∧ ∀ i : Nat, i < 20 → (tm_S i).eval args s none [] s = some (.ref (adK i)) := by
  refine vk_Sof (tm := tm_S) (by decide +kernel) (fun i hi => hs _ (List.mem_of_getElem? (gv_ex i hi))) (fun i hi => hs _ (List.mem_of_getElem? (gv_co i hi))) (fun i hi => hs _ (List.mem_of_getElem? (gv_ar i hi))) (fun i hi => hs _ (List.mem_of_getElem? (gv_le i hi))) (fun i hi j hj => hs _ (List.mem_of_getElem? (gv_el i hi j hj))) (fun i j hi hj hij => ?_) hA
  rcases Nat.lt_or_gt_of_ne hij with h | h
  · exact Or.inl (hs _ (List.mem_of_getElem? (gv_ne i hi j hj h)))
  · exact Or.inr (hs _ (List.mem_of_getElem? (gv_ne j hj i hi h)))
theorem st_ref (hts : ∀ w ∈ lw_tbl, w.before args s = true) (hs : ∀ w ∈ gv_L, w.before args s = true) {ad : Nat → Nat} (hk : ∀ i : Nat, i < 20 → (tm_S i).eval args s none [] s = some (.ref (ad i))) : ∀ q ∈ strL, vk_R q.1 q.2.1 q.2.2.1 (ad q.2.2.2) s := by
  intro q hq
  simp only [strL, List.mem_cons, List.not_mem_nil, or_false] at hq
  rcases hq with rfl | rfl | rfl | rfl | rfl | rfl | rfl | rfl | rfl | rfl | rfl | rfl | rfl | rfl | rfl | rfl | rfl | rfl | rfl | rfl | rfl | rfl | rfl | rfl
  · exact vk_R.of (hts _ (ch2 _ (List.mem_of_getElem? (i := 236) (by decide +kernel)))) (hk 0 (by decide))
  · exact vk_R.of (hts _ (ch3 _ (List.mem_of_getElem? (i := 56) (by decide +kernel)))) (hk 1 (by decide))
  · exact vk_R.of (hts _ (ch3 _ (List.mem_of_getElem? (i := 131) (by decide +kernel)))) (hk 2 (by decide))
  · exact vk_R.of (hts _ (ch3 _ (List.mem_of_getElem? (i := 136) (by decide +kernel)))) (hk 3 (by decide))
  · exact vk_R.of (hts _ (ch3 _ (List.mem_of_getElem? (i := 141) (by decide +kernel)))) (hk 4 (by decide))
  · exact vk_R.of (hts _ (ch3 _ (List.mem_of_getElem? (i := 146) (by decide +kernel)))) (hk 5 (by decide))
  · exact vk_R.of (hts _ (ch3 _ (List.mem_of_getElem? (i := 151) (by decide +kernel)))) (hk 6 (by decide))
  · exact vk_R.of (hts _ (ch3 _ (List.mem_of_getElem? (i := 208) (by decide +kernel)))) (hk 7 (by decide))
  · exact vk_R.of (hts _ (ch3 _ (List.mem_of_getElem? (i := 210) (by decide +kernel)))) (hk 8 (by decide))
  · exact vk_R.of (hts _ (ch3 _ (List.mem_of_getElem? (i := 211) (by decide +kernel)))) (hk 9 (by decide))
  · exact vk_R.of (hts _ (ch3 _ (List.mem_of_getElem? (i := 212) (by decide +kernel)))) (va_eqR (hs (.eq (.string "TideLodger$Street" 98) (.string "TideLodger$Law" 102)) (List.mem_of_getElem? (i := 195) (by decide +kernel))) (hk 3 (by decide)))
  · exact vk_R.of (hts _ (ch3 _ (List.mem_of_getElem? (i := 213) (by decide +kernel)))) (hk 10 (by decide))
  · exact vk_R.of (hts _ (ch3 _ (List.mem_of_getElem? (i := 214) (by decide +kernel)))) (va_eqR (hs (.eq (.string "TideLodger$Street" 108) (.string "TideLodger$Law" 106)) (List.mem_of_getElem? (i := 234) (by decide +kernel))) (hk 5 (by decide)))
  · exact vk_R.of (hts _ (ch3 _ (List.mem_of_getElem? (i := 215) (by decide +kernel)))) (va_eqR (hs (.eq (.string "TideLodger$Street" 80) (.string "TideLodger$Law" 108)) (List.mem_of_getElem? (i := 251) (by decide +kernel))) (hk 1 (by decide)))
  · exact vk_R.of (hts _ (ch3 _ (List.mem_of_getElem? (i := 216) (by decide +kernel)))) (hk 11 (by decide))
  · exact vk_R.of (hts _ (ch3 _ (List.mem_of_getElem? (i := 217) (by decide +kernel)))) (hk 12 (by decide))
  · exact vk_R.of (hts _ (ch4 _ (List.mem_of_getElem? (i := 27) (by decide +kernel)))) (hk 13 (by decide))
  · exact vk_R.of (hts _ (ch4 _ (List.mem_of_getElem? (i := 29) (by decide +kernel)))) (hk 14 (by decide))
  · exact vk_R.of (hts _ (ch4 _ (List.mem_of_getElem? (i := 30) (by decide +kernel)))) (hk 15 (by decide))
  · exact vk_R.of (hts _ (ch4 _ (List.mem_of_getElem? (i := 31) (by decide +kernel)))) (hk 16 (by decide))
  · exact vk_R.of (hts _ (ch4 _ (List.mem_of_getElem? (i := 32) (by decide +kernel)))) (hk 17 (by decide))
  · exact vk_R.of (hts _ (ch4 _ (List.mem_of_getElem? (i := 33) (by decide +kernel)))) (va_eqR (hs (.eq (.string "TideLodger$Street" 98) (.string "TideLodger$Steps" 113)) (List.mem_of_getElem? (i := 450) (by decide +kernel))) (hk 3 (by decide)))
  · exact vk_R.of (hts _ (ch4 _ (List.mem_of_getElem? (i := 34) (by decide +kernel)))) (hk 18 (by decide))
  · exact vk_R.of (hts _ (ch4 _ (List.mem_of_getElem? (i := 198) (by decide +kernel)))) (hk 19 (by decide))
theorem st_env (hts : ∀ w ∈ lw_tbl, w.before args s = true) (hs : ∀ w ∈ gv_L, w.before args s = true) {G : SG} (hN : gN G = s.heap.size) (hX : va_X (gb G) (gs G) (gx G) s s.heap) (hb : gb G < s.heap.size) {ad av : Nat → Nat} (hS : vk_S nStr strLen strByt ad av (fun q => s.heap.size ≤ q) s s.heap) (hk : ∀ i : Nat, i < 20 → (tm_S i).eval args s none [] s = some (.ref (ad i))) (h1 : ∀ i, i < 20 → ga G (1000 + i) = ad i) (h2 : ∀ i, i < 20 → ga G (2000 + i) = av i) : ENV G s s.heap := by
  have hA : ∀ a : Nat, a < s.heap.size → ¬ (fun q => s.heap.size ≤ q) a := fun a h => Nat.not_le.mpr h
  unfold ENV
  rw [hN]
  refine ⟨fun q hq => ?_, vkS_as h1 h2 hS, ?_, ?_, ?_, hX, hb, Nat.le_refl _, fun w hw => va_Nw.of (nst_ot hw) (hts w (List.mem_filter.mp hw).1), ?_, ?_⟩
  · have h20 : q.2.2.2 < 20 := by
      have key : ∀ q ∈ strL, q.2.2.2 < 20 := by decide +kernel
      exact key q hq
    rw [h1 _ h20]
    exact st_ref hts hs hk q hq
  · exact vx_Zqof (hts _ (ch2 _ (List.mem_of_getElem? (i := 223) (by decide +kernel)))) (hts _ (ch1 _ (List.mem_of_getElem? (i := 12) (by decide +kernel)))) (hs _ (List.mem_of_getElem? (i := 4) (by decide +kernel))) hA
  · exact vx_Zqof (hts _ (ch2 _ (List.mem_of_getElem? (i := 225) (by decide +kernel)))) (hts _ (ch1 _ (List.mem_of_getElem? (i := 12) (by decide +kernel)))) (hs _ (List.mem_of_getElem? (i := 5) (by decide +kernel))) hA
  · exact va_Zof (hts _ (ch3 _ (List.mem_of_getElem? (i := 70) (by decide +kernel)))) (hts _ (ch1 _ (List.mem_of_getElem? (i := 16) (by decide +kernel)))) (va_eqt (hs _ (List.mem_of_getElem? (i := 6) (by decide +kernel)))) hA
  · exact va_Nc.of (hs _ (List.mem_of_getElem? (i := 32) (by decide +kernel)))
  · exact va_Zqof (hts _ (ch3 _ (List.mem_of_getElem? (i := 86) (by decide +kernel)))) (hts _ (ch1 _ (List.mem_of_getElem? (i := 18) (by decide +kernel)))) (hs _ (List.mem_of_getElem? (i := 7) (by decide +kernel))) hA
theorem st_cls (hts : ∀ w ∈ lw_tbl, w.before args s = true) : ∃ (dC : Nat → ClassId) (dI : Nat → Nat → Nat), ∀ (c : Nat) (q : vw_C), CLX[c]? = some q → u_Kn s q.1 q.2.1 q.2.2 (dC c) (dI c) := by
  obtain ⟨c0, i0, h0⟩ := u_known (C := RX0) (T := TX0) (N := 4) (n := 4) hts (fun w hw => (List.mem_filter.mp (inc_X0 w hw)).1) (hts _ (ch2 _ (List.mem_of_getElem? (i := 17) (by decide +kernel))))
  obtain ⟨c1, i1, h1⟩ := u_known (C := RX1) (T := TX1) (N := 5) (n := 5) hts (fun w hw => (List.mem_filter.mp (inc_X1 w hw)).1) (hts _ (ch1 _ (List.mem_of_getElem? (i := 144) (by decide +kernel))))
  obtain ⟨c2, i2, h2⟩ := u_known (C := RX2) (T := TX2) (N := 3) (n := 3) hts (fun w hw => (List.mem_filter.mp (inc_X2 w hw)).1) (hts _ (ch1 _ (List.mem_of_getElem? (i := 198) (by decide +kernel))))
  obtain ⟨c3, i3, h3⟩ := u_known (C := RX4) (T := TX4) (N := 4) (n := 4) hts (fun w hw => (List.mem_filter.mp (inc_X4 w hw)).1) (hts _ (ch1 _ (List.mem_of_getElem? (i := 236) (by decide +kernel))))
  obtain ⟨c4, i4, h4⟩ := u_known (C := RX5) (T := TX5) (N := 4) (n := 4) hts (fun w hw => (List.mem_filter.mp (inc_X5 w hw)).1) (hts _ (ch1 _ (List.mem_of_getElem? (i := 215) (by decide +kernel))))
  obtain ⟨c5, i5, h5⟩ := u_known (C := RX6) (T := TX6) (N := 8) (n := 8) hts (fun w hw => (List.mem_filter.mp (inc_X6 w hw)).1) (hts _ (ch1 _ (List.mem_of_getElem? (i := 166) (by decide +kernel))))
  obtain ⟨c6, i6, h6⟩ := u_known (C := RX7) (T := TX7) (N := 14) (n := 14) hts (fun w hw => (List.mem_filter.mp (inc_X7 w hw)).1) (hts _ (ch1 _ (List.mem_of_getElem? (i := 67) (by decide +kernel))))
  obtain ⟨c7, i7, h7⟩ := u_known (C := RX8) (T := TX8) (N := 8) (n := 8) hts (fun w hw => (List.mem_filter.mp (inc_X8 w hw)).1) (hts _ (ch1 _ (List.mem_of_getElem? (i := 33) (by decide +kernel))))
  obtain ⟨c8, i8, h8⟩ := u_known (C := RX9) (T := TX9) (N := 14) (n := 14) hts (fun w hw => (List.mem_filter.mp (inc_X9 w hw)).1) (hts _ (ch1 _ (List.mem_of_getElem? (i := 25) (by decide +kernel))))
  obtain ⟨c9, i9, h9⟩ := u_known (C := RX10) (T := TX10) (N := 50) (n := 50) hts (fun w hw => (List.mem_filter.mp (inc_X10 w hw)).1) (hts _ (ch6 _ (List.mem_of_getElem? (i := 120) (by decide +kernel))))
  obtain ⟨c10, i10, h10⟩ := u_known (C := R_IAE) (T := T_non) (N := 0) (n := 6) hts (fun w hw => absurd hw (by intro h; cases h)) (hts _ (ch2 _ (List.mem_of_getElem? (i := 197) (by decide +kernel))))
  obtain ⟨c11, i11, h11⟩ := u_known (C := R_NSE) (T := T_non) (N := 0) (n := 6) hts (fun w hw => absurd hw (by intro h; cases h)) (hts _ (ch4 _ (List.mem_of_getElem? (i := 190) (by decide +kernel))))
  refine ⟨fun k => [c0, c1, c2, c3, c4, c5, c6, c7, c8, c9, c10, c11].getD k 0, fun k => [i0, i1, i2, i3, i4, i5, i6, i7, i8, i9, i10, i11].getD k (fun _ => 0), fun c q hq => ?_⟩
  match c, hq with
  | 0, hq => cases hq; exact h0
  | 1, hq => cases hq; exact h1
  | 2, hq => cases hq; exact h2
  | 3, hq => cases hq; exact h3
  | 4, hq => cases hq; exact h4
  | 5, hq => cases hq; exact h5
  | 6, hq => cases hq; exact h6
  | 7, hq => cases hq; exact h7
  | 8, hq => cases hq; exact h8
  | 9, hq => cases hq; exact h9
  | 10, hq => cases hq; exact h10
  | 11, hq => cases hq; exact h11
  | c + 12, hq => exact absurd hq (by show ¬ ([] : List vw_C)[c]? = some q; intro h; cases h)
end ENVS
