/-! methods and links, by program -/
theorem ch0 : ∀ w ∈ k2_sels lw_privs, w ∈ lw_tbl := fun w h => List.mem_append_left _ h
theorem bc0 (i : Nat) {w : Cond} (h : (k2_sels lw_privs)[i]? = some w) (g : goodWord w = true) : w ∈ BIG := List.mem_filter.mpr ⟨ch0 w (List.mem_of_getElem? h), g⟩
theorem nc0 (i : Nat) {w : Cond} (h : (k2_sels lw_privs)[i]? = some w) (g : isNest w = true) : w ∈ NSTW := List.mem_filter.mpr ⟨ch0 w (List.mem_of_getElem? h), g⟩
theorem ch1 : ∀ w ∈ tables_1_1, w ∈ lw_tbl := fun w h => List.mem_append_right _ (List.mem_append_left _ h)
theorem bc1 (i : Nat) {w : Cond} (h : (tables_1_1)[i]? = some w) (g : goodWord w = true) : w ∈ BIG := List.mem_filter.mpr ⟨ch1 w (List.mem_of_getElem? h), g⟩
theorem nc1 (i : Nat) {w : Cond} (h : (tables_1_1)[i]? = some w) (g : isNest w = true) : w ∈ NSTW := List.mem_filter.mpr ⟨ch1 w (List.mem_of_getElem? h), g⟩
theorem ch2 : ∀ w ∈ tables_1_2, w ∈ lw_tbl := fun w h => List.mem_append_right _ (List.mem_append_right _ (List.mem_append_left _ h))
theorem bc2 (i : Nat) {w : Cond} (h : (tables_1_2)[i]? = some w) (g : goodWord w = true) : w ∈ BIG := List.mem_filter.mpr ⟨ch2 w (List.mem_of_getElem? h), g⟩
theorem nc2 (i : Nat) {w : Cond} (h : (tables_1_2)[i]? = some w) (g : isNest w = true) : w ∈ NSTW := List.mem_filter.mpr ⟨ch2 w (List.mem_of_getElem? h), g⟩
theorem ch3 : ∀ w ∈ tables_1_3, w ∈ lw_tbl := fun w h => List.mem_append_right _ (List.mem_append_right _ (List.mem_append_right _ (List.mem_append_left _ h)))
theorem bc3 (i : Nat) {w : Cond} (h : (tables_1_3)[i]? = some w) (g : goodWord w = true) : w ∈ BIG := List.mem_filter.mpr ⟨ch3 w (List.mem_of_getElem? h), g⟩
theorem nc3 (i : Nat) {w : Cond} (h : (tables_1_3)[i]? = some w) (g : isNest w = true) : w ∈ NSTW := List.mem_filter.mpr ⟨ch3 w (List.mem_of_getElem? h), g⟩
theorem ch4 : ∀ w ∈ tables_1_4, w ∈ lw_tbl := fun w h => List.mem_append_right _ (List.mem_append_right _ (List.mem_append_right _ (List.mem_append_right _ (List.mem_append_left _ h))))
theorem bc4 (i : Nat) {w : Cond} (h : (tables_1_4)[i]? = some w) (g : goodWord w = true) : w ∈ BIG := List.mem_filter.mpr ⟨ch4 w (List.mem_of_getElem? h), g⟩
theorem nc4 (i : Nat) {w : Cond} (h : (tables_1_4)[i]? = some w) (g : isNest w = true) : w ∈ NSTW := List.mem_filter.mpr ⟨ch4 w (List.mem_of_getElem? h), g⟩
theorem ch5 : ∀ w ∈ tables_1_5, w ∈ lw_tbl := fun w h => List.mem_append_right _ (List.mem_append_right _ (List.mem_append_right _ (List.mem_append_right _ (List.mem_append_right _ (List.mem_append_left _ h)))))
theorem bc5 (i : Nat) {w : Cond} (h : (tables_1_5)[i]? = some w) (g : goodWord w = true) : w ∈ BIG := List.mem_filter.mpr ⟨ch5 w (List.mem_of_getElem? h), g⟩
theorem nc5 (i : Nat) {w : Cond} (h : (tables_1_5)[i]? = some w) (g : isNest w = true) : w ∈ NSTW := List.mem_filter.mpr ⟨ch5 w (List.mem_of_getElem? h), g⟩
theorem ch6 : ∀ w ∈ tables_1_6, w ∈ lw_tbl := fun w h => List.mem_append_right _ (List.mem_append_right _ (List.mem_append_right _ (List.mem_append_right _ (List.mem_append_right _ (List.mem_append_right _ (List.mem_append_left _ h))))))
theorem bc6 (i : Nat) {w : Cond} (h : (tables_1_6)[i]? = some w) (g : goodWord w = true) : w ∈ BIG := List.mem_filter.mpr ⟨ch6 w (List.mem_of_getElem? h), g⟩
theorem nc6 (i : Nat) {w : Cond} (h : (tables_1_6)[i]? = some w) (g : isNest w = true) : w ∈ NSTW := List.mem_filter.mpr ⟨ch6 w (List.mem_of_getElem? h), g⟩
theorem ch7 : ∀ w ∈ tables_1_7, w ∈ lw_tbl := fun w h => List.mem_append_right _ (List.mem_append_right _ (List.mem_append_right _ (List.mem_append_right _ (List.mem_append_right _ (List.mem_append_right _ (List.mem_append_right _ (List.mem_append_left _ h)))))))
theorem bc7 (i : Nat) {w : Cond} (h : (tables_1_7)[i]? = some w) (g : goodWord w = true) : w ∈ BIG := List.mem_filter.mpr ⟨ch7 w (List.mem_of_getElem? h), g⟩
theorem nc7 (i : Nat) {w : Cond} (h : (tables_1_7)[i]? = some w) (g : isNest w = true) : w ∈ NSTW := List.mem_filter.mpr ⟨ch7 w (List.mem_of_getElem? h), g⟩
theorem ch8 : ∀ w ∈ tables_1_8, w ∈ lw_tbl := fun w h => List.mem_append_right _ (List.mem_append_right _ (List.mem_append_right _ (List.mem_append_right _ (List.mem_append_right _ (List.mem_append_right _ (List.mem_append_right _ (List.mem_append_right _ (List.mem_append_left _ h))))))))
theorem bc8 (i : Nat) {w : Cond} (h : (tables_1_8)[i]? = some w) (g : goodWord w = true) : w ∈ BIG := List.mem_filter.mpr ⟨ch8 w (List.mem_of_getElem? h), g⟩
theorem nc8 (i : Nat) {w : Cond} (h : (tables_1_8)[i]? = some w) (g : isNest w = true) : w ∈ NSTW := List.mem_filter.mpr ⟨ch8 w (List.mem_of_getElem? h), g⟩
theorem ch9 : ∀ w ∈ tables_1_9, w ∈ lw_tbl := fun w h => List.mem_append_right _ (List.mem_append_right _ (List.mem_append_right _ (List.mem_append_right _ (List.mem_append_right _ (List.mem_append_right _ (List.mem_append_right _ (List.mem_append_right _ (List.mem_append_right _ (h)))))))))
theorem bc9 (i : Nat) {w : Cond} (h : (tables_1_9)[i]? = some w) (g : goodWord w = true) : w ∈ BIG := List.mem_filter.mpr ⟨ch9 w (List.mem_of_getElem? h), g⟩
theorem nc9 (i : Nat) {w : Cond} (h : (tables_1_9)[i]? = some w) (g : isNest w = true) : w ∈ NSTW := List.mem_filter.mpr ⟨ch9 w (List.mem_of_getElem? h), g⟩
theorem big_list {ws : List Cond} (is : List Nat) (h : ws.map some = is.map (fun i => lw_tbl[i]?)) (g : ws.all goodWord = true) : ∀ w ∈ ws, w ∈ BIG := by
  intro w hw
  have h1 : some w ∈ ws.map some := List.mem_map.mpr ⟨w, hw, rfl⟩
  rw [h] at h1
  obtain ⟨i, -, hi⟩ := List.mem_map.mp h1
  exact big_at i hi (List.all_eq_true.mp g w hw)
theorem inc_X0 : ∀ w ∈ wsX00, w ∈ BIG := big_list [441, 443, 445, 447] (by decide +kernel) (by decide +kernel)
theorem inc_X1 : ∀ w ∈ wsX10, w ∈ BIG := big_list [327, 329, 331, 333, 335] (by decide +kernel) (by decide +kernel)
theorem inc_X2 : ∀ w ∈ wsX20, w ∈ BIG := big_list [380, 382, 384] (by decide +kernel) (by decide +kernel)
theorem inc_X4 : ∀ w ∈ wsX40, w ∈ BIG := big_list [420, 422, 424, 426] (by decide +kernel) (by decide +kernel)
theorem inc_X5 : ∀ w ∈ wsX50, w ∈ BIG := big_list [399, 401, 403, 405] (by decide +kernel) (by decide +kernel)
theorem inc_X6 : ∀ w ∈ wsX60, w ∈ BIG := big_list [353, 355, 357, 359, 361, 363, 365, 367] (by decide +kernel) (by decide +kernel)
theorem inc_X7 : ∀ w ∈ wsX70, w ∈ BIG := big_list [287, 289, 291, 293, 295, 297, 299, 301, 303, 305, 307, 309, 311, 313] (by decide +kernel) (by decide +kernel)
theorem inc_X8 : ∀ w ∈ wsX80, w ∈ BIG := big_list [221, 223, 225, 227, 229, 231, 233, 235] (by decide +kernel) (by decide +kernel)
theorem inc_X9 : ∀ w ∈ wsX90, w ∈ BIG := big_list [504, 506, 508, 510, 512, 514, 516, 518, 520, 522, 524, 526, 528, 530] (by decide +kernel) (by decide +kernel)
theorem inc_X10 : ∀ w ∈ wsX100, w ∈ BIG := big_list [1561, 1563, 1565, 1567, 1569, 1571, 1573, 1575, 1577, 1579, 1581, 1583, 1585, 1587, 1589, 1591, 1593, 1595, 1597, 1599, 1601, 1603, 1605, 1607, 1609, 1611, 1613, 1615, 1617, 1619, 1621, 1623, 1625, 1627, 1629, 1631, 1633, 1635, 1637, 1639, 1641, 1643, 1645, 1647, 1649, 1651, 1653, 1655, 1657, 1659] (by decide +kernel) (by decide +kernel)
theorem fX8_9 : FLD RX8 9 7 0 := ⟨RX8, TX8, 8, tyX8, rfl, by decide, inc_X8, tyX8_ok, nmX8, Or.inl (bc1 38 (by decide +kernel) (by decide +kernel))⟩
theorem fX8_19 : FLD RX8 19 7 1 := ⟨RX8, TX8, 8, tyX8, rfl, by decide, inc_X8, tyX8_ok, nmX8, Or.inl (bc1 39 (by decide +kernel) (by decide +kernel))⟩
theorem fiX8_19 : FLDI RX8 19 7 1 := ⟨fX8_19, fun _ _ _ h => by cases h; exact ⟨rfl, by decide +kernel⟩⟩
theorem fX9_87 : FLD RX9 87 7 1 := ⟨RX8, TX8, 8, tyX8, rfl, by decide, inc_X8, tyX8_ok, nmX8, Or.inr ⟨"TideLodger", nc1 40 (by decide +kernel) (by decide +kernel)⟩⟩
theorem fiX9_87 : FLDI RX9 87 7 1 := ⟨fX9_87, fun _ _ _ h => by cases h; exact ⟨rfl, by decide +kernel⟩⟩
theorem fX8_26 : FLD RX8 26 7 2 := ⟨RX8, TX8, 8, tyX8, rfl, by decide, inc_X8, tyX8_ok, nmX8, Or.inl (bc1 41 (by decide +kernel) (by decide +kernel))⟩
theorem fiX8_26 : FLDI RX8 26 7 2 := ⟨fX8_26, fun _ _ _ h => by cases h; exact ⟨rfl, by decide +kernel⟩⟩
theorem fX8_29 : FLD RX8 29 7 3 := ⟨RX8, TX8, 8, tyX8, rfl, by decide, inc_X8, tyX8_ok, nmX8, Or.inl (bc1 42 (by decide +kernel) (by decide +kernel))⟩
theorem fiX8_29 : FLDI RX8 29 7 3 := ⟨fX8_29, fun _ _ _ h => by cases h; exact ⟨rfl, by decide +kernel⟩⟩
theorem fX8_32 : FLD RX8 32 7 4 := ⟨RX8, TX8, 8, tyX8, rfl, by decide, inc_X8, tyX8_ok, nmX8, Or.inl (bc1 43 (by decide +kernel) (by decide +kernel))⟩
theorem fiX8_32 : FLDI RX8 32 7 4 := ⟨fX8_32, fun _ _ _ h => by cases h; exact ⟨rfl, by decide +kernel⟩⟩
theorem fX8_35 : FLD RX8 35 7 5 := ⟨RX8, TX8, 8, tyX8, rfl, by decide, inc_X8, tyX8_ok, nmX8, Or.inl (bc1 44 (by decide +kernel) (by decide +kernel))⟩
theorem fiX8_35 : FLDI RX8 35 7 5 := ⟨fX8_35, fun _ _ _ h => by cases h; exact ⟨rfl, by decide +kernel⟩⟩
theorem fX8_38 : FLD RX8 38 7 6 := ⟨RX8, TX8, 8, tyX8, rfl, by decide, inc_X8, tyX8_ok, nmX8, Or.inl (bc1 45 (by decide +kernel) (by decide +kernel))⟩
theorem fiX8_38 : FLDI RX8 38 7 6 := ⟨fX8_38, fun _ _ _ h => by cases h; exact ⟨rfl, by decide +kernel⟩⟩
theorem fX8_15 : FLD RX8 15 7 7 := ⟨RX8, TX8, 8, tyX8, rfl, by decide, inc_X8, tyX8_ok, nmX8, Or.inl (bc1 46 (by decide +kernel) (by decide +kernel))⟩
theorem fiX8_15 : FLDI RX8 15 7 7 := ⟨fX8_15, fun _ _ _ h => by cases h; exact ⟨rfl, by decide +kernel⟩⟩
theorem fX9_150 : FLD RX9 150 7 7 := ⟨RX8, TX8, 8, tyX8, rfl, by decide, inc_X8, tyX8_ok, nmX8, Or.inr ⟨"TideLodger", nc1 47 (by decide +kernel) (by decide +kernel)⟩⟩
theorem fiX9_150 : FLDI RX9 150 7 7 := ⟨fX9_150, fun _ _ _ h => by cases h; exact ⟨rfl, by decide +kernel⟩⟩
theorem fX7_9 : FLD RX7 9 6 0 := ⟨RX7, TX7, 14, tyX7, rfl, by decide, inc_X7, tyX7_ok, nmX7, Or.inl (bc1 72 (by decide +kernel) (by decide +kernel))⟩
theorem fX5_34 : FLD RX5 34 6 0 := ⟨RX7, TX7, 14, tyX7, rfl, by decide, inc_X7, tyX7_ok, nmX7, Or.inr ⟨"TideLodger", nc1 73 (by decide +kernel) (by decide +kernel)⟩⟩
theorem fX7_15 : FLD RX7 15 6 1 := ⟨RX7, TX7, 14, tyX7, rfl, by decide, inc_X7, tyX7_ok, nmX7, Or.inl (bc1 74 (by decide +kernel) (by decide +kernel))⟩
theorem fX5_48 : FLD RX5 48 6 1 := ⟨RX7, TX7, 14, tyX7, rfl, by decide, inc_X7, tyX7_ok, nmX7, Or.inr ⟨"TideLodger", nc1 75 (by decide +kernel) (by decide +kernel)⟩⟩
theorem fX7_18 : FLD RX7 18 6 2 := ⟨RX7, TX7, 14, tyX7, rfl, by decide, inc_X7, tyX7_ok, nmX7, Or.inl (bc1 76 (by decide +kernel) (by decide +kernel))⟩
theorem fX9_207 : FLD RX9 207 6 2 := ⟨RX7, TX7, 14, tyX7, rfl, by decide, inc_X7, tyX7_ok, nmX7, Or.inr ⟨"TideLodger", nc1 77 (by decide +kernel) (by decide +kernel)⟩⟩
theorem fX0_117 : FLD RX0 117 6 2 := ⟨RX7, TX7, 14, tyX7, rfl, by decide, inc_X7, tyX7_ok, nmX7, Or.inr ⟨"TideLodger", nc1 78 (by decide +kernel) (by decide +kernel)⟩⟩
theorem fX7_21 : FLD RX7 21 6 3 := ⟨RX7, TX7, 14, tyX7, rfl, by decide, inc_X7, tyX7_ok, nmX7, Or.inl (bc1 79 (by decide +kernel) (by decide +kernel))⟩
theorem fX9_215 : FLD RX9 215 6 3 := ⟨RX7, TX7, 14, tyX7, rfl, by decide, inc_X7, tyX7_ok, nmX7, Or.inr ⟨"TideLodger", nc1 80 (by decide +kernel) (by decide +kernel)⟩⟩
theorem fX5_103 : FLD RX5 103 6 3 := ⟨RX7, TX7, 14, tyX7, rfl, by decide, inc_X7, tyX7_ok, nmX7, Or.inr ⟨"TideLodger", nc1 81 (by decide +kernel) (by decide +kernel)⟩⟩
theorem fX7_24 : FLD RX7 24 6 4 := ⟨RX7, TX7, 14, tyX7, rfl, by decide, inc_X7, tyX7_ok, nmX7, Or.inl (bc1 82 (by decide +kernel) (by decide +kernel))⟩
theorem fX5_51 : FLD RX5 51 6 4 := ⟨RX7, TX7, 14, tyX7, rfl, by decide, inc_X7, tyX7_ok, nmX7, Or.inr ⟨"TideLodger", nc1 83 (by decide +kernel) (by decide +kernel)⟩⟩
theorem fX7_27 : FLD RX7 27 6 5 := ⟨RX7, TX7, 14, tyX7, rfl, by decide, inc_X7, tyX7_ok, nmX7, Or.inl (bc1 84 (by decide +kernel) (by decide +kernel))⟩
theorem fX7_30 : FLD RX7 30 6 6 := ⟨RX7, TX7, 14, tyX7, rfl, by decide, inc_X7, tyX7_ok, nmX7, Or.inl (bc1 85 (by decide +kernel) (by decide +kernel))⟩
theorem fX9_218 : FLD RX9 218 6 6 := ⟨RX7, TX7, 14, tyX7, rfl, by decide, inc_X7, tyX7_ok, nmX7, Or.inr ⟨"TideLodger", nc1 86 (by decide +kernel) (by decide +kernel)⟩⟩
theorem fX0_136 : FLD RX0 136 6 6 := ⟨RX7, TX7, 14, tyX7, rfl, by decide, inc_X7, tyX7_ok, nmX7, Or.inr ⟨"TideLodger", nc1 87 (by decide +kernel) (by decide +kernel)⟩⟩
theorem fX7_33 : FLD RX7 33 6 7 := ⟨RX7, TX7, 14, tyX7, rfl, by decide, inc_X7, tyX7_ok, nmX7, Or.inl (bc1 88 (by decide +kernel) (by decide +kernel))⟩
theorem fX9_221 : FLD RX9 221 6 7 := ⟨RX7, TX7, 14, tyX7, rfl, by decide, inc_X7, tyX7_ok, nmX7, Or.inr ⟨"TideLodger", nc1 89 (by decide +kernel) (by decide +kernel)⟩⟩
theorem fX0_139 : FLD RX0 139 6 7 := ⟨RX7, TX7, 14, tyX7, rfl, by decide, inc_X7, tyX7_ok, nmX7, Or.inr ⟨"TideLodger", nc1 90 (by decide +kernel) (by decide +kernel)⟩⟩
theorem fX7_47 : FLD RX7 47 6 8 := ⟨RX7, TX7, 14, tyX7, rfl, by decide, inc_X7, tyX7_ok, nmX7, Or.inl (bc1 91 (by decide +kernel) (by decide +kernel))⟩
theorem fiX7_47 : FLDI RX7 47 6 8 := ⟨fX7_47, fun _ _ _ h => by cases h; exact ⟨rfl, by decide +kernel⟩⟩
theorem fX5_28 : FLD RX5 28 6 8 := ⟨RX7, TX7, 14, tyX7, rfl, by decide, inc_X7, tyX7_ok, nmX7, Or.inr ⟨"TideLodger", nc1 92 (by decide +kernel) (by decide +kernel)⟩⟩
theorem fiX5_28 : FLDI RX5 28 6 8 := ⟨fX5_28, fun _ _ _ h => by cases h; exact ⟨rfl, by decide +kernel⟩⟩
theorem fX0_54 : FLD RX0 54 6 8 := ⟨RX7, TX7, 14, tyX7, rfl, by decide, inc_X7, tyX7_ok, nmX7, Or.inr ⟨"TideLodger", nc1 93 (by decide +kernel) (by decide +kernel)⟩⟩
theorem fiX0_54 : FLDI RX0 54 6 8 := ⟨fX0_54, fun _ _ _ h => by cases h; exact ⟨rfl, by decide +kernel⟩⟩
theorem fX6_87 : FLD RX6 87 6 8 := ⟨RX7, TX7, 14, tyX7, rfl, by decide, inc_X7, tyX7_ok, nmX7, Or.inr ⟨"TideLodger", nc1 94 (by decide +kernel) (by decide +kernel)⟩⟩
theorem fiX6_87 : FLDI RX6 87 6 8 := ⟨fX6_87, fun _ _ _ h => by cases h; exact ⟨rfl, by decide +kernel⟩⟩
theorem fX2_58 : FLD RX2 58 6 8 := ⟨RX7, TX7, 14, tyX7, rfl, by decide, inc_X7, tyX7_ok, nmX7, Or.inr ⟨"TideLodger", nc1 95 (by decide +kernel) (by decide +kernel)⟩⟩
theorem fiX2_58 : FLDI RX2 58 6 8 := ⟨fX2_58, fun _ _ _ h => by cases h; exact ⟨rfl, by decide +kernel⟩⟩
theorem fX9_138 : FLD RX9 138 6 8 := ⟨RX7, TX7, 14, tyX7, rfl, by decide, inc_X7, tyX7_ok, nmX7, Or.inr ⟨"TideLodger", nc1 96 (by decide +kernel) (by decide +kernel)⟩⟩
theorem fiX9_138 : FLDI RX9 138 6 8 := ⟨fX9_138, fun _ _ _ h => by cases h; exact ⟨rfl, by decide +kernel⟩⟩
theorem fX7_50 : FLD RX7 50 6 9 := ⟨RX7, TX7, 14, tyX7, rfl, by decide, inc_X7, tyX7_ok, nmX7, Or.inl (bc1 97 (by decide +kernel) (by decide +kernel))⟩
theorem fiX7_50 : FLDI RX7 50 6 9 := ⟨fX7_50, fun _ _ _ h => by cases h; exact ⟨rfl, by decide +kernel⟩⟩
theorem fX9_110 : FLD RX9 110 6 9 := ⟨RX7, TX7, 14, tyX7, rfl, by decide, inc_X7, tyX7_ok, nmX7, Or.inr ⟨"TideLodger", nc1 98 (by decide +kernel) (by decide +kernel)⟩⟩
theorem fiX9_110 : FLDI RX9 110 6 9 := ⟨fX9_110, fun _ _ _ h => by cases h; exact ⟨rfl, by decide +kernel⟩⟩
theorem fX5_45 : FLD RX5 45 6 9 := ⟨RX7, TX7, 14, tyX7, rfl, by decide, inc_X7, tyX7_ok, nmX7, Or.inr ⟨"TideLodger", nc1 99 (by decide +kernel) (by decide +kernel)⟩⟩
theorem fiX5_45 : FLDI RX5 45 6 9 := ⟨fX5_45, fun _ _ _ h => by cases h; exact ⟨rfl, by decide +kernel⟩⟩
theorem fX6_92 : FLD RX6 92 6 9 := ⟨RX7, TX7, 14, tyX7, rfl, by decide, inc_X7, tyX7_ok, nmX7, Or.inr ⟨"TideLodger", nc1 100 (by decide +kernel) (by decide +kernel)⟩⟩
theorem fiX6_92 : FLDI RX6 92 6 9 := ⟨fX6_92, fun _ _ _ h => by cases h; exact ⟨rfl, by decide +kernel⟩⟩
theorem fX0_108 : FLD RX0 108 6 9 := ⟨RX7, TX7, 14, tyX7, rfl, by decide, inc_X7, tyX7_ok, nmX7, Or.inr ⟨"TideLodger", nc1 101 (by decide +kernel) (by decide +kernel)⟩⟩
theorem fiX0_108 : FLDI RX0 108 6 9 := ⟨fX0_108, fun _ _ _ h => by cases h; exact ⟨rfl, by decide +kernel⟩⟩
theorem fX7_53 : FLD RX7 53 6 10 := ⟨RX7, TX7, 14, tyX7, rfl, by decide, inc_X7, tyX7_ok, nmX7, Or.inl (bc1 102 (by decide +kernel) (by decide +kernel))⟩
theorem fiX7_53 : FLDI RX7 53 6 10 := ⟨fX7_53, fun _ _ _ h => by cases h; exact ⟨rfl, by decide +kernel⟩⟩
theorem fX2_68 : FLD RX2 68 6 10 := ⟨RX7, TX7, 14, tyX7, rfl, by decide, inc_X7, tyX7_ok, nmX7, Or.inr ⟨"TideLodger", nc1 103 (by decide +kernel) (by decide +kernel)⟩⟩
theorem fiX2_68 : FLDI RX2 68 6 10 := ⟨fX2_68, fun _ _ _ h => by cases h; exact ⟨rfl, by decide +kernel⟩⟩
theorem fX9_164 : FLD RX9 164 6 10 := ⟨RX7, TX7, 14, tyX7, rfl, by decide, inc_X7, tyX7_ok, nmX7, Or.inr ⟨"TideLodger", nc1 104 (by decide +kernel) (by decide +kernel)⟩⟩
theorem fiX9_164 : FLDI RX9 164 6 10 := ⟨fX9_164, fun _ _ _ h => by cases h; exact ⟨rfl, by decide +kernel⟩⟩
theorem fX7_56 : FLD RX7 56 6 11 := ⟨RX7, TX7, 14, tyX7, rfl, by decide, inc_X7, tyX7_ok, nmX7, Or.inl (bc1 105 (by decide +kernel) (by decide +kernel))⟩
theorem fiX7_56 : FLDI RX7 56 6 11 := ⟨fX7_56, fun _ _ _ h => by cases h; exact ⟨rfl, by decide +kernel⟩⟩
theorem fX9_167 : FLD RX9 167 6 11 := ⟨RX7, TX7, 14, tyX7, rfl, by decide, inc_X7, tyX7_ok, nmX7, Or.inr ⟨"TideLodger", nc1 106 (by decide +kernel) (by decide +kernel)⟩⟩
theorem fiX9_167 : FLDI RX9 167 6 11 := ⟨fX9_167, fun _ _ _ h => by cases h; exact ⟨rfl, by decide +kernel⟩⟩
theorem fX0_133 : FLD RX0 133 6 11 := ⟨RX7, TX7, 14, tyX7, rfl, by decide, inc_X7, tyX7_ok, nmX7, Or.inr ⟨"TideLodger", nc1 107 (by decide +kernel) (by decide +kernel)⟩⟩
theorem fiX0_133 : FLDI RX0 133 6 11 := ⟨fX0_133, fun _ _ _ h => by cases h; exact ⟨rfl, by decide +kernel⟩⟩
theorem fX7_36 : FLD RX7 36 6 12 := ⟨RX7, TX7, 14, tyX7, rfl, by decide, inc_X7, tyX7_ok, nmX7, Or.inl (bc1 108 (by decide +kernel) (by decide +kernel))⟩
theorem fiX7_36 : FLDI RX7 36 6 12 := ⟨fX7_36, fun _ _ _ h => by cases h; exact ⟨rfl, by decide +kernel⟩⟩
theorem fX9_177 : FLD RX9 177 6 12 := ⟨RX7, TX7, 14, tyX7, rfl, by decide, inc_X7, tyX7_ok, nmX7, Or.inr ⟨"TideLodger", nc1 109 (by decide +kernel) (by decide +kernel)⟩⟩
theorem fiX9_177 : FLDI RX9 177 6 12 := ⟨fX9_177, fun _ _ _ h => by cases h; exact ⟨rfl, by decide +kernel⟩⟩
theorem fX0_86 : FLD RX0 86 6 12 := ⟨RX7, TX7, 14, tyX7, rfl, by decide, inc_X7, tyX7_ok, nmX7, Or.inr ⟨"TideLodger", nc1 110 (by decide +kernel) (by decide +kernel)⟩⟩
theorem fiX0_86 : FLDI RX0 86 6 12 := ⟨fX0_86, fun _ _ _ h => by cases h; exact ⟨rfl, by decide +kernel⟩⟩
theorem fX5_89 : FLD RX5 89 6 12 := ⟨RX7, TX7, 14, tyX7, rfl, by decide, inc_X7, tyX7_ok, nmX7, Or.inr ⟨"TideLodger", nc1 111 (by decide +kernel) (by decide +kernel)⟩⟩
theorem fiX5_89 : FLDI RX5 89 6 12 := ⟨fX5_89, fun _ _ _ h => by cases h; exact ⟨rfl, by decide +kernel⟩⟩
theorem fX7_40 : FLD RX7 40 6 13 := ⟨RX7, TX7, 14, tyX7, rfl, by decide, inc_X7, tyX7_ok, nmX7, Or.inl (bc1 112 (by decide +kernel) (by decide +kernel))⟩
theorem fiX7_40 : FLDI RX7 40 6 13 := ⟨fX7_40, fun _ _ _ h => by cases h; exact ⟨rfl, by decide +kernel⟩⟩
theorem fX5_106 : FLD RX5 106 6 13 := ⟨RX7, TX7, 14, tyX7, rfl, by decide, inc_X7, tyX7_ok, nmX7, Or.inr ⟨"TideLodger", nc1 113 (by decide +kernel) (by decide +kernel)⟩⟩
theorem fiX5_106 : FLDI RX5 106 6 13 := ⟨fX5_106, fun _ _ _ h => by cases h; exact ⟨rfl, by decide +kernel⟩⟩
theorem fX1_9 : FLD RX1 9 1 0 := ⟨RX1, TX1, 5, tyX1, rfl, by decide, inc_X1, tyX1_ok, nmX1, Or.inl (bc1 149 (by decide +kernel) (by decide +kernel))⟩
theorem fX1_15 : FLD RX1 15 1 1 := ⟨RX1, TX1, 5, tyX1, rfl, by decide, inc_X1, tyX1_ok, nmX1, Or.inl (bc1 150 (by decide +kernel) (by decide +kernel))⟩
theorem fX1_18 : FLD RX1 18 1 2 := ⟨RX1, TX1, 5, tyX1, rfl, by decide, inc_X1, tyX1_ok, nmX1, Or.inl (bc1 151 (by decide +kernel) (by decide +kernel))⟩
theorem fX1_21 : FLD RX1 21 1 3 := ⟨RX1, TX1, 5, tyX1, rfl, by decide, inc_X1, tyX1_ok, nmX1, Or.inl (bc1 152 (by decide +kernel) (by decide +kernel))⟩
theorem fX1_28 : FLD RX1 28 1 4 := ⟨RX1, TX1, 5, tyX1, rfl, by decide, inc_X1, tyX1_ok, nmX1, Or.inl (bc1 153 (by decide +kernel) (by decide +kernel))⟩
theorem fiX1_28 : FLDI RX1 28 1 4 := ⟨fX1_28, fun _ _ _ h => by cases h; exact ⟨rfl, by decide +kernel⟩⟩
theorem fX6_9 : FLD RX6 9 5 0 := ⟨RX6, TX6, 8, tyX6, rfl, by decide, inc_X6, tyX6_ok, nmX6, Or.inl (bc1 171 (by decide +kernel) (by decide +kernel))⟩
theorem fX6_15 : FLD RX6 15 5 1 := ⟨RX6, TX6, 8, tyX6, rfl, by decide, inc_X6, tyX6_ok, nmX6, Or.inl (bc1 172 (by decide +kernel) (by decide +kernel))⟩
theorem fX6_18 : FLD RX6 18 5 2 := ⟨RX6, TX6, 8, tyX6, rfl, by decide, inc_X6, tyX6_ok, nmX6, Or.inl (bc1 173 (by decide +kernel) (by decide +kernel))⟩
theorem fX6_21 : FLD RX6 21 5 3 := ⟨RX6, TX6, 8, tyX6, rfl, by decide, inc_X6, tyX6_ok, nmX6, Or.inl (bc1 174 (by decide +kernel) (by decide +kernel))⟩
theorem fX6_24 : FLD RX6 24 5 4 := ⟨RX6, TX6, 8, tyX6, rfl, by decide, inc_X6, tyX6_ok, nmX6, Or.inl (bc1 175 (by decide +kernel) (by decide +kernel))⟩
theorem fX6_27 : FLD RX6 27 5 5 := ⟨RX6, TX6, 8, tyX6, rfl, by decide, inc_X6, tyX6_ok, nmX6, Or.inl (bc1 176 (by decide +kernel) (by decide +kernel))⟩
theorem fiX6_27 : FLDI RX6 27 5 5 := ⟨fX6_27, fun _ _ _ h => by cases h; exact ⟨rfl, by decide +kernel⟩⟩
theorem fX6_35 : FLD RX6 35 5 6 := ⟨RX6, TX6, 8, tyX6, rfl, by decide, inc_X6, tyX6_ok, nmX6, Or.inl (bc1 177 (by decide +kernel) (by decide +kernel))⟩
theorem fiX6_35 : FLDI RX6 35 5 6 := ⟨fX6_35, fun _ _ _ h => by cases h; exact ⟨rfl, by decide +kernel⟩⟩
theorem fX9_132 : FLD RX9 132 5 7 := ⟨RX6, TX6, 8, tyX6, rfl, by decide, inc_X6, tyX6_ok, nmX6, Or.inr ⟨"TideLodger", nc1 178 (by decide +kernel) (by decide +kernel)⟩⟩
theorem fiX9_132 : FLDI RX9 132 5 7 := ⟨fX9_132, fun _ _ _ h => by cases h; exact ⟨rfl, by decide +kernel⟩⟩
theorem fX6_117 : FLD RX6 117 5 7 := ⟨RX6, TX6, 8, tyX6, rfl, by decide, inc_X6, tyX6_ok, nmX6, Or.inl (bc1 179 (by decide +kernel) (by decide +kernel))⟩
theorem fiX6_117 : FLDI RX6 117 5 7 := ⟨fX6_117, fun _ _ _ h => by cases h; exact ⟨rfl, by decide +kernel⟩⟩
theorem fX2_9 : FLD RX2 9 2 0 := ⟨RX2, TX2, 3, tyX2, rfl, by decide, inc_X2, tyX2_ok, nmX2, Or.inl (bc1 203 (by decide +kernel) (by decide +kernel))⟩
theorem fX2_15 : FLD RX2 15 2 1 := ⟨RX2, TX2, 3, tyX2, rfl, by decide, inc_X2, tyX2_ok, nmX2, Or.inl (bc1 204 (by decide +kernel) (by decide +kernel))⟩
theorem fX2_18 : FLD RX2 18 2 2 := ⟨RX2, TX2, 3, tyX2, rfl, by decide, inc_X2, tyX2_ok, nmX2, Or.inl (bc1 205 (by decide +kernel) (by decide +kernel))⟩
theorem fiX2_18 : FLDI RX2 18 2 2 := ⟨fX2_18, fun _ _ _ h => by cases h; exact ⟨rfl, by decide +kernel⟩⟩
theorem fX9_147 : FLD RX9 147 2 2 := ⟨RX2, TX2, 3, tyX2, rfl, by decide, inc_X2, tyX2_ok, nmX2, Or.inr ⟨"TideLodger", nc1 206 (by decide +kernel) (by decide +kernel)⟩⟩
theorem fiX9_147 : FLDI RX9 147 2 2 := ⟨fX9_147, fun _ _ _ h => by cases h; exact ⟨rfl, by decide +kernel⟩⟩
theorem fX5_11 : FLD RX5 11 4 0 := ⟨RX5, TX5, 4, tyX5, rfl, by decide, inc_X5, tyX5_ok, nmX5, Or.inl (bc1 220 (by decide +kernel) (by decide +kernel))⟩
theorem fX0_29 : FLD RX0 29 4 0 := ⟨RX5, TX5, 4, tyX5, rfl, by decide, inc_X5, tyX5_ok, nmX5, Or.inr ⟨"TideLodger", nc1 221 (by decide +kernel) (by decide +kernel)⟩⟩
theorem fX4_27 : FLD RX4 27 4 0 := ⟨RX5, TX5, 4, tyX5, rfl, by decide, inc_X5, tyX5_ok, nmX5, Or.inr ⟨"TideLodger", nc1 222 (by decide +kernel) (by decide +kernel)⟩⟩
theorem fX5_15 : FLD RX5 15 4 1 := ⟨RX5, TX5, 4, tyX5, rfl, by decide, inc_X5, tyX5_ok, nmX5, Or.inl (bc1 223 (by decide +kernel) (by decide +kernel))⟩
theorem fX5_18 : FLD RX5 18 4 2 := ⟨RX5, TX5, 4, tyX5, rfl, by decide, inc_X5, tyX5_ok, nmX5, Or.inl (bc1 224 (by decide +kernel) (by decide +kernel))⟩
theorem fX5_21 : FLD RX5 21 4 3 := ⟨RX5, TX5, 4, tyX5, rfl, by decide, inc_X5, tyX5_ok, nmX5, Or.inl (bc1 225 (by decide +kernel) (by decide +kernel))⟩
theorem fX4_13 : FLD RX4 13 3 0 := ⟨RX4, TX4, 4, tyX4, rfl, by decide, inc_X4, tyX4_ok, nmX4, Or.inl (bc2 1 (by decide +kernel) (by decide +kernel))⟩
theorem fX4_17 : FLD RX4 17 3 1 := ⟨RX4, TX4, 4, tyX4, rfl, by decide, inc_X4, tyX4_ok, nmX4, Or.inl (bc2 2 (by decide +kernel) (by decide +kernel))⟩
theorem fX4_20 : FLD RX4 20 3 2 := ⟨RX4, TX4, 4, tyX4, rfl, by decide, inc_X4, tyX4_ok, nmX4, Or.inl (bc2 3 (by decide +kernel) (by decide +kernel))⟩
theorem fiX4_20 : FLDI RX4 20 3 2 := ⟨fX4_20, fun _ _ _ h => by cases h; exact ⟨rfl, by decide +kernel⟩⟩
theorem fX9_157 : FLD RX9 157 3 2 := ⟨RX4, TX4, 4, tyX4, rfl, by decide, inc_X4, tyX4_ok, nmX4, Or.inr ⟨"TideLodger", nc2 4 (by decide +kernel) (by decide +kernel)⟩⟩
theorem fiX9_157 : FLDI RX9 157 3 2 := ⟨fX9_157, fun _ _ _ h => by cases h; exact ⟨rfl, by decide +kernel⟩⟩
theorem fX4_24 : FLD RX4 24 3 3 := ⟨RX4, TX4, 4, tyX4, rfl, by decide, inc_X4, tyX4_ok, nmX4, Or.inl (bc2 5 (by decide +kernel) (by decide +kernel))⟩
theorem fiX4_24 : FLDI RX4 24 3 3 := ⟨fX4_24, fun _ _ _ h => by cases h; exact ⟨rfl, by decide +kernel⟩⟩
theorem fX9_334 : FLD RX9 334 3 3 := ⟨RX4, TX4, 4, tyX4, rfl, by decide, inc_X4, tyX4_ok, nmX4, Or.inr ⟨"TideLodger", nc2 6 (by decide +kernel) (by decide +kernel)⟩⟩
theorem fiX9_334 : FLDI RX9 334 3 3 := ⟨fX9_334, fun _ _ _ h => by cases h; exact ⟨rfl, by decide +kernel⟩⟩
theorem fX0_18 : FLD RX0 18 0 0 := ⟨RX0, TX0, 4, tyX0, rfl, by decide, inc_X0, tyX0_ok, nmX0, Or.inl (bc2 24 (by decide +kernel) (by decide +kernel))⟩
theorem fX0_22 : FLD RX0 22 0 1 := ⟨RX0, TX0, 4, tyX0, rfl, by decide, inc_X0, tyX0_ok, nmX0, Or.inl (bc2 25 (by decide +kernel) (by decide +kernel))⟩
theorem fX0_26 : FLD RX0 26 0 2 := ⟨RX0, TX0, 4, tyX0, rfl, by decide, inc_X0, tyX0_ok, nmX0, Or.inl (bc2 26 (by decide +kernel) (by decide +kernel))⟩
theorem fX0_12 : FLD RX0 12 0 3 := ⟨RX0, TX0, 4, tyX0, rfl, by decide, inc_X0, tyX0_ok, nmX0, Or.inl (bc2 27 (by decide +kernel) (by decide +kernel))⟩
theorem fX9_10 : FLD RX9 10 8 0 := ⟨RX9, TX9, 14, tyX9, rfl, by decide, inc_X9, tyX9_ok, nmX9, Or.inl (bc2 77 (by decide +kernel) (by decide +kernel))⟩
theorem fX9_19 : FLD RX9 19 8 1 := ⟨RX9, TX9, 14, tyX9, rfl, by decide, inc_X9, tyX9_ok, nmX9, Or.inl (bc2 78 (by decide +kernel) (by decide +kernel))⟩
theorem fX9_23 : FLD RX9 23 8 2 := ⟨RX9, TX9, 14, tyX9, rfl, by decide, inc_X9, tyX9_ok, nmX9, Or.inl (bc2 79 (by decide +kernel) (by decide +kernel))⟩
theorem fX9_29 : FLD RX9 29 8 3 := ⟨RX9, TX9, 14, tyX9, rfl, by decide, inc_X9, tyX9_ok, nmX9, Or.inl (bc2 80 (by decide +kernel) (by decide +kernel))⟩
theorem fX9_33 : FLD RX9 33 8 4 := ⟨RX9, TX9, 14, tyX9, rfl, by decide, inc_X9, tyX9_ok, nmX9, Or.inl (bc2 81 (by decide +kernel) (by decide +kernel))⟩
theorem fX9_39 : FLD RX9 39 8 5 := ⟨RX9, TX9, 14, tyX9, rfl, by decide, inc_X9, tyX9_ok, nmX9, Or.inl (bc2 82 (by decide +kernel) (by decide +kernel))⟩
theorem fX9_46 : FLD RX9 46 8 6 := ⟨RX9, TX9, 14, tyX9, rfl, by decide, inc_X9, tyX9_ok, nmX9, Or.inl (bc2 83 (by decide +kernel) (by decide +kernel))⟩
theorem fX9_50 : FLD RX9 50 8 7 := ⟨RX9, TX9, 14, tyX9, rfl, by decide, inc_X9, tyX9_ok, nmX9, Or.inl (bc2 84 (by decide +kernel) (by decide +kernel))⟩
theorem fX9_56 : FLD RX9 56 8 8 := ⟨RX9, TX9, 14, tyX9, rfl, by decide, inc_X9, tyX9_ok, nmX9, Or.inl (bc2 85 (by decide +kernel) (by decide +kernel))⟩
theorem fX9_63 : FLD RX9 63 8 9 := ⟨RX9, TX9, 14, tyX9, rfl, by decide, inc_X9, tyX9_ok, nmX9, Or.inl (bc2 86 (by decide +kernel) (by decide +kernel))⟩
theorem fX9_72 : FLD RX9 72 8 10 := ⟨RX9, TX9, 14, tyX9, rfl, by decide, inc_X9, tyX9_ok, nmX9, Or.inl (bc2 87 (by decide +kernel) (by decide +kernel))⟩
theorem fX9_135 : FLD RX9 135 8 11 := ⟨RX9, TX9, 14, tyX9, rfl, by decide, inc_X9, tyX9_ok, nmX9, Or.inl (bc2 88 (by decide +kernel) (by decide +kernel))⟩
theorem fiX9_135 : FLDI RX9 135 8 11 := ⟨fX9_135, fun _ _ _ h => by cases h; exact ⟨rfl, by decide +kernel⟩⟩
theorem fX9_340 : FLD RX9 340 8 12 := ⟨RX9, TX9, 14, tyX9, rfl, by decide, inc_X9, tyX9_ok, nmX9, Or.inl (bc2 89 (by decide +kernel) (by decide +kernel))⟩
theorem fiX9_340 : FLDI RX9 340 8 12 := ⟨fX9_340, fun _ _ _ h => by cases h; exact ⟨rfl, by decide +kernel⟩⟩
theorem fX9_343 : FLD RX9 343 8 13 := ⟨RX9, TX9, 14, tyX9, rfl, by decide, inc_X9, tyX9_ok, nmX9, Or.inl (bc2 90 (by decide +kernel) (by decide +kernel))⟩
theorem fiX9_343 : FLDI RX9 343 8 13 := ⟨fX9_343, fun _ _ _ h => by cases h; exact ⟨rfl, by decide +kernel⟩⟩
theorem fX10_103 : FLD RX10 103 9 0 := ⟨RX10, TX10, 50, tyX10, rfl, by decide, inc_X10, tyX10_ok, nmX10, Or.inl (bc6 138 (by decide +kernel) (by decide +kernel))⟩
theorem fiX10_103 : FLDI RX10 103 9 0 := ⟨fX10_103, fun _ _ _ h => by cases h; exact ⟨rfl, by decide +kernel⟩⟩
theorem fX10_106 : FLD RX10 106 9 1 := ⟨RX10, TX10, 50, tyX10, rfl, by decide, inc_X10, tyX10_ok, nmX10, Or.inl (bc6 139 (by decide +kernel) (by decide +kernel))⟩
theorem fiX10_106 : FLDI RX10 106 9 1 := ⟨fX10_106, fun _ _ _ h => by cases h; exact ⟨rfl, by decide +kernel⟩⟩
theorem fX10_109 : FLD RX10 109 9 2 := ⟨RX10, TX10, 50, tyX10, rfl, by decide, inc_X10, tyX10_ok, nmX10, Or.inl (bc6 140 (by decide +kernel) (by decide +kernel))⟩
theorem fiX10_109 : FLDI RX10 109 9 2 := ⟨fX10_109, fun _ _ _ h => by cases h; exact ⟨rfl, by decide +kernel⟩⟩
theorem fX10_9 : FLD RX10 9 9 3 := ⟨RX10, TX10, 50, tyX10, rfl, by decide, inc_X10, tyX10_ok, nmX10, Or.inl (bc6 141 (by decide +kernel) (by decide +kernel))⟩
theorem fiX10_9 : FLDI RX10 9 9 3 := ⟨fX10_9, fun _ _ _ h => by cases h; exact ⟨rfl, by decide +kernel⟩⟩
theorem fX10_112 : FLD RX10 112 9 4 := ⟨RX10, TX10, 50, tyX10, rfl, by decide, inc_X10, tyX10_ok, nmX10, Or.inl (bc6 142 (by decide +kernel) (by decide +kernel))⟩
theorem fiX10_112 : FLDI RX10 112 9 4 := ⟨fX10_112, fun _ _ _ h => by cases h; exact ⟨rfl, by decide +kernel⟩⟩
theorem fX10_119 : FLD RX10 119 9 5 := ⟨RX10, TX10, 50, tyX10, rfl, by decide, inc_X10, tyX10_ok, nmX10, Or.inl (bc6 143 (by decide +kernel) (by decide +kernel))⟩
theorem fiX10_119 : FLDI RX10 119 9 5 := ⟨fX10_119, fun _ _ _ h => by cases h; exact ⟨rfl, by decide +kernel⟩⟩
theorem fX10_122 : FLD RX10 122 9 6 := ⟨RX10, TX10, 50, tyX10, rfl, by decide, inc_X10, tyX10_ok, nmX10, Or.inl (bc6 144 (by decide +kernel) (by decide +kernel))⟩
theorem fiX10_122 : FLDI RX10 122 9 6 := ⟨fX10_122, fun _ _ _ h => by cases h; exact ⟨rfl, by decide +kernel⟩⟩
theorem fX10_165 : FLD RX10 165 9 7 := ⟨RX10, TX10, 50, tyX10, rfl, by decide, inc_X10, tyX10_ok, nmX10, Or.inl (bc6 145 (by decide +kernel) (by decide +kernel))⟩
theorem fiX10_165 : FLDI RX10 165 9 7 := ⟨fX10_165, fun _ _ _ h => by cases h; exact ⟨rfl, by decide +kernel⟩⟩
theorem fX10_168 : FLD RX10 168 9 8 := ⟨RX10, TX10, 50, tyX10, rfl, by decide, inc_X10, tyX10_ok, nmX10, Or.inl (bc6 146 (by decide +kernel) (by decide +kernel))⟩
theorem fiX10_168 : FLDI RX10 168 9 8 := ⟨fX10_168, fun _ _ _ h => by cases h; exact ⟨rfl, by decide +kernel⟩⟩
theorem fX10_13 : FLD RX10 13 9 9 := ⟨RX10, TX10, 50, tyX10, rfl, by decide, inc_X10, tyX10_ok, nmX10, Or.inl (bc6 147 (by decide +kernel) (by decide +kernel))⟩
theorem fX10_17 : FLD RX10 17 9 10 := ⟨RX10, TX10, 50, tyX10, rfl, by decide, inc_X10, tyX10_ok, nmX10, Or.inl (bc6 148 (by decide +kernel) (by decide +kernel))⟩
theorem fX10_20 : FLD RX10 20 9 11 := ⟨RX10, TX10, 50, tyX10, rfl, by decide, inc_X10, tyX10_ok, nmX10, Or.inl (bc6 149 (by decide +kernel) (by decide +kernel))⟩
theorem fX10_23 : FLD RX10 23 9 12 := ⟨RX10, TX10, 50, tyX10, rfl, by decide, inc_X10, tyX10_ok, nmX10, Or.inl (bc6 150 (by decide +kernel) (by decide +kernel))⟩
theorem fX10_26 : FLD RX10 26 9 13 := ⟨RX10, TX10, 50, tyX10, rfl, by decide, inc_X10, tyX10_ok, nmX10, Or.inl (bc6 151 (by decide +kernel) (by decide +kernel))⟩
theorem fX10_29 : FLD RX10 29 9 14 := ⟨RX10, TX10, 50, tyX10, rfl, by decide, inc_X10, tyX10_ok, nmX10, Or.inl (bc6 152 (by decide +kernel) (by decide +kernel))⟩
theorem fX10_32 : FLD RX10 32 9 15 := ⟨RX10, TX10, 50, tyX10, rfl, by decide, inc_X10, tyX10_ok, nmX10, Or.inl (bc6 153 (by decide +kernel) (by decide +kernel))⟩
theorem fX10_35 : FLD RX10 35 9 16 := ⟨RX10, TX10, 50, tyX10, rfl, by decide, inc_X10, tyX10_ok, nmX10, Or.inl (bc6 154 (by decide +kernel) (by decide +kernel))⟩
theorem fX10_40 : FLD RX10 40 9 17 := ⟨RX10, TX10, 50, tyX10, rfl, by decide, inc_X10, tyX10_ok, nmX10, Or.inl (bc6 155 (by decide +kernel) (by decide +kernel))⟩
theorem fX10_43 : FLD RX10 43 9 18 := ⟨RX10, TX10, 50, tyX10, rfl, by decide, inc_X10, tyX10_ok, nmX10, Or.inl (bc6 156 (by decide +kernel) (by decide +kernel))⟩
theorem fX10_46 : FLD RX10 46 9 19 := ⟨RX10, TX10, 50, tyX10, rfl, by decide, inc_X10, tyX10_ok, nmX10, Or.inl (bc6 157 (by decide +kernel) (by decide +kernel))⟩
theorem fX10_49 : FLD RX10 49 9 20 := ⟨RX10, TX10, 50, tyX10, rfl, by decide, inc_X10, tyX10_ok, nmX10, Or.inl (bc6 158 (by decide +kernel) (by decide +kernel))⟩
theorem fX10_206 : FLD RX10 206 9 21 := ⟨RX10, TX10, 50, tyX10, rfl, by decide, inc_X10, tyX10_ok, nmX10, Or.inl (bc6 159 (by decide +kernel) (by decide +kernel))⟩
theorem fiX10_206 : FLDI RX10 206 9 21 := ⟨fX10_206, fun _ _ _ h => by cases h; exact ⟨rfl, by decide +kernel⟩⟩
theorem fX10_221 : FLD RX10 221 9 22 := ⟨RX10, TX10, 50, tyX10, rfl, by decide, inc_X10, tyX10_ok, nmX10, Or.inl (bc6 160 (by decide +kernel) (by decide +kernel))⟩
theorem fiX10_221 : FLDI RX10 221 9 22 := ⟨fX10_221, fun _ _ _ h => by cases h; exact ⟨rfl, by decide +kernel⟩⟩
theorem fX10_52 : FLD RX10 52 9 23 := ⟨RX10, TX10, 50, tyX10, rfl, by decide, inc_X10, tyX10_ok, nmX10, Or.inl (bc6 161 (by decide +kernel) (by decide +kernel))⟩
theorem fX10_55 : FLD RX10 55 9 24 := ⟨RX10, TX10, 50, tyX10, rfl, by decide, inc_X10, tyX10_ok, nmX10, Or.inl (bc6 162 (by decide +kernel) (by decide +kernel))⟩
theorem fX10_58 : FLD RX10 58 9 25 := ⟨RX10, TX10, 50, tyX10, rfl, by decide, inc_X10, tyX10_ok, nmX10, Or.inl (bc6 163 (by decide +kernel) (by decide +kernel))⟩
theorem fX10_61 : FLD RX10 61 9 26 := ⟨RX10, TX10, 50, tyX10, rfl, by decide, inc_X10, tyX10_ok, nmX10, Or.inl (bc6 164 (by decide +kernel) (by decide +kernel))⟩
theorem fX10_64 : FLD RX10 64 9 27 := ⟨RX10, TX10, 50, tyX10, rfl, by decide, inc_X10, tyX10_ok, nmX10, Or.inl (bc6 165 (by decide +kernel) (by decide +kernel))⟩
theorem fX10_67 : FLD RX10 67 9 28 := ⟨RX10, TX10, 50, tyX10, rfl, by decide, inc_X10, tyX10_ok, nmX10, Or.inl (bc6 166 (by decide +kernel) (by decide +kernel))⟩
theorem fX10_70 : FLD RX10 70 9 29 := ⟨RX10, TX10, 50, tyX10, rfl, by decide, inc_X10, tyX10_ok, nmX10, Or.inl (bc6 167 (by decide +kernel) (by decide +kernel))⟩
theorem fX10_262 : FLD RX10 262 9 30 := ⟨RX10, TX10, 50, tyX10, rfl, by decide, inc_X10, tyX10_ok, nmX10, Or.inl (bc6 168 (by decide +kernel) (by decide +kernel))⟩
theorem fiX10_262 : FLDI RX10 262 9 30 := ⟨fX10_262, fun _ _ _ h => by cases h; exact ⟨rfl, by decide +kernel⟩⟩
theorem fX10_73 : FLD RX10 73 9 31 := ⟨RX10, TX10, 50, tyX10, rfl, by decide, inc_X10, tyX10_ok, nmX10, Or.inl (bc6 169 (by decide +kernel) (by decide +kernel))⟩
theorem fX10_76 : FLD RX10 76 9 32 := ⟨RX10, TX10, 50, tyX10, rfl, by decide, inc_X10, tyX10_ok, nmX10, Or.inl (bc6 170 (by decide +kernel) (by decide +kernel))⟩
theorem fX10_79 : FLD RX10 79 9 33 := ⟨RX10, TX10, 50, tyX10, rfl, by decide, inc_X10, tyX10_ok, nmX10, Or.inl (bc6 171 (by decide +kernel) (by decide +kernel))⟩
theorem fX10_82 : FLD RX10 82 9 34 := ⟨RX10, TX10, 50, tyX10, rfl, by decide, inc_X10, tyX10_ok, nmX10, Or.inl (bc6 172 (by decide +kernel) (by decide +kernel))⟩
theorem fX10_85 : FLD RX10 85 9 35 := ⟨RX10, TX10, 50, tyX10, rfl, by decide, inc_X10, tyX10_ok, nmX10, Or.inl (bc6 173 (by decide +kernel) (by decide +kernel))⟩
theorem fX10_88 : FLD RX10 88 9 36 := ⟨RX10, TX10, 50, tyX10, rfl, by decide, inc_X10, tyX10_ok, nmX10, Or.inl (bc6 174 (by decide +kernel) (by decide +kernel))⟩
theorem fX10_91 : FLD RX10 91 9 37 := ⟨RX10, TX10, 50, tyX10, rfl, by decide, inc_X10, tyX10_ok, nmX10, Or.inl (bc6 175 (by decide +kernel) (by decide +kernel))⟩
theorem fX10_209 : FLD RX10 209 9 38 := ⟨RX10, TX10, 50, tyX10, rfl, by decide, inc_X10, tyX10_ok, nmX10, Or.inl (bc6 176 (by decide +kernel) (by decide +kernel))⟩
theorem fiX10_209 : FLDI RX10 209 9 38 := ⟨fX10_209, fun _ _ _ h => by cases h; exact ⟨rfl, by decide +kernel⟩⟩
theorem fX10_212 : FLD RX10 212 9 39 := ⟨RX10, TX10, 50, tyX10, rfl, by decide, inc_X10, tyX10_ok, nmX10, Or.inl (bc6 177 (by decide +kernel) (by decide +kernel))⟩
theorem fiX10_212 : FLDI RX10 212 9 39 := ⟨fX10_212, fun _ _ _ h => by cases h; exact ⟨rfl, by decide +kernel⟩⟩
theorem fX10_215 : FLD RX10 215 9 40 := ⟨RX10, TX10, 50, tyX10, rfl, by decide, inc_X10, tyX10_ok, nmX10, Or.inl (bc6 178 (by decide +kernel) (by decide +kernel))⟩
theorem fiX10_215 : FLDI RX10 215 9 40 := ⟨fX10_215, fun _ _ _ h => by cases h; exact ⟨rfl, by decide +kernel⟩⟩
theorem fX10_218 : FLD RX10 218 9 41 := ⟨RX10, TX10, 50, tyX10, rfl, by decide, inc_X10, tyX10_ok, nmX10, Or.inl (bc6 179 (by decide +kernel) (by decide +kernel))⟩
theorem fiX10_218 : FLDI RX10 218 9 41 := ⟨fX10_218, fun _ _ _ h => by cases h; exact ⟨rfl, by decide +kernel⟩⟩
theorem fX10_414 : FLD RX10 414 9 42 := ⟨RX10, TX10, 50, tyX10, rfl, by decide, inc_X10, tyX10_ok, nmX10, Or.inl (bc6 180 (by decide +kernel) (by decide +kernel))⟩
theorem fiX10_414 : FLDI RX10 414 9 42 := ⟨fX10_414, fun _ _ _ h => by cases h; exact ⟨rfl, by decide +kernel⟩⟩
theorem fX10_279 : FLD RX10 279 9 43 := ⟨RX10, TX10, 50, tyX10, rfl, by decide, inc_X10, tyX10_ok, nmX10, Or.inl (bc6 181 (by decide +kernel) (by decide +kernel))⟩
theorem fiX10_279 : FLDI RX10 279 9 43 := ⟨fX10_279, fun _ _ _ h => by cases h; exact ⟨rfl, by decide +kernel⟩⟩
theorem fX10_203 : FLD RX10 203 9 44 := ⟨RX10, TX10, 50, tyX10, rfl, by decide, inc_X10, tyX10_ok, nmX10, Or.inl (bc6 182 (by decide +kernel) (by decide +kernel))⟩
theorem fiX10_203 : FLDI RX10 203 9 44 := ⟨fX10_203, fun _ _ _ h => by cases h; exact ⟨rfl, by decide +kernel⟩⟩
theorem fX10_320 : FLD RX10 320 9 45 := ⟨RX10, TX10, 50, tyX10, rfl, by decide, inc_X10, tyX10_ok, nmX10, Or.inl (bc6 183 (by decide +kernel) (by decide +kernel))⟩
theorem fiX10_320 : FLDI RX10 320 9 45 := ⟨fX10_320, fun _ _ _ h => by cases h; exact ⟨rfl, by decide +kernel⟩⟩
theorem fX10_330 : FLD RX10 330 9 46 := ⟨RX10, TX10, 50, tyX10, rfl, by decide, inc_X10, tyX10_ok, nmX10, Or.inl (bc6 184 (by decide +kernel) (by decide +kernel))⟩
theorem fiX10_330 : FLDI RX10 330 9 46 := ⟨fX10_330, fun _ _ _ h => by cases h; exact ⟨rfl, by decide +kernel⟩⟩
theorem fX10_94 : FLD RX10 94 9 47 := ⟨RX10, TX10, 50, tyX10, rfl, by decide, inc_X10, tyX10_ok, nmX10, Or.inl (bc6 185 (by decide +kernel) (by decide +kernel))⟩
theorem fX10_400 : FLD RX10 400 9 48 := ⟨RX10, TX10, 50, tyX10, rfl, by decide, inc_X10, tyX10_ok, nmX10, Or.inl (bc6 186 (by decide +kernel) (by decide +kernel))⟩
theorem fiX10_400 : FLDI RX10 400 9 48 := ⟨fX10_400, fun _ _ _ h => by cases h; exact ⟨rfl, by decide +kernel⟩⟩
theorem fX10_403 : FLD RX10 403 9 49 := ⟨RX10, TX10, 50, tyX10, rfl, by decide, inc_X10, tyX10_ok, nmX10, Or.inl (bc6 187 (by decide +kernel) (by decide +kernel))⟩
theorem fiX10_403 : FLDI RX10 403 9 49 := ⟨fX10_403, fun _ _ _ h => by cases h; exact ⟨rfl, by decide +kernel⟩⟩
def mJ0_charAt_5068e : MT := (yJ0_charAt_5068e, cJ0_charAt_5068e, 2, some .char, 4, [])
def mJ0_checkIndex_df160 : MT := (yJ0_checkIndex_df160, cJ0_checkIndex_df160, 2, none, 1, [])
def mJ0_coder_7d493 : MT := (yJ0_coder_7d493, cJ0_coder_7d493, 1, some .byte, 0, [])
def mJ0_isLatin1_aae02 : MT := (yJ0_isLatin1_aae02, cJ0_isLatin1_aae02, 1, some .boolean, 0, [])
def mJ0_length_8abf5 : MT := (yJ0_length_8abf5, cJ0_length_8abf5, 1, some .int, 1, [])
def mJ1_charAt_3b067 : MT := (yJ1_charAt_3b067, cJ1_charAt_3b067, 2, some .char, 2, [])
def mJ2_charAt_3b067 : MT := (yJ2_charAt_3b067, cJ2_charAt_3b067, 2, some .char, 3, [])
def mJ2_checkIndex_2214a : MT := (yJ2_checkIndex_2214a, cJ2_checkIndex_2214a, 2, none, 2, [])
def mJ2_getChar_3b067 : MT := (yJ2_getChar_3b067, cJ2_getChar_3b067, 2, some .char, 1, [])
def mJ2_length_9d52b : MT := (yJ2_length_9d52b, cJ2_length_9d52b, 1, some .int, 0, [])
def mJ3_checkIndex_8e157 : MT := (yJ3_checkIndex_8e157, cJ3_checkIndex_8e157, 3, some .int, 0, [])
def mJ6_bitCount_0f7a4 : MT := (yJ6_bitCount_0f7a4, cJ6_bitCount_0f7a4, 1, some .int, 0, [])
def mJ9_max_7cf53 : MT := (yJ9_max_7cf53, cJ9_max_7cf53, 2, some .int, 0, [])
def mJ9_min_7cf53 : MT := (yJ9_min_7cf53, cJ9_min_7cf53, 2, some .int, 0, [])
def mL_ahead : MT := (yL_ahead, cL_ahead, 5, some .int, 7, [(0, 10, 13, 13)])
def mL_bags : MT := (yL_bags, cL_bags, 5, some .int, 5, [(0, 10, 13, 13)])
def mL_board : MT := (yL_board, cL_board, 4, some .int, 6, [(0, 9, 12, 13)])
def mL_carry : MT := (yL_carry, cL_carry, 6, some .int, 7, [(0, 12, 15, 13)])
def mL_comes : MT := (yL_comes, cL_comes, 4, some .int, 6, [(0, 9, 12, 31)])
def mL_dearest : MT := (yL_dearest, cL_dearest, 4, some .int, 2, [(0, 9, 12, 13)])
def mL_drift : MT := (yL_drift, cL_drift, 6, some .int, 6, [(0, 12, 15, 31), (0, 12, 19, 13)])
def mL_dry : MT := (yL_dry, cL_dry, 5, some .int, 6, [(0, 10, 13, 13)])
def mL_due : MT := (yL_due, cL_due, 4, some .int, 7, [(0, 9, 12, 31)])
def mL_find : MT := (yL_find, cL_find, 5, some .int, 2, [(0, 10, 13, 31), (0, 10, 17, 13)])
def mL_fullest : MT := (yL_fullest, cL_fullest, 4, some .int, 3, [(0, 9, 12, 13)])
def mL_gain : MT := (yL_gain, cL_gain, 6, some .int, 7, [(0, 12, 15, 31), (0, 12, 19, 13)])
def mL_height : MT := (yL_height, cL_height, 4, some .int, 3, [(0, 9, 12, 13)])
def mL_house : MT := (yL_house, cL_house, 5, some .int, 3, [(0, 10, 13, 31), (0, 10, 17, 13)])
def mL_in : MT := (yL_in, cL_in, 4, some .int, 5, [(0, 9, 12, 13)])
def mL_law : MT := (yL_law, cL_law, 4, some .int, 83, [(0, 9, 12, 13)])
def mL_loads : MT := (yL_loads, cL_loads, 5, some .int, 3, [(0, 10, 13, 31), (0, 10, 17, 13)])
def mL_neap : MT := (yL_neap, cL_neap, 4, some .int, 7, [(0, 9, 12, 13)])
def mL_parlour : MT := (yL_parlour, cL_parlour, 6, some .int, 4, [(0, 12, 15, 13)])
def mL_pays : MT := (yL_pays, cL_pays, 5, some .int, 7, [(0, 10, 13, 31), (0, 10, 17, 13)])
def mL_rent : MT := (yL_rent, cL_rent, 5, some .int, 7, [(0, 10, 13, 13)])
def mL_share : MT := (yL_share, cL_share, 6, some .int, 4, [(0, 12, 15, 31), (0, 12, 19, 13)])
def mL_snaps : MT := (yL_snaps, cL_snaps, 4, some .int, 6, [(0, 9, 12, 31)])
def mL_soaked : MT := (yL_soaked, cL_soaked, 5, some .int, 6, [(0, 10, 13, 31), (0, 10, 17, 13)])
def mL_span : MT := (yL_span, cL_span, 10, some .int, 7, [(0, 20, 23, 13)])
def mL_spring : MT := (yL_spring, cL_spring, 4, some .int, 5, [(0, 9, 12, 13)])
def mL_stains : MT := (yL_stains, cL_stains, 4, some .int, 6, [(0, 9, 12, 13)])
def mL_street : MT := (yL_street, cL_street, 4, some .int, 9, [(0, 9, 12, 13)])
def mL_thing : MT := (yL_thing, cL_thing, 5, some .int, 2, [(0, 10, 13, 31), (0, 10, 17, 13)])
def mL_told : MT := (yL_told, cL_told, 4, some .int, 4, [(0, 9, 12, 13)])
def mL_whence : MT := (yL_whence, cL_whence, 6, some .int, 7, [(0, 12, 15, 31), (0, 12, 19, 13)])
def mL_work : MT := (yL_work, cL_work, 4, some .int, 10, [(0, 9, 12, 13)])
def mL_would : MT := (yL_would, cL_would, 9, some .int, 4, [(0, 18, 21, 13)])
def mL_year : MT := (yL_year, cL_year, 8, some .int, 7, [(0, 16, 19, 13)])
def mX0_begin : MT := (yX0_begin, cX0_begin, 1, none, 2, [])
def mX0_bestCarried : MT := (yX0_bestCarried, cX0_bestCarried, 8, some .int, 5, [])
def mX0_breakOf : MT := (yX0_breakOf, cX0_breakOf, 3, some .int, 4, [])
def mX0_comesIntoAny : MT := (yX0_comesIntoAny, cX0_comesIntoAny, 4, some .boolean, 4, [])
def mX0_driftFrom : MT := (yX0_driftFrom, cX0_driftFrom, 6, some .int, 4, [])
def mX0_driftsTo : MT := (yX0_driftsTo, cX0_driftsTo, 9, some .int, 5, [])
def mX0_fewestBags : MT := (yX0_fewestBags, cX0_fewestBags, 7, some .int, 3, [])
def mX0_firstInto : MT := (yX0_firstInto, cX0_firstInto, 3, some .int, 4, [])
def mX0_goAhead : MT := (yX0_goAhead, cX0_goAhead, 4, none, 4, [])
def mX0_goWindy : MT := (yX0_goWindy, cX0_goWindy, 10, some .int, 4, [])
def mX0_goYear : MT := (yX0_goYear, cX0_goYear, 5, some .int, 5, [])
def mX0_goneThen : MT := (yX0_goneThen, cX0_goneThen, 1, some .int, 3, [])
def mX0_heightAhead : MT := (yX0_heightAhead, cX0_heightAhead, 2, some .int, 2, [])
def mX0_highestAhead : MT := (yX0_highestAhead, cX0_highestAhead, 3, some .int, 3, [])
def mX0_init : MT := (yX0_init, cX0_init, 4, none, 1, [])
def mX0_isGoneThen : MT := (yX0_isGoneThen, cX0_isGoneThen, 2, some .boolean, 2, [])
def mX0_leastRent : MT := (yX0_leastRent, cX0_leastRent, 4, some .int, 5, [])
def mX0_longestDry : MT := (yX0_longestDry, cX0_longestDry, 6, some .int, 5, [])
def mX0_meanFound : MT := (yX0_meanFound, cX0_meanFound, 7, some .int, 5, [])
def mX0_paidAhead : MT := (yX0_paidAhead, cX0_paidAhead, 3, some .int, 5, [])
def mX0_paidThen : MT := (yX0_paidThen, cX0_paidThen, 1, some .int, 2, [])
def mX0_passNext : MT := (yX0_passNext, cX0_passNext, 1, none, 3, [])
def mX0_savedBy : MT := (yX0_savedBy, cX0_savedBy, 6, some .int, 2, [])
def mX0_standAhead : MT := (yX0_standAhead, cX0_standAhead, 3, some .int, 5, [])
def mX0_timesInto : MT := (yX0_timesInto, cX0_timesInto, 6, some .int, 4, [])
def mX0_timesWet : MT := (yX0_timesWet, cX0_timesWet, 5, some .int, 4, [])
def mX0_waterAhead : MT := (yX0_waterAhead, cX0_waterAhead, 3, some .int, 3, [])
def mX0_yearBy : MT := (yX0_yearBy, cX0_yearBy, 7, some .int, 5, [])
def mX1_add : MT := (yX1_add, cX1_add, 2, some .boolean, 1, [])
def mX1_addConstant : MT := (yX1_addConstant, cX1_addConstant, 2, some .boolean, 1, [])
def mX1_beDefault : MT := (yX1_beDefault, cX1_beDefault, 1, none, 2, [])
def mX1_codeOf : MT := (yX1_codeOf, cX1_codeOf, 1, some .int, 6, [])
def mX1_copyFrom : MT := (yX1_copyFrom, cX1_copyFrom, 2, none, 2, [])
def mX1_dueBy : MT := (yX1_dueBy, cX1_dueBy, 10, some .int, 2, [])
def mX1_init : MT := (yX1_init, cX1_init, 1, none, 0, [])
def mX1_outOf : MT := (yX1_outOf, cX1_outOf, 3, some .int, 1, [])
def mX1_read : MT := (yX1_read, cX1_read, 2, some .boolean, 81, [])
def mX1_readPair (d : Nat) : MT := (yX1_readPair, cX1_readPair, 3, some .boolean, d, [])
def mX1_readProduct (d : Nat) : MT := (yX1_readProduct, cX1_readProduct, 5, some .boolean, d, [])
def mX1_readSum (d : Nat) : MT := (yX1_readSum, cX1_readSum, 5, some .boolean, d, [])
def mX1_readUnit (d : Nat) : MT := (yX1_readUnit, cX1_readUnit, 5, some .boolean, d, [])
def mX10_ahead : MT := (yX10_ahead, cX10_ahead, 6, some .int, 6, [])
def mX10_areHouses : MT := (yX10_areHouses, cX10_areHouses, 2, some .boolean, 1, [])
def mX10_bad : MT := (yX10_bad, cX10_bad, 4, some .boolean, 0, [])
def mX10_bags : MT := (yX10_bags, cX10_bags, 7, some .int, 2, [])
def mX10_beginsAnew : MT := (yX10_beginsAnew, cX10_beginsAnew, 2, none, 1, [])
def mX10_blanks : MT := (yX10_blanks, cX10_blanks, 1, none, 1, [])
def mX10_board : MT := (yX10_board, cX10_board, 6, some .int, 5, [])
def mX10_by : MT := (yX10_by, cX10_by, 3, some .int, 1, [])
def mX10_byLaw : MT := (yX10_byLaw, cX10_byLaw, 3, some .int, 2, [])
def mX10_byteAt : MT := (yX10_byteAt, cX10_byteAt, 2, some .int, 0, [])
def mX10_carry : MT := (yX10_carry, cX10_carry, 9, some .int, 7, [])
def mX10_clause : MT := (yX10_clause, cX10_clause, 4, none, 5, [])
def mX10_comes : MT := (yX10_comes, cX10_comes, 3, some .int, 2, [])
def mX10_copies : MT := (yX10_copies, cX10_copies, 3, none, 0, [])
def mX10_count : MT := (yX10_count, cX10_count, 2, some .int, 0, [])
def mX10_counts : MT := (yX10_counts, cX10_counts, 3, none, 3, [])
def mX10_dearest : MT := (yX10_dearest, cX10_dearest, 5, some .int, 1, [])
def mX10_does : MT := (yX10_does, cX10_does, 7, some .boolean, 6, [])
def mX10_drift : MT := (yX10_drift, cX10_drift, 4, some .int, 3, [])
def mX10_driftOf : MT := (yX10_driftOf, cX10_driftOf, 6, some .int, 2, [])
def mX10_dry : MT := (yX10_dry, cX10_dry, 7, some .int, 2, [])
def mX10_due : MT := (yX10_due, cX10_due, 2, some .int, 5, [])
def mX10_dueBy : MT := (yX10_dueBy, cX10_dueBy, 7, some .int, 3, [])
def mX10_dueOf : MT := (yX10_dueOf, cX10_dueOf, 3, some .int, 4, [])
def mX10_ends : MT := (yX10_ends, cX10_ends, 1, some .int, 0, [])
def mX10_fault : MT := (yX10_fault, cX10_fault, 1, some .int, 0, [])
def mX10_feed : MT := (yX10_feed, cX10_feed, 8, some .int, 0, [])
def mX10_find : MT := (yX10_find, cX10_find, 3, some .int, 1, [])
def mX10_free : MT := (yX10_free, cX10_free, 3, some .int, 0, [])
def mX10_fullest : MT := (yX10_fullest, cX10_fullest, 5, some .int, 1, [])
def mX10_gain : MT := (yX10_gain, cX10_gain, 9, some .int, 2, [])
def mX10_givenBy : MT := (yX10_givenBy, cX10_givenBy, 5, some .int, 1, [])
def mX10_goes (d : Nat) : MT := (yX10_goes, cX10_goes, 5, none, d, [])
def mX10_goesOn : MT := (yX10_goesOn, cX10_goesOn, 3, none, 6, [])
def mX10_goneIn : MT := (yX10_goneIn, cX10_goneIn, 4, some .int, 0, [])
def mX10_has : MT := (yX10_has, cX10_has, 2, some .boolean, 0, [])
def mX10_height : MT := (yX10_height, cX10_height, 2, some .int, 1, [])
def mX10_heightIn : MT := (yX10_heightIn, cX10_heightIn, 2, some .int, 0, [])
def mX10_house : MT := (yX10_house, cX10_house, 5, some .int, 3, [])
def mX10_houseHas : MT := (yX10_houseHas, cX10_houseHas, 4, some .int, 0, [])
def mX10_image : MT := (yX10_image, cX10_image, 1, some .int, 2, [])
def mX10_in : MT := (yX10_in, cX10_in, 6, some .int, 4, [])
def mX10_init : MT := (yX10_init, cX10_init, 1, none, 2, [])
def mX10_isAfloat : MT := (yX10_isAfloat, cX10_isAfloat, 3, some .boolean, 1, [])
def mX10_isDigit : MT := (yX10_isDigit, cX10_isDigit, 1, some .boolean, 0, [])
def mX10_isFull : MT := (yX10_isFull, cX10_isFull, 2, some .boolean, 0, [])
def mX10_isHouse : MT := (yX10_isHouse, cX10_isHouse, 2, some .boolean, 1, [])
def mX10_isIn : MT := (yX10_isIn, cX10_isIn, 3, some .boolean, 0, [])
def mX10_isInAny : MT := (yX10_isInAny, cX10_isInAny, 3, some .boolean, 2, [])
def mX10_isRest : MT := (yX10_isRest, cX10_isRest, 5, some .boolean, 1, [])
def mX10_isSmall : MT := (yX10_isSmall, cX10_isSmall, 1, some .boolean, 0, [])
def mX10_isStained : MT := (yX10_isStained, cX10_isStained, 3, some .boolean, 3, [])
def mX10_isThing : MT := (yX10_isThing, cX10_isThing, 2, some .boolean, 1, [])
def mX10_isTold : MT := (yX10_isTold, cX10_isTold, 3, some .boolean, 0, [])
def mX10_isWet : MT := (yX10_isWet, cX10_isWet, 3, some .boolean, 0, [])
def mX10_isWord : MT := (yX10_isWord, cX10_isWord, 8, some .boolean, 3, [])
def mX10_isYear : MT := (yX10_isYear, cX10_isYear, 3, some .boolean, 1, [])
def mX10_kindHere : MT := (yX10_kindHere, cX10_kindHere, 1, some .int, 4, [])
def mX10_knownHere : MT := (yX10_knownHere, cX10_knownHere, 1, some .int, 5, [])
def mX10_law : MT := (yX10_law, cX10_law, 2, some .int, 81, [])
def mX10_lays : MT := (yX10_lays, cX10_lays, 5, none, 0, [])
def mX10_less : MT := (yX10_less, cX10_less, 2, some .int, 0, [])
def mX10_loads : MT := (yX10_loads, cX10_loads, 5, some .int, 2, [])
def mX10_more : MT := (yX10_more, cX10_more, 2, some .int, 0, [])
def mX10_neap : MT := (yX10_neap, cX10_neap, 6, some .int, 3, [])
def mX10_nextHouse : MT := (yX10_nextHouse, cX10_nextHouse, 2, some .int, 0, [])
def mX10_notes : MT := (yX10_notes, cX10_notes, 3, none, 0, [])
def mX10_number : MT := (yX10_number, cX10_number, 5, some .int, 2, [])
def mX10_one (d : Nat) : MT := (yX10_one, cX10_one, 3, none, d, [])
def mX10_opensOne : MT := (yX10_opensOne, cX10_opensOne, 1, some .boolean, 1, [])
def mX10_paidIn : MT := (yX10_paidIn, cX10_paidIn, 4, some .int, 0, [])
def mX10_parlour : MT := (yX10_parlour, cX10_parlour, 9, some .int, 2, [])
def mX10_pays : MT := (yX10_pays, cX10_pays, 3, some .int, 7, [])
def mX10_product (d : Nat) : MT := (yX10_product, cX10_product, 2, none, d, [])
def mX10_puts : MT := (yX10_puts, cX10_puts, 4, some .int, 0, [])
def mX10_putsAll : MT := (yX10_putsAll, cX10_putsAll, 5, none, 1, [])
def mX10_readsStep (d : Nat) : MT := (yX10_readsStep, cX10_readsStep, 3, none, d, [])
def mX10_rent : MT := (yX10_rent, cX10_rent, 5, some .int, 7, [])
def mX10_restore : MT := (yX10_restore, cX10_restore, 1, some .int, 2, [])
def mX10_seaHas : MT := (yX10_seaHas, cX10_seaHas, 4, some .int, 0, [])
def mX10_seven : MT := (yX10_seven, cX10_seven, 9, some .long, 0, [])
def mX10_share : MT := (yX10_share, cX10_share, 5, some .int, 2, [])
def mX10_sign : MT := (yX10_sign, cX10_sign, 2, none, 2, [])
def mX10_sillOf : MT := (yX10_sillOf, cX10_sillOf, 3, some .int, 0, [])
def mX10_skipWord : MT := (yX10_skipWord, cX10_skipWord, 1, none, 1, [])
def mX10_snaps : MT := (yX10_snaps, cX10_snaps, 3, some .int, 6, [])
def mX10_soaked : MT := (yX10_soaked, cX10_soaked, 5, some .int, 6, [])
def mX10_span : MT := (yX10_span, cX10_span, 13, some .int, 7, [])
def mX10_spring : MT := (yX10_spring, cX10_spring, 4, some .int, 1, [])
def mX10_stainBy : MT := (yX10_stainBy, cX10_stainBy, 5, some .int, 2, [])
def mX10_stains : MT := (yX10_stains, cX10_stains, 7, some .int, 3, [])
def mX10_starts : MT := (yX10_starts, cX10_starts, 2, none, 2, [])
def mX10_status : MT := (yX10_status, cX10_status, 2, some .int, 1, [])
def mX10_stepHere : MT := (yX10_stepHere, cX10_stepHere, 1, some .int, 4, [])
def mX10_street : MT := (yX10_street, cX10_street, 2, some .int, 6, [])
def mX10_sum (d : Nat) : MT := (yX10_sum, cX10_sum, 2, none, d, [])
def mX10_takes : MT := (yX10_takes, cX10_takes, 9, some .boolean, 4, [])
def mX10_takesSign : MT := (yX10_takesSign, cX10_takesSign, 3, some .boolean, 2, [])
def mX10_tellsNothing : MT := (yX10_tellsNothing, cX10_tellsNothing, 2, none, 0, [])
def mX10_thing : MT := (yX10_thing, cX10_thing, 3, some .int, 2, [])
def mX10_thingsIn : MT := (yX10_thingsIn, cX10_thingsIn, 4, some .int, 0, [])
def mX10_thrown : MT := (yX10_thrown, cX10_thrown, 1, some .int, 0, [])
def mX10_tideComes : MT := (yX10_tideComes, cX10_tideComes, 4, none, 5, [])
def mX10_told : MT := (yX10_told, cX10_told, 2, some .int, 1, [])
def mX10_undo : MT := (yX10_undo, cX10_undo, 1, some .int, 1, [])
def mX10_waterBy : MT := (yX10_waterBy, cX10_waterBy, 4, some .int, 1, [])
def mX10_waterIn : MT := (yX10_waterIn, cX10_waterIn, 3, some .int, 2, [])
def mX10_wears : MT := (yX10_wears, cX10_wears, 3, none, 0, [])
def mX10_weightOf : MT := (yX10_weightOf, cX10_weightOf, 4, some .int, 1, [])
def mX10_whence : MT := (yX10_whence, cX10_whence, 9, some .int, 3, [])
def mX10_wordHere : MT := (yX10_wordHere, cX10_wordHere, 4, some .long, 2, [])
def mX10_work : MT := (yX10_work, cX10_work, 2, some .int, 81, [])
def mX10_worstAt : MT := (yX10_worstAt, cX10_worstAt, 4, some .int, 4, [])
def mX10_worthIn : MT := (yX10_worthIn, cX10_worthIn, 4, some .int, 0, [])
def mX10_would : MT := (yX10_would, cX10_would, 7, some .int, 4, [])
def mX10_wrong : MT := (yX10_wrong, cX10_wrong, 3, none, 0, [])
def mX10_year : MT := (yX10_year, cX10_year, 6, some .int, 7, [])
def mX10_yearBy : MT := (yX10_yearBy, cX10_yearBy, 6, none, 6, [])
def mX2_clear : MT := (yX2_clear, cX2_clear, 2, none, 1, [])
def mX2_copyFrom : MT := (yX2_copyFrom, cX2_copyFrom, 2, none, 2, [])
def mX2_fits : MT := (yX2_fits, cX2_fits, 6, some .boolean, 2, [])
def mX2_fittingTides : MT := (yX2_fittingTides, cX2_fittingTides, 5, some .int, 3, [])
def mX2_init : MT := (yX2_init, cX2_init, 1, none, 0, [])
def mX2_nextBoard : MT := (yX2_nextBoard, cX2_nextBoard, 7, some .int, 4, [])
def mX2_read : MT := (yX2_read, cX2_read, 4, some .boolean, 4, [])
def mX2_readLine : MT := (yX2_readLine, cX2_readLine, 5, some .boolean, 3, [])
def mX2_setsLeft : MT := (yX2_setsLeft, cX2_setsLeft, 5, some .int, 3, [])
def mX2_setsUnder : MT := (yX2_setsUnder, cX2_setsUnder, 5, some .int, 2, [])
def mX2_worstLeft : MT := (yX2_worstLeft, cX2_worstLeft, 8, some .int, 3, [])
def mX3_houseHas : MT := (yX3_houseHas, cX3_houseHas, 4, some .int, 0, [])
def mX3_isRest : MT := (yX3_isRest, cX3_isRest, 5, some .boolean, 1, [])
def mX3_rests : MT := (yX3_rests, cX3_rests, 8, some .int, 2, [])
def mX3_seaHas : MT := (yX3_seaHas, cX3_seaHas, 4, some .int, 0, [])
def mX4_addImage : MT := (yX4_addImage, cX4_addImage, 3, some .boolean, 1, [])
def mX4_clear : MT := (yX4_clear, cX4_clear, 1, none, 0, [])
def mX4_init : MT := (yX4_init, cX4_init, 1, none, 0, [])
def mX4_isFull : MT := (yX4_isFull, cX4_isFull, 1, some .boolean, 0, [])
def mX4_keep : MT := (yX4_keep, cX4_keep, 2, none, 1, [])
def mX4_takeBack : MT := (yX4_takeBack, cX4_takeBack, 2, some .boolean, 1, [])
def mX4_takeImage : MT := (yX4_takeImage, cX4_takeImage, 3, some .boolean, 1, [])
def mX5_addBag : MT := (yX5_addBag, cX5_addBag, 2, some .boolean, 1, [])
def mX5_comeIn : MT := (yX5_comeIn, cX5_comeIn, 3, some .boolean, 4, [])
def mX5_givenUnder : MT := (yX5_givenUnder, cX5_givenUnder, 6, some .int, 1, [])
def mX5_goneThings : MT := (yX5_goneThings, cX5_goneThings, 4, some .int, 2, [])
def mX5_greatestBound : MT := (yX5_greatestBound, cX5_greatestBound, 5, some .int, 2, [])
def mX5_init : MT := (yX5_init, cX5_init, 1, none, 0, [])
def mX5_isDown : MT := (yX5_isDown, cX5_isDown, 2, some .boolean, 1, [])
def mX5_isGone : MT := (yX5_isGone, cX5_isGone, 2, some .boolean, 1, [])
def mX5_lift : MT := (yX5_lift, cX5_lift, 2, some .boolean, 2, [])
def mX5_lower : MT := (yX5_lower, cX5_lower, 2, some .boolean, 1, [])
def mX5_of : MT := (yX5_of, cX5_of, 4, some .int, 0, [])
def mX5_open : MT := (yX5_open, cX5_open, 3, none, 1, [])
def mX5_paidInAll : MT := (yX5_paidInAll, cX5_paidInAll, 4, some .int, 1, [])
def mX5_pass : MT := (yX5_pass, cX5_pass, 5, none, 2, [])
def mX5_payDues : MT := (yX5_payDues, cX5_payDues, 8, none, 3, [])
def mX5_set : MT := (yX5_set, cX5_set, 5, none, 0, [])
def mX5_soak : MT := (yX5_soak, cX5_soak, 6, none, 1, [])
def mX5_thingsIn : MT := (yX5_thingsIn, cX5_thingsIn, 5, some .int, 1, [])
def mX5_tideToCome : MT := (yX5_tideToCome, cX5_tideToCome, 1, some .int, 1, [])
def mX5_tie : MT := (yX5_tie, cX5_tie, 2, some .boolean, 2, [])
def mX5_untie : MT := (yX5_untie, cX5_untie, 2, some .boolean, 1, [])
def mX5_waterIn : MT := (yX5_waterIn, cX5_waterIn, 3, some .int, 1, [])
def mX5_worthLeft : MT := (yX5_worthLeft, cX5_worthLeft, 4, some .int, 2, [])
def mX6_add : MT := (yX6_add, cX6_add, 3, none, 1, [])
def mX6_doAll : MT := (yX6_doAll, cX6_doAll, 11, some .int, 6, [])
def mX6_doStep : MT := (yX6_doStep, cX6_doStep, 5, some .boolean, 5, [])
def mX6_init : MT := (yX6_init, cX6_init, 1, none, 0, [])
def mX6_kindOf : MT := (yX6_kindOf, cX6_kindOf, 1, some .int, 6, [])
def mX6_read : MT := (yX6_read, cX6_read, 5, some .boolean, 8, [])
def mX6_readAgain : MT := (yX6_readAgain, cX6_readAgain, 3, some .boolean, 3, [])
def mX6_readEnd : MT := (yX6_readEnd, cX6_readEnd, 3, some .boolean, 3, [])
def mX6_readStep : MT := (yX6_readStep, cX6_readStep, 5, some .boolean, 7, [])
def mX7_copyFrom : MT := (yX7_copyFrom, cX7_copyFrom, 2, none, 2, [])
def mX7_heightOf : MT := (yX7_heightOf, cX7_heightOf, 2, some .int, 1, [])
def mX7_init : MT := (yX7_init, cX7_init, 1, none, 0, [])
def mX7_read : MT := (yX7_read, cX7_read, 3, some .boolean, 7, [])
def mX7_readClause : MT := (yX7_readClause, cX7_readClause, 3, some .boolean, 6, [])
def mX7_readFind : MT := (yX7_readFind, cX7_readFind, 3, some .boolean, 4, [])
def mX7_readHouse : MT := (yX7_readHouse, cX7_readHouse, 3, some .boolean, 4, [])
def mX7_readInto : MT := (yX7_readInto, cX7_readInto, 7, some .boolean, 3, [])
def mX7_readRent : MT := (yX7_readRent, cX7_readRent, 2, some .boolean, 3, [])
def mX7_readRope : MT := (yX7_readRope, cX7_readRope, 2, some .boolean, 3, [])
def mX7_readThing : MT := (yX7_readThing, cX7_readThing, 3, some .boolean, 4, [])
def mX7_readTide : MT := (yX7_readTide, cX7_readTide, 3, some .boolean, 4, [])
def mX8_addNumber : MT := (yX8_addNumber, cX8_addNumber, 3, none, 1, [])
def mX8_begin : MT := (yX8_begin, cX8_begin, 2, none, 0, [])
def mX8_failHere : MT := (yX8_failHere, cX8_failHere, 2, some .boolean, 0, [])
def mX8_failToken : MT := (yX8_failToken, cX8_failToken, 2, some .boolean, 0, [])
def mX8_faultAnswer : MT := (yX8_faultAnswer, cX8_faultAnswer, 1, some .int, 0, [])
def mX8_hasRoom : MT := (yX8_hasRoom, cX8_hasRoom, 2, some .boolean, 0, [])
def mX8_init : MT := (yX8_init, cX8_init, 1, none, 0, [])
def mX8_isDigit : MT := (yX8_isDigit, cX8_isDigit, 1, some .boolean, 0, [])
def mX8_isEnded : MT := (yX8_isEnded, cX8_isEnded, 1, some .boolean, 2, [])
def mX8_isLetter : MT := (yX8_isLetter, cX8_isLetter, 1, some .boolean, 0, [])
def mX8_isWord : MT := (yX8_isWord, cX8_isWord, 4, some .boolean, 5, [])
def mX8_peek : MT := (yX8_peek, cX8_peek, 2, some .int, 1, [])
def mX8_skipSign : MT := (yX8_skipSign, cX8_skipSign, 1, none, 0, [])
def mX8_takeNumber : MT := (yX8_takeNumber, cX8_takeNumber, 4, some .int, 2, [])
def mX8_takeSign : MT := (yX8_takeSign, cX8_takeSign, 2, some .boolean, 2, [])
def mX8_takeWord : MT := (yX8_takeWord, cX8_takeWord, 1, some .boolean, 2, [])
def mX9_ahead : MT := (yX9_ahead, cX9_ahead, 3, some .int, 6, [])
def mX9_at : MT := (yX9_at, cX9_at, 2, some .int, 0, [])
def mX9_bags : MT := (yX9_bags, cX9_bags, 3, some .int, 4, [])
def mX9_board : MT := (yX9_board, cX9_board, 3, some .int, 5, [])
def mX9_carry : MT := (yX9_carry, cX9_carry, 4, some .int, 6, [])
def mX9_comes : MT := (yX9_comes, cX9_comes, 2, some .int, 5, [])
def mX9_copyRow : MT := (yX9_copyRow, cX9_copyRow, 5, none, 0, [])
def mX9_copyWhole : MT := (yX9_copyWhole, cX9_copyWhole, 2, none, 1, [])
def mX9_count : MT := (yX9_count, cX9_count, 2, some .int, 0, [])
def mX9_dearest : MT := (yX9_dearest, cX9_dearest, 6, some .int, 1, [])
def mX9_drift : MT := (yX9_drift, cX9_drift, 4, some .int, 5, [])
def mX9_dry : MT := (yX9_dry, cX9_dry, 5, some .int, 5, [])
def mX9_due : MT := (yX9_due, cX9_due, 2, some .int, 6, [])
def mX9_fault : MT := (yX9_fault, cX9_fault, 1, some .int, 0, [])
def mX9_feed : MT := (yX9_feed, cX9_feed, 6, some .int, 2, [])
def mX9_find : MT := (yX9_find, cX9_find, 3, some .int, 1, [])
def mX9_fullest : MT := (yX9_fullest, cX9_fullest, 6, some .int, 2, [])
def mX9_gain : MT := (yX9_gain, cX9_gain, 4, some .int, 6, [])
def mX9_height : MT := (yX9_height, cX9_height, 2, some .int, 2, [])
def mX9_house : MT := (yX9_house, cX9_house, 3, some .int, 2, [])
def mX9_image : MT := (yX9_image, cX9_image, 1, some .int, 2, [])
def mX9_in : MT := (yX9_in, cX9_in, 4, some .int, 4, [])
def mX9_init : MT := (yX9_init, cX9_init, 1, none, 4, [])
def mX9_law : MT := (yX9_law, cX9_law, 2, some .int, 82, [])
def mX9_loads : MT := (yX9_loads, cX9_loads, 5, some .int, 2, [])
def mX9_neap : MT := (yX9_neap, cX9_neap, 2, some .int, 6, [])
def mX9_needElement : MT := (yX9_needElement, cX9_needElement, 3, none, 0, [])
def mX9_needHouse : MT := (yX9_needHouse, cX9_needHouse, 2, none, 1, [])
def mX9_needHouses : MT := (yX9_needHouses, cX9_needHouses, 2, none, 1, [])
def mX9_needRange : MT := (yX9_needRange, cX9_needRange, 4, none, 0, [])
def mX9_needText : MT := (yX9_needText, cX9_needText, 3, none, 1, [])
def mX9_needYear : MT := (yX9_needYear, cX9_needYear, 4, none, 1, [])
def mX9_openStreet : MT := (yX9_openStreet, cX9_openStreet, 1, none, 3, [])
def mX9_parlour : MT := (yX9_parlour, cX9_parlour, 4, some .int, 3, [])
def mX9_pays : MT := (yX9_pays, cX9_pays, 3, some .int, 6, [])
def mX9_put : MT := (yX9_put, cX9_put, 3, none, 0, [])
def mX9_rent : MT := (yX9_rent, cX9_rent, 3, some .int, 6, [])
def mX9_restore : MT := (yX9_restore, cX9_restore, 1, some .int, 2, [])
def mX9_share : MT := (yX9_share, cX9_share, 4, some .int, 3, [])
def mX9_snaps : MT := (yX9_snaps, cX9_snaps, 2, some .int, 5, [])
def mX9_soaked : MT := (yX9_soaked, cX9_soaked, 3, some .int, 5, [])
def mX9_span : MT := (yX9_span, cX9_span, 12, some .int, 6, [])
def mX9_spring : MT := (yX9_spring, cX9_spring, 3, some .int, 4, [])
def mX9_stains : MT := (yX9_stains, cX9_stains, 2, some .int, 5, [])
def mX9_status : MT := (yX9_status, cX9_status, 2, some .int, 0, [])
def mX9_street : MT := (yX9_street, cX9_street, 2, some .int, 8, [])
def mX9_thing : MT := (yX9_thing, cX9_thing, 3, some .int, 1, [])
def mX9_told : MT := (yX9_told, cX9_told, 2, some .int, 3, [])
def mX9_undo : MT := (yX9_undo, cX9_undo, 1, some .int, 2, [])
def mX9_whence : MT := (yX9_whence, cX9_whence, 4, some .int, 6, [])
def mX9_work : MT := (yX9_work, cX9_work, 3, some .int, 9, [])
def mX9_would : MT := (yX9_would, cX9_would, 7, some .int, 3, [])
def mX9_year : MT := (yX9_year, cX9_year, 6, some .int, 6, [])
