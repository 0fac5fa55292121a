/-! one round of the law -/
def mL_law_ : MT := (x, code, maxLocals, ret, 200, [])
theorem r_sldA {G : SG} {mt : MT} {pc : Nat} {lv : List (Nat × Value)} {st : List Value} {μ : Mem} {t : Nat} {Q : PQ} {X : PX} {i a : Int32} (hi : vp_in i (gs G) ∧ gx G (ix i) = a) (hd : decode (mB mt) pc = .ok (.iaload, 1)) (kk : R G mt (pc + 1) lv (.int a :: st) μ t Q X) : R G mt pc lv (.int i :: .ref (gb G) :: st) μ t Q X := by
  refine r_sld hi.1 hd ?_
  have e : gx G i.toNatClampNeg = a := hi.2
  rw [e]
  exact kk
theorem r_csW {G : SG} {mt mk : MT} {pc : Nat} {lv : List (Nat × Value)} {μ μ' : Mem} {t T : Nat} {Q : PQ} {X : PX} {idx : Nat} {As rest stk : List Value} {r : Int32} (hk : OkW G mk T As μ r μ') (hln : LNH (mN mt).cls idx mk As.length)
    (hd : decode (mB mt) pc = .ok (.invokestatic idx, 3)) (hdep : mD mk + 1 ≤ mD mt) (hml : mL mk ≤ 21) (hstk : stk = As.reverse ++ rest) (hcat : (rest.map fun v => v.category).sum ≤ 8) (hT : T ≤ 8) (kk : R G mt (pc + 3) lv (.int r :: rest) μ' t Q X) : R G mt pc lv stk μ (8 + t) Q X := by
  refine r_callH hk hln hd hdep hml hstk hcat (by omega) (fun E μ' h => h.elim) (fun v ν h => ?_)
  obtain ⟨rfl, rfl⟩ := h
  exact r_weak (t' := t) (by omega) (fun _ _ h => h) (fun _ _ h => h) kk
set_option maxRecDepth 20000 in
set_option maxHeartbeats 2000000 in
theorem case_0 {G : SG} (hG : GK 549 G) (p4 : Int32) (a1 : Int32) (a2 : Int32) (a3 : Int32) (a4 : Int32) (a5 : Int32) (hx1 : vp_in (p4 + 1) (gs G) ∧ gx G (ix (p4 + 1)) = a1) (hx2 : vp_in (p4 + 2) (gs G) ∧ gx G (ix (p4 + 2)) = a2) (hx3 : vp_in (p4 + 3) (gs G) ∧ gx G (ix (p4 + 3)) = a3) (hx4 : vp_in (p4 + 4) (gs G) ∧ gx G (ix (p4 + 4)) = a4) (hx5 : vp_in (p4 + 5) (gs G) ∧ gx G (ix (p4 + 5)) = a5) {μ : Mem} {t : Nat} {Q : PQ} {X : PX} (hP : P_W_0 a1 a2 a3 a4 a5 μ) (h : R G mL_law_ 23 [(0, .ref (gb G)), (1, .ref (ga G 0)), (2, .ref (ga G 57)), (3, .ref (ga G 548)), (4, .int (p4 + 8))] [] (M_W_0 a1 a2 a3 a4 a5 μ) t Q X) : R G mL_law_ 220 [(0, .ref (gb G)), (1, .ref (ga G 0)), (2, .ref (ga G 57)), (3, .ref (ga G 548)), (4, .int p4)] [] μ (8 + t) Q X := by
  unfold P_W_0 at hP
  unfold M_W_0 at h
  refine r_weak (t' := t) (Nat.le_add_left _ _) (fun _ _ h => h) (fun _ _ h => h) ?_
  refine r_aload_n dL_law__220 1 rfl ?_
  refine r_aload_n dL_law__221 0 rfl ?_
  refine r_iload dL_law__222 4 rfl ?_
  refine r_iconst 1 dL_law__224 rfl ?_
  refine r_iadd dL_law__225 ?_
  refine r_sldA hx1 dL_law__226 ?_
  refine r_aload_n dL_law__227 0 rfl ?_
  refine r_iload dL_law__228 4 rfl ?_
  refine r_iconst 2 dL_law__230 rfl ?_
  refine r_iadd dL_law__231 ?_
  refine r_sldA hx2 dL_law__232 ?_
  refine r_aload_n dL_law__233 0 rfl ?_
  refine r_iload dL_law__234 4 rfl ?_
  refine r_iconst 3 dL_law__236 rfl ?_
  refine r_iadd dL_law__237 ?_
  refine r_sldA hx3 dL_law__238 ?_
  refine r_aload_n dL_law__239 0 rfl ?_
  refine r_iload dL_law__240 4 rfl ?_
  refine r_iconst 4 dL_law__242 rfl ?_
  refine r_iadd dL_law__243 ?_
  refine r_sldA hx4 dL_law__244 ?_
  refine r_aload_n dL_law__245 0 rfl ?_
  refine r_iload dL_law__246 4 rfl ?_
  refine r_iconst 5 dL_law__248 rfl ?_
  refine r_iadd dL_law__249 ?_
  refine r_sldA hx5 dL_law__250 ?_
  have hs1 := hP.1
  replace hP := hP.2
  refine r_cvI (ok_X9_feed (hG.le (by decide)) a1 a2 a3 a4 a5 μ hs1) lL_125 (hG.lt (by decide)) sh0 ⟨_, _, rfl⟩ dL_law__251 (by decide) (Nat.le_of_ble_eq_true rfl) rfl (Nat.le_of_ble_eq_true rfl) ?_
  refine r_mu (muL_law_c0_1 a1 a2 a3 a4 a5 μ) rfl ?_
  refine r_aload_n dL_law__254 2 rfl ?_
  refine r_aload_n dL_law__255 0 rfl ?_
  refine r_iload dL_law__256 4 rfl ?_
  refine r_iconst 1 dL_law__258 rfl ?_
  refine r_iadd dL_law__259 ?_
  refine r_sldA hx1 dL_law__260 ?_
  refine r_aload_n dL_law__261 0 rfl ?_
  refine r_iload dL_law__262 4 rfl ?_
  refine r_iconst 2 dL_law__264 rfl ?_
  refine r_iadd dL_law__265 ?_
  refine r_sldA hx2 dL_law__266 ?_
  refine r_aload_n dL_law__267 0 rfl ?_
  refine r_iload dL_law__268 4 rfl ?_
  refine r_iconst 3 dL_law__270 rfl ?_
  refine r_iadd dL_law__271 ?_
  refine r_sldA hx3 dL_law__272 ?_
  refine r_aload_n dL_law__273 0 rfl ?_
  refine r_iload dL_law__274 4 rfl ?_
  refine r_iconst 4 dL_law__276 rfl ?_
  refine r_iadd dL_law__277 ?_
  refine r_sldA hx4 dL_law__278 ?_
  refine r_aload_n dL_law__279 0 rfl ?_
  refine r_iload dL_law__280 4 rfl ?_
  refine r_iconst 5 dL_law__282 rfl ?_
  refine r_iadd dL_law__283 ?_
  refine r_sldA hx5 dL_law__284 ?_
  have hs2 := hP.1
  replace hP := hP.2
  refine r_cvI (ok_X10_feed (hG.le (by decide)) a1 a2 a3 a4 a5 (muL_law_c0_1 a1 a2 a3 a4 a5 μ) hs2) lL_128 (hG.lt (by decide)) sh57 ⟨_, _, rfl⟩ dL_law__285 (by decide) (Nat.le_of_ble_eq_true rfl) rfl (Nat.le_of_ble_eq_true rfl) ?_
  refine r_mu (muL_law_c0_2 a1 a2 a3 a4 a5 μ) rfl ?_
  refine r_icmp_eq 2749 dL_law__288 (by decide) (fun c1 => ?_) (fun c1 => ?_)
  · replace hP := hP.1 c1
    refine r_iinc (p4 + 8) [(4, _), (0, _), (1, _), (2, _), (3, _)] dL_law__2749 4 rfl rfl (Nat.le_of_ble_eq_true rfl) rfl ?_
    refine r_goto 23 dL_law__2752 (by decide) ?_
    exact r_sub [1, 2, 3, 4, 0] rfl h
  · replace hP := hP.2 c1
    refine r_iconst 0 dL_law__291 rfl ?_
    exact hP.elim
set_option maxRecDepth 20000 in
set_option maxHeartbeats 2000000 in
theorem case_1 {G : SG} (hG : GK 549 G) (p4 : Int32) (a1 : Int32) (hx1 : vp_in (p4 + 1) (gs G) ∧ gx G (ix (p4 + 1)) = a1) {μ : Mem} {t : Nat} {Q : PQ} {X : PX} (hP : P_W_1 a1 μ) (h : R G mL_law_ 23 [(0, .ref (gb G)), (1, .ref (ga G 0)), (2, .ref (ga G 57)), (3, .ref (ga G 548)), (4, .int (p4 + 8))] [] (M_W_1 a1 μ) t Q X) : R G mL_law_ 293 [(0, .ref (gb G)), (1, .ref (ga G 0)), (2, .ref (ga G 57)), (3, .ref (ga G 548)), (4, .int p4)] [] μ (8 + t) Q X := by
  unfold P_W_1 at hP
  unfold M_W_1 at h
  refine r_aload_n dL_law__293 1 rfl ?_
  refine r_aload_n dL_law__294 0 rfl ?_
  refine r_iload dL_law__295 4 rfl ?_
  refine r_iconst 1 dL_law__297 rfl ?_
  refine r_iadd dL_law__298 ?_
  refine r_sldA hx1 dL_law__299 ?_
  refine r_aload_n dL_law__300 3 rfl ?_
  have hs1 := hP.1
  replace hP := hP.2
  have hs2 := hP.1
  replace hP := hP.2
  refine r_csW (ok_L_street hG a1 μ hs1 hs2) lL_129 dL_law__301 (by decide) (Nat.le_of_ble_eq_true rfl) rfl (Nat.le_of_ble_eq_true rfl) (by decide) ?_
  refine r_mu (muL_law_c1_1 a1 μ) rfl ?_
  refine r_istore [(5, _), (0, _), (1, _), (2, _), (3, _), (4, _)] dL_law__304 (Nat.le_of_ble_eq_true rfl) rfl ?_
  refine r_aload_n dL_law__306 3 rfl ?_
  refine r_aload_n dL_law__307 1 rfl ?_
  refine r_iload dL_law__308 5 rfl ?_
  refine r_iconst 1 dL_law__310 rfl ?_
  refine r_iadd dL_law__311 ?_
  refine r_sldA hx1 dL_law__312 ?_
  have hs3 := hP.1
  replace hP := hP.2
  refine r_cvI (ok_X10_street (hG.le (by decide)) a1 (muL_law_c1_1 a1 μ) hs3) lL_134 (hG.lt (by decide)) sh57 ⟨_, _, rfl⟩ dL_law__313 (by decide) (Nat.le_of_ble_eq_true rfl) rfl (Nat.le_of_ble_eq_true rfl) ?_
  refine r_mu (muL_law_c1_2 a1 μ) rfl ?_
  refine r_istore [(6, _), (5, _), (0, _), (1, _), (2, _), (3, _), (4, _)] dL_law__316 (Nat.le_of_ble_eq_true rfl) rfl ?_
  refine r_aload_n dL_law__318 4 rfl ?_
  refine r_cvI (ok_X10_thrown (hG.le (by decide))  (muL_law_c1_2 a1 μ)) lL_135 (hG.lt (by decide)) sh57 ⟨_, _, rfl⟩ dL_law__319 (by decide) (Nat.le_of_ble_eq_true rfl) rfl (Nat.le_of_ble_eq_true rfl) ?_
  refine r_iload dL_law__322 1 rfl ?_
  refine r_icmp_eq 329 dL_law__324 (by decide) (fun c1 => ?_) (fun c1 => ?_)
  · replace hP := hP.1 c1
    refine r_iload dL_law__329 1 rfl ?_
    refine r_if_ne 346 dL_law__331 (by decide) (fun c2 => ?_) (fun c2 => ?_)
    · replace hP := hP.1 c2
      refine r_goto 2749 dL_law__346 (by decide) ?_
      refine r_iinc (p4 + 8) [(4, _), (6, _), (5, _), (0, _), (1, _), (2, _), (3, _)] dL_law__2749 6 rfl rfl (Nat.le_of_ble_eq_true rfl) rfl ?_
      refine r_goto 23 dL_law__2752 (by decide) ?_
      exact r_sub [3, 4, 5, 6, 0] rfl h
    · replace hP := hP.2 c2
      refine r_aload_n dL_law__334 5 rfl ?_
      refine r_iconst 0 dL_law__335 rfl ?_
      refine r_laldK 0 rfl (hG.lt (by decide)) sh548 (vp_of (by decide) (by decide)) dL_law__336 ?_
      refine r_iload dL_law__337 0 rfl ?_
      refine r_i2l dL_law__339 ?_
      refine r_lcmp dL_law__340 ?_
      refine r_if_eq 346 dL_law__341 (by decide) (fun c3 => ?_) (fun c3 => ?_)
      · replace hP := hP.1 c3
        refine r_goto 2749 dL_law__346 (by decide) ?_
        refine r_iinc (p4 + 8) [(4, _), (6, _), (5, _), (0, _), (1, _), (2, _), (3, _)] dL_law__2749 6 rfl rfl (Nat.le_of_ble_eq_true rfl) rfl ?_
        refine r_goto 23 dL_law__2752 (by decide) ?_
        exact r_sub [3, 4, 5, 6, 0] rfl h
      · replace hP := hP.2 c3
        refine r_iconst 0 dL_law__344 rfl ?_
        exact hP.elim
  · replace hP := hP.2 c1
    refine r_iconst 0 dL_law__327 rfl ?_
    exact hP.elim
set_option maxRecDepth 20000 in
set_option maxHeartbeats 2000000 in
theorem case_2 {G : SG} (hG : GK 549 G) (p4 : Int32) (a1 : Int32) (hx1 : vp_in (p4 + 1) (gs G) ∧ gx G (ix (p4 + 1)) = a1) {μ : Mem} {t : Nat} {Q : PQ} {X : PX} (hP : P_W_2 a1 μ) (h : R G mL_law_ 23 [(0, .ref (gb G)), (1, .ref (ga G 0)), (2, .ref (ga G 57)), (3, .ref (ga G 548)), (4, .int (p4 + 8))] [] (M_W_2 a1 μ) t Q X) : R G mL_law_ 349 [(0, .ref (gb G)), (1, .ref (ga G 0)), (2, .ref (ga G 57)), (3, .ref (ga G 548)), (4, .int p4)] [] μ (8 + t) Q X := by
  unfold P_W_2 at hP
  unfold M_W_2 at h
  refine r_aload_n dL_law__349 1 rfl ?_
  refine r_aload_n dL_law__350 0 rfl ?_
  refine r_iload dL_law__351 4 rfl ?_
  refine r_iconst 1 dL_law__353 rfl ?_
  refine r_iadd dL_law__354 ?_
  refine r_sldA hx1 dL_law__355 ?_
  refine r_aload_n dL_law__356 3 rfl ?_
  have hs1 := hP.1
  replace hP := hP.2
  have hs2 := hP.1
  replace hP := hP.2
  refine r_csW (ok_L_law hG a1 μ hs1 hs2) lL_139 dL_law__357 (by decide) (Nat.le_of_ble_eq_true rfl) rfl (Nat.le_of_ble_eq_true rfl) (by decide) ?_
  refine r_mu (muL_law_c2_1 a1 μ) rfl ?_
  refine r_istore [(5, _), (0, _), (1, _), (2, _), (3, _), (4, _)] dL_law__360 (Nat.le_of_ble_eq_true rfl) rfl ?_
  refine r_aload_n dL_law__362 3 rfl ?_
  refine r_aload_n dL_law__363 1 rfl ?_
  refine r_iload dL_law__364 5 rfl ?_
  refine r_iconst 1 dL_law__366 rfl ?_
  refine r_iadd dL_law__367 ?_
  refine r_sldA hx1 dL_law__368 ?_
  have hs3 := hP.1
  replace hP := hP.2
  refine r_cvI (ok_X10_law (hG.le (by decide)) a1 (muL_law_c2_1 a1 μ) hs3) lL_141 (hG.lt (by decide)) sh57 ⟨_, _, rfl⟩ dL_law__369 (by decide) (Nat.le_of_ble_eq_true rfl) rfl (Nat.le_of_ble_eq_true rfl) ?_
  refine r_mu (muL_law_c2_2 a1 μ) rfl ?_
  refine r_istore [(6, _), (5, _), (0, _), (1, _), (2, _), (3, _), (4, _)] dL_law__372 (Nat.le_of_ble_eq_true rfl) rfl ?_
  refine r_aload_n dL_law__374 4 rfl ?_
  refine r_cvI (ok_X10_thrown (hG.le (by decide))  (muL_law_c2_2 a1 μ)) lL_135 (hG.lt (by decide)) sh57 ⟨_, _, rfl⟩ dL_law__375 (by decide) (Nat.le_of_ble_eq_true rfl) rfl (Nat.le_of_ble_eq_true rfl) ?_
  refine r_iload dL_law__378 1 rfl ?_
  refine r_icmp_eq 385 dL_law__380 (by decide) (fun c1 => ?_) (fun c1 => ?_)
  · replace hP := hP.1 c1
    refine r_iload dL_law__385 1 rfl ?_
    refine r_if_ne 402 dL_law__387 (by decide) (fun c2 => ?_) (fun c2 => ?_)
    · replace hP := hP.1 c2
      refine r_goto 2749 dL_law__402 (by decide) ?_
      refine r_iinc (p4 + 8) [(4, _), (6, _), (5, _), (0, _), (1, _), (2, _), (3, _)] dL_law__2749 6 rfl rfl (Nat.le_of_ble_eq_true rfl) rfl ?_
      refine r_goto 23 dL_law__2752 (by decide) ?_
      exact r_sub [3, 4, 5, 6, 0] rfl h
    · replace hP := hP.2 c2
      refine r_aload_n dL_law__390 5 rfl ?_
      refine r_iconst 0 dL_law__391 rfl ?_
      refine r_laldK 0 rfl (hG.lt (by decide)) sh548 (vp_of (by decide) (by decide)) dL_law__392 ?_
      refine r_iload dL_law__393 0 rfl ?_
      refine r_i2l dL_law__395 ?_
      refine r_lcmp dL_law__396 ?_
      refine r_if_eq 402 dL_law__397 (by decide) (fun c3 => ?_) (fun c3 => ?_)
      · replace hP := hP.1 c3
        refine r_goto 2749 dL_law__402 (by decide) ?_
        refine r_iinc (p4 + 8) [(4, _), (6, _), (5, _), (0, _), (1, _), (2, _), (3, _)] dL_law__2749 6 rfl rfl (Nat.le_of_ble_eq_true rfl) rfl ?_
        refine r_goto 23 dL_law__2752 (by decide) ?_
        exact r_sub [3, 4, 5, 6, 0] rfl h
      · replace hP := hP.2 c3
        refine r_iconst 0 dL_law__400 rfl ?_
        exact hP.elim
  · replace hP := hP.2 c1
    refine r_iconst 0 dL_law__383 rfl ?_
    exact hP.elim
set_option maxRecDepth 20000 in
set_option maxHeartbeats 2000000 in
theorem case_3 {G : SG} (hG : GK 549 G) (p4 : Int32) (a1 : Int32) (hx1 : vp_in (p4 + 1) (gs G) ∧ gx G (ix (p4 + 1)) = a1) {μ : Mem} {t : Nat} {Q : PQ} {X : PX} (hP : P_W_3 a1 μ) (h : R G mL_law_ 23 [(0, .ref (gb G)), (1, .ref (ga G 0)), (2, .ref (ga G 57)), (3, .ref (ga G 548)), (4, .int (p4 + 8))] [] (M_W_3 a1 μ) t Q X) : R G mL_law_ 405 [(0, .ref (gb G)), (1, .ref (ga G 0)), (2, .ref (ga G 57)), (3, .ref (ga G 548)), (4, .int p4)] [] μ (8 + t) Q X := by
  unfold P_W_3 at hP
  unfold M_W_3 at h
  refine r_aload_n dL_law__405 1 rfl ?_
  refine r_aload_n dL_law__406 0 rfl ?_
  refine r_iload dL_law__407 4 rfl ?_
  refine r_iconst 1 dL_law__409 rfl ?_
  refine r_iadd dL_law__410 ?_
  refine r_sldA hx1 dL_law__411 ?_
  refine r_aload_n dL_law__412 3 rfl ?_
  have hs1 := hP.1
  replace hP := hP.2
  have hs2 := hP.1
  replace hP := hP.2
  refine r_csW (ok_L_work hG a1 μ hs1 hs2) lL_142 dL_law__413 (by decide) (Nat.le_of_ble_eq_true rfl) rfl (Nat.le_of_ble_eq_true rfl) (by decide) ?_
  refine r_mu (muL_law_c3_1 a1 μ) rfl ?_
  refine r_istore [(5, _), (0, _), (1, _), (2, _), (3, _), (4, _)] dL_law__416 (Nat.le_of_ble_eq_true rfl) rfl ?_
  refine r_aload_n dL_law__418 3 rfl ?_
  refine r_aload_n dL_law__419 1 rfl ?_
  refine r_iload dL_law__420 5 rfl ?_
  refine r_iconst 1 dL_law__422 rfl ?_
  refine r_iadd dL_law__423 ?_
  refine r_sldA hx1 dL_law__424 ?_
  have hs3 := hP.1
  replace hP := hP.2
  refine r_cvI (ok_X10_work (hG.le (by decide)) a1 (muL_law_c3_1 a1 μ) hs3) lL_144 (hG.lt (by decide)) sh57 ⟨_, _, rfl⟩ dL_law__425 (by decide) (Nat.le_of_ble_eq_true rfl) rfl (Nat.le_of_ble_eq_true rfl) ?_
  refine r_mu (muL_law_c3_2 a1 μ) rfl ?_
  refine r_istore [(6, _), (5, _), (0, _), (1, _), (2, _), (3, _), (4, _)] dL_law__428 (Nat.le_of_ble_eq_true rfl) rfl ?_
  refine r_aload_n dL_law__430 4 rfl ?_
  refine r_cvI (ok_X10_thrown (hG.le (by decide))  (muL_law_c3_2 a1 μ)) lL_135 (hG.lt (by decide)) sh57 ⟨_, _, rfl⟩ dL_law__431 (by decide) (Nat.le_of_ble_eq_true rfl) rfl (Nat.le_of_ble_eq_true rfl) ?_
  refine r_iload dL_law__434 1 rfl ?_
  refine r_icmp_eq 441 dL_law__436 (by decide) (fun c1 => ?_) (fun c1 => ?_)
  · replace hP := hP.1 c1
    refine r_iload dL_law__441 1 rfl ?_
    refine r_if_ne 458 dL_law__443 (by decide) (fun c2 => ?_) (fun c2 => ?_)
    · replace hP := hP.1 c2
      refine r_goto 2749 dL_law__458 (by decide) ?_
      refine r_iinc (p4 + 8) [(4, _), (6, _), (5, _), (0, _), (1, _), (2, _), (3, _)] dL_law__2749 6 rfl rfl (Nat.le_of_ble_eq_true rfl) rfl ?_
      refine r_goto 23 dL_law__2752 (by decide) ?_
      exact r_sub [3, 4, 5, 6, 0] rfl h
    · replace hP := hP.2 c2
      refine r_aload_n dL_law__446 5 rfl ?_
      refine r_iconst 0 dL_law__447 rfl ?_
      refine r_laldK 0 rfl (hG.lt (by decide)) sh548 (vp_of (by decide) (by decide)) dL_law__448 ?_
      refine r_iload dL_law__449 0 rfl ?_
      refine r_i2l dL_law__451 ?_
      refine r_lcmp dL_law__452 ?_
      refine r_if_eq 458 dL_law__453 (by decide) (fun c3 => ?_) (fun c3 => ?_)
      · replace hP := hP.1 c3
        refine r_goto 2749 dL_law__458 (by decide) ?_
        refine r_iinc (p4 + 8) [(4, _), (6, _), (5, _), (0, _), (1, _), (2, _), (3, _)] dL_law__2749 6 rfl rfl (Nat.le_of_ble_eq_true rfl) rfl ?_
        refine r_goto 23 dL_law__2752 (by decide) ?_
        exact r_sub [3, 4, 5, 6, 0] rfl h
      · replace hP := hP.2 c3
        refine r_iconst 0 dL_law__456 rfl ?_
        exact hP.elim
  · replace hP := hP.2 c1
    refine r_iconst 0 dL_law__439 rfl ?_
    exact hP.elim
set_option maxRecDepth 20000 in
set_option maxHeartbeats 2000000 in
theorem case_4 {G : SG} (hG : GK 549 G) (p4 : Int32) (a1 : Int32) (hx1 : vp_in (p4 + 1) (gs G) ∧ gx G (ix (p4 + 1)) = a1) {μ : Mem} {t : Nat} {Q : PQ} {X : PX} (hP : P_W_4 a1 μ) (h : R G mL_law_ 23 [(0, .ref (gb G)), (1, .ref (ga G 0)), (2, .ref (ga G 57)), (3, .ref (ga G 548)), (4, .int (p4 + 8))] [] (M_W_4 a1 μ) t Q X) : R G mL_law_ 461 [(0, .ref (gb G)), (1, .ref (ga G 0)), (2, .ref (ga G 57)), (3, .ref (ga G 548)), (4, .int p4)] [] μ (8 + t) Q X := by
  unfold P_W_4 at hP
  unfold M_W_4 at h
  refine r_aload_n dL_law__461 1 rfl ?_
  refine r_aload_n dL_law__462 0 rfl ?_
  refine r_iload dL_law__463 4 rfl ?_
  refine r_iconst 1 dL_law__465 rfl ?_
  refine r_iadd dL_law__466 ?_
  refine r_sldA hx1 dL_law__467 ?_
  refine r_aload_n dL_law__468 3 rfl ?_
  have hs1 := hP.1
  replace hP := hP.2
  have hs2 := hP.1
  replace hP := hP.2
  refine r_csW (ok_L_stains hG a1 μ hs1 hs2) lL_145 dL_law__469 (by decide) (Nat.le_of_ble_eq_true rfl) rfl (Nat.le_of_ble_eq_true rfl) (by decide) ?_
  refine r_mu (muL_law_c4_1 a1 μ) rfl ?_
  refine r_istore [(5, _), (0, _), (1, _), (2, _), (3, _), (4, _)] dL_law__472 (Nat.le_of_ble_eq_true rfl) rfl ?_
  refine r_aload_n dL_law__474 3 rfl ?_
  refine r_aload_n dL_law__475 1 rfl ?_
  refine r_iload dL_law__476 5 rfl ?_
  refine r_iconst 1 dL_law__478 rfl ?_
  refine r_iadd dL_law__479 ?_
  refine r_sldA hx1 dL_law__480 ?_
  have hs3 := hP.1
  replace hP := hP.2
  refine r_cvI (ok_X10_stains (hG.le (by decide)) a1 (muL_law_c4_1 a1 μ) hs3) lL_147 (hG.lt (by decide)) sh57 ⟨_, _, rfl⟩ dL_law__481 (by decide) (Nat.le_of_ble_eq_true rfl) rfl (Nat.le_of_ble_eq_true rfl) ?_
  refine r_mu (muL_law_c4_2 a1 μ) rfl ?_
  refine r_istore [(6, _), (5, _), (0, _), (1, _), (2, _), (3, _), (4, _)] dL_law__484 (Nat.le_of_ble_eq_true rfl) rfl ?_
  refine r_aload_n dL_law__486 4 rfl ?_
  refine r_cvI (ok_X10_thrown (hG.le (by decide))  (muL_law_c4_2 a1 μ)) lL_135 (hG.lt (by decide)) sh57 ⟨_, _, rfl⟩ dL_law__487 (by decide) (Nat.le_of_ble_eq_true rfl) rfl (Nat.le_of_ble_eq_true rfl) ?_
  refine r_iload dL_law__490 1 rfl ?_
  refine r_icmp_eq 497 dL_law__492 (by decide) (fun c1 => ?_) (fun c1 => ?_)
  · replace hP := hP.1 c1
    refine r_iload dL_law__497 1 rfl ?_
    refine r_if_ne 514 dL_law__499 (by decide) (fun c2 => ?_) (fun c2 => ?_)
    · replace hP := hP.1 c2
      refine r_goto 2749 dL_law__514 (by decide) ?_
      refine r_iinc (p4 + 8) [(4, _), (6, _), (5, _), (0, _), (1, _), (2, _), (3, _)] dL_law__2749 6 rfl rfl (Nat.le_of_ble_eq_true rfl) rfl ?_
      refine r_goto 23 dL_law__2752 (by decide) ?_
      exact r_sub [3, 4, 5, 6, 0] rfl h
    · replace hP := hP.2 c2
      refine r_aload_n dL_law__502 5 rfl ?_
      refine r_iconst 0 dL_law__503 rfl ?_
      refine r_laldK 0 rfl (hG.lt (by decide)) sh548 (vp_of (by decide) (by decide)) dL_law__504 ?_
      refine r_iload dL_law__505 0 rfl ?_
      refine r_i2l dL_law__507 ?_
      refine r_lcmp dL_law__508 ?_
      refine r_if_eq 514 dL_law__509 (by decide) (fun c3 => ?_) (fun c3 => ?_)
      · replace hP := hP.1 c3
        refine r_goto 2749 dL_law__514 (by decide) ?_
        refine r_iinc (p4 + 8) [(4, _), (6, _), (5, _), (0, _), (1, _), (2, _), (3, _)] dL_law__2749 6 rfl rfl (Nat.le_of_ble_eq_true rfl) rfl ?_
        refine r_goto 23 dL_law__2752 (by decide) ?_
        exact r_sub [3, 4, 5, 6, 0] rfl h
      · replace hP := hP.2 c3
        refine r_iconst 0 dL_law__512 rfl ?_
        exact hP.elim
  · replace hP := hP.2 c1
    refine r_iconst 0 dL_law__495 rfl ?_
    exact hP.elim
set_option maxRecDepth 20000 in
set_option maxHeartbeats 2000000 in
theorem case_5 {G : SG} (hG : GK 549 G) (p4 : Int32)   {μ : Mem} {t : Nat} {Q : PQ} {X : PX} (hP : P_W_5  μ) (h : R G mL_law_ 23 [(0, .ref (gb G)), (1, .ref (ga G 0)), (2, .ref (ga G 57)), (3, .ref (ga G 548)), (4, .int (p4 + 8))] [] (M_W_5  μ) t Q X) : R G mL_law_ 517 [(0, .ref (gb G)), (1, .ref (ga G 0)), (2, .ref (ga G 57)), (3, .ref (ga G 548)), (4, .int p4)] [] μ (8 + t) Q X := by
  unfold P_W_5 at hP
  unfold M_W_5 at h
  refine r_weak (t' := t) (Nat.le_add_left _ _) (fun _ _ h => h) (fun _ _ h => h) ?_
  refine r_aload_n dL_law__517 1 rfl ?_
  refine r_cvI (ok_X9_fault (hG.le (by decide))  μ) lL_148 (hG.lt (by decide)) sh0 ⟨_, _, rfl⟩ dL_law__518 (by decide) (Nat.le_of_ble_eq_true rfl) rfl (Nat.le_of_ble_eq_true rfl) ?_
  refine r_aload_n dL_law__521 2 rfl ?_
  refine r_cvI (ok_X10_fault (hG.le (by decide))  μ) lL_151 (hG.lt (by decide)) sh57 ⟨_, _, rfl⟩ dL_law__522 (by decide) (Nat.le_of_ble_eq_true rfl) rfl (Nat.le_of_ble_eq_true rfl) ?_
  refine r_mu (muL_law_c5_1 μ) rfl ?_
  refine r_icmp_eq 2749 dL_law__525 (by decide) (fun c1 => ?_) (fun c1 => ?_)
  · replace hP := hP.1 c1
    refine r_iinc (p4 + 8) [(4, _), (0, _), (1, _), (2, _), (3, _)] dL_law__2749 4 rfl rfl (Nat.le_of_ble_eq_true rfl) rfl ?_
    refine r_goto 23 dL_law__2752 (by decide) ?_
    exact r_sub [1, 2, 3, 4, 0] rfl h
  · replace hP := hP.2 c1
    refine r_iconst 0 dL_law__528 rfl ?_
    exact hP.elim
set_option maxRecDepth 20000 in
set_option maxHeartbeats 2000000 in
theorem case_6 {G : SG} (hG : GK 549 G) (p4 : Int32)   {μ : Mem} {t : Nat} {Q : PQ} {X : PX} (hP : P_W_6  μ) (h : R G mL_law_ 23 [(0, .ref (gb G)), (1, .ref (ga G 0)), (2, .ref (ga G 57)), (3, .ref (ga G 548)), (4, .int (p4 + 8))] [] (M_W_6  μ) t Q X) : R G mL_law_ 530 [(0, .ref (gb G)), (1, .ref (ga G 0)), (2, .ref (ga G 57)), (3, .ref (ga G 548)), (4, .int p4)] [] μ (8 + t) Q X := by
  unfold P_W_6 at hP
  unfold M_W_6 at h
  refine r_weak (t' := t) (Nat.le_add_left _ _) (fun _ _ h => h) (fun _ _ h => h) ?_
  refine r_aload_n dL_law__530 1 rfl ?_
  have hs1 := hP.1
  replace hP := hP.2
  refine r_cvI (ok_X9_undo (hG.le (by decide))  μ hs1) lL_152 (hG.lt (by decide)) sh0 ⟨_, _, rfl⟩ dL_law__531 (by decide) (Nat.le_of_ble_eq_true rfl) rfl (Nat.le_of_ble_eq_true rfl) ?_
  refine r_mu (muL_law_c6_1 μ) rfl ?_
  refine r_aload_n dL_law__534 2 rfl ?_
  have hs2 := hP.1
  replace hP := hP.2
  refine r_cvI (ok_X10_undo (hG.le (by decide))  (muL_law_c6_1 μ) hs2) lL_155 (hG.lt (by decide)) sh57 ⟨_, _, rfl⟩ dL_law__535 (by decide) (Nat.le_of_ble_eq_true rfl) rfl (Nat.le_of_ble_eq_true rfl) ?_
  refine r_mu (muL_law_c6_2 μ) rfl ?_
  refine r_icmp_eq 2749 dL_law__538 (by decide) (fun c1 => ?_) (fun c1 => ?_)
  · replace hP := hP.1 c1
    refine r_iinc (p4 + 8) [(4, _), (0, _), (1, _), (2, _), (3, _)] dL_law__2749 4 rfl rfl (Nat.le_of_ble_eq_true rfl) rfl ?_
    refine r_goto 23 dL_law__2752 (by decide) ?_
    exact r_sub [1, 2, 3, 4, 0] rfl h
  · replace hP := hP.2 c1
    refine r_iconst 0 dL_law__541 rfl ?_
    exact hP.elim
set_option maxRecDepth 20000 in
set_option maxHeartbeats 2000000 in
theorem case_7 {G : SG} (hG : GK 549 G) (p4 : Int32) (a1 : Int32) (hx1 : vp_in (p4 + 1) (gs G) ∧ gx G (ix (p4 + 1)) = a1) {μ : Mem} {t : Nat} {Q : PQ} {X : PX} (hP : P_W_7 a1 μ) (h : R G mL_law_ 23 [(0, .ref (gb G)), (1, .ref (ga G 0)), (2, .ref (ga G 57)), (3, .ref (ga G 548)), (4, .int (p4 + 8))] [] (M_W_7 a1 μ) t Q X) : R G mL_law_ 543 [(0, .ref (gb G)), (1, .ref (ga G 0)), (2, .ref (ga G 57)), (3, .ref (ga G 548)), (4, .int p4)] [] μ (8 + t) Q X := by
  unfold P_W_7 at hP
  unfold M_W_7 at h
  refine r_aload_n dL_law__543 1 rfl ?_
  refine r_aload_n dL_law__544 0 rfl ?_
  refine r_iload dL_law__545 4 rfl ?_
  refine r_iconst 1 dL_law__547 rfl ?_
  refine r_iadd dL_law__548 ?_
  refine r_sldA hx1 dL_law__549 ?_
  refine r_aload_n dL_law__550 3 rfl ?_
  have hs1 := hP.1
  replace hP := hP.2
  have hs2 := hP.1
  replace hP := hP.2
  refine r_csW (ok_L_told hG a1 μ hs1 hs2) lL_156 dL_law__551 (by decide) (Nat.le_of_ble_eq_true rfl) rfl (Nat.le_of_ble_eq_true rfl) (by decide) ?_
  refine r_mu (muL_law_c7_1 a1 μ) rfl ?_
  refine r_istore [(5, _), (0, _), (1, _), (2, _), (3, _), (4, _)] dL_law__554 (Nat.le_of_ble_eq_true rfl) rfl ?_
  refine r_aload_n dL_law__556 3 rfl ?_
  refine r_aload_n dL_law__557 1 rfl ?_
  refine r_iload dL_law__558 5 rfl ?_
  refine r_iconst 1 dL_law__560 rfl ?_
  refine r_iadd dL_law__561 ?_
  refine r_sldA hx1 dL_law__562 ?_
  have hs3 := hP.1
  replace hP := hP.2
  refine r_cvI (ok_X10_told (hG.le (by decide)) a1 (muL_law_c7_1 a1 μ) hs3) lL_158 (hG.lt (by decide)) sh57 ⟨_, _, rfl⟩ dL_law__563 (by decide) (Nat.le_of_ble_eq_true rfl) rfl (Nat.le_of_ble_eq_true rfl) ?_
  refine r_mu (muL_law_c7_2 a1 μ) rfl ?_
  refine r_istore [(6, _), (5, _), (0, _), (1, _), (2, _), (3, _), (4, _)] dL_law__566 (Nat.le_of_ble_eq_true rfl) rfl ?_
  refine r_aload_n dL_law__568 4 rfl ?_
  refine r_cvI (ok_X10_thrown (hG.le (by decide))  (muL_law_c7_2 a1 μ)) lL_135 (hG.lt (by decide)) sh57 ⟨_, _, rfl⟩ dL_law__569 (by decide) (Nat.le_of_ble_eq_true rfl) rfl (Nat.le_of_ble_eq_true rfl) ?_
  refine r_iload dL_law__572 1 rfl ?_
  refine r_icmp_eq 579 dL_law__574 (by decide) (fun c1 => ?_) (fun c1 => ?_)
  · replace hP := hP.1 c1
    refine r_iload dL_law__579 1 rfl ?_
    refine r_if_ne 596 dL_law__581 (by decide) (fun c2 => ?_) (fun c2 => ?_)
    · replace hP := hP.1 c2
      refine r_goto 2749 dL_law__596 (by decide) ?_
      refine r_iinc (p4 + 8) [(4, _), (6, _), (5, _), (0, _), (1, _), (2, _), (3, _)] dL_law__2749 6 rfl rfl (Nat.le_of_ble_eq_true rfl) rfl ?_
      refine r_goto 23 dL_law__2752 (by decide) ?_
      exact r_sub [3, 4, 5, 6, 0] rfl h
    · replace hP := hP.2 c2
      refine r_aload_n dL_law__584 5 rfl ?_
      refine r_iconst 0 dL_law__585 rfl ?_
      refine r_laldK 0 rfl (hG.lt (by decide)) sh548 (vp_of (by decide) (by decide)) dL_law__586 ?_
      refine r_iload dL_law__587 0 rfl ?_
      refine r_i2l dL_law__589 ?_
      refine r_lcmp dL_law__590 ?_
      refine r_if_eq 596 dL_law__591 (by decide) (fun c3 => ?_) (fun c3 => ?_)
      · replace hP := hP.1 c3
        refine r_goto 2749 dL_law__596 (by decide) ?_
        refine r_iinc (p4 + 8) [(4, _), (6, _), (5, _), (0, _), (1, _), (2, _), (3, _)] dL_law__2749 6 rfl rfl (Nat.le_of_ble_eq_true rfl) rfl ?_
        refine r_goto 23 dL_law__2752 (by decide) ?_
        exact r_sub [3, 4, 5, 6, 0] rfl h
      · replace hP := hP.2 c3
        refine r_iconst 0 dL_law__594 rfl ?_
        exact hP.elim
  · replace hP := hP.2 c1
    refine r_iconst 0 dL_law__577 rfl ?_
    exact hP.elim
set_option maxRecDepth 20000 in
set_option maxHeartbeats 2000000 in
theorem case_8 {G : SG} (hG : GK 549 G) (p4 : Int32) (a1 : Int32) (a2 : Int32) (hx1 : vp_in (p4 + 1) (gs G) ∧ gx G (ix (p4 + 1)) = a1) (hx2 : vp_in (p4 + 2) (gs G) ∧ gx G (ix (p4 + 2)) = a2) {μ : Mem} {t : Nat} {Q : PQ} {X : PX} (hP : P_W_8 a1 a2 μ) (h : R G mL_law_ 23 [(0, .ref (gb G)), (1, .ref (ga G 0)), (2, .ref (ga G 57)), (3, .ref (ga G 548)), (4, .int (p4 + 8))] [] (M_W_8 a1 a2 μ) t Q X) : R G mL_law_ 599 [(0, .ref (gb G)), (1, .ref (ga G 0)), (2, .ref (ga G 57)), (3, .ref (ga G 548)), (4, .int p4)] [] μ (8 + t) Q X := by
  unfold P_W_8 at hP
  unfold M_W_8 at h
  refine r_aload_n dL_law__599 1 rfl ?_
  refine r_aload_n dL_law__600 0 rfl ?_
  refine r_iload dL_law__601 4 rfl ?_
  refine r_iconst 1 dL_law__603 rfl ?_
  refine r_iadd dL_law__604 ?_
  refine r_sldA hx1 dL_law__605 ?_
  refine r_aload_n dL_law__606 0 rfl ?_
  refine r_iload dL_law__607 4 rfl ?_
  refine r_iconst 2 dL_law__609 rfl ?_
  refine r_iadd dL_law__610 ?_
  refine r_sldA hx2 dL_law__611 ?_
  refine r_aload_n dL_law__612 3 rfl ?_
  have hs1 := hP.1
  replace hP := hP.2
  refine r_csW (ok_L_house hG a1 a2 μ hs1) lL_159 dL_law__613 (by decide) (Nat.le_of_ble_eq_true rfl) rfl (Nat.le_of_ble_eq_true rfl) (by decide) ?_
  refine r_mu (muL_law_c8_1 a1 a2 μ) rfl ?_
  refine r_istore [(5, _), (0, _), (1, _), (2, _), (3, _), (4, _)] dL_law__616 (Nat.le_of_ble_eq_true rfl) rfl ?_
  refine r_aload_n dL_law__618 3 rfl ?_
  refine r_aload_n dL_law__619 1 rfl ?_
  refine r_iload dL_law__620 5 rfl ?_
  refine r_iconst 1 dL_law__622 rfl ?_
  refine r_iadd dL_law__623 ?_
  refine r_sldA hx1 dL_law__624 ?_
  refine r_aload_n dL_law__625 1 rfl ?_
  refine r_iload dL_law__626 5 rfl ?_
  refine r_iconst 2 dL_law__628 rfl ?_
  refine r_iadd dL_law__629 ?_
  refine r_sldA hx2 dL_law__630 ?_
  have hs2 := hP.1
  replace hP := hP.2
  refine r_cvI (ok_X10_house (hG.le (by decide)) a1 a2 (muL_law_c8_1 a1 a2 μ) hs2) lL_162 (hG.lt (by decide)) sh57 ⟨_, _, rfl⟩ dL_law__631 (by decide) (Nat.le_of_ble_eq_true rfl) rfl (Nat.le_of_ble_eq_true rfl) ?_
  refine r_mu (muL_law_c8_2 a1 a2 μ) rfl ?_
  refine r_istore [(6, _), (5, _), (0, _), (1, _), (2, _), (3, _), (4, _)] dL_law__634 (Nat.le_of_ble_eq_true rfl) rfl ?_
  refine r_aload_n dL_law__636 4 rfl ?_
  refine r_cvI (ok_X10_thrown (hG.le (by decide))  (muL_law_c8_2 a1 a2 μ)) lL_135 (hG.lt (by decide)) sh57 ⟨_, _, rfl⟩ dL_law__637 (by decide) (Nat.le_of_ble_eq_true rfl) rfl (Nat.le_of_ble_eq_true rfl) ?_
  refine r_iload dL_law__640 1 rfl ?_
  refine r_icmp_eq 647 dL_law__642 (by decide) (fun c1 => ?_) (fun c1 => ?_)
  · replace hP := hP.1 c1
    refine r_iload dL_law__647 1 rfl ?_
    refine r_if_ne 664 dL_law__649 (by decide) (fun c2 => ?_) (fun c2 => ?_)
    · replace hP := hP.1 c2
      refine r_goto 2749 dL_law__664 (by decide) ?_
      refine r_iinc (p4 + 8) [(4, _), (6, _), (5, _), (0, _), (1, _), (2, _), (3, _)] dL_law__2749 6 rfl rfl (Nat.le_of_ble_eq_true rfl) rfl ?_
      refine r_goto 23 dL_law__2752 (by decide) ?_
      exact r_sub [3, 4, 5, 6, 0] rfl h
    · replace hP := hP.2 c2
      refine r_aload_n dL_law__652 5 rfl ?_
      refine r_iconst 0 dL_law__653 rfl ?_
      refine r_laldK 0 rfl (hG.lt (by decide)) sh548 (vp_of (by decide) (by decide)) dL_law__654 ?_
      refine r_iload dL_law__655 0 rfl ?_
      refine r_i2l dL_law__657 ?_
      refine r_lcmp dL_law__658 ?_
      refine r_if_eq 664 dL_law__659 (by decide) (fun c3 => ?_) (fun c3 => ?_)
      · replace hP := hP.1 c3
        refine r_goto 2749 dL_law__664 (by decide) ?_
        refine r_iinc (p4 + 8) [(4, _), (6, _), (5, _), (0, _), (1, _), (2, _), (3, _)] dL_law__2749 6 rfl rfl (Nat.le_of_ble_eq_true rfl) rfl ?_
        refine r_goto 23 dL_law__2752 (by decide) ?_
        exact r_sub [3, 4, 5, 6, 0] rfl h
      · replace hP := hP.2 c3
        refine r_iconst 0 dL_law__662 rfl ?_
        exact hP.elim
  · replace hP := hP.2 c1
    refine r_iconst 0 dL_law__645 rfl ?_
    exact hP.elim
set_option maxRecDepth 20000 in
set_option maxHeartbeats 2000000 in
theorem case_9 {G : SG} (hG : GK 549 G) (p4 : Int32) (a1 : Int32) (a2 : Int32) (hx1 : vp_in (p4 + 1) (gs G) ∧ gx G (ix (p4 + 1)) = a1) (hx2 : vp_in (p4 + 2) (gs G) ∧ gx G (ix (p4 + 2)) = a2) {μ : Mem} {t : Nat} {Q : PQ} {X : PX} (hP : P_W_9 a1 a2 μ) (h : R G mL_law_ 23 [(0, .ref (gb G)), (1, .ref (ga G 0)), (2, .ref (ga G 57)), (3, .ref (ga G 548)), (4, .int (p4 + 8))] [] (M_W_9 a1 a2 μ) t Q X) : R G mL_law_ 667 [(0, .ref (gb G)), (1, .ref (ga G 0)), (2, .ref (ga G 57)), (3, .ref (ga G 548)), (4, .int p4)] [] μ (8 + t) Q X := by
  unfold P_W_9 at hP
  unfold M_W_9 at h
  refine r_aload_n dL_law__667 1 rfl ?_
  refine r_aload_n dL_law__668 0 rfl ?_
  refine r_iload dL_law__669 4 rfl ?_
  refine r_iconst 1 dL_law__671 rfl ?_
  refine r_iadd dL_law__672 ?_
  refine r_sldA hx1 dL_law__673 ?_
  refine r_aload_n dL_law__674 0 rfl ?_
  refine r_iload dL_law__675 4 rfl ?_
  refine r_iconst 2 dL_law__677 rfl ?_
  refine r_iadd dL_law__678 ?_
  refine r_sldA hx2 dL_law__679 ?_
  refine r_aload_n dL_law__680 3 rfl ?_
  refine r_csW (ok_L_thing hG a1 a2 μ) lL_163 dL_law__681 (by decide) (Nat.le_of_ble_eq_true rfl) rfl (Nat.le_of_ble_eq_true rfl) (by decide) ?_
  refine r_mu (muL_law_c9_1 a1 a2 μ) rfl ?_
  refine r_istore [(5, _), (0, _), (1, _), (2, _), (3, _), (4, _)] dL_law__684 (Nat.le_of_ble_eq_true rfl) rfl ?_
  refine r_aload_n dL_law__686 3 rfl ?_
  refine r_aload_n dL_law__687 1 rfl ?_
  refine r_iload dL_law__688 5 rfl ?_
  refine r_iconst 1 dL_law__690 rfl ?_
  refine r_iadd dL_law__691 ?_
  refine r_sldA hx1 dL_law__692 ?_
  refine r_aload_n dL_law__693 1 rfl ?_
  refine r_iload dL_law__694 5 rfl ?_
  refine r_iconst 2 dL_law__696 rfl ?_
  refine r_iadd dL_law__697 ?_
  refine r_sldA hx2 dL_law__698 ?_
  have hs1 := hP.1
  replace hP := hP.2
  refine r_cvI (ok_X10_thing (hG.le (by decide)) a1 a2 (muL_law_c9_1 a1 a2 μ) hs1) lL_165 (hG.lt (by decide)) sh57 ⟨_, _, rfl⟩ dL_law__699 (by decide) (Nat.le_of_ble_eq_true rfl) rfl (Nat.le_of_ble_eq_true rfl) ?_
  refine r_mu (muL_law_c9_2 a1 a2 μ) rfl ?_
  refine r_istore [(6, _), (5, _), (0, _), (1, _), (2, _), (3, _), (4, _)] dL_law__702 (Nat.le_of_ble_eq_true rfl) rfl ?_
  refine r_aload_n dL_law__704 4 rfl ?_
  refine r_cvI (ok_X10_thrown (hG.le (by decide))  (muL_law_c9_2 a1 a2 μ)) lL_135 (hG.lt (by decide)) sh57 ⟨_, _, rfl⟩ dL_law__705 (by decide) (Nat.le_of_ble_eq_true rfl) rfl (Nat.le_of_ble_eq_true rfl) ?_
  refine r_iload dL_law__708 1 rfl ?_
  refine r_icmp_eq 715 dL_law__710 (by decide) (fun c1 => ?_) (fun c1 => ?_)
  · replace hP := hP.1 c1
    refine r_iload dL_law__715 1 rfl ?_
    refine r_if_ne 732 dL_law__717 (by decide) (fun c2 => ?_) (fun c2 => ?_)
    · replace hP := hP.1 c2
      refine r_goto 2749 dL_law__732 (by decide) ?_
      refine r_iinc (p4 + 8) [(4, _), (6, _), (5, _), (0, _), (1, _), (2, _), (3, _)] dL_law__2749 6 rfl rfl (Nat.le_of_ble_eq_true rfl) rfl ?_
      refine r_goto 23 dL_law__2752 (by decide) ?_
      exact r_sub [3, 4, 5, 6, 0] rfl h
    · replace hP := hP.2 c2
      refine r_aload_n dL_law__720 5 rfl ?_
      refine r_iconst 0 dL_law__721 rfl ?_
      refine r_laldK 0 rfl (hG.lt (by decide)) sh548 (vp_of (by decide) (by decide)) dL_law__722 ?_
      refine r_iload dL_law__723 0 rfl ?_
      refine r_i2l dL_law__725 ?_
      refine r_lcmp dL_law__726 ?_
      refine r_if_eq 732 dL_law__727 (by decide) (fun c3 => ?_) (fun c3 => ?_)
      · replace hP := hP.1 c3
        refine r_goto 2749 dL_law__732 (by decide) ?_
        refine r_iinc (p4 + 8) [(4, _), (6, _), (5, _), (0, _), (1, _), (2, _), (3, _)] dL_law__2749 6 rfl rfl (Nat.le_of_ble_eq_true rfl) rfl ?_
        refine r_goto 23 dL_law__2752 (by decide) ?_
        exact r_sub [3, 4, 5, 6, 0] rfl h
      · replace hP := hP.2 c3
        refine r_iconst 0 dL_law__730 rfl ?_
        exact hP.elim
  · replace hP := hP.2 c1
    refine r_iconst 0 dL_law__713 rfl ?_
    exact hP.elim
set_option maxRecDepth 20000 in
set_option maxHeartbeats 2000000 in
theorem case_10 {G : SG} (hG : GK 549 G) (p4 : Int32) (a1 : Int32) (hx1 : vp_in (p4 + 1) (gs G) ∧ gx G (ix (p4 + 1)) = a1) {μ : Mem} {t : Nat} {Q : PQ} {X : PX} (hP : P_W_10 a1 μ) (h : R G mL_law_ 23 [(0, .ref (gb G)), (1, .ref (ga G 0)), (2, .ref (ga G 57)), (3, .ref (ga G 548)), (4, .int (p4 + 8))] [] (M_W_10 a1 μ) t Q X) : R G mL_law_ 735 [(0, .ref (gb G)), (1, .ref (ga G 0)), (2, .ref (ga G 57)), (3, .ref (ga G 548)), (4, .int p4)] [] μ (8 + t) Q X := by
  unfold P_W_10 at hP
  unfold M_W_10 at h
  refine r_aload_n dL_law__735 1 rfl ?_
  refine r_aload_n dL_law__736 0 rfl ?_
  refine r_iload dL_law__737 4 rfl ?_
  refine r_iconst 1 dL_law__739 rfl ?_
  refine r_iadd dL_law__740 ?_
  refine r_sldA hx1 dL_law__741 ?_
  refine r_aload_n dL_law__742 3 rfl ?_
  have hs1 := hP.1
  replace hP := hP.2
  have hs2 := hP.1
  replace hP := hP.2
  refine r_csW (ok_L_height hG a1 μ hs1 hs2) lL_166 dL_law__743 (by decide) (Nat.le_of_ble_eq_true rfl) rfl (Nat.le_of_ble_eq_true rfl) (by decide) ?_
  refine r_mu (muL_law_c10_1 a1 μ) rfl ?_
  refine r_istore [(5, _), (0, _), (1, _), (2, _), (3, _), (4, _)] dL_law__746 (Nat.le_of_ble_eq_true rfl) rfl ?_
  refine r_aload_n dL_law__748 3 rfl ?_
  refine r_aload_n dL_law__749 1 rfl ?_
  refine r_iload dL_law__750 5 rfl ?_
  refine r_iconst 1 dL_law__752 rfl ?_
  refine r_iadd dL_law__753 ?_
  refine r_sldA hx1 dL_law__754 ?_
  have hs3 := hP.1
  replace hP := hP.2
  refine r_cvI (ok_X10_height (hG.le (by decide)) a1 (muL_law_c10_1 a1 μ) hs3) lL_168 (hG.lt (by decide)) sh57 ⟨_, _, rfl⟩ dL_law__755 (by decide) (Nat.le_of_ble_eq_true rfl) rfl (Nat.le_of_ble_eq_true rfl) ?_
  refine r_mu (muL_law_c10_2 a1 μ) rfl ?_
  refine r_istore [(6, _), (5, _), (0, _), (1, _), (2, _), (3, _), (4, _)] dL_law__758 (Nat.le_of_ble_eq_true rfl) rfl ?_
  refine r_aload_n dL_law__760 4 rfl ?_
  refine r_cvI (ok_X10_thrown (hG.le (by decide))  (muL_law_c10_2 a1 μ)) lL_135 (hG.lt (by decide)) sh57 ⟨_, _, rfl⟩ dL_law__761 (by decide) (Nat.le_of_ble_eq_true rfl) rfl (Nat.le_of_ble_eq_true rfl) ?_
  refine r_iload dL_law__764 1 rfl ?_
  refine r_icmp_eq 771 dL_law__766 (by decide) (fun c1 => ?_) (fun c1 => ?_)
  · replace hP := hP.1 c1
    refine r_iload dL_law__771 1 rfl ?_
    refine r_if_ne 788 dL_law__773 (by decide) (fun c2 => ?_) (fun c2 => ?_)
    · replace hP := hP.1 c2
      refine r_goto 2749 dL_law__788 (by decide) ?_
      refine r_iinc (p4 + 8) [(4, _), (6, _), (5, _), (0, _), (1, _), (2, _), (3, _)] dL_law__2749 6 rfl rfl (Nat.le_of_ble_eq_true rfl) rfl ?_
      refine r_goto 23 dL_law__2752 (by decide) ?_
      exact r_sub [3, 4, 5, 6, 0] rfl h
    · replace hP := hP.2 c2
      refine r_aload_n dL_law__776 5 rfl ?_
      refine r_iconst 0 dL_law__777 rfl ?_
      refine r_laldK 0 rfl (hG.lt (by decide)) sh548 (vp_of (by decide) (by decide)) dL_law__778 ?_
      refine r_iload dL_law__779 0 rfl ?_
      refine r_i2l dL_law__781 ?_
      refine r_lcmp dL_law__782 ?_
      refine r_if_eq 788 dL_law__783 (by decide) (fun c3 => ?_) (fun c3 => ?_)
      · replace hP := hP.1 c3
        refine r_goto 2749 dL_law__788 (by decide) ?_
        refine r_iinc (p4 + 8) [(4, _), (6, _), (5, _), (0, _), (1, _), (2, _), (3, _)] dL_law__2749 6 rfl rfl (Nat.le_of_ble_eq_true rfl) rfl ?_
        refine r_goto 23 dL_law__2752 (by decide) ?_
        exact r_sub [3, 4, 5, 6, 0] rfl h
      · replace hP := hP.2 c3
        refine r_iconst 0 dL_law__786 rfl ?_
        exact hP.elim
  · replace hP := hP.2 c1
    refine r_iconst 0 dL_law__769 rfl ?_
    exact hP.elim
set_option maxRecDepth 20000 in
set_option maxHeartbeats 2000000 in
theorem case_11 {G : SG} (hG : GK 549 G) (p4 : Int32) (a1 : Int32) (a2 : Int32) (hx1 : vp_in (p4 + 1) (gs G) ∧ gx G (ix (p4 + 1)) = a1) (hx2 : vp_in (p4 + 2) (gs G) ∧ gx G (ix (p4 + 2)) = a2) {μ : Mem} {t : Nat} {Q : PQ} {X : PX} (hP : P_W_11 a1 a2 μ) (h : R G mL_law_ 23 [(0, .ref (gb G)), (1, .ref (ga G 0)), (2, .ref (ga G 57)), (3, .ref (ga G 548)), (4, .int (p4 + 8))] [] (M_W_11 a1 a2 μ) t Q X) : R G mL_law_ 791 [(0, .ref (gb G)), (1, .ref (ga G 0)), (2, .ref (ga G 57)), (3, .ref (ga G 548)), (4, .int p4)] [] μ (8 + t) Q X := by
  unfold P_W_11 at hP
  unfold M_W_11 at h
  refine r_aload_n dL_law__791 1 rfl ?_
  refine r_aload_n dL_law__792 0 rfl ?_
  refine r_iload dL_law__793 4 rfl ?_
  refine r_iconst 1 dL_law__795 rfl ?_
  refine r_iadd dL_law__796 ?_
  refine r_sldA hx1 dL_law__797 ?_
  refine r_aload_n dL_law__798 0 rfl ?_
  refine r_iload dL_law__799 4 rfl ?_
  refine r_iconst 2 dL_law__801 rfl ?_
  refine r_iadd dL_law__802 ?_
  refine r_sldA hx2 dL_law__803 ?_
  refine r_aload_n dL_law__804 3 rfl ?_
  refine r_csW (ok_L_find hG a1 a2 μ) lL_169 dL_law__805 (by decide) (Nat.le_of_ble_eq_true rfl) rfl (Nat.le_of_ble_eq_true rfl) (by decide) ?_
  refine r_mu (muL_law_c11_1 a1 a2 μ) rfl ?_
  refine r_istore [(5, _), (0, _), (1, _), (2, _), (3, _), (4, _)] dL_law__808 (Nat.le_of_ble_eq_true rfl) rfl ?_
  refine r_aload_n dL_law__810 3 rfl ?_
  refine r_aload_n dL_law__811 1 rfl ?_
  refine r_iload dL_law__812 5 rfl ?_
  refine r_iconst 1 dL_law__814 rfl ?_
  refine r_iadd dL_law__815 ?_
  refine r_sldA hx1 dL_law__816 ?_
  refine r_aload_n dL_law__817 1 rfl ?_
  refine r_iload dL_law__818 5 rfl ?_
  refine r_iconst 2 dL_law__820 rfl ?_
  refine r_iadd dL_law__821 ?_
  refine r_sldA hx2 dL_law__822 ?_
  have hs1 := hP.1
  replace hP := hP.2
  refine r_cvI (ok_X10_find (hG.le (by decide)) a1 a2 (muL_law_c11_1 a1 a2 μ) hs1) lL_171 (hG.lt (by decide)) sh57 ⟨_, _, rfl⟩ dL_law__823 (by decide) (Nat.le_of_ble_eq_true rfl) rfl (Nat.le_of_ble_eq_true rfl) ?_
  refine r_mu (muL_law_c11_2 a1 a2 μ) rfl ?_
  refine r_istore [(6, _), (5, _), (0, _), (1, _), (2, _), (3, _), (4, _)] dL_law__826 (Nat.le_of_ble_eq_true rfl) rfl ?_
  refine r_aload_n dL_law__828 4 rfl ?_
  refine r_cvI (ok_X10_thrown (hG.le (by decide))  (muL_law_c11_2 a1 a2 μ)) lL_135 (hG.lt (by decide)) sh57 ⟨_, _, rfl⟩ dL_law__829 (by decide) (Nat.le_of_ble_eq_true rfl) rfl (Nat.le_of_ble_eq_true rfl) ?_
  refine r_iload dL_law__832 1 rfl ?_
  refine r_icmp_eq 839 dL_law__834 (by decide) (fun c1 => ?_) (fun c1 => ?_)
  · replace hP := hP.1 c1
    refine r_iload dL_law__839 1 rfl ?_
    refine r_if_ne 856 dL_law__841 (by decide) (fun c2 => ?_) (fun c2 => ?_)
    · replace hP := hP.1 c2
      refine r_goto 2749 dL_law__856 (by decide) ?_
      refine r_iinc (p4 + 8) [(4, _), (6, _), (5, _), (0, _), (1, _), (2, _), (3, _)] dL_law__2749 6 rfl rfl (Nat.le_of_ble_eq_true rfl) rfl ?_
      refine r_goto 23 dL_law__2752 (by decide) ?_
      exact r_sub [3, 4, 5, 6, 0] rfl h
    · replace hP := hP.2 c2
      refine r_aload_n dL_law__844 5 rfl ?_
      refine r_iconst 0 dL_law__845 rfl ?_
      refine r_laldK 0 rfl (hG.lt (by decide)) sh548 (vp_of (by decide) (by decide)) dL_law__846 ?_
      refine r_iload dL_law__847 0 rfl ?_
      refine r_i2l dL_law__849 ?_
      refine r_lcmp dL_law__850 ?_
      refine r_if_eq 856 dL_law__851 (by decide) (fun c3 => ?_) (fun c3 => ?_)
      · replace hP := hP.1 c3
        refine r_goto 2749 dL_law__856 (by decide) ?_
        refine r_iinc (p4 + 8) [(4, _), (6, _), (5, _), (0, _), (1, _), (2, _), (3, _)] dL_law__2749 6 rfl rfl (Nat.le_of_ble_eq_true rfl) rfl ?_
        refine r_goto 23 dL_law__2752 (by decide) ?_
        exact r_sub [3, 4, 5, 6, 0] rfl h
      · replace hP := hP.2 c3
        refine r_iconst 0 dL_law__854 rfl ?_
        exact hP.elim
  · replace hP := hP.2 c1
    refine r_iconst 0 dL_law__837 rfl ?_
    exact hP.elim
set_option maxRecDepth 20000 in
set_option maxHeartbeats 2000000 in
theorem case_12 {G : SG} (hG : GK 549 G) (p4 : Int32) (a1 : Int32) (hx1 : vp_in (p4 + 1) (gs G) ∧ gx G (ix (p4 + 1)) = a1) {μ : Mem} {t : Nat} {Q : PQ} {X : PX} (hP : P_W_12 a1 μ) (h : R G mL_law_ 23 [(0, .ref (gb G)), (1, .ref (ga G 0)), (2, .ref (ga G 57)), (3, .ref (ga G 548)), (4, .int (p4 + 8))] [] (M_W_12 a1 μ) t Q X) : R G mL_law_ 859 [(0, .ref (gb G)), (1, .ref (ga G 0)), (2, .ref (ga G 57)), (3, .ref (ga G 548)), (4, .int p4)] [] μ (8 + t) Q X := by
  unfold P_W_12 at hP
  unfold M_W_12 at h
  refine r_aload_n dL_law__859 1 rfl ?_
  refine r_aload_n dL_law__860 0 rfl ?_
  refine r_iload dL_law__861 4 rfl ?_
  refine r_iconst 1 dL_law__863 rfl ?_
  refine r_iadd dL_law__864 ?_
  refine r_sldA hx1 dL_law__865 ?_
  refine r_aload_n dL_law__866 3 rfl ?_
  have hs1 := hP.1
  replace hP := hP.2
  have hs2 := hP.1
  replace hP := hP.2
  refine r_csW (ok_L_due hG a1 μ hs1 hs2) lL_172 dL_law__867 (by decide) (Nat.le_of_ble_eq_true rfl) rfl (Nat.le_of_ble_eq_true rfl) (by decide) ?_
  refine r_mu (muL_law_c12_1 a1 μ) rfl ?_
  refine r_istore [(5, _), (0, _), (1, _), (2, _), (3, _), (4, _)] dL_law__870 (Nat.le_of_ble_eq_true rfl) rfl ?_
  refine r_aload_n dL_law__872 3 rfl ?_
  refine r_aload_n dL_law__873 1 rfl ?_
  refine r_iload dL_law__874 5 rfl ?_
  refine r_iconst 1 dL_law__876 rfl ?_
  refine r_iadd dL_law__877 ?_
  refine r_sldA hx1 dL_law__878 ?_
  have hs3 := hP.1
  replace hP := hP.2
  refine r_cvI (ok_X10_due (hG.le (by decide)) a1 (muL_law_c12_1 a1 μ) hs3) lL_174 (hG.lt (by decide)) sh57 ⟨_, _, rfl⟩ dL_law__879 (by decide) (Nat.le_of_ble_eq_true rfl) rfl (Nat.le_of_ble_eq_true rfl) ?_
  refine r_mu (muL_law_c12_2 a1 μ) rfl ?_
  refine r_istore [(6, _), (5, _), (0, _), (1, _), (2, _), (3, _), (4, _)] dL_law__882 (Nat.le_of_ble_eq_true rfl) rfl ?_
  refine r_aload_n dL_law__884 4 rfl ?_
  refine r_cvI (ok_X10_thrown (hG.le (by decide))  (muL_law_c12_2 a1 μ)) lL_135 (hG.lt (by decide)) sh57 ⟨_, _, rfl⟩ dL_law__885 (by decide) (Nat.le_of_ble_eq_true rfl) rfl (Nat.le_of_ble_eq_true rfl) ?_
  refine r_iload dL_law__888 1 rfl ?_
  refine r_icmp_eq 895 dL_law__890 (by decide) (fun c1 => ?_) (fun c1 => ?_)
  · replace hP := hP.1 c1
    refine r_iload dL_law__895 1 rfl ?_
    refine r_if_ne 912 dL_law__897 (by decide) (fun c2 => ?_) (fun c2 => ?_)
    · replace hP := hP.1 c2
      refine r_goto 2749 dL_law__912 (by decide) ?_
      refine r_iinc (p4 + 8) [(4, _), (6, _), (5, _), (0, _), (1, _), (2, _), (3, _)] dL_law__2749 6 rfl rfl (Nat.le_of_ble_eq_true rfl) rfl ?_
      refine r_goto 23 dL_law__2752 (by decide) ?_
      exact r_sub [3, 4, 5, 6, 0] rfl h
    · replace hP := hP.2 c2
      refine r_aload_n dL_law__900 5 rfl ?_
      refine r_iconst 0 dL_law__901 rfl ?_
      refine r_laldK 0 rfl (hG.lt (by decide)) sh548 (vp_of (by decide) (by decide)) dL_law__902 ?_
      refine r_iload dL_law__903 0 rfl ?_
      refine r_i2l dL_law__905 ?_
      refine r_lcmp dL_law__906 ?_
      refine r_if_eq 912 dL_law__907 (by decide) (fun c3 => ?_) (fun c3 => ?_)
      · replace hP := hP.1 c3
        refine r_goto 2749 dL_law__912 (by decide) ?_
        refine r_iinc (p4 + 8) [(4, _), (6, _), (5, _), (0, _), (1, _), (2, _), (3, _)] dL_law__2749 6 rfl rfl (Nat.le_of_ble_eq_true rfl) rfl ?_
        refine r_goto 23 dL_law__2752 (by decide) ?_
        exact r_sub [3, 4, 5, 6, 0] rfl h
      · replace hP := hP.2 c3
        refine r_iconst 0 dL_law__910 rfl ?_
        exact hP.elim
  · replace hP := hP.2 c1
    refine r_iconst 0 dL_law__893 rfl ?_
    exact hP.elim
set_option maxRecDepth 20000 in
set_option maxHeartbeats 2000000 in
theorem case_13 {G : SG} (hG : GK 549 G) (p4 : Int32) (a1 : Int32) (a2 : Int32) (a3 : Int32) (a4 : Int32) (a5 : Int32) (a6 : Int32) (hx1 : vp_in (p4 + 1) (gs G) ∧ gx G (ix (p4 + 1)) = a1) (hx2 : vp_in (p4 + 2) (gs G) ∧ gx G (ix (p4 + 2)) = a2) (hx3 : vp_in (p4 + 3) (gs G) ∧ gx G (ix (p4 + 3)) = a3) (hx4 : vp_in (p4 + 4) (gs G) ∧ gx G (ix (p4 + 4)) = a4) (hx5 : vp_in (p4 + 5) (gs G) ∧ gx G (ix (p4 + 5)) = a5) (hx6 : vp_in (p4 + 6) (gs G) ∧ gx G (ix (p4 + 6)) = a6) {μ : Mem} {t : Nat} {Q : PQ} {X : PX} (hP : P_W_13 a1 a2 a3 a4 a5 a6 μ) (h : R G mL_law_ 23 [(0, .ref (gb G)), (1, .ref (ga G 0)), (2, .ref (ga G 57)), (3, .ref (ga G 548)), (4, .int (p4 + 8))] [] (M_W_13 a1 a2 a3 a4 a5 a6 μ) t Q X) : R G mL_law_ 915 [(0, .ref (gb G)), (1, .ref (ga G 0)), (2, .ref (ga G 57)), (3, .ref (ga G 548)), (4, .int p4)] [] μ (8 + t) Q X := by
  unfold P_W_13 at hP
  unfold M_W_13 at h
  refine r_aload_n dL_law__915 1 rfl ?_
  refine r_aload_n dL_law__916 0 rfl ?_
  refine r_iload dL_law__917 4 rfl ?_
  refine r_iconst 1 dL_law__919 rfl ?_
  refine r_iadd dL_law__920 ?_
  refine r_sldA hx1 dL_law__921 ?_
  refine r_aload_n dL_law__922 0 rfl ?_
  refine r_iload dL_law__923 4 rfl ?_
  refine r_iconst 2 dL_law__925 rfl ?_
  refine r_iadd dL_law__926 ?_
  refine r_sldA hx2 dL_law__927 ?_
  refine r_aload_n dL_law__928 0 rfl ?_
  refine r_iload dL_law__929 4 rfl ?_
  refine r_iconst 3 dL_law__931 rfl ?_
  refine r_iadd dL_law__932 ?_
  refine r_sldA hx3 dL_law__933 ?_
  refine r_aload_n dL_law__934 0 rfl ?_
  refine r_iload dL_law__935 4 rfl ?_
  refine r_iconst 4 dL_law__937 rfl ?_
  refine r_iadd dL_law__938 ?_
  refine r_sldA hx4 dL_law__939 ?_
  refine r_aload_n dL_law__940 0 rfl ?_
  refine r_iload dL_law__941 4 rfl ?_
  refine r_iconst 5 dL_law__943 rfl ?_
  refine r_iadd dL_law__944 ?_
  refine r_sldA hx5 dL_law__945 ?_
  refine r_aload_n dL_law__946 0 rfl ?_
  refine r_iload dL_law__947 4 rfl ?_
  refine r_bipush 6 dL_law__949 rfl ?_
  refine r_iadd dL_law__951 ?_
  refine r_sldA hx6 dL_law__952 ?_
  refine r_aload_n dL_law__953 3 rfl ?_
  have hs1 := hP.1
  replace hP := hP.2
  have hs2 := hP.1
  replace hP := hP.2
  refine r_csW (ok_L_would hG a1 a2 a3 a4 a5 a6 μ hs1 hs2) lL_175 dL_law__954 (by decide) (Nat.le_of_ble_eq_true rfl) rfl (Nat.le_of_ble_eq_true rfl) (by decide) ?_
  refine r_mu (muL_law_c13_1 a1 a2 a3 a4 a5 a6 μ) rfl ?_
  refine r_istore [(5, _), (0, _), (1, _), (2, _), (3, _), (4, _)] dL_law__957 (Nat.le_of_ble_eq_true rfl) rfl ?_
  refine r_aload_n dL_law__959 3 rfl ?_
  refine r_aload_n dL_law__960 1 rfl ?_
  refine r_iload dL_law__961 5 rfl ?_
  refine r_iconst 1 dL_law__963 rfl ?_
  refine r_iadd dL_law__964 ?_
  refine r_sldA hx1 dL_law__965 ?_
  refine r_aload_n dL_law__966 1 rfl ?_
  refine r_iload dL_law__967 5 rfl ?_
  refine r_iconst 2 dL_law__969 rfl ?_
  refine r_iadd dL_law__970 ?_
  refine r_sldA hx2 dL_law__971 ?_
  refine r_aload_n dL_law__972 1 rfl ?_
  refine r_iload dL_law__973 5 rfl ?_
  refine r_iconst 3 dL_law__975 rfl ?_
  refine r_iadd dL_law__976 ?_
  refine r_sldA hx3 dL_law__977 ?_
  refine r_aload_n dL_law__978 1 rfl ?_
  refine r_iload dL_law__979 5 rfl ?_
  refine r_iconst 4 dL_law__981 rfl ?_
  refine r_iadd dL_law__982 ?_
  refine r_sldA hx4 dL_law__983 ?_
  refine r_aload_n dL_law__984 1 rfl ?_
  refine r_iload dL_law__985 5 rfl ?_
  refine r_iconst 5 dL_law__987 rfl ?_
  refine r_iadd dL_law__988 ?_
  refine r_sldA hx5 dL_law__989 ?_
  refine r_aload_n dL_law__990 1 rfl ?_
  refine r_iload dL_law__991 5 rfl ?_
  refine r_bipush 6 dL_law__993 rfl ?_
  refine r_iadd dL_law__995 ?_
  refine r_sldA hx6 dL_law__996 ?_
  have hs3 := hP.1
  replace hP := hP.2
  refine r_cvI (ok_X10_would (hG.le (by decide)) a1 a2 a3 a4 a5 a6 (muL_law_c13_1 a1 a2 a3 a4 a5 a6 μ) hs3) lL_178 (hG.lt (by decide)) sh57 ⟨_, _, rfl⟩ dL_law__997 (by decide) (Nat.le_of_ble_eq_true rfl) rfl (Nat.le_of_ble_eq_true rfl) ?_
  refine r_mu (muL_law_c13_2 a1 a2 a3 a4 a5 a6 μ) rfl ?_
  refine r_istore [(6, _), (5, _), (0, _), (1, _), (2, _), (3, _), (4, _)] dL_law__1000 (Nat.le_of_ble_eq_true rfl) rfl ?_
  refine r_aload_n dL_law__1002 4 rfl ?_
  refine r_cvI (ok_X10_thrown (hG.le (by decide))  (muL_law_c13_2 a1 a2 a3 a4 a5 a6 μ)) lL_135 (hG.lt (by decide)) sh57 ⟨_, _, rfl⟩ dL_law__1003 (by decide) (Nat.le_of_ble_eq_true rfl) rfl (Nat.le_of_ble_eq_true rfl) ?_
  refine r_iload dL_law__1006 1 rfl ?_
  refine r_icmp_eq 1013 dL_law__1008 (by decide) (fun c1 => ?_) (fun c1 => ?_)
  · replace hP := hP.1 c1
    refine r_iload dL_law__1013 1 rfl ?_
    refine r_if_ne 1030 dL_law__1015 (by decide) (fun c2 => ?_) (fun c2 => ?_)
    · replace hP := hP.1 c2
      refine r_goto 2749 dL_law__1030 (by decide) ?_
      refine r_iinc (p4 + 8) [(4, _), (6, _), (5, _), (0, _), (1, _), (2, _), (3, _)] dL_law__2749 6 rfl rfl (Nat.le_of_ble_eq_true rfl) rfl ?_
      refine r_goto 23 dL_law__2752 (by decide) ?_
      exact r_sub [3, 4, 5, 6, 0] rfl h
    · replace hP := hP.2 c2
      refine r_aload_n dL_law__1018 5 rfl ?_
      refine r_iconst 0 dL_law__1019 rfl ?_
      refine r_laldK 0 rfl (hG.lt (by decide)) sh548 (vp_of (by decide) (by decide)) dL_law__1020 ?_
      refine r_iload dL_law__1021 0 rfl ?_
      refine r_i2l dL_law__1023 ?_
      refine r_lcmp dL_law__1024 ?_
      refine r_if_eq 1030 dL_law__1025 (by decide) (fun c3 => ?_) (fun c3 => ?_)
      · replace hP := hP.1 c3
        refine r_goto 2749 dL_law__1030 (by decide) ?_
        refine r_iinc (p4 + 8) [(4, _), (6, _), (5, _), (0, _), (1, _), (2, _), (3, _)] dL_law__2749 6 rfl rfl (Nat.le_of_ble_eq_true rfl) rfl ?_
        refine r_goto 23 dL_law__2752 (by decide) ?_
        exact r_sub [3, 4, 5, 6, 0] rfl h
      · replace hP := hP.2 c3
        refine r_iconst 0 dL_law__1028 rfl ?_
        exact hP.elim
  · replace hP := hP.2 c1
    refine r_iconst 0 dL_law__1011 rfl ?_
    exact hP.elim
set_option maxRecDepth 20000 in
set_option maxHeartbeats 2000000 in
theorem case_14 {G : SG} (hG : GK 549 G) (p4 : Int32) (a1 : Int32) (a2 : Int32) (hx1 : vp_in (p4 + 1) (gs G) ∧ gx G (ix (p4 + 1)) = a1) (hx2 : vp_in (p4 + 2) (gs G) ∧ gx G (ix (p4 + 2)) = a2) {μ : Mem} {t : Nat} {Q : PQ} {X : PX} (hP : P_W_14 a1 a2 μ) (h : R G mL_law_ 23 [(0, .ref (gb G)), (1, .ref (ga G 0)), (2, .ref (ga G 57)), (3, .ref (ga G 548)), (4, .int (p4 + 8))] [] (M_W_14 a1 a2 μ) t Q X) : R G mL_law_ 1033 [(0, .ref (gb G)), (1, .ref (ga G 0)), (2, .ref (ga G 57)), (3, .ref (ga G 548)), (4, .int p4)] [] μ (8 + t) Q X := by
  unfold P_W_14 at hP
  unfold M_W_14 at h
  refine r_aload_n dL_law__1033 1 rfl ?_
  refine r_aload_n dL_law__1034 0 rfl ?_
  refine r_iload dL_law__1035 4 rfl ?_
  refine r_iconst 1 dL_law__1037 rfl ?_
  refine r_iadd dL_law__1038 ?_
  refine r_sldA hx1 dL_law__1039 ?_
  refine r_aload_n dL_law__1040 0 rfl ?_
  refine r_iload dL_law__1041 4 rfl ?_
  refine r_iconst 2 dL_law__1043 rfl ?_
  refine r_iadd dL_law__1044 ?_
  refine r_sldA hx2 dL_law__1045 ?_
  refine r_aload_n dL_law__1046 3 rfl ?_
  have hs1 := hP.1
  replace hP := hP.2
  have hs2 := hP.1
  replace hP := hP.2
  refine r_csW (ok_L_ahead hG a1 a2 μ hs1 hs2) lL_179 dL_law__1047 (by decide) (Nat.le_of_ble_eq_true rfl) rfl (Nat.le_of_ble_eq_true rfl) (by decide) ?_
  refine r_mu (muL_law_c14_1 a1 a2 μ) rfl ?_
  refine r_istore [(5, _), (0, _), (1, _), (2, _), (3, _), (4, _)] dL_law__1050 (Nat.le_of_ble_eq_true rfl) rfl ?_
  refine r_aload_n dL_law__1052 3 rfl ?_
  refine r_aload_n dL_law__1053 1 rfl ?_
  refine r_iload dL_law__1054 5 rfl ?_
  refine r_iconst 1 dL_law__1056 rfl ?_
  refine r_iadd dL_law__1057 ?_
  refine r_sldA hx1 dL_law__1058 ?_
  refine r_aload_n dL_law__1059 1 rfl ?_
  refine r_iload dL_law__1060 5 rfl ?_
  refine r_iconst 2 dL_law__1062 rfl ?_
  refine r_iadd dL_law__1063 ?_
  refine r_sldA hx2 dL_law__1064 ?_
  have hs3 := hP.1
  replace hP := hP.2
  refine r_cvI (ok_X10_ahead (hG.le (by decide)) a1 a2 (muL_law_c14_1 a1 a2 μ) hs3) lL_181 (hG.lt (by decide)) sh57 ⟨_, _, rfl⟩ dL_law__1065 (by decide) (Nat.le_of_ble_eq_true rfl) rfl (Nat.le_of_ble_eq_true rfl) ?_
  refine r_mu (muL_law_c14_2 a1 a2 μ) rfl ?_
  refine r_istore [(6, _), (5, _), (0, _), (1, _), (2, _), (3, _), (4, _)] dL_law__1068 (Nat.le_of_ble_eq_true rfl) rfl ?_
  refine r_aload_n dL_law__1070 4 rfl ?_
  refine r_cvI (ok_X10_thrown (hG.le (by decide))  (muL_law_c14_2 a1 a2 μ)) lL_135 (hG.lt (by decide)) sh57 ⟨_, _, rfl⟩ dL_law__1071 (by decide) (Nat.le_of_ble_eq_true rfl) rfl (Nat.le_of_ble_eq_true rfl) ?_
  refine r_iload dL_law__1074 1 rfl ?_
  refine r_icmp_eq 1081 dL_law__1076 (by decide) (fun c1 => ?_) (fun c1 => ?_)
  · replace hP := hP.1 c1
    refine r_iload dL_law__1081 1 rfl ?_
    refine r_if_ne 1098 dL_law__1083 (by decide) (fun c2 => ?_) (fun c2 => ?_)
    · replace hP := hP.1 c2
      refine r_goto 2749 dL_law__1098 (by decide) ?_
      refine r_iinc (p4 + 8) [(4, _), (6, _), (5, _), (0, _), (1, _), (2, _), (3, _)] dL_law__2749 6 rfl rfl (Nat.le_of_ble_eq_true rfl) rfl ?_
      refine r_goto 23 dL_law__2752 (by decide) ?_
      exact r_sub [3, 4, 5, 6, 0] rfl h
    · replace hP := hP.2 c2
      refine r_aload_n dL_law__1086 5 rfl ?_
      refine r_iconst 0 dL_law__1087 rfl ?_
      refine r_laldK 0 rfl (hG.lt (by decide)) sh548 (vp_of (by decide) (by decide)) dL_law__1088 ?_
      refine r_iload dL_law__1089 0 rfl ?_
      refine r_i2l dL_law__1091 ?_
      refine r_lcmp dL_law__1092 ?_
      refine r_if_eq 1098 dL_law__1093 (by decide) (fun c3 => ?_) (fun c3 => ?_)
      · replace hP := hP.1 c3
        refine r_goto 2749 dL_law__1098 (by decide) ?_
        refine r_iinc (p4 + 8) [(4, _), (6, _), (5, _), (0, _), (1, _), (2, _), (3, _)] dL_law__2749 6 rfl rfl (Nat.le_of_ble_eq_true rfl) rfl ?_
        refine r_goto 23 dL_law__2752 (by decide) ?_
        exact r_sub [3, 4, 5, 6, 0] rfl h
      · replace hP := hP.2 c3
        refine r_iconst 0 dL_law__1096 rfl ?_
        exact hP.elim
  · replace hP := hP.2 c1
    refine r_iconst 0 dL_law__1079 rfl ?_
    exact hP.elim
set_option maxRecDepth 20000 in
set_option maxHeartbeats 2000000 in
theorem case_15 {G : SG} (hG : GK 549 G) (p4 : Int32) (a1 : Int32) (hx1 : vp_in (p4 + 1) (gs G) ∧ gx G (ix (p4 + 1)) = a1) {μ : Mem} {t : Nat} {Q : PQ} {X : PX} (hP : P_W_15 a1 μ) (h : R G mL_law_ 23 [(0, .ref (gb G)), (1, .ref (ga G 0)), (2, .ref (ga G 57)), (3, .ref (ga G 548)), (4, .int (p4 + 8))] [] (M_W_15 a1 μ) t Q X) : R G mL_law_ 1101 [(0, .ref (gb G)), (1, .ref (ga G 0)), (2, .ref (ga G 57)), (3, .ref (ga G 548)), (4, .int p4)] [] μ (8 + t) Q X := by
  unfold P_W_15 at hP
  unfold M_W_15 at h
  refine r_aload_n dL_law__1101 1 rfl ?_
  refine r_aload_n dL_law__1102 0 rfl ?_
  refine r_iload dL_law__1103 4 rfl ?_
  refine r_iconst 1 dL_law__1105 rfl ?_
  refine r_iadd dL_law__1106 ?_
  refine r_sldA hx1 dL_law__1107 ?_
  refine r_aload_n dL_law__1108 3 rfl ?_
  have hs1 := hP.1
  replace hP := hP.2
  have hs2 := hP.1
  replace hP := hP.2
  refine r_csW (ok_L_comes hG a1 μ hs1 hs2) lL_182 dL_law__1109 (by decide) (Nat.le_of_ble_eq_true rfl) rfl (Nat.le_of_ble_eq_true rfl) (by decide) ?_
  refine r_mu (muL_law_c15_1 a1 μ) rfl ?_
  refine r_istore [(5, _), (0, _), (1, _), (2, _), (3, _), (4, _)] dL_law__1112 (Nat.le_of_ble_eq_true rfl) rfl ?_
  refine r_aload_n dL_law__1114 3 rfl ?_
  refine r_aload_n dL_law__1115 1 rfl ?_
  refine r_iload dL_law__1116 5 rfl ?_
  refine r_iconst 1 dL_law__1118 rfl ?_
  refine r_iadd dL_law__1119 ?_
  refine r_sldA hx1 dL_law__1120 ?_
  have hs3 := hP.1
  replace hP := hP.2
  refine r_cvI (ok_X10_comes (hG.le (by decide)) a1 (muL_law_c15_1 a1 μ) hs3) lL_184 (hG.lt (by decide)) sh57 ⟨_, _, rfl⟩ dL_law__1121 (by decide) (Nat.le_of_ble_eq_true rfl) rfl (Nat.le_of_ble_eq_true rfl) ?_
  refine r_mu (muL_law_c15_2 a1 μ) rfl ?_
  refine r_istore [(6, _), (5, _), (0, _), (1, _), (2, _), (3, _), (4, _)] dL_law__1124 (Nat.le_of_ble_eq_true rfl) rfl ?_
  refine r_aload_n dL_law__1126 4 rfl ?_
  refine r_cvI (ok_X10_thrown (hG.le (by decide))  (muL_law_c15_2 a1 μ)) lL_135 (hG.lt (by decide)) sh57 ⟨_, _, rfl⟩ dL_law__1127 (by decide) (Nat.le_of_ble_eq_true rfl) rfl (Nat.le_of_ble_eq_true rfl) ?_
  refine r_iload dL_law__1130 1 rfl ?_
  refine r_icmp_eq 1137 dL_law__1132 (by decide) (fun c1 => ?_) (fun c1 => ?_)
  · replace hP := hP.1 c1
    refine r_iload dL_law__1137 1 rfl ?_
    refine r_if_ne 1154 dL_law__1139 (by decide) (fun c2 => ?_) (fun c2 => ?_)
    · replace hP := hP.1 c2
      refine r_goto 2749 dL_law__1154 (by decide) ?_
      refine r_iinc (p4 + 8) [(4, _), (6, _), (5, _), (0, _), (1, _), (2, _), (3, _)] dL_law__2749 6 rfl rfl (Nat.le_of_ble_eq_true rfl) rfl ?_
      refine r_goto 23 dL_law__2752 (by decide) ?_
      exact r_sub [3, 4, 5, 6, 0] rfl h
    · replace hP := hP.2 c2
      refine r_aload_n dL_law__1142 5 rfl ?_
      refine r_iconst 0 dL_law__1143 rfl ?_
      refine r_laldK 0 rfl (hG.lt (by decide)) sh548 (vp_of (by decide) (by decide)) dL_law__1144 ?_
      refine r_iload dL_law__1145 0 rfl ?_
      refine r_i2l dL_law__1147 ?_
      refine r_lcmp dL_law__1148 ?_
      refine r_if_eq 1154 dL_law__1149 (by decide) (fun c3 => ?_) (fun c3 => ?_)
      · replace hP := hP.1 c3
        refine r_goto 2749 dL_law__1154 (by decide) ?_
        refine r_iinc (p4 + 8) [(4, _), (6, _), (5, _), (0, _), (1, _), (2, _), (3, _)] dL_law__2749 6 rfl rfl (Nat.le_of_ble_eq_true rfl) rfl ?_
        refine r_goto 23 dL_law__2752 (by decide) ?_
        exact r_sub [3, 4, 5, 6, 0] rfl h
      · replace hP := hP.2 c3
        refine r_iconst 0 dL_law__1152 rfl ?_
        exact hP.elim
  · replace hP := hP.2 c1
    refine r_iconst 0 dL_law__1135 rfl ?_
    exact hP.elim
set_option maxRecDepth 20000 in
set_option maxHeartbeats 2000000 in
theorem case_16 {G : SG} (hG : GK 549 G) (p4 : Int32) (a1 : Int32) (hx1 : vp_in (p4 + 1) (gs G) ∧ gx G (ix (p4 + 1)) = a1) {μ : Mem} {t : Nat} {Q : PQ} {X : PX} (hP : P_W_16 a1 μ) (h : R G mL_law_ 23 [(0, .ref (gb G)), (1, .ref (ga G 0)), (2, .ref (ga G 57)), (3, .ref (ga G 548)), (4, .int (p4 + 8))] [] (M_W_16 a1 μ) t Q X) : R G mL_law_ 1157 [(0, .ref (gb G)), (1, .ref (ga G 0)), (2, .ref (ga G 57)), (3, .ref (ga G 548)), (4, .int p4)] [] μ (8 + t) Q X := by
  unfold P_W_16 at hP
  unfold M_W_16 at h
  refine r_aload_n dL_law__1157 1 rfl ?_
  refine r_aload_n dL_law__1158 0 rfl ?_
  refine r_iload dL_law__1159 4 rfl ?_
  refine r_iconst 1 dL_law__1161 rfl ?_
  refine r_iadd dL_law__1162 ?_
  refine r_sldA hx1 dL_law__1163 ?_
  refine r_aload_n dL_law__1164 3 rfl ?_
  have hs1 := hP.1
  replace hP := hP.2
  have hs2 := hP.1
  replace hP := hP.2
  refine r_csW (ok_L_spring hG a1 μ hs1 hs2) lL_185 dL_law__1165 (by decide) (Nat.le_of_ble_eq_true rfl) rfl (Nat.le_of_ble_eq_true rfl) (by decide) ?_
  refine r_mu (muL_law_c16_1 a1 μ) rfl ?_
  refine r_istore [(5, _), (0, _), (1, _), (2, _), (3, _), (4, _)] dL_law__1168 (Nat.le_of_ble_eq_true rfl) rfl ?_
  refine r_aload_n dL_law__1170 3 rfl ?_
  refine r_aload_n dL_law__1171 1 rfl ?_
  refine r_iload dL_law__1172 5 rfl ?_
  refine r_iconst 1 dL_law__1174 rfl ?_
  refine r_iadd dL_law__1175 ?_
  refine r_sldA hx1 dL_law__1176 ?_
  have hs3 := hP.1
  replace hP := hP.2
  refine r_cvI (ok_X10_spring (hG.le (by decide)) a1 (muL_law_c16_1 a1 μ) hs3) lL_187 (hG.lt (by decide)) sh57 ⟨_, _, rfl⟩ dL_law__1177 (by decide) (Nat.le_of_ble_eq_true rfl) rfl (Nat.le_of_ble_eq_true rfl) ?_
  refine r_mu (muL_law_c16_2 a1 μ) rfl ?_
  refine r_istore [(6, _), (5, _), (0, _), (1, _), (2, _), (3, _), (4, _)] dL_law__1180 (Nat.le_of_ble_eq_true rfl) rfl ?_
  refine r_aload_n dL_law__1182 4 rfl ?_
  refine r_cvI (ok_X10_thrown (hG.le (by decide))  (muL_law_c16_2 a1 μ)) lL_135 (hG.lt (by decide)) sh57 ⟨_, _, rfl⟩ dL_law__1183 (by decide) (Nat.le_of_ble_eq_true rfl) rfl (Nat.le_of_ble_eq_true rfl) ?_
  refine r_iload dL_law__1186 1 rfl ?_
  refine r_icmp_eq 1193 dL_law__1188 (by decide) (fun c1 => ?_) (fun c1 => ?_)
  · replace hP := hP.1 c1
    refine r_iload dL_law__1193 1 rfl ?_
    refine r_if_ne 1210 dL_law__1195 (by decide) (fun c2 => ?_) (fun c2 => ?_)
    · replace hP := hP.1 c2
      refine r_goto 2749 dL_law__1210 (by decide) ?_
      refine r_iinc (p4 + 8) [(4, _), (6, _), (5, _), (0, _), (1, _), (2, _), (3, _)] dL_law__2749 6 rfl rfl (Nat.le_of_ble_eq_true rfl) rfl ?_
      refine r_goto 23 dL_law__2752 (by decide) ?_
      exact r_sub [3, 4, 5, 6, 0] rfl h
    · replace hP := hP.2 c2
      refine r_aload_n dL_law__1198 5 rfl ?_
      refine r_iconst 0 dL_law__1199 rfl ?_
      refine r_laldK 0 rfl (hG.lt (by decide)) sh548 (vp_of (by decide) (by decide)) dL_law__1200 ?_
      refine r_iload dL_law__1201 0 rfl ?_
      refine r_i2l dL_law__1203 ?_
      refine r_lcmp dL_law__1204 ?_
      refine r_if_eq 1210 dL_law__1205 (by decide) (fun c3 => ?_) (fun c3 => ?_)
      · replace hP := hP.1 c3
        refine r_goto 2749 dL_law__1210 (by decide) ?_
        refine r_iinc (p4 + 8) [(4, _), (6, _), (5, _), (0, _), (1, _), (2, _), (3, _)] dL_law__2749 6 rfl rfl (Nat.le_of_ble_eq_true rfl) rfl ?_
        refine r_goto 23 dL_law__2752 (by decide) ?_
        exact r_sub [3, 4, 5, 6, 0] rfl h
      · replace hP := hP.2 c3
        refine r_iconst 0 dL_law__1208 rfl ?_
        exact hP.elim
  · replace hP := hP.2 c1
    refine r_iconst 0 dL_law__1191 rfl ?_
    exact hP.elim
set_option maxRecDepth 20000 in
set_option maxHeartbeats 2000000 in
theorem case_17 {G : SG} (hG : GK 549 G) (p4 : Int32) (a1 : Int32) (a2 : Int32) (a3 : Int32) (hx1 : vp_in (p4 + 1) (gs G) ∧ gx G (ix (p4 + 1)) = a1) (hx2 : vp_in (p4 + 2) (gs G) ∧ gx G (ix (p4 + 2)) = a2) (hx3 : vp_in (p4 + 3) (gs G) ∧ gx G (ix (p4 + 3)) = a3) {μ : Mem} {t : Nat} {Q : PQ} {X : PX} (hP : P_W_17 a1 a2 a3 μ) (h : R G mL_law_ 23 [(0, .ref (gb G)), (1, .ref (ga G 0)), (2, .ref (ga G 57)), (3, .ref (ga G 548)), (4, .int (p4 + 8))] [] (M_W_17 a1 a2 a3 μ) t Q X) : R G mL_law_ 1213 [(0, .ref (gb G)), (1, .ref (ga G 0)), (2, .ref (ga G 57)), (3, .ref (ga G 548)), (4, .int p4)] [] μ (8 + t) Q X := by
  unfold P_W_17 at hP
  unfold M_W_17 at h
  refine r_aload_n dL_law__1213 1 rfl ?_
  refine r_aload_n dL_law__1214 0 rfl ?_
  refine r_iload dL_law__1215 4 rfl ?_
  refine r_iconst 1 dL_law__1217 rfl ?_
  refine r_iadd dL_law__1218 ?_
  refine r_sldA hx1 dL_law__1219 ?_
  refine r_aload_n dL_law__1220 0 rfl ?_
  refine r_iload dL_law__1221 4 rfl ?_
  refine r_iconst 2 dL_law__1223 rfl ?_
  refine r_iadd dL_law__1224 ?_
  refine r_sldA hx2 dL_law__1225 ?_
  refine r_aload_n dL_law__1226 0 rfl ?_
  refine r_iload dL_law__1227 4 rfl ?_
  refine r_iconst 3 dL_law__1229 rfl ?_
  refine r_iadd dL_law__1230 ?_
  refine r_sldA hx3 dL_law__1231 ?_
  refine r_aload_n dL_law__1232 3 rfl ?_
  have hs1 := hP.1
  replace hP := hP.2
  have hs2 := hP.1
  replace hP := hP.2
  refine r_csW (ok_L_carry hG a1 a2 a3 μ hs1 hs2) lL_188 dL_law__1233 (by decide) (Nat.le_of_ble_eq_true rfl) rfl (Nat.le_of_ble_eq_true rfl) (by decide) ?_
  refine r_mu (muL_law_c17_1 a1 a2 a3 μ) rfl ?_
  refine r_istore [(5, _), (0, _), (1, _), (2, _), (3, _), (4, _)] dL_law__1236 (Nat.le_of_ble_eq_true rfl) rfl ?_
  refine r_aload_n dL_law__1238 3 rfl ?_
  refine r_aload_n dL_law__1239 1 rfl ?_
  refine r_iload dL_law__1240 5 rfl ?_
  refine r_iconst 1 dL_law__1242 rfl ?_
  refine r_iadd dL_law__1243 ?_
  refine r_sldA hx1 dL_law__1244 ?_
  refine r_aload_n dL_law__1245 1 rfl ?_
  refine r_iload dL_law__1246 5 rfl ?_
  refine r_iconst 2 dL_law__1248 rfl ?_
  refine r_iadd dL_law__1249 ?_
  refine r_sldA hx2 dL_law__1250 ?_
  refine r_aload_n dL_law__1251 1 rfl ?_
  refine r_iload dL_law__1252 5 rfl ?_
  refine r_iconst 3 dL_law__1254 rfl ?_
  refine r_iadd dL_law__1255 ?_
  refine r_sldA hx3 dL_law__1256 ?_
  have hs3 := hP.1
  replace hP := hP.2
  refine r_cvI (ok_X10_carry (hG.le (by decide)) a1 a2 a3 (muL_law_c17_1 a1 a2 a3 μ) hs3) lL_191 (hG.lt (by decide)) sh57 ⟨_, _, rfl⟩ dL_law__1257 (by decide) (Nat.le_of_ble_eq_true rfl) rfl (Nat.le_of_ble_eq_true rfl) ?_
  refine r_mu (muL_law_c17_2 a1 a2 a3 μ) rfl ?_
  refine r_istore [(6, _), (5, _), (0, _), (1, _), (2, _), (3, _), (4, _)] dL_law__1260 (Nat.le_of_ble_eq_true rfl) rfl ?_
  refine r_aload_n dL_law__1262 4 rfl ?_
  refine r_cvI (ok_X10_thrown (hG.le (by decide))  (muL_law_c17_2 a1 a2 a3 μ)) lL_135 (hG.lt (by decide)) sh57 ⟨_, _, rfl⟩ dL_law__1263 (by decide) (Nat.le_of_ble_eq_true rfl) rfl (Nat.le_of_ble_eq_true rfl) ?_
  refine r_iload dL_law__1266 1 rfl ?_
  refine r_icmp_eq 1273 dL_law__1268 (by decide) (fun c1 => ?_) (fun c1 => ?_)
  · replace hP := hP.1 c1
    refine r_iload dL_law__1273 1 rfl ?_
    refine r_if_ne 1290 dL_law__1275 (by decide) (fun c2 => ?_) (fun c2 => ?_)
    · replace hP := hP.1 c2
      refine r_goto 2749 dL_law__1290 (by decide) ?_
      refine r_iinc (p4 + 8) [(4, _), (6, _), (5, _), (0, _), (1, _), (2, _), (3, _)] dL_law__2749 6 rfl rfl (Nat.le_of_ble_eq_true rfl) rfl ?_
      refine r_goto 23 dL_law__2752 (by decide) ?_
      exact r_sub [3, 4, 5, 6, 0] rfl h
    · replace hP := hP.2 c2
      refine r_aload_n dL_law__1278 5 rfl ?_
      refine r_iconst 0 dL_law__1279 rfl ?_
      refine r_laldK 0 rfl (hG.lt (by decide)) sh548 (vp_of (by decide) (by decide)) dL_law__1280 ?_
      refine r_iload dL_law__1281 0 rfl ?_
      refine r_i2l dL_law__1283 ?_
      refine r_lcmp dL_law__1284 ?_
      refine r_if_eq 1290 dL_law__1285 (by decide) (fun c3 => ?_) (fun c3 => ?_)
      · replace hP := hP.1 c3
        refine r_goto 2749 dL_law__1290 (by decide) ?_
        refine r_iinc (p4 + 8) [(4, _), (6, _), (5, _), (0, _), (1, _), (2, _), (3, _)] dL_law__2749 6 rfl rfl (Nat.le_of_ble_eq_true rfl) rfl ?_
        refine r_goto 23 dL_law__2752 (by decide) ?_
        exact r_sub [3, 4, 5, 6, 0] rfl h
      · replace hP := hP.2 c3
        refine r_iconst 0 dL_law__1288 rfl ?_
        exact hP.elim
  · replace hP := hP.2 c1
    refine r_iconst 0 dL_law__1271 rfl ?_
    exact hP.elim
set_option maxRecDepth 20000 in
set_option maxHeartbeats 2000000 in
theorem case_18 {G : SG} (hG : GK 549 G) (p4 : Int32) (a1 : Int32) (a2 : Int32) (hx1 : vp_in (p4 + 1) (gs G) ∧ gx G (ix (p4 + 1)) = a1) (hx2 : vp_in (p4 + 2) (gs G) ∧ gx G (ix (p4 + 2)) = a2) {μ : Mem} {t : Nat} {Q : PQ} {X : PX} (hP : P_W_18 a1 a2 μ) (h : R G mL_law_ 23 [(0, .ref (gb G)), (1, .ref (ga G 0)), (2, .ref (ga G 57)), (3, .ref (ga G 548)), (4, .int (p4 + 8))] [] (M_W_18 a1 a2 μ) t Q X) : R G mL_law_ 1293 [(0, .ref (gb G)), (1, .ref (ga G 0)), (2, .ref (ga G 57)), (3, .ref (ga G 548)), (4, .int p4)] [] μ (8 + t) Q X := by
  unfold P_W_18 at hP
  unfold M_W_18 at h
  refine r_aload_n dL_law__1293 1 rfl ?_
  refine r_aload_n dL_law__1294 0 rfl ?_
  refine r_iload dL_law__1295 4 rfl ?_
  refine r_iconst 1 dL_law__1297 rfl ?_
  refine r_iadd dL_law__1298 ?_
  refine r_sldA hx1 dL_law__1299 ?_
  refine r_aload_n dL_law__1300 0 rfl ?_
  refine r_iload dL_law__1301 4 rfl ?_
  refine r_iconst 2 dL_law__1303 rfl ?_
  refine r_iadd dL_law__1304 ?_
  refine r_sldA hx2 dL_law__1305 ?_
  refine r_aload_n dL_law__1306 3 rfl ?_
  have hs1 := hP.1
  replace hP := hP.2
  have hs2 := hP.1
  replace hP := hP.2
  refine r_csW (ok_L_rent hG a1 a2 μ hs1 hs2) lL_192 dL_law__1307 (by decide) (Nat.le_of_ble_eq_true rfl) rfl (Nat.le_of_ble_eq_true rfl) (by decide) ?_
  refine r_mu (muL_law_c18_1 a1 a2 μ) rfl ?_
  refine r_istore [(5, _), (0, _), (1, _), (2, _), (3, _), (4, _)] dL_law__1310 (Nat.le_of_ble_eq_true rfl) rfl ?_
  refine r_aload_n dL_law__1312 3 rfl ?_
  refine r_aload_n dL_law__1313 1 rfl ?_
  refine r_iload dL_law__1314 5 rfl ?_
  refine r_iconst 1 dL_law__1316 rfl ?_
  refine r_iadd dL_law__1317 ?_
  refine r_sldA hx1 dL_law__1318 ?_
  refine r_aload_n dL_law__1319 1 rfl ?_
  refine r_iload dL_law__1320 5 rfl ?_
  refine r_iconst 2 dL_law__1322 rfl ?_
  refine r_iadd dL_law__1323 ?_
  refine r_sldA hx2 dL_law__1324 ?_
  have hs3 := hP.1
  replace hP := hP.2
  refine r_cvI (ok_X10_rent (hG.le (by decide)) a1 a2 (muL_law_c18_1 a1 a2 μ) hs3) lL_194 (hG.lt (by decide)) sh57 ⟨_, _, rfl⟩ dL_law__1325 (by decide) (Nat.le_of_ble_eq_true rfl) rfl (Nat.le_of_ble_eq_true rfl) ?_
  refine r_mu (muL_law_c18_2 a1 a2 μ) rfl ?_
  refine r_istore [(6, _), (5, _), (0, _), (1, _), (2, _), (3, _), (4, _)] dL_law__1328 (Nat.le_of_ble_eq_true rfl) rfl ?_
  refine r_aload_n dL_law__1330 4 rfl ?_
  refine r_cvI (ok_X10_thrown (hG.le (by decide))  (muL_law_c18_2 a1 a2 μ)) lL_135 (hG.lt (by decide)) sh57 ⟨_, _, rfl⟩ dL_law__1331 (by decide) (Nat.le_of_ble_eq_true rfl) rfl (Nat.le_of_ble_eq_true rfl) ?_
  refine r_iload dL_law__1334 1 rfl ?_
  refine r_icmp_eq 1341 dL_law__1336 (by decide) (fun c1 => ?_) (fun c1 => ?_)
  · replace hP := hP.1 c1
    refine r_iload dL_law__1341 1 rfl ?_
    refine r_if_ne 1358 dL_law__1343 (by decide) (fun c2 => ?_) (fun c2 => ?_)
    · replace hP := hP.1 c2
      refine r_goto 2749 dL_law__1358 (by decide) ?_
      refine r_iinc (p4 + 8) [(4, _), (6, _), (5, _), (0, _), (1, _), (2, _), (3, _)] dL_law__2749 6 rfl rfl (Nat.le_of_ble_eq_true rfl) rfl ?_
      refine r_goto 23 dL_law__2752 (by decide) ?_
      exact r_sub [3, 4, 5, 6, 0] rfl h
    · replace hP := hP.2 c2
      refine r_aload_n dL_law__1346 5 rfl ?_
      refine r_iconst 0 dL_law__1347 rfl ?_
      refine r_laldK 0 rfl (hG.lt (by decide)) sh548 (vp_of (by decide) (by decide)) dL_law__1348 ?_
      refine r_iload dL_law__1349 0 rfl ?_
      refine r_i2l dL_law__1351 ?_
      refine r_lcmp dL_law__1352 ?_
      refine r_if_eq 1358 dL_law__1353 (by decide) (fun c3 => ?_) (fun c3 => ?_)
      · replace hP := hP.1 c3
        refine r_goto 2749 dL_law__1358 (by decide) ?_
        refine r_iinc (p4 + 8) [(4, _), (6, _), (5, _), (0, _), (1, _), (2, _), (3, _)] dL_law__2749 6 rfl rfl (Nat.le_of_ble_eq_true rfl) rfl ?_
        refine r_goto 23 dL_law__2752 (by decide) ?_
        exact r_sub [3, 4, 5, 6, 0] rfl h
      · replace hP := hP.2 c3
        refine r_iconst 0 dL_law__1356 rfl ?_
        exact hP.elim
  · replace hP := hP.2 c1
    refine r_iconst 0 dL_law__1339 rfl ?_
    exact hP.elim
set_option maxRecDepth 20000 in
set_option maxHeartbeats 2000000 in
theorem case_19 {G : SG} (hG : GK 549 G) (p4 : Int32) (a1 : Int32) (a2 : Int32) (hx1 : vp_in (p4 + 1) (gs G) ∧ gx G (ix (p4 + 1)) = a1) (hx2 : vp_in (p4 + 2) (gs G) ∧ gx G (ix (p4 + 2)) = a2) {μ : Mem} {t : Nat} {Q : PQ} {X : PX} (hP : P_W_19 a1 a2 μ) (h : R G mL_law_ 23 [(0, .ref (gb G)), (1, .ref (ga G 0)), (2, .ref (ga G 57)), (3, .ref (ga G 548)), (4, .int (p4 + 8))] [] (M_W_19 a1 a2 μ) t Q X) : R G mL_law_ 1361 [(0, .ref (gb G)), (1, .ref (ga G 0)), (2, .ref (ga G 57)), (3, .ref (ga G 548)), (4, .int p4)] [] μ (8 + t) Q X := by
  unfold P_W_19 at hP
  unfold M_W_19 at h
  refine r_aload_n dL_law__1361 1 rfl ?_
  refine r_aload_n dL_law__1362 0 rfl ?_
  refine r_iload dL_law__1363 4 rfl ?_
  refine r_iconst 1 dL_law__1365 rfl ?_
  refine r_iadd dL_law__1366 ?_
  refine r_sldA hx1 dL_law__1367 ?_
  refine r_aload_n dL_law__1368 0 rfl ?_
  refine r_iload dL_law__1369 4 rfl ?_
  refine r_iconst 2 dL_law__1371 rfl ?_
  refine r_iadd dL_law__1372 ?_
  refine r_sldA hx2 dL_law__1373 ?_
  refine r_aload_n dL_law__1374 3 rfl ?_
  have hs1 := hP.1
  replace hP := hP.2
  have hs2 := hP.1
  replace hP := hP.2
  refine r_csW (ok_L_bags hG a1 a2 μ hs1 hs2) lL_195 dL_law__1375 (by decide) (Nat.le_of_ble_eq_true rfl) rfl (Nat.le_of_ble_eq_true rfl) (by decide) ?_
  refine r_mu (muL_law_c19_1 a1 a2 μ) rfl ?_
  refine r_istore [(5, _), (0, _), (1, _), (2, _), (3, _), (4, _)] dL_law__1378 (Nat.le_of_ble_eq_true rfl) rfl ?_
  refine r_aload_n dL_law__1380 3 rfl ?_
  refine r_aload_n dL_law__1381 1 rfl ?_
  refine r_iload dL_law__1382 5 rfl ?_
  refine r_iconst 1 dL_law__1384 rfl ?_
  refine r_iadd dL_law__1385 ?_
  refine r_sldA hx1 dL_law__1386 ?_
  refine r_aload_n dL_law__1387 1 rfl ?_
  refine r_iload dL_law__1388 5 rfl ?_
  refine r_iconst 2 dL_law__1390 rfl ?_
  refine r_iadd dL_law__1391 ?_
  refine r_sldA hx2 dL_law__1392 ?_
  have hs3 := hP.1
  replace hP := hP.2
  refine r_cvI (ok_X10_bags (hG.le (by decide)) a1 a2 (muL_law_c19_1 a1 a2 μ) hs3) lL_197 (hG.lt (by decide)) sh57 ⟨_, _, rfl⟩ dL_law__1393 (by decide) (Nat.le_of_ble_eq_true rfl) rfl (Nat.le_of_ble_eq_true rfl) ?_
  refine r_mu (muL_law_c19_2 a1 a2 μ) rfl ?_
  refine r_istore [(6, _), (5, _), (0, _), (1, _), (2, _), (3, _), (4, _)] dL_law__1396 (Nat.le_of_ble_eq_true rfl) rfl ?_
  refine r_aload_n dL_law__1398 4 rfl ?_
  refine r_cvI (ok_X10_thrown (hG.le (by decide))  (muL_law_c19_2 a1 a2 μ)) lL_135 (hG.lt (by decide)) sh57 ⟨_, _, rfl⟩ dL_law__1399 (by decide) (Nat.le_of_ble_eq_true rfl) rfl (Nat.le_of_ble_eq_true rfl) ?_
  refine r_iload dL_law__1402 1 rfl ?_
  refine r_icmp_eq 1409 dL_law__1404 (by decide) (fun c1 => ?_) (fun c1 => ?_)
  · replace hP := hP.1 c1
    refine r_iload dL_law__1409 1 rfl ?_
    refine r_if_ne 1426 dL_law__1411 (by decide) (fun c2 => ?_) (fun c2 => ?_)
    · replace hP := hP.1 c2
      refine r_goto 2749 dL_law__1426 (by decide) ?_
      refine r_iinc (p4 + 8) [(4, _), (6, _), (5, _), (0, _), (1, _), (2, _), (3, _)] dL_law__2749 6 rfl rfl (Nat.le_of_ble_eq_true rfl) rfl ?_
      refine r_goto 23 dL_law__2752 (by decide) ?_
      exact r_sub [3, 4, 5, 6, 0] rfl h
    · replace hP := hP.2 c2
      refine r_aload_n dL_law__1414 5 rfl ?_
      refine r_iconst 0 dL_law__1415 rfl ?_
      refine r_laldK 0 rfl (hG.lt (by decide)) sh548 (vp_of (by decide) (by decide)) dL_law__1416 ?_
      refine r_iload dL_law__1417 0 rfl ?_
      refine r_i2l dL_law__1419 ?_
      refine r_lcmp dL_law__1420 ?_
      refine r_if_eq 1426 dL_law__1421 (by decide) (fun c3 => ?_) (fun c3 => ?_)
      · replace hP := hP.1 c3
        refine r_goto 2749 dL_law__1426 (by decide) ?_
        refine r_iinc (p4 + 8) [(4, _), (6, _), (5, _), (0, _), (1, _), (2, _), (3, _)] dL_law__2749 6 rfl rfl (Nat.le_of_ble_eq_true rfl) rfl ?_
        refine r_goto 23 dL_law__2752 (by decide) ?_
        exact r_sub [3, 4, 5, 6, 0] rfl h
      · replace hP := hP.2 c3
        refine r_iconst 0 dL_law__1424 rfl ?_
        exact hP.elim
  · replace hP := hP.2 c1
    refine r_iconst 0 dL_law__1407 rfl ?_
    exact hP.elim
set_option maxRecDepth 20000 in
set_option maxHeartbeats 2000000 in
theorem case_20 {G : SG} (hG : GK 549 G) (p4 : Int32) (a1 : Int32) (a2 : Int32) (a3 : Int32) (hx1 : vp_in (p4 + 1) (gs G) ∧ gx G (ix (p4 + 1)) = a1) (hx2 : vp_in (p4 + 2) (gs G) ∧ gx G (ix (p4 + 2)) = a2) (hx3 : vp_in (p4 + 3) (gs G) ∧ gx G (ix (p4 + 3)) = a3) {μ : Mem} {t : Nat} {Q : PQ} {X : PX} (hP : P_W_20 a1 a2 a3 μ) (h : R G mL_law_ 23 [(0, .ref (gb G)), (1, .ref (ga G 0)), (2, .ref (ga G 57)), (3, .ref (ga G 548)), (4, .int (p4 + 8))] [] (M_W_20 a1 a2 a3 μ) t Q X) : R G mL_law_ 1429 [(0, .ref (gb G)), (1, .ref (ga G 0)), (2, .ref (ga G 57)), (3, .ref (ga G 548)), (4, .int p4)] [] μ (8 + t) Q X := by
  unfold P_W_20 at hP
  unfold M_W_20 at h
  refine r_aload_n dL_law__1429 1 rfl ?_
  refine r_aload_n dL_law__1430 0 rfl ?_
  refine r_iload dL_law__1431 4 rfl ?_
  refine r_iconst 1 dL_law__1433 rfl ?_
  refine r_iadd dL_law__1434 ?_
  refine r_sldA hx1 dL_law__1435 ?_
  refine r_aload_n dL_law__1436 0 rfl ?_
  refine r_iload dL_law__1437 4 rfl ?_
  refine r_iconst 2 dL_law__1439 rfl ?_
  refine r_iadd dL_law__1440 ?_
  refine r_sldA hx2 dL_law__1441 ?_
  refine r_aload_n dL_law__1442 0 rfl ?_
  refine r_iload dL_law__1443 4 rfl ?_
  refine r_iconst 3 dL_law__1445 rfl ?_
  refine r_iadd dL_law__1446 ?_
  refine r_sldA hx3 dL_law__1447 ?_
  refine r_aload_n dL_law__1448 3 rfl ?_
  have hs1 := hP.1
  replace hP := hP.2
  have hs2 := hP.1
  replace hP := hP.2
  refine r_csW (ok_L_parlour hG a1 a2 a3 μ hs1 hs2) lL_198 dL_law__1449 (by decide) (Nat.le_of_ble_eq_true rfl) rfl (Nat.le_of_ble_eq_true rfl) (by decide) ?_
  refine r_mu (muL_law_c20_1 a1 a2 a3 μ) rfl ?_
  refine r_istore [(5, _), (0, _), (1, _), (2, _), (3, _), (4, _)] dL_law__1452 (Nat.le_of_ble_eq_true rfl) rfl ?_
  refine r_aload_n dL_law__1454 3 rfl ?_
  refine r_aload_n dL_law__1455 1 rfl ?_
  refine r_iload dL_law__1456 5 rfl ?_
  refine r_iconst 1 dL_law__1458 rfl ?_
  refine r_iadd dL_law__1459 ?_
  refine r_sldA hx1 dL_law__1460 ?_
  refine r_aload_n dL_law__1461 1 rfl ?_
  refine r_iload dL_law__1462 5 rfl ?_
  refine r_iconst 2 dL_law__1464 rfl ?_
  refine r_iadd dL_law__1465 ?_
  refine r_sldA hx2 dL_law__1466 ?_
  refine r_aload_n dL_law__1467 1 rfl ?_
  refine r_iload dL_law__1468 5 rfl ?_
  refine r_iconst 3 dL_law__1470 rfl ?_
  refine r_iadd dL_law__1471 ?_
  refine r_sldA hx3 dL_law__1472 ?_
  have hs3 := hP.1
  replace hP := hP.2
  refine r_cvI (ok_X10_parlour (hG.le (by decide)) a1 a2 a3 (muL_law_c20_1 a1 a2 a3 μ) hs3) lL_200 (hG.lt (by decide)) sh57 ⟨_, _, rfl⟩ dL_law__1473 (by decide) (Nat.le_of_ble_eq_true rfl) rfl (Nat.le_of_ble_eq_true rfl) ?_
  refine r_mu (muL_law_c20_2 a1 a2 a3 μ) rfl ?_
  refine r_istore [(6, _), (5, _), (0, _), (1, _), (2, _), (3, _), (4, _)] dL_law__1476 (Nat.le_of_ble_eq_true rfl) rfl ?_
  refine r_aload_n dL_law__1478 4 rfl ?_
  refine r_cvI (ok_X10_thrown (hG.le (by decide))  (muL_law_c20_2 a1 a2 a3 μ)) lL_135 (hG.lt (by decide)) sh57 ⟨_, _, rfl⟩ dL_law__1479 (by decide) (Nat.le_of_ble_eq_true rfl) rfl (Nat.le_of_ble_eq_true rfl) ?_
  refine r_iload dL_law__1482 1 rfl ?_
  refine r_icmp_eq 1489 dL_law__1484 (by decide) (fun c1 => ?_) (fun c1 => ?_)
  · replace hP := hP.1 c1
    refine r_iload dL_law__1489 1 rfl ?_
    refine r_if_ne 1506 dL_law__1491 (by decide) (fun c2 => ?_) (fun c2 => ?_)
    · replace hP := hP.1 c2
      refine r_goto 2749 dL_law__1506 (by decide) ?_
      refine r_iinc (p4 + 8) [(4, _), (6, _), (5, _), (0, _), (1, _), (2, _), (3, _)] dL_law__2749 6 rfl rfl (Nat.le_of_ble_eq_true rfl) rfl ?_
      refine r_goto 23 dL_law__2752 (by decide) ?_
      exact r_sub [3, 4, 5, 6, 0] rfl h
    · replace hP := hP.2 c2
      refine r_aload_n dL_law__1494 5 rfl ?_
      refine r_iconst 0 dL_law__1495 rfl ?_
      refine r_laldK 0 rfl (hG.lt (by decide)) sh548 (vp_of (by decide) (by decide)) dL_law__1496 ?_
      refine r_iload dL_law__1497 0 rfl ?_
      refine r_i2l dL_law__1499 ?_
      refine r_lcmp dL_law__1500 ?_
      refine r_if_eq 1506 dL_law__1501 (by decide) (fun c3 => ?_) (fun c3 => ?_)
      · replace hP := hP.1 c3
        refine r_goto 2749 dL_law__1506 (by decide) ?_
        refine r_iinc (p4 + 8) [(4, _), (6, _), (5, _), (0, _), (1, _), (2, _), (3, _)] dL_law__2749 6 rfl rfl (Nat.le_of_ble_eq_true rfl) rfl ?_
        refine r_goto 23 dL_law__2752 (by decide) ?_
        exact r_sub [3, 4, 5, 6, 0] rfl h
      · replace hP := hP.2 c3
        refine r_iconst 0 dL_law__1504 rfl ?_
        exact hP.elim
  · replace hP := hP.2 c1
    refine r_iconst 0 dL_law__1487 rfl ?_
    exact hP.elim
set_option maxRecDepth 20000 in
set_option maxHeartbeats 2000000 in
theorem case_21 {G : SG} (hG : GK 549 G) (p4 : Int32) (a1 : Int32) (hx1 : vp_in (p4 + 1) (gs G) ∧ gx G (ix (p4 + 1)) = a1) {μ : Mem} {t : Nat} {Q : PQ} {X : PX} (hP : P_W_21 a1 μ) (h : R G mL_law_ 23 [(0, .ref (gb G)), (1, .ref (ga G 0)), (2, .ref (ga G 57)), (3, .ref (ga G 548)), (4, .int (p4 + 8))] [] (M_W_21 a1 μ) t Q X) : R G mL_law_ 1509 [(0, .ref (gb G)), (1, .ref (ga G 0)), (2, .ref (ga G 57)), (3, .ref (ga G 548)), (4, .int p4)] [] μ (8 + t) Q X := by
  unfold P_W_21 at hP
  unfold M_W_21 at h
  refine r_aload_n dL_law__1509 1 rfl ?_
  refine r_aload_n dL_law__1510 0 rfl ?_
  refine r_iload dL_law__1511 4 rfl ?_
  refine r_iconst 1 dL_law__1513 rfl ?_
  refine r_iadd dL_law__1514 ?_
  refine r_sldA hx1 dL_law__1515 ?_
  refine r_aload_n dL_law__1516 3 rfl ?_
  have hs1 := hP.1
  replace hP := hP.2
  have hs2 := hP.1
  replace hP := hP.2
  refine r_csW (ok_L_in hG a1 μ hs1 hs2) lL_201 dL_law__1517 (by decide) (Nat.le_of_ble_eq_true rfl) rfl (Nat.le_of_ble_eq_true rfl) (by decide) ?_
  refine r_mu (muL_law_c21_1 a1 μ) rfl ?_
  refine r_istore [(5, _), (0, _), (1, _), (2, _), (3, _), (4, _)] dL_law__1520 (Nat.le_of_ble_eq_true rfl) rfl ?_
  refine r_aload_n dL_law__1522 3 rfl ?_
  refine r_aload_n dL_law__1523 1 rfl ?_
  refine r_iload dL_law__1524 5 rfl ?_
  refine r_iconst 1 dL_law__1526 rfl ?_
  refine r_iadd dL_law__1527 ?_
  refine r_sldA hx1 dL_law__1528 ?_
  have hs3 := hP.1
  replace hP := hP.2
  refine r_cvI (ok_X10_in (hG.le (by decide)) a1 (muL_law_c21_1 a1 μ) hs3) lL_203 (hG.lt (by decide)) sh57 ⟨_, _, rfl⟩ dL_law__1529 (by decide) (Nat.le_of_ble_eq_true rfl) rfl (Nat.le_of_ble_eq_true rfl) ?_
  refine r_mu (muL_law_c21_2 a1 μ) rfl ?_
  refine r_istore [(6, _), (5, _), (0, _), (1, _), (2, _), (3, _), (4, _)] dL_law__1532 (Nat.le_of_ble_eq_true rfl) rfl ?_
  refine r_aload_n dL_law__1534 4 rfl ?_
  refine r_cvI (ok_X10_thrown (hG.le (by decide))  (muL_law_c21_2 a1 μ)) lL_135 (hG.lt (by decide)) sh57 ⟨_, _, rfl⟩ dL_law__1535 (by decide) (Nat.le_of_ble_eq_true rfl) rfl (Nat.le_of_ble_eq_true rfl) ?_
  refine r_iload dL_law__1538 1 rfl ?_
  refine r_icmp_eq 1545 dL_law__1540 (by decide) (fun c1 => ?_) (fun c1 => ?_)
  · replace hP := hP.1 c1
    refine r_iload dL_law__1545 1 rfl ?_
    refine r_if_ne 1562 dL_law__1547 (by decide) (fun c2 => ?_) (fun c2 => ?_)
    · replace hP := hP.1 c2
      refine r_goto 2749 dL_law__1562 (by decide) ?_
      refine r_iinc (p4 + 8) [(4, _), (6, _), (5, _), (0, _), (1, _), (2, _), (3, _)] dL_law__2749 6 rfl rfl (Nat.le_of_ble_eq_true rfl) rfl ?_
      refine r_goto 23 dL_law__2752 (by decide) ?_
      exact r_sub [3, 4, 5, 6, 0] rfl h
    · replace hP := hP.2 c2
      refine r_aload_n dL_law__1550 5 rfl ?_
      refine r_iconst 0 dL_law__1551 rfl ?_
      refine r_laldK 0 rfl (hG.lt (by decide)) sh548 (vp_of (by decide) (by decide)) dL_law__1552 ?_
      refine r_iload dL_law__1553 0 rfl ?_
      refine r_i2l dL_law__1555 ?_
      refine r_lcmp dL_law__1556 ?_
      refine r_if_eq 1562 dL_law__1557 (by decide) (fun c3 => ?_) (fun c3 => ?_)
      · replace hP := hP.1 c3
        refine r_goto 2749 dL_law__1562 (by decide) ?_
        refine r_iinc (p4 + 8) [(4, _), (6, _), (5, _), (0, _), (1, _), (2, _), (3, _)] dL_law__2749 6 rfl rfl (Nat.le_of_ble_eq_true rfl) rfl ?_
        refine r_goto 23 dL_law__2752 (by decide) ?_
        exact r_sub [3, 4, 5, 6, 0] rfl h
      · replace hP := hP.2 c3
        refine r_iconst 0 dL_law__1560 rfl ?_
        exact hP.elim
  · replace hP := hP.2 c1
    refine r_iconst 0 dL_law__1543 rfl ?_
    exact hP.elim
set_option maxRecDepth 20000 in
set_option maxHeartbeats 2000000 in
theorem case_22 {G : SG} (hG : GK 549 G) (p4 : Int32) (a1 : Int32) (hx1 : vp_in (p4 + 1) (gs G) ∧ gx G (ix (p4 + 1)) = a1) {μ : Mem} {t : Nat} {Q : PQ} {X : PX} (hP : P_W_22 a1 μ) (h : R G mL_law_ 23 [(0, .ref (gb G)), (1, .ref (ga G 0)), (2, .ref (ga G 57)), (3, .ref (ga G 548)), (4, .int (p4 + 8))] [] (M_W_22 a1 μ) t Q X) : R G mL_law_ 1565 [(0, .ref (gb G)), (1, .ref (ga G 0)), (2, .ref (ga G 57)), (3, .ref (ga G 548)), (4, .int p4)] [] μ (8 + t) Q X := by
  unfold P_W_22 at hP
  unfold M_W_22 at h
  refine r_aload_n dL_law__1565 1 rfl ?_
  refine r_aload_n dL_law__1566 0 rfl ?_
  refine r_iload dL_law__1567 4 rfl ?_
  refine r_iconst 1 dL_law__1569 rfl ?_
  refine r_iadd dL_law__1570 ?_
  refine r_sldA hx1 dL_law__1571 ?_
  refine r_aload_n dL_law__1572 3 rfl ?_
  have hs1 := hP.1
  replace hP := hP.2
  have hs2 := hP.1
  replace hP := hP.2
  refine r_csW (ok_L_board hG a1 μ hs1 hs2) lL_204 dL_law__1573 (by decide) (Nat.le_of_ble_eq_true rfl) rfl (Nat.le_of_ble_eq_true rfl) (by decide) ?_
  refine r_mu (muL_law_c22_1 a1 μ) rfl ?_
  refine r_istore [(5, _), (0, _), (1, _), (2, _), (3, _), (4, _)] dL_law__1576 (Nat.le_of_ble_eq_true rfl) rfl ?_
  refine r_aload_n dL_law__1578 3 rfl ?_
  refine r_aload_n dL_law__1579 1 rfl ?_
  refine r_iload dL_law__1580 5 rfl ?_
  refine r_iconst 1 dL_law__1582 rfl ?_
  refine r_iadd dL_law__1583 ?_
  refine r_sldA hx1 dL_law__1584 ?_
  have hs3 := hP.1
  replace hP := hP.2
  refine r_cvI (ok_X10_board (hG.le (by decide)) a1 (muL_law_c22_1 a1 μ) hs3) lL_206 (hG.lt (by decide)) sh57 ⟨_, _, rfl⟩ dL_law__1585 (by decide) (Nat.le_of_ble_eq_true rfl) rfl (Nat.le_of_ble_eq_true rfl) ?_
  refine r_mu (muL_law_c22_2 a1 μ) rfl ?_
  refine r_istore [(6, _), (5, _), (0, _), (1, _), (2, _), (3, _), (4, _)] dL_law__1588 (Nat.le_of_ble_eq_true rfl) rfl ?_
  refine r_aload_n dL_law__1590 4 rfl ?_
  refine r_cvI (ok_X10_thrown (hG.le (by decide))  (muL_law_c22_2 a1 μ)) lL_135 (hG.lt (by decide)) sh57 ⟨_, _, rfl⟩ dL_law__1591 (by decide) (Nat.le_of_ble_eq_true rfl) rfl (Nat.le_of_ble_eq_true rfl) ?_
  refine r_iload dL_law__1594 1 rfl ?_
  refine r_icmp_eq 1601 dL_law__1596 (by decide) (fun c1 => ?_) (fun c1 => ?_)
  · replace hP := hP.1 c1
    refine r_iload dL_law__1601 1 rfl ?_
    refine r_if_ne 1618 dL_law__1603 (by decide) (fun c2 => ?_) (fun c2 => ?_)
    · replace hP := hP.1 c2
      refine r_goto 2749 dL_law__1618 (by decide) ?_
      refine r_iinc (p4 + 8) [(4, _), (6, _), (5, _), (0, _), (1, _), (2, _), (3, _)] dL_law__2749 6 rfl rfl (Nat.le_of_ble_eq_true rfl) rfl ?_
      refine r_goto 23 dL_law__2752 (by decide) ?_
      exact r_sub [3, 4, 5, 6, 0] rfl h
    · replace hP := hP.2 c2
      refine r_aload_n dL_law__1606 5 rfl ?_
      refine r_iconst 0 dL_law__1607 rfl ?_
      refine r_laldK 0 rfl (hG.lt (by decide)) sh548 (vp_of (by decide) (by decide)) dL_law__1608 ?_
      refine r_iload dL_law__1609 0 rfl ?_
      refine r_i2l dL_law__1611 ?_
      refine r_lcmp dL_law__1612 ?_
      refine r_if_eq 1618 dL_law__1613 (by decide) (fun c3 => ?_) (fun c3 => ?_)
      · replace hP := hP.1 c3
        refine r_goto 2749 dL_law__1618 (by decide) ?_
        refine r_iinc (p4 + 8) [(4, _), (6, _), (5, _), (0, _), (1, _), (2, _), (3, _)] dL_law__2749 6 rfl rfl (Nat.le_of_ble_eq_true rfl) rfl ?_
        refine r_goto 23 dL_law__2752 (by decide) ?_
        exact r_sub [3, 4, 5, 6, 0] rfl h
      · replace hP := hP.2 c3
        refine r_iconst 0 dL_law__1616 rfl ?_
        exact hP.elim
  · replace hP := hP.2 c1
    refine r_iconst 0 dL_law__1599 rfl ?_
    exact hP.elim
set_option maxRecDepth 20000 in
set_option maxHeartbeats 2000000 in
theorem case_23 {G : SG} (hG : GK 549 G) (p4 : Int32) (a1 : Int32) (a2 : Int32) (a3 : Int32) (hx1 : vp_in (p4 + 1) (gs G) ∧ gx G (ix (p4 + 1)) = a1) (hx2 : vp_in (p4 + 2) (gs G) ∧ gx G (ix (p4 + 2)) = a2) (hx3 : vp_in (p4 + 3) (gs G) ∧ gx G (ix (p4 + 3)) = a3) {μ : Mem} {t : Nat} {Q : PQ} {X : PX} (hP : P_W_23 a1 a2 a3 μ) (h : R G mL_law_ 23 [(0, .ref (gb G)), (1, .ref (ga G 0)), (2, .ref (ga G 57)), (3, .ref (ga G 548)), (4, .int (p4 + 8))] [] (M_W_23 a1 a2 a3 μ) t Q X) : R G mL_law_ 1621 [(0, .ref (gb G)), (1, .ref (ga G 0)), (2, .ref (ga G 57)), (3, .ref (ga G 548)), (4, .int p4)] [] μ (8 + t) Q X := by
  unfold P_W_23 at hP
  unfold M_W_23 at h
  refine r_aload_n dL_law__1621 1 rfl ?_
  refine r_aload_n dL_law__1622 0 rfl ?_
  refine r_iload dL_law__1623 4 rfl ?_
  refine r_iconst 1 dL_law__1625 rfl ?_
  refine r_iadd dL_law__1626 ?_
  refine r_sldA hx1 dL_law__1627 ?_
  refine r_aload_n dL_law__1628 0 rfl ?_
  refine r_iload dL_law__1629 4 rfl ?_
  refine r_iconst 2 dL_law__1631 rfl ?_
  refine r_iadd dL_law__1632 ?_
  refine r_sldA hx2 dL_law__1633 ?_
  refine r_aload_n dL_law__1634 0 rfl ?_
  refine r_iload dL_law__1635 4 rfl ?_
  refine r_iconst 3 dL_law__1637 rfl ?_
  refine r_iadd dL_law__1638 ?_
  refine r_sldA hx3 dL_law__1639 ?_
  refine r_aload_n dL_law__1640 3 rfl ?_
  have hs1 := hP.1
  replace hP := hP.2
  refine r_csW (ok_L_drift hG a1 a2 a3 μ hs1) lL_207 dL_law__1641 (by decide) (Nat.le_of_ble_eq_true rfl) rfl (Nat.le_of_ble_eq_true rfl) (by decide) ?_
  refine r_mu (muL_law_c23_1 a1 a2 a3 μ) rfl ?_
  refine r_istore [(5, _), (0, _), (1, _), (2, _), (3, _), (4, _)] dL_law__1644 (Nat.le_of_ble_eq_true rfl) rfl ?_
  refine r_aload_n dL_law__1646 3 rfl ?_
  refine r_aload_n dL_law__1647 1 rfl ?_
  refine r_iload dL_law__1648 5 rfl ?_
  refine r_iconst 1 dL_law__1650 rfl ?_
  refine r_iadd dL_law__1651 ?_
  refine r_sldA hx1 dL_law__1652 ?_
  refine r_aload_n dL_law__1653 1 rfl ?_
  refine r_iload dL_law__1654 5 rfl ?_
  refine r_iconst 2 dL_law__1656 rfl ?_
  refine r_iadd dL_law__1657 ?_
  refine r_sldA hx2 dL_law__1658 ?_
  refine r_aload_n dL_law__1659 1 rfl ?_
  refine r_iload dL_law__1660 5 rfl ?_
  refine r_iconst 3 dL_law__1662 rfl ?_
  refine r_iadd dL_law__1663 ?_
  refine r_sldA hx3 dL_law__1664 ?_
  have hs2 := hP.1
  replace hP := hP.2
  refine r_cvI (ok_X10_drift (hG.le (by decide)) a1 a2 a3 (muL_law_c23_1 a1 a2 a3 μ) hs2) lL_209 (hG.lt (by decide)) sh57 ⟨_, _, rfl⟩ dL_law__1665 (by decide) (Nat.le_of_ble_eq_true rfl) rfl (Nat.le_of_ble_eq_true rfl) ?_
  refine r_mu (muL_law_c23_2 a1 a2 a3 μ) rfl ?_
  refine r_istore [(6, _), (5, _), (0, _), (1, _), (2, _), (3, _), (4, _)] dL_law__1668 (Nat.le_of_ble_eq_true rfl) rfl ?_
  refine r_aload_n dL_law__1670 4 rfl ?_
  refine r_cvI (ok_X10_thrown (hG.le (by decide))  (muL_law_c23_2 a1 a2 a3 μ)) lL_135 (hG.lt (by decide)) sh57 ⟨_, _, rfl⟩ dL_law__1671 (by decide) (Nat.le_of_ble_eq_true rfl) rfl (Nat.le_of_ble_eq_true rfl) ?_
  refine r_iload dL_law__1674 1 rfl ?_
  refine r_icmp_eq 1681 dL_law__1676 (by decide) (fun c1 => ?_) (fun c1 => ?_)
  · replace hP := hP.1 c1
    refine r_iload dL_law__1681 1 rfl ?_
    refine r_if_ne 1698 dL_law__1683 (by decide) (fun c2 => ?_) (fun c2 => ?_)
    · replace hP := hP.1 c2
      refine r_goto 2749 dL_law__1698 (by decide) ?_
      refine r_iinc (p4 + 8) [(4, _), (6, _), (5, _), (0, _), (1, _), (2, _), (3, _)] dL_law__2749 6 rfl rfl (Nat.le_of_ble_eq_true rfl) rfl ?_
      refine r_goto 23 dL_law__2752 (by decide) ?_
      exact r_sub [3, 4, 5, 6, 0] rfl h
    · replace hP := hP.2 c2
      refine r_aload_n dL_law__1686 5 rfl ?_
      refine r_iconst 0 dL_law__1687 rfl ?_
      refine r_laldK 0 rfl (hG.lt (by decide)) sh548 (vp_of (by decide) (by decide)) dL_law__1688 ?_
      refine r_iload dL_law__1689 0 rfl ?_
      refine r_i2l dL_law__1691 ?_
      refine r_lcmp dL_law__1692 ?_
      refine r_if_eq 1698 dL_law__1693 (by decide) (fun c3 => ?_) (fun c3 => ?_)
      · replace hP := hP.1 c3
        refine r_goto 2749 dL_law__1698 (by decide) ?_
        refine r_iinc (p4 + 8) [(4, _), (6, _), (5, _), (0, _), (1, _), (2, _), (3, _)] dL_law__2749 6 rfl rfl (Nat.le_of_ble_eq_true rfl) rfl ?_
        refine r_goto 23 dL_law__2752 (by decide) ?_
        exact r_sub [3, 4, 5, 6, 0] rfl h
      · replace hP := hP.2 c3
        refine r_iconst 0 dL_law__1696 rfl ?_
        exact hP.elim
  · replace hP := hP.2 c1
    refine r_iconst 0 dL_law__1679 rfl ?_
    exact hP.elim
set_option maxRecDepth 20000 in
set_option maxHeartbeats 2000000 in
theorem case_24 {G : SG} (hG : GK 549 G) (p4 : Int32) (a1 : Int32) (a2 : Int32) (a3 : Int32) (hx1 : vp_in (p4 + 1) (gs G) ∧ gx G (ix (p4 + 1)) = a1) (hx2 : vp_in (p4 + 2) (gs G) ∧ gx G (ix (p4 + 2)) = a2) (hx3 : vp_in (p4 + 3) (gs G) ∧ gx G (ix (p4 + 3)) = a3) {μ : Mem} {t : Nat} {Q : PQ} {X : PX} (hP : P_W_24 a1 a2 a3 μ) (h : R G mL_law_ 23 [(0, .ref (gb G)), (1, .ref (ga G 0)), (2, .ref (ga G 57)), (3, .ref (ga G 548)), (4, .int (p4 + 8))] [] (M_W_24 a1 a2 a3 μ) t Q X) : R G mL_law_ 1701 [(0, .ref (gb G)), (1, .ref (ga G 0)), (2, .ref (ga G 57)), (3, .ref (ga G 548)), (4, .int p4)] [] μ (8 + t) Q X := by
  unfold P_W_24 at hP
  unfold M_W_24 at h
  refine r_aload_n dL_law__1701 1 rfl ?_
  refine r_aload_n dL_law__1702 0 rfl ?_
  refine r_iload dL_law__1703 4 rfl ?_
  refine r_iconst 1 dL_law__1705 rfl ?_
  refine r_iadd dL_law__1706 ?_
  refine r_sldA hx1 dL_law__1707 ?_
  refine r_aload_n dL_law__1708 0 rfl ?_
  refine r_iload dL_law__1709 4 rfl ?_
  refine r_iconst 2 dL_law__1711 rfl ?_
  refine r_iadd dL_law__1712 ?_
  refine r_sldA hx2 dL_law__1713 ?_
  refine r_aload_n dL_law__1714 0 rfl ?_
  refine r_iload dL_law__1715 4 rfl ?_
  refine r_iconst 3 dL_law__1717 rfl ?_
  refine r_iadd dL_law__1718 ?_
  refine r_sldA hx3 dL_law__1719 ?_
  refine r_aload_n dL_law__1720 3 rfl ?_
  have hs1 := hP.1
  replace hP := hP.2
  refine r_csW (ok_L_whence hG a1 a2 a3 μ hs1) lL_210 dL_law__1721 (by decide) (Nat.le_of_ble_eq_true rfl) rfl (Nat.le_of_ble_eq_true rfl) (by decide) ?_
  refine r_mu (muL_law_c24_1 a1 a2 a3 μ) rfl ?_
  refine r_istore [(5, _), (0, _), (1, _), (2, _), (3, _), (4, _)] dL_law__1724 (Nat.le_of_ble_eq_true rfl) rfl ?_
  refine r_aload_n dL_law__1726 3 rfl ?_
  refine r_aload_n dL_law__1727 1 rfl ?_
  refine r_iload dL_law__1728 5 rfl ?_
  refine r_iconst 1 dL_law__1730 rfl ?_
  refine r_iadd dL_law__1731 ?_
  refine r_sldA hx1 dL_law__1732 ?_
  refine r_aload_n dL_law__1733 1 rfl ?_
  refine r_iload dL_law__1734 5 rfl ?_
  refine r_iconst 2 dL_law__1736 rfl ?_
  refine r_iadd dL_law__1737 ?_
  refine r_sldA hx2 dL_law__1738 ?_
  refine r_aload_n dL_law__1739 1 rfl ?_
  refine r_iload dL_law__1740 5 rfl ?_
  refine r_iconst 3 dL_law__1742 rfl ?_
  refine r_iadd dL_law__1743 ?_
  refine r_sldA hx3 dL_law__1744 ?_
  have hs2 := hP.1
  replace hP := hP.2
  refine r_cvI (ok_X10_whence (hG.le (by decide)) a1 a2 a3 (muL_law_c24_1 a1 a2 a3 μ) hs2) lL_212 (hG.lt (by decide)) sh57 ⟨_, _, rfl⟩ dL_law__1745 (by decide) (Nat.le_of_ble_eq_true rfl) rfl (Nat.le_of_ble_eq_true rfl) ?_
  refine r_mu (muL_law_c24_2 a1 a2 a3 μ) rfl ?_
  refine r_istore [(6, _), (5, _), (0, _), (1, _), (2, _), (3, _), (4, _)] dL_law__1748 (Nat.le_of_ble_eq_true rfl) rfl ?_
  refine r_aload_n dL_law__1750 4 rfl ?_
  refine r_cvI (ok_X10_thrown (hG.le (by decide))  (muL_law_c24_2 a1 a2 a3 μ)) lL_135 (hG.lt (by decide)) sh57 ⟨_, _, rfl⟩ dL_law__1751 (by decide) (Nat.le_of_ble_eq_true rfl) rfl (Nat.le_of_ble_eq_true rfl) ?_
  refine r_iload dL_law__1754 1 rfl ?_
  refine r_icmp_eq 1761 dL_law__1756 (by decide) (fun c1 => ?_) (fun c1 => ?_)
  · replace hP := hP.1 c1
    refine r_iload dL_law__1761 1 rfl ?_
    refine r_if_ne 1778 dL_law__1763 (by decide) (fun c2 => ?_) (fun c2 => ?_)
    · replace hP := hP.1 c2
      refine r_goto 2749 dL_law__1778 (by decide) ?_
      refine r_iinc (p4 + 8) [(4, _), (6, _), (5, _), (0, _), (1, _), (2, _), (3, _)] dL_law__2749 6 rfl rfl (Nat.le_of_ble_eq_true rfl) rfl ?_
      refine r_goto 23 dL_law__2752 (by decide) ?_
      exact r_sub [3, 4, 5, 6, 0] rfl h
    · replace hP := hP.2 c2
      refine r_aload_n dL_law__1766 5 rfl ?_
      refine r_iconst 0 dL_law__1767 rfl ?_
      refine r_laldK 0 rfl (hG.lt (by decide)) sh548 (vp_of (by decide) (by decide)) dL_law__1768 ?_
      refine r_iload dL_law__1769 0 rfl ?_
      refine r_i2l dL_law__1771 ?_
      refine r_lcmp dL_law__1772 ?_
      refine r_if_eq 1778 dL_law__1773 (by decide) (fun c3 => ?_) (fun c3 => ?_)
      · replace hP := hP.1 c3
        refine r_goto 2749 dL_law__1778 (by decide) ?_
        refine r_iinc (p4 + 8) [(4, _), (6, _), (5, _), (0, _), (1, _), (2, _), (3, _)] dL_law__2749 6 rfl rfl (Nat.le_of_ble_eq_true rfl) rfl ?_
        refine r_goto 23 dL_law__2752 (by decide) ?_
        exact r_sub [3, 4, 5, 6, 0] rfl h
      · replace hP := hP.2 c3
        refine r_iconst 0 dL_law__1776 rfl ?_
        exact hP.elim
  · replace hP := hP.2 c1
    refine r_iconst 0 dL_law__1759 rfl ?_
    exact hP.elim
set_option maxRecDepth 20000 in
set_option maxHeartbeats 2000000 in
theorem case_25 {G : SG} (hG : GK 549 G) (p4 : Int32) (a1 : Int32) (a2 : Int32) (a3 : Int32) (hx1 : vp_in (p4 + 1) (gs G) ∧ gx G (ix (p4 + 1)) = a1) (hx2 : vp_in (p4 + 2) (gs G) ∧ gx G (ix (p4 + 2)) = a2) (hx3 : vp_in (p4 + 3) (gs G) ∧ gx G (ix (p4 + 3)) = a3) {μ : Mem} {t : Nat} {Q : PQ} {X : PX} (hP : P_W_25 a1 a2 a3 μ) (h : R G mL_law_ 23 [(0, .ref (gb G)), (1, .ref (ga G 0)), (2, .ref (ga G 57)), (3, .ref (ga G 548)), (4, .int (p4 + 8))] [] (M_W_25 a1 a2 a3 μ) t Q X) : R G mL_law_ 1781 [(0, .ref (gb G)), (1, .ref (ga G 0)), (2, .ref (ga G 57)), (3, .ref (ga G 548)), (4, .int p4)] [] μ (8 + t) Q X := by
  unfold P_W_25 at hP
  unfold M_W_25 at h
  refine r_aload_n dL_law__1781 1 rfl ?_
  refine r_aload_n dL_law__1782 0 rfl ?_
  refine r_iload dL_law__1783 4 rfl ?_
  refine r_iconst 1 dL_law__1785 rfl ?_
  refine r_iadd dL_law__1786 ?_
  refine r_sldA hx1 dL_law__1787 ?_
  refine r_aload_n dL_law__1788 0 rfl ?_
  refine r_iload dL_law__1789 4 rfl ?_
  refine r_iconst 2 dL_law__1791 rfl ?_
  refine r_iadd dL_law__1792 ?_
  refine r_sldA hx2 dL_law__1793 ?_
  refine r_aload_n dL_law__1794 0 rfl ?_
  refine r_iload dL_law__1795 4 rfl ?_
  refine r_iconst 3 dL_law__1797 rfl ?_
  refine r_iadd dL_law__1798 ?_
  refine r_sldA hx3 dL_law__1799 ?_
  refine r_aload_n dL_law__1800 3 rfl ?_
  have hs1 := hP.1
  replace hP := hP.2
  refine r_csW (ok_L_gain hG a1 a2 a3 μ hs1) lL_213 dL_law__1801 (by decide) (Nat.le_of_ble_eq_true rfl) rfl (Nat.le_of_ble_eq_true rfl) (by decide) ?_
  refine r_mu (muL_law_c25_1 a1 a2 a3 μ) rfl ?_
  refine r_istore [(5, _), (0, _), (1, _), (2, _), (3, _), (4, _)] dL_law__1804 (Nat.le_of_ble_eq_true rfl) rfl ?_
  refine r_aload_n dL_law__1806 3 rfl ?_
  refine r_aload_n dL_law__1807 1 rfl ?_
  refine r_iload dL_law__1808 5 rfl ?_
  refine r_iconst 1 dL_law__1810 rfl ?_
  refine r_iadd dL_law__1811 ?_
  refine r_sldA hx1 dL_law__1812 ?_
  refine r_aload_n dL_law__1813 1 rfl ?_
  refine r_iload dL_law__1814 5 rfl ?_
  refine r_iconst 2 dL_law__1816 rfl ?_
  refine r_iadd dL_law__1817 ?_
  refine r_sldA hx2 dL_law__1818 ?_
  refine r_aload_n dL_law__1819 1 rfl ?_
  refine r_iload dL_law__1820 5 rfl ?_
  refine r_iconst 3 dL_law__1822 rfl ?_
  refine r_iadd dL_law__1823 ?_
  refine r_sldA hx3 dL_law__1824 ?_
  have hs2 := hP.1
  replace hP := hP.2
  refine r_cvI (ok_X10_gain (hG.le (by decide)) a1 a2 a3 (muL_law_c25_1 a1 a2 a3 μ) hs2) lL_215 (hG.lt (by decide)) sh57 ⟨_, _, rfl⟩ dL_law__1825 (by decide) (Nat.le_of_ble_eq_true rfl) rfl (Nat.le_of_ble_eq_true rfl) ?_
  refine r_mu (muL_law_c25_2 a1 a2 a3 μ) rfl ?_
  refine r_istore [(6, _), (5, _), (0, _), (1, _), (2, _), (3, _), (4, _)] dL_law__1828 (Nat.le_of_ble_eq_true rfl) rfl ?_
  refine r_aload_n dL_law__1830 4 rfl ?_
  refine r_cvI (ok_X10_thrown (hG.le (by decide))  (muL_law_c25_2 a1 a2 a3 μ)) lL_135 (hG.lt (by decide)) sh57 ⟨_, _, rfl⟩ dL_law__1831 (by decide) (Nat.le_of_ble_eq_true rfl) rfl (Nat.le_of_ble_eq_true rfl) ?_
  refine r_iload dL_law__1834 1 rfl ?_
  refine r_icmp_eq 1841 dL_law__1836 (by decide) (fun c1 => ?_) (fun c1 => ?_)
  · replace hP := hP.1 c1
    refine r_iload dL_law__1841 1 rfl ?_
    refine r_if_ne 1858 dL_law__1843 (by decide) (fun c2 => ?_) (fun c2 => ?_)
    · replace hP := hP.1 c2
      refine r_goto 2749 dL_law__1858 (by decide) ?_
      refine r_iinc (p4 + 8) [(4, _), (6, _), (5, _), (0, _), (1, _), (2, _), (3, _)] dL_law__2749 6 rfl rfl (Nat.le_of_ble_eq_true rfl) rfl ?_
      refine r_goto 23 dL_law__2752 (by decide) ?_
      exact r_sub [3, 4, 5, 6, 0] rfl h
    · replace hP := hP.2 c2
      refine r_aload_n dL_law__1846 5 rfl ?_
      refine r_iconst 0 dL_law__1847 rfl ?_
      refine r_laldK 0 rfl (hG.lt (by decide)) sh548 (vp_of (by decide) (by decide)) dL_law__1848 ?_
      refine r_iload dL_law__1849 0 rfl ?_
      refine r_i2l dL_law__1851 ?_
      refine r_lcmp dL_law__1852 ?_
      refine r_if_eq 1858 dL_law__1853 (by decide) (fun c3 => ?_) (fun c3 => ?_)
      · replace hP := hP.1 c3
        refine r_goto 2749 dL_law__1858 (by decide) ?_
        refine r_iinc (p4 + 8) [(4, _), (6, _), (5, _), (0, _), (1, _), (2, _), (3, _)] dL_law__2749 6 rfl rfl (Nat.le_of_ble_eq_true rfl) rfl ?_
        refine r_goto 23 dL_law__2752 (by decide) ?_
        exact r_sub [3, 4, 5, 6, 0] rfl h
      · replace hP := hP.2 c3
        refine r_iconst 0 dL_law__1856 rfl ?_
        exact hP.elim
  · replace hP := hP.2 c1
    refine r_iconst 0 dL_law__1839 rfl ?_
    exact hP.elim
set_option maxRecDepth 20000 in
set_option maxHeartbeats 2000000 in
theorem case_26 {G : SG} (hG : GK 549 G) (p4 : Int32) (a1 : Int32) (a2 : Int32) (a3 : Int32) (hx1 : vp_in (p4 + 1) (gs G) ∧ gx G (ix (p4 + 1)) = a1) (hx2 : vp_in (p4 + 2) (gs G) ∧ gx G (ix (p4 + 2)) = a2) (hx3 : vp_in (p4 + 3) (gs G) ∧ gx G (ix (p4 + 3)) = a3) {μ : Mem} {t : Nat} {Q : PQ} {X : PX} (hP : P_W_26 a1 a2 a3 μ) (h : R G mL_law_ 23 [(0, .ref (gb G)), (1, .ref (ga G 0)), (2, .ref (ga G 57)), (3, .ref (ga G 548)), (4, .int (p4 + 8))] [] (M_W_26 a1 a2 a3 μ) t Q X) : R G mL_law_ 1861 [(0, .ref (gb G)), (1, .ref (ga G 0)), (2, .ref (ga G 57)), (3, .ref (ga G 548)), (4, .int p4)] [] μ (8 + t) Q X := by
  unfold P_W_26 at hP
  unfold M_W_26 at h
  refine r_aload_n dL_law__1861 1 rfl ?_
  refine r_aload_n dL_law__1862 0 rfl ?_
  refine r_iload dL_law__1863 4 rfl ?_
  refine r_iconst 1 dL_law__1865 rfl ?_
  refine r_iadd dL_law__1866 ?_
  refine r_sldA hx1 dL_law__1867 ?_
  refine r_aload_n dL_law__1868 0 rfl ?_
  refine r_iload dL_law__1869 4 rfl ?_
  refine r_iconst 2 dL_law__1871 rfl ?_
  refine r_iadd dL_law__1872 ?_
  refine r_sldA hx2 dL_law__1873 ?_
  refine r_aload_n dL_law__1874 0 rfl ?_
  refine r_iload dL_law__1875 4 rfl ?_
  refine r_iconst 3 dL_law__1877 rfl ?_
  refine r_iadd dL_law__1878 ?_
  refine r_sldA hx3 dL_law__1879 ?_
  refine r_aload_n dL_law__1880 3 rfl ?_
  have hs1 := hP.1
  replace hP := hP.2
  refine r_csW (ok_L_share hG a1 a2 a3 μ hs1) lL_216 dL_law__1881 (by decide) (Nat.le_of_ble_eq_true rfl) rfl (Nat.le_of_ble_eq_true rfl) (by decide) ?_
  refine r_mu (muL_law_c26_1 a1 a2 a3 μ) rfl ?_
  refine r_istore [(5, _), (0, _), (1, _), (2, _), (3, _), (4, _)] dL_law__1884 (Nat.le_of_ble_eq_true rfl) rfl ?_
  refine r_aload_n dL_law__1886 3 rfl ?_
  refine r_aload_n dL_law__1887 1 rfl ?_
  refine r_iload dL_law__1888 5 rfl ?_
  refine r_iconst 1 dL_law__1890 rfl ?_
  refine r_iadd dL_law__1891 ?_
  refine r_sldA hx1 dL_law__1892 ?_
  refine r_aload_n dL_law__1893 1 rfl ?_
  refine r_iload dL_law__1894 5 rfl ?_
  refine r_iconst 2 dL_law__1896 rfl ?_
  refine r_iadd dL_law__1897 ?_
  refine r_sldA hx2 dL_law__1898 ?_
  refine r_aload_n dL_law__1899 1 rfl ?_
  refine r_iload dL_law__1900 5 rfl ?_
  refine r_iconst 3 dL_law__1902 rfl ?_
  refine r_iadd dL_law__1903 ?_
  refine r_sldA hx3 dL_law__1904 ?_
  have hs2 := hP.1
  replace hP := hP.2
  refine r_cvI (ok_X10_share (hG.le (by decide)) a1 a2 a3 (muL_law_c26_1 a1 a2 a3 μ) hs2) lL_218 (hG.lt (by decide)) sh57 ⟨_, _, rfl⟩ dL_law__1905 (by decide) (Nat.le_of_ble_eq_true rfl) rfl (Nat.le_of_ble_eq_true rfl) ?_
  refine r_mu (muL_law_c26_2 a1 a2 a3 μ) rfl ?_
  refine r_istore [(6, _), (5, _), (0, _), (1, _), (2, _), (3, _), (4, _)] dL_law__1908 (Nat.le_of_ble_eq_true rfl) rfl ?_
  refine r_aload_n dL_law__1910 4 rfl ?_
  refine r_cvI (ok_X10_thrown (hG.le (by decide))  (muL_law_c26_2 a1 a2 a3 μ)) lL_135 (hG.lt (by decide)) sh57 ⟨_, _, rfl⟩ dL_law__1911 (by decide) (Nat.le_of_ble_eq_true rfl) rfl (Nat.le_of_ble_eq_true rfl) ?_
  refine r_iload dL_law__1914 1 rfl ?_
  refine r_icmp_eq 1921 dL_law__1916 (by decide) (fun c1 => ?_) (fun c1 => ?_)
  · replace hP := hP.1 c1
    refine r_iload dL_law__1921 1 rfl ?_
    refine r_if_ne 1938 dL_law__1923 (by decide) (fun c2 => ?_) (fun c2 => ?_)
    · replace hP := hP.1 c2
      refine r_goto 2749 dL_law__1938 (by decide) ?_
      refine r_iinc (p4 + 8) [(4, _), (6, _), (5, _), (0, _), (1, _), (2, _), (3, _)] dL_law__2749 6 rfl rfl (Nat.le_of_ble_eq_true rfl) rfl ?_
      refine r_goto 23 dL_law__2752 (by decide) ?_
      exact r_sub [3, 4, 5, 6, 0] rfl h
    · replace hP := hP.2 c2
      refine r_aload_n dL_law__1926 5 rfl ?_
      refine r_iconst 0 dL_law__1927 rfl ?_
      refine r_laldK 0 rfl (hG.lt (by decide)) sh548 (vp_of (by decide) (by decide)) dL_law__1928 ?_
      refine r_iload dL_law__1929 0 rfl ?_
      refine r_i2l dL_law__1931 ?_
      refine r_lcmp dL_law__1932 ?_
      refine r_if_eq 1938 dL_law__1933 (by decide) (fun c3 => ?_) (fun c3 => ?_)
      · replace hP := hP.1 c3
        refine r_goto 2749 dL_law__1938 (by decide) ?_
        refine r_iinc (p4 + 8) [(4, _), (6, _), (5, _), (0, _), (1, _), (2, _), (3, _)] dL_law__2749 6 rfl rfl (Nat.le_of_ble_eq_true rfl) rfl ?_
        refine r_goto 23 dL_law__2752 (by decide) ?_
        exact r_sub [3, 4, 5, 6, 0] rfl h
      · replace hP := hP.2 c3
        refine r_iconst 0 dL_law__1936 rfl ?_
        exact hP.elim
  · replace hP := hP.2 c1
    refine r_iconst 0 dL_law__1919 rfl ?_
    exact hP.elim
set_option maxRecDepth 20000 in
set_option maxHeartbeats 2000000 in
theorem case_27 {G : SG} (hG : GK 549 G) (p4 : Int32) (a1 : Int32) (a2 : Int32) (hx1 : vp_in (p4 + 1) (gs G) ∧ gx G (ix (p4 + 1)) = a1) (hx2 : vp_in (p4 + 2) (gs G) ∧ gx G (ix (p4 + 2)) = a2) {μ : Mem} {t : Nat} {Q : PQ} {X : PX} (hP : P_W_27 a1 a2 μ) (h : R G mL_law_ 23 [(0, .ref (gb G)), (1, .ref (ga G 0)), (2, .ref (ga G 57)), (3, .ref (ga G 548)), (4, .int (p4 + 8))] [] (M_W_27 a1 a2 μ) t Q X) : R G mL_law_ 1941 [(0, .ref (gb G)), (1, .ref (ga G 0)), (2, .ref (ga G 57)), (3, .ref (ga G 548)), (4, .int p4)] [] μ (8 + t) Q X := by
  unfold P_W_27 at hP
  unfold M_W_27 at h
  refine r_aload_n dL_law__1941 1 rfl ?_
  refine r_aload_n dL_law__1942 0 rfl ?_
  refine r_iload dL_law__1943 4 rfl ?_
  refine r_iconst 1 dL_law__1945 rfl ?_
  refine r_iadd dL_law__1946 ?_
  refine r_sldA hx1 dL_law__1947 ?_
  refine r_aload_n dL_law__1948 0 rfl ?_
  refine r_iload dL_law__1949 4 rfl ?_
  refine r_iconst 2 dL_law__1951 rfl ?_
  refine r_iadd dL_law__1952 ?_
  refine r_sldA hx2 dL_law__1953 ?_
  refine r_aload_n dL_law__1954 3 rfl ?_
  have hs1 := hP.1
  replace hP := hP.2
  refine r_csW (ok_L_soaked hG a1 a2 μ hs1) lL_219 dL_law__1955 (by decide) (Nat.le_of_ble_eq_true rfl) rfl (Nat.le_of_ble_eq_true rfl) (by decide) ?_
  refine r_mu (muL_law_c27_1 a1 a2 μ) rfl ?_
  refine r_istore [(5, _), (0, _), (1, _), (2, _), (3, _), (4, _)] dL_law__1958 (Nat.le_of_ble_eq_true rfl) rfl ?_
  refine r_aload_n dL_law__1960 3 rfl ?_
  refine r_aload_n dL_law__1961 1 rfl ?_
  refine r_iload dL_law__1962 5 rfl ?_
  refine r_iconst 1 dL_law__1964 rfl ?_
  refine r_iadd dL_law__1965 ?_
  refine r_sldA hx1 dL_law__1966 ?_
  refine r_aload_n dL_law__1967 1 rfl ?_
  refine r_iload dL_law__1968 5 rfl ?_
  refine r_iconst 2 dL_law__1970 rfl ?_
  refine r_iadd dL_law__1971 ?_
  refine r_sldA hx2 dL_law__1972 ?_
  have hs2 := hP.1
  replace hP := hP.2
  refine r_cvI (ok_X10_soaked (hG.le (by decide)) a1 a2 (muL_law_c27_1 a1 a2 μ) hs2) lL_221 (hG.lt (by decide)) sh57 ⟨_, _, rfl⟩ dL_law__1973 (by decide) (Nat.le_of_ble_eq_true rfl) rfl (Nat.le_of_ble_eq_true rfl) ?_
  refine r_mu (muL_law_c27_2 a1 a2 μ) rfl ?_
  refine r_istore [(6, _), (5, _), (0, _), (1, _), (2, _), (3, _), (4, _)] dL_law__1976 (Nat.le_of_ble_eq_true rfl) rfl ?_
  refine r_aload_n dL_law__1978 4 rfl ?_
  refine r_cvI (ok_X10_thrown (hG.le (by decide))  (muL_law_c27_2 a1 a2 μ)) lL_135 (hG.lt (by decide)) sh57 ⟨_, _, rfl⟩ dL_law__1979 (by decide) (Nat.le_of_ble_eq_true rfl) rfl (Nat.le_of_ble_eq_true rfl) ?_
  refine r_iload dL_law__1982 1 rfl ?_
  refine r_icmp_eq 1989 dL_law__1984 (by decide) (fun c1 => ?_) (fun c1 => ?_)
  · replace hP := hP.1 c1
    refine r_iload dL_law__1989 1 rfl ?_
    refine r_if_ne 2006 dL_law__1991 (by decide) (fun c2 => ?_) (fun c2 => ?_)
    · replace hP := hP.1 c2
      refine r_goto 2749 dL_law__2006 (by decide) ?_
      refine r_iinc (p4 + 8) [(4, _), (6, _), (5, _), (0, _), (1, _), (2, _), (3, _)] dL_law__2749 6 rfl rfl (Nat.le_of_ble_eq_true rfl) rfl ?_
      refine r_goto 23 dL_law__2752 (by decide) ?_
      exact r_sub [3, 4, 5, 6, 0] rfl h
    · replace hP := hP.2 c2
      refine r_aload_n dL_law__1994 5 rfl ?_
      refine r_iconst 0 dL_law__1995 rfl ?_
      refine r_laldK 0 rfl (hG.lt (by decide)) sh548 (vp_of (by decide) (by decide)) dL_law__1996 ?_
      refine r_iload dL_law__1997 0 rfl ?_
      refine r_i2l dL_law__1999 ?_
      refine r_lcmp dL_law__2000 ?_
      refine r_if_eq 2006 dL_law__2001 (by decide) (fun c3 => ?_) (fun c3 => ?_)
      · replace hP := hP.1 c3
        refine r_goto 2749 dL_law__2006 (by decide) ?_
        refine r_iinc (p4 + 8) [(4, _), (6, _), (5, _), (0, _), (1, _), (2, _), (3, _)] dL_law__2749 6 rfl rfl (Nat.le_of_ble_eq_true rfl) rfl ?_
        refine r_goto 23 dL_law__2752 (by decide) ?_
        exact r_sub [3, 4, 5, 6, 0] rfl h
      · replace hP := hP.2 c3
        refine r_iconst 0 dL_law__2004 rfl ?_
        exact hP.elim
  · replace hP := hP.2 c1
    refine r_iconst 0 dL_law__1987 rfl ?_
    exact hP.elim
set_option maxRecDepth 20000 in
set_option maxHeartbeats 2000000 in
theorem case_28 {G : SG} (hG : GK 549 G) (p4 : Int32) (a1 : Int32) (hx1 : vp_in (p4 + 1) (gs G) ∧ gx G (ix (p4 + 1)) = a1) {μ : Mem} {t : Nat} {Q : PQ} {X : PX} (hP : P_W_28 a1 μ) (h : R G mL_law_ 23 [(0, .ref (gb G)), (1, .ref (ga G 0)), (2, .ref (ga G 57)), (3, .ref (ga G 548)), (4, .int (p4 + 8))] [] (M_W_28 a1 μ) t Q X) : R G mL_law_ 2009 [(0, .ref (gb G)), (1, .ref (ga G 0)), (2, .ref (ga G 57)), (3, .ref (ga G 548)), (4, .int p4)] [] μ (8 + t) Q X := by
  unfold P_W_28 at hP
  unfold M_W_28 at h
  refine r_aload_n dL_law__2009 1 rfl ?_
  refine r_aload_n dL_law__2010 0 rfl ?_
  refine r_iload dL_law__2011 4 rfl ?_
  refine r_iconst 1 dL_law__2013 rfl ?_
  refine r_iadd dL_law__2014 ?_
  refine r_sldA hx1 dL_law__2015 ?_
  refine r_aload_n dL_law__2016 3 rfl ?_
  have hs1 := hP.1
  replace hP := hP.2
  have hs2 := hP.1
  replace hP := hP.2
  refine r_csW (ok_L_snaps hG a1 μ hs1 hs2) lL_222 dL_law__2017 (by decide) (Nat.le_of_ble_eq_true rfl) rfl (Nat.le_of_ble_eq_true rfl) (by decide) ?_
  refine r_mu (muL_law_c28_1 a1 μ) rfl ?_
  refine r_istore [(5, _), (0, _), (1, _), (2, _), (3, _), (4, _)] dL_law__2020 (Nat.le_of_ble_eq_true rfl) rfl ?_
  refine r_aload_n dL_law__2022 3 rfl ?_
  refine r_aload_n dL_law__2023 1 rfl ?_
  refine r_iload dL_law__2024 5 rfl ?_
  refine r_iconst 1 dL_law__2026 rfl ?_
  refine r_iadd dL_law__2027 ?_
  refine r_sldA hx1 dL_law__2028 ?_
  have hs3 := hP.1
  replace hP := hP.2
  refine r_cvI (ok_X10_snaps (hG.le (by decide)) a1 (muL_law_c28_1 a1 μ) hs3) lL_224 (hG.lt (by decide)) sh57 ⟨_, _, rfl⟩ dL_law__2029 (by decide) (Nat.le_of_ble_eq_true rfl) rfl (Nat.le_of_ble_eq_true rfl) ?_
  refine r_mu (muL_law_c28_2 a1 μ) rfl ?_
  refine r_istore [(6, _), (5, _), (0, _), (1, _), (2, _), (3, _), (4, _)] dL_law__2032 (Nat.le_of_ble_eq_true rfl) rfl ?_
  refine r_aload_n dL_law__2034 4 rfl ?_
  refine r_cvI (ok_X10_thrown (hG.le (by decide))  (muL_law_c28_2 a1 μ)) lL_135 (hG.lt (by decide)) sh57 ⟨_, _, rfl⟩ dL_law__2035 (by decide) (Nat.le_of_ble_eq_true rfl) rfl (Nat.le_of_ble_eq_true rfl) ?_
  refine r_iload dL_law__2038 1 rfl ?_
  refine r_icmp_eq 2045 dL_law__2040 (by decide) (fun c1 => ?_) (fun c1 => ?_)
  · replace hP := hP.1 c1
    refine r_iload dL_law__2045 1 rfl ?_
    refine r_if_ne 2062 dL_law__2047 (by decide) (fun c2 => ?_) (fun c2 => ?_)
    · replace hP := hP.1 c2
      refine r_goto 2749 dL_law__2062 (by decide) ?_
      refine r_iinc (p4 + 8) [(4, _), (6, _), (5, _), (0, _), (1, _), (2, _), (3, _)] dL_law__2749 6 rfl rfl (Nat.le_of_ble_eq_true rfl) rfl ?_
      refine r_goto 23 dL_law__2752 (by decide) ?_
      exact r_sub [3, 4, 5, 6, 0] rfl h
    · replace hP := hP.2 c2
      refine r_aload_n dL_law__2050 5 rfl ?_
      refine r_iconst 0 dL_law__2051 rfl ?_
      refine r_laldK 0 rfl (hG.lt (by decide)) sh548 (vp_of (by decide) (by decide)) dL_law__2052 ?_
      refine r_iload dL_law__2053 0 rfl ?_
      refine r_i2l dL_law__2055 ?_
      refine r_lcmp dL_law__2056 ?_
      refine r_if_eq 2062 dL_law__2057 (by decide) (fun c3 => ?_) (fun c3 => ?_)
      · replace hP := hP.1 c3
        refine r_goto 2749 dL_law__2062 (by decide) ?_
        refine r_iinc (p4 + 8) [(4, _), (6, _), (5, _), (0, _), (1, _), (2, _), (3, _)] dL_law__2749 6 rfl rfl (Nat.le_of_ble_eq_true rfl) rfl ?_
        refine r_goto 23 dL_law__2752 (by decide) ?_
        exact r_sub [3, 4, 5, 6, 0] rfl h
      · replace hP := hP.2 c3
        refine r_iconst 0 dL_law__2060 rfl ?_
        exact hP.elim
  · replace hP := hP.2 c1
    refine r_iconst 0 dL_law__2043 rfl ?_
    exact hP.elim
set_option maxRecDepth 20000 in
set_option maxHeartbeats 2000000 in
theorem case_29 {G : SG} (hG : GK 549 G) (p4 : Int32) (a1 : Int32) (hx1 : vp_in (p4 + 1) (gs G) ∧ gx G (ix (p4 + 1)) = a1) {μ : Mem} {t : Nat} {Q : PQ} {X : PX} (hP : P_W_29 a1 μ) (h : R G mL_law_ 23 [(0, .ref (gb G)), (1, .ref (ga G 0)), (2, .ref (ga G 57)), (3, .ref (ga G 548)), (4, .int (p4 + 8))] [] (M_W_29 a1 μ) t Q X) : R G mL_law_ 2065 [(0, .ref (gb G)), (1, .ref (ga G 0)), (2, .ref (ga G 57)), (3, .ref (ga G 548)), (4, .int p4)] [] μ (8 + t) Q X := by
  unfold P_W_29 at hP
  unfold M_W_29 at h
  refine r_aload_n dL_law__2065 1 rfl ?_
  refine r_aload_n dL_law__2066 0 rfl ?_
  refine r_iload dL_law__2067 4 rfl ?_
  refine r_iconst 1 dL_law__2069 rfl ?_
  refine r_iadd dL_law__2070 ?_
  refine r_sldA hx1 dL_law__2071 ?_
  refine r_aload_n dL_law__2072 3 rfl ?_
  have hs1 := hP.1
  replace hP := hP.2
  have hs2 := hP.1
  replace hP := hP.2
  refine r_csW (ok_L_fullest hG a1 μ hs1 hs2) lL_225 dL_law__2073 (by decide) (Nat.le_of_ble_eq_true rfl) rfl (Nat.le_of_ble_eq_true rfl) (by decide) ?_
  refine r_mu (muL_law_c29_1 a1 μ) rfl ?_
  refine r_istore [(5, _), (0, _), (1, _), (2, _), (3, _), (4, _)] dL_law__2076 (Nat.le_of_ble_eq_true rfl) rfl ?_
  refine r_aload_n dL_law__2078 3 rfl ?_
  refine r_aload_n dL_law__2079 1 rfl ?_
  refine r_iload dL_law__2080 5 rfl ?_
  refine r_iconst 1 dL_law__2082 rfl ?_
  refine r_iadd dL_law__2083 ?_
  refine r_sldA hx1 dL_law__2084 ?_
  have hs3 := hP.1
  replace hP := hP.2
  refine r_cvI (ok_X10_fullest (hG.le (by decide)) a1 (muL_law_c29_1 a1 μ) hs3) lL_227 (hG.lt (by decide)) sh57 ⟨_, _, rfl⟩ dL_law__2085 (by decide) (Nat.le_of_ble_eq_true rfl) rfl (Nat.le_of_ble_eq_true rfl) ?_
  refine r_mu (muL_law_c29_2 a1 μ) rfl ?_
  refine r_istore [(6, _), (5, _), (0, _), (1, _), (2, _), (3, _), (4, _)] dL_law__2088 (Nat.le_of_ble_eq_true rfl) rfl ?_
  refine r_aload_n dL_law__2090 4 rfl ?_
  refine r_cvI (ok_X10_thrown (hG.le (by decide))  (muL_law_c29_2 a1 μ)) lL_135 (hG.lt (by decide)) sh57 ⟨_, _, rfl⟩ dL_law__2091 (by decide) (Nat.le_of_ble_eq_true rfl) rfl (Nat.le_of_ble_eq_true rfl) ?_
  refine r_iload dL_law__2094 1 rfl ?_
  refine r_icmp_eq 2101 dL_law__2096 (by decide) (fun c1 => ?_) (fun c1 => ?_)
  · replace hP := hP.1 c1
    refine r_iload dL_law__2101 1 rfl ?_
    refine r_if_ne 2118 dL_law__2103 (by decide) (fun c2 => ?_) (fun c2 => ?_)
    · replace hP := hP.1 c2
      refine r_goto 2749 dL_law__2118 (by decide) ?_
      refine r_iinc (p4 + 8) [(4, _), (6, _), (5, _), (0, _), (1, _), (2, _), (3, _)] dL_law__2749 6 rfl rfl (Nat.le_of_ble_eq_true rfl) rfl ?_
      refine r_goto 23 dL_law__2752 (by decide) ?_
      exact r_sub [3, 4, 5, 6, 0] rfl h
    · replace hP := hP.2 c2
      refine r_aload_n dL_law__2106 5 rfl ?_
      refine r_iconst 0 dL_law__2107 rfl ?_
      refine r_laldK 0 rfl (hG.lt (by decide)) sh548 (vp_of (by decide) (by decide)) dL_law__2108 ?_
      refine r_iload dL_law__2109 0 rfl ?_
      refine r_i2l dL_law__2111 ?_
      refine r_lcmp dL_law__2112 ?_
      refine r_if_eq 2118 dL_law__2113 (by decide) (fun c3 => ?_) (fun c3 => ?_)
      · replace hP := hP.1 c3
        refine r_goto 2749 dL_law__2118 (by decide) ?_
        refine r_iinc (p4 + 8) [(4, _), (6, _), (5, _), (0, _), (1, _), (2, _), (3, _)] dL_law__2749 6 rfl rfl (Nat.le_of_ble_eq_true rfl) rfl ?_
        refine r_goto 23 dL_law__2752 (by decide) ?_
        exact r_sub [3, 4, 5, 6, 0] rfl h
      · replace hP := hP.2 c3
        refine r_iconst 0 dL_law__2116 rfl ?_
        exact hP.elim
  · replace hP := hP.2 c1
    refine r_iconst 0 dL_law__2099 rfl ?_
    exact hP.elim
set_option maxRecDepth 20000 in
set_option maxHeartbeats 2000000 in
theorem case_30 {G : SG} (hG : GK 549 G) (p4 : Int32) (a1 : Int32) (a2 : Int32) (hx1 : vp_in (p4 + 1) (gs G) ∧ gx G (ix (p4 + 1)) = a1) (hx2 : vp_in (p4 + 2) (gs G) ∧ gx G (ix (p4 + 2)) = a2) {μ : Mem} {t : Nat} {Q : PQ} {X : PX} (hP : P_W_30 a1 a2 μ) (h : R G mL_law_ 23 [(0, .ref (gb G)), (1, .ref (ga G 0)), (2, .ref (ga G 57)), (3, .ref (ga G 548)), (4, .int (p4 + 8))] [] (M_W_30 a1 a2 μ) t Q X) : R G mL_law_ 2121 [(0, .ref (gb G)), (1, .ref (ga G 0)), (2, .ref (ga G 57)), (3, .ref (ga G 548)), (4, .int p4)] [] μ (8 + t) Q X := by
  unfold P_W_30 at hP
  unfold M_W_30 at h
  refine r_aload_n dL_law__2121 1 rfl ?_
  refine r_aload_n dL_law__2122 0 rfl ?_
  refine r_iload dL_law__2123 4 rfl ?_
  refine r_iconst 1 dL_law__2125 rfl ?_
  refine r_iadd dL_law__2126 ?_
  refine r_sldA hx1 dL_law__2127 ?_
  refine r_aload_n dL_law__2128 0 rfl ?_
  refine r_iload dL_law__2129 4 rfl ?_
  refine r_iconst 2 dL_law__2131 rfl ?_
  refine r_iadd dL_law__2132 ?_
  refine r_sldA hx2 dL_law__2133 ?_
  refine r_aload_n dL_law__2134 3 rfl ?_
  have hs1 := hP.1
  replace hP := hP.2
  refine r_csW (ok_L_pays hG a1 a2 μ hs1) lL_228 dL_law__2135 (by decide) (Nat.le_of_ble_eq_true rfl) rfl (Nat.le_of_ble_eq_true rfl) (by decide) ?_
  refine r_mu (muL_law_c30_1 a1 a2 μ) rfl ?_
  refine r_istore [(5, _), (0, _), (1, _), (2, _), (3, _), (4, _)] dL_law__2138 (Nat.le_of_ble_eq_true rfl) rfl ?_
  refine r_aload_n dL_law__2140 3 rfl ?_
  refine r_aload_n dL_law__2141 1 rfl ?_
  refine r_iload dL_law__2142 5 rfl ?_
  refine r_iconst 1 dL_law__2144 rfl ?_
  refine r_iadd dL_law__2145 ?_
  refine r_sldA hx1 dL_law__2146 ?_
  refine r_aload_n dL_law__2147 1 rfl ?_
  refine r_iload dL_law__2148 5 rfl ?_
  refine r_iconst 2 dL_law__2150 rfl ?_
  refine r_iadd dL_law__2151 ?_
  refine r_sldA hx2 dL_law__2152 ?_
  have hs2 := hP.1
  replace hP := hP.2
  refine r_cvI (ok_X10_pays (hG.le (by decide)) a1 a2 (muL_law_c30_1 a1 a2 μ) hs2) lL_230 (hG.lt (by decide)) sh57 ⟨_, _, rfl⟩ dL_law__2153 (by decide) (Nat.le_of_ble_eq_true rfl) rfl (Nat.le_of_ble_eq_true rfl) ?_
  refine r_mu (muL_law_c30_2 a1 a2 μ) rfl ?_
  refine r_istore [(6, _), (5, _), (0, _), (1, _), (2, _), (3, _), (4, _)] dL_law__2156 (Nat.le_of_ble_eq_true rfl) rfl ?_
  refine r_aload_n dL_law__2158 4 rfl ?_
  refine r_cvI (ok_X10_thrown (hG.le (by decide))  (muL_law_c30_2 a1 a2 μ)) lL_135 (hG.lt (by decide)) sh57 ⟨_, _, rfl⟩ dL_law__2159 (by decide) (Nat.le_of_ble_eq_true rfl) rfl (Nat.le_of_ble_eq_true rfl) ?_
  refine r_iload dL_law__2162 1 rfl ?_
  refine r_icmp_eq 2169 dL_law__2164 (by decide) (fun c1 => ?_) (fun c1 => ?_)
  · replace hP := hP.1 c1
    refine r_iload dL_law__2169 1 rfl ?_
    refine r_if_ne 2186 dL_law__2171 (by decide) (fun c2 => ?_) (fun c2 => ?_)
    · replace hP := hP.1 c2
      refine r_goto 2749 dL_law__2186 (by decide) ?_
      refine r_iinc (p4 + 8) [(4, _), (6, _), (5, _), (0, _), (1, _), (2, _), (3, _)] dL_law__2749 6 rfl rfl (Nat.le_of_ble_eq_true rfl) rfl ?_
      refine r_goto 23 dL_law__2752 (by decide) ?_
      exact r_sub [3, 4, 5, 6, 0] rfl h
    · replace hP := hP.2 c2
      refine r_aload_n dL_law__2174 5 rfl ?_
      refine r_iconst 0 dL_law__2175 rfl ?_
      refine r_laldK 0 rfl (hG.lt (by decide)) sh548 (vp_of (by decide) (by decide)) dL_law__2176 ?_
      refine r_iload dL_law__2177 0 rfl ?_
      refine r_i2l dL_law__2179 ?_
      refine r_lcmp dL_law__2180 ?_
      refine r_if_eq 2186 dL_law__2181 (by decide) (fun c3 => ?_) (fun c3 => ?_)
      · replace hP := hP.1 c3
        refine r_goto 2749 dL_law__2186 (by decide) ?_
        refine r_iinc (p4 + 8) [(4, _), (6, _), (5, _), (0, _), (1, _), (2, _), (3, _)] dL_law__2749 6 rfl rfl (Nat.le_of_ble_eq_true rfl) rfl ?_
        refine r_goto 23 dL_law__2752 (by decide) ?_
        exact r_sub [3, 4, 5, 6, 0] rfl h
      · replace hP := hP.2 c3
        refine r_iconst 0 dL_law__2184 rfl ?_
        exact hP.elim
  · replace hP := hP.2 c1
    refine r_iconst 0 dL_law__2167 rfl ?_
    exact hP.elim
set_option maxRecDepth 20000 in
set_option maxHeartbeats 2000000 in
theorem case_31 {G : SG} (hG : GK 549 G) (p4 : Int32) (a1 : Int32) (hx1 : vp_in (p4 + 1) (gs G) ∧ gx G (ix (p4 + 1)) = a1) {μ : Mem} {t : Nat} {Q : PQ} {X : PX} (hP : P_W_31 a1 μ) (h : R G mL_law_ 23 [(0, .ref (gb G)), (1, .ref (ga G 0)), (2, .ref (ga G 57)), (3, .ref (ga G 548)), (4, .int (p4 + 8))] [] (M_W_31 a1 μ) t Q X) : R G mL_law_ 2189 [(0, .ref (gb G)), (1, .ref (ga G 0)), (2, .ref (ga G 57)), (3, .ref (ga G 548)), (4, .int p4)] [] μ (8 + t) Q X := by
  unfold P_W_31 at hP
  unfold M_W_31 at h
  refine r_aload_n dL_law__2189 1 rfl ?_
  refine r_aload_n dL_law__2190 0 rfl ?_
  refine r_iload dL_law__2191 4 rfl ?_
  refine r_iconst 1 dL_law__2193 rfl ?_
  refine r_iadd dL_law__2194 ?_
  refine r_sldA hx1 dL_law__2195 ?_
  refine r_aload_n dL_law__2196 3 rfl ?_
  have hs1 := hP.1
  replace hP := hP.2
  have hs2 := hP.1
  replace hP := hP.2
  refine r_csW (ok_L_neap hG a1 μ hs1 hs2) lL_231 dL_law__2197 (by decide) (Nat.le_of_ble_eq_true rfl) rfl (Nat.le_of_ble_eq_true rfl) (by decide) ?_
  refine r_mu (muL_law_c31_1 a1 μ) rfl ?_
  refine r_istore [(5, _), (0, _), (1, _), (2, _), (3, _), (4, _)] dL_law__2200 (Nat.le_of_ble_eq_true rfl) rfl ?_
  refine r_aload_n dL_law__2202 3 rfl ?_
  refine r_aload_n dL_law__2203 1 rfl ?_
  refine r_iload dL_law__2204 5 rfl ?_
  refine r_iconst 1 dL_law__2206 rfl ?_
  refine r_iadd dL_law__2207 ?_
  refine r_sldA hx1 dL_law__2208 ?_
  have hs3 := hP.1
  replace hP := hP.2
  refine r_cvI (ok_X10_neap (hG.le (by decide)) a1 (muL_law_c31_1 a1 μ) hs3) lL_233 (hG.lt (by decide)) sh57 ⟨_, _, rfl⟩ dL_law__2209 (by decide) (Nat.le_of_ble_eq_true rfl) rfl (Nat.le_of_ble_eq_true rfl) ?_
  refine r_mu (muL_law_c31_2 a1 μ) rfl ?_
  refine r_istore [(6, _), (5, _), (0, _), (1, _), (2, _), (3, _), (4, _)] dL_law__2212 (Nat.le_of_ble_eq_true rfl) rfl ?_
  refine r_aload_n dL_law__2214 4 rfl ?_
  refine r_cvI (ok_X10_thrown (hG.le (by decide))  (muL_law_c31_2 a1 μ)) lL_135 (hG.lt (by decide)) sh57 ⟨_, _, rfl⟩ dL_law__2215 (by decide) (Nat.le_of_ble_eq_true rfl) rfl (Nat.le_of_ble_eq_true rfl) ?_
  refine r_iload dL_law__2218 1 rfl ?_
  refine r_icmp_eq 2225 dL_law__2220 (by decide) (fun c1 => ?_) (fun c1 => ?_)
  · replace hP := hP.1 c1
    refine r_iload dL_law__2225 1 rfl ?_
    refine r_if_ne 2242 dL_law__2227 (by decide) (fun c2 => ?_) (fun c2 => ?_)
    · replace hP := hP.1 c2
      refine r_goto 2749 dL_law__2242 (by decide) ?_
      refine r_iinc (p4 + 8) [(4, _), (6, _), (5, _), (0, _), (1, _), (2, _), (3, _)] dL_law__2749 6 rfl rfl (Nat.le_of_ble_eq_true rfl) rfl ?_
      refine r_goto 23 dL_law__2752 (by decide) ?_
      exact r_sub [3, 4, 5, 6, 0] rfl h
    · replace hP := hP.2 c2
      refine r_aload_n dL_law__2230 5 rfl ?_
      refine r_iconst 0 dL_law__2231 rfl ?_
      refine r_laldK 0 rfl (hG.lt (by decide)) sh548 (vp_of (by decide) (by decide)) dL_law__2232 ?_
      refine r_iload dL_law__2233 0 rfl ?_
      refine r_i2l dL_law__2235 ?_
      refine r_lcmp dL_law__2236 ?_
      refine r_if_eq 2242 dL_law__2237 (by decide) (fun c3 => ?_) (fun c3 => ?_)
      · replace hP := hP.1 c3
        refine r_goto 2749 dL_law__2242 (by decide) ?_
        refine r_iinc (p4 + 8) [(4, _), (6, _), (5, _), (0, _), (1, _), (2, _), (3, _)] dL_law__2749 6 rfl rfl (Nat.le_of_ble_eq_true rfl) rfl ?_
        refine r_goto 23 dL_law__2752 (by decide) ?_
        exact r_sub [3, 4, 5, 6, 0] rfl h
      · replace hP := hP.2 c3
        refine r_iconst 0 dL_law__2240 rfl ?_
        exact hP.elim
  · replace hP := hP.2 c1
    refine r_iconst 0 dL_law__2223 rfl ?_
    exact hP.elim
set_option maxRecDepth 20000 in
set_option maxHeartbeats 2000000 in
theorem case_32 {G : SG} (hG : GK 549 G) (p4 : Int32) (a1 : Int32) (a2 : Int32) (hx1 : vp_in (p4 + 1) (gs G) ∧ gx G (ix (p4 + 1)) = a1) (hx2 : vp_in (p4 + 2) (gs G) ∧ gx G (ix (p4 + 2)) = a2) {μ : Mem} {t : Nat} {Q : PQ} {X : PX} (hP : P_W_32 a1 a2 μ) (h : R G mL_law_ 23 [(0, .ref (gb G)), (1, .ref (ga G 0)), (2, .ref (ga G 57)), (3, .ref (ga G 548)), (4, .int (p4 + 8))] [] (M_W_32 a1 a2 μ) t Q X) : R G mL_law_ 2245 [(0, .ref (gb G)), (1, .ref (ga G 0)), (2, .ref (ga G 57)), (3, .ref (ga G 548)), (4, .int p4)] [] μ (8 + t) Q X := by
  unfold P_W_32 at hP
  unfold M_W_32 at h
  refine r_aload_n dL_law__2245 1 rfl ?_
  refine r_aload_n dL_law__2246 0 rfl ?_
  refine r_iload dL_law__2247 4 rfl ?_
  refine r_iconst 1 dL_law__2249 rfl ?_
  refine r_iadd dL_law__2250 ?_
  refine r_sldA hx1 dL_law__2251 ?_
  refine r_aload_n dL_law__2252 0 rfl ?_
  refine r_iload dL_law__2253 4 rfl ?_
  refine r_iconst 2 dL_law__2255 rfl ?_
  refine r_iadd dL_law__2256 ?_
  refine r_sldA hx2 dL_law__2257 ?_
  refine r_aload_n dL_law__2258 3 rfl ?_
  have hs1 := hP.1
  replace hP := hP.2
  refine r_csW (ok_L_loads hG a1 a2 μ hs1) lL_234 dL_law__2259 (by decide) (Nat.le_of_ble_eq_true rfl) rfl (Nat.le_of_ble_eq_true rfl) (by decide) ?_
  refine r_mu (muL_law_c32_1 a1 a2 μ) rfl ?_
  refine r_istore [(5, _), (0, _), (1, _), (2, _), (3, _), (4, _)] dL_law__2262 (Nat.le_of_ble_eq_true rfl) rfl ?_
  refine r_aload_n dL_law__2264 3 rfl ?_
  refine r_aload_n dL_law__2265 1 rfl ?_
  refine r_iload dL_law__2266 5 rfl ?_
  refine r_iconst 1 dL_law__2268 rfl ?_
  refine r_iadd dL_law__2269 ?_
  refine r_sldA hx1 dL_law__2270 ?_
  refine r_aload_n dL_law__2271 1 rfl ?_
  refine r_iload dL_law__2272 5 rfl ?_
  refine r_iconst 2 dL_law__2274 rfl ?_
  refine r_iadd dL_law__2275 ?_
  refine r_sldA hx2 dL_law__2276 ?_
  have hs2 := hP.1
  replace hP := hP.2
  refine r_cvI (ok_X10_loads (hG.le (by decide)) a1 a2 (muL_law_c32_1 a1 a2 μ) hs2) lL_236 (hG.lt (by decide)) sh57 ⟨_, _, rfl⟩ dL_law__2277 (by decide) (Nat.le_of_ble_eq_true rfl) rfl (Nat.le_of_ble_eq_true rfl) ?_
  refine r_mu (muL_law_c32_2 a1 a2 μ) rfl ?_
  refine r_istore [(6, _), (5, _), (0, _), (1, _), (2, _), (3, _), (4, _)] dL_law__2280 (Nat.le_of_ble_eq_true rfl) rfl ?_
  refine r_aload_n dL_law__2282 4 rfl ?_
  refine r_cvI (ok_X10_thrown (hG.le (by decide))  (muL_law_c32_2 a1 a2 μ)) lL_135 (hG.lt (by decide)) sh57 ⟨_, _, rfl⟩ dL_law__2283 (by decide) (Nat.le_of_ble_eq_true rfl) rfl (Nat.le_of_ble_eq_true rfl) ?_
  refine r_iload dL_law__2286 1 rfl ?_
  refine r_icmp_eq 2293 dL_law__2288 (by decide) (fun c1 => ?_) (fun c1 => ?_)
  · replace hP := hP.1 c1
    refine r_iload dL_law__2293 1 rfl ?_
    refine r_if_ne 2310 dL_law__2295 (by decide) (fun c2 => ?_) (fun c2 => ?_)
    · replace hP := hP.1 c2
      refine r_goto 2749 dL_law__2310 (by decide) ?_
      refine r_iinc (p4 + 8) [(4, _), (6, _), (5, _), (0, _), (1, _), (2, _), (3, _)] dL_law__2749 6 rfl rfl (Nat.le_of_ble_eq_true rfl) rfl ?_
      refine r_goto 23 dL_law__2752 (by decide) ?_
      exact r_sub [3, 4, 5, 6, 0] rfl h
    · replace hP := hP.2 c2
      refine r_aload_n dL_law__2298 5 rfl ?_
      refine r_iconst 0 dL_law__2299 rfl ?_
      refine r_laldK 0 rfl (hG.lt (by decide)) sh548 (vp_of (by decide) (by decide)) dL_law__2300 ?_
      refine r_iload dL_law__2301 0 rfl ?_
      refine r_i2l dL_law__2303 ?_
      refine r_lcmp dL_law__2304 ?_
      refine r_if_eq 2310 dL_law__2305 (by decide) (fun c3 => ?_) (fun c3 => ?_)
      · replace hP := hP.1 c3
        refine r_goto 2749 dL_law__2310 (by decide) ?_
        refine r_iinc (p4 + 8) [(4, _), (6, _), (5, _), (0, _), (1, _), (2, _), (3, _)] dL_law__2749 6 rfl rfl (Nat.le_of_ble_eq_true rfl) rfl ?_
        refine r_goto 23 dL_law__2752 (by decide) ?_
        exact r_sub [3, 4, 5, 6, 0] rfl h
      · replace hP := hP.2 c3
        refine r_iconst 0 dL_law__2308 rfl ?_
        exact hP.elim
  · replace hP := hP.2 c1
    refine r_iconst 0 dL_law__2291 rfl ?_
    exact hP.elim
set_option maxRecDepth 20000 in
set_option maxHeartbeats 2000000 in
theorem case_33 {G : SG} (hG : GK 549 G) (p4 : Int32) (a1 : Int32) (hx1 : vp_in (p4 + 1) (gs G) ∧ gx G (ix (p4 + 1)) = a1) {μ : Mem} {t : Nat} {Q : PQ} {X : PX} (hP : P_W_33 a1 μ) (h : R G mL_law_ 23 [(0, .ref (gb G)), (1, .ref (ga G 0)), (2, .ref (ga G 57)), (3, .ref (ga G 548)), (4, .int (p4 + 8))] [] (M_W_33 a1 μ) t Q X) : R G mL_law_ 2313 [(0, .ref (gb G)), (1, .ref (ga G 0)), (2, .ref (ga G 57)), (3, .ref (ga G 548)), (4, .int p4)] [] μ (8 + t) Q X := by
  unfold P_W_33 at hP
  unfold M_W_33 at h
  refine r_aload_n dL_law__2313 1 rfl ?_
  refine r_aload_n dL_law__2314 0 rfl ?_
  refine r_iload dL_law__2315 4 rfl ?_
  refine r_iconst 1 dL_law__2317 rfl ?_
  refine r_iadd dL_law__2318 ?_
  refine r_sldA hx1 dL_law__2319 ?_
  refine r_aload_n dL_law__2320 3 rfl ?_
  have hs1 := hP.1
  replace hP := hP.2
  have hs2 := hP.1
  replace hP := hP.2
  refine r_csW (ok_L_dearest hG a1 μ hs1 hs2) lL_237 dL_law__2321 (by decide) (Nat.le_of_ble_eq_true rfl) rfl (Nat.le_of_ble_eq_true rfl) (by decide) ?_
  refine r_mu (muL_law_c33_1 a1 μ) rfl ?_
  refine r_istore [(5, _), (0, _), (1, _), (2, _), (3, _), (4, _)] dL_law__2324 (Nat.le_of_ble_eq_true rfl) rfl ?_
  refine r_aload_n dL_law__2326 3 rfl ?_
  refine r_aload_n dL_law__2327 1 rfl ?_
  refine r_iload dL_law__2328 5 rfl ?_
  refine r_iconst 1 dL_law__2330 rfl ?_
  refine r_iadd dL_law__2331 ?_
  refine r_sldA hx1 dL_law__2332 ?_
  have hs3 := hP.1
  replace hP := hP.2
  refine r_cvI (ok_X10_dearest (hG.le (by decide)) a1 (muL_law_c33_1 a1 μ) hs3) lL_239 (hG.lt (by decide)) sh57 ⟨_, _, rfl⟩ dL_law__2333 (by decide) (Nat.le_of_ble_eq_true rfl) rfl (Nat.le_of_ble_eq_true rfl) ?_
  refine r_mu (muL_law_c33_2 a1 μ) rfl ?_
  refine r_istore [(6, _), (5, _), (0, _), (1, _), (2, _), (3, _), (4, _)] dL_law__2336 (Nat.le_of_ble_eq_true rfl) rfl ?_
  refine r_aload_n dL_law__2338 4 rfl ?_
  refine r_cvI (ok_X10_thrown (hG.le (by decide))  (muL_law_c33_2 a1 μ)) lL_135 (hG.lt (by decide)) sh57 ⟨_, _, rfl⟩ dL_law__2339 (by decide) (Nat.le_of_ble_eq_true rfl) rfl (Nat.le_of_ble_eq_true rfl) ?_
  refine r_iload dL_law__2342 1 rfl ?_
  refine r_icmp_eq 2349 dL_law__2344 (by decide) (fun c1 => ?_) (fun c1 => ?_)
  · replace hP := hP.1 c1
    refine r_iload dL_law__2349 1 rfl ?_
    refine r_if_ne 2366 dL_law__2351 (by decide) (fun c2 => ?_) (fun c2 => ?_)
    · replace hP := hP.1 c2
      refine r_goto 2749 dL_law__2366 (by decide) ?_
      refine r_iinc (p4 + 8) [(4, _), (6, _), (5, _), (0, _), (1, _), (2, _), (3, _)] dL_law__2749 6 rfl rfl (Nat.le_of_ble_eq_true rfl) rfl ?_
      refine r_goto 23 dL_law__2752 (by decide) ?_
      exact r_sub [3, 4, 5, 6, 0] rfl h
    · replace hP := hP.2 c2
      refine r_aload_n dL_law__2354 5 rfl ?_
      refine r_iconst 0 dL_law__2355 rfl ?_
      refine r_laldK 0 rfl (hG.lt (by decide)) sh548 (vp_of (by decide) (by decide)) dL_law__2356 ?_
      refine r_iload dL_law__2357 0 rfl ?_
      refine r_i2l dL_law__2359 ?_
      refine r_lcmp dL_law__2360 ?_
      refine r_if_eq 2366 dL_law__2361 (by decide) (fun c3 => ?_) (fun c3 => ?_)
      · replace hP := hP.1 c3
        refine r_goto 2749 dL_law__2366 (by decide) ?_
        refine r_iinc (p4 + 8) [(4, _), (6, _), (5, _), (0, _), (1, _), (2, _), (3, _)] dL_law__2749 6 rfl rfl (Nat.le_of_ble_eq_true rfl) rfl ?_
        refine r_goto 23 dL_law__2752 (by decide) ?_
        exact r_sub [3, 4, 5, 6, 0] rfl h
      · replace hP := hP.2 c3
        refine r_iconst 0 dL_law__2364 rfl ?_
        exact hP.elim
  · replace hP := hP.2 c1
    refine r_iconst 0 dL_law__2347 rfl ?_
    exact hP.elim
set_option maxRecDepth 20000 in
set_option maxHeartbeats 2000000 in
theorem case_34 {G : SG} (hG : GK 549 G) (p4 : Int32) (a1 : Int32) (a2 : Int32) (hx1 : vp_in (p4 + 1) (gs G) ∧ gx G (ix (p4 + 1)) = a1) (hx2 : vp_in (p4 + 2) (gs G) ∧ gx G (ix (p4 + 2)) = a2) {μ : Mem} {t : Nat} {Q : PQ} {X : PX} (hP : P_W_34 a1 a2 μ) (h : R G mL_law_ 23 [(0, .ref (gb G)), (1, .ref (ga G 0)), (2, .ref (ga G 57)), (3, .ref (ga G 548)), (4, .int (p4 + 8))] [] (M_W_34 a1 a2 μ) t Q X) : R G mL_law_ 2369 [(0, .ref (gb G)), (1, .ref (ga G 0)), (2, .ref (ga G 57)), (3, .ref (ga G 548)), (4, .int p4)] [] μ (8 + t) Q X := by
  unfold P_W_34 at hP
  unfold M_W_34 at h
  refine r_aload_n dL_law__2369 1 rfl ?_
  refine r_aload_n dL_law__2370 0 rfl ?_
  refine r_iload dL_law__2371 4 rfl ?_
  refine r_iconst 1 dL_law__2373 rfl ?_
  refine r_iadd dL_law__2374 ?_
  refine r_sldA hx1 dL_law__2375 ?_
  refine r_aload_n dL_law__2376 0 rfl ?_
  refine r_iload dL_law__2377 4 rfl ?_
  refine r_iconst 2 dL_law__2379 rfl ?_
  refine r_iadd dL_law__2380 ?_
  refine r_sldA hx2 dL_law__2381 ?_
  refine r_aload_n dL_law__2382 3 rfl ?_
  have hs1 := hP.1
  replace hP := hP.2
  have hs2 := hP.1
  replace hP := hP.2
  refine r_csW (ok_L_dry hG a1 a2 μ hs1 hs2) lL_240 dL_law__2383 (by decide) (Nat.le_of_ble_eq_true rfl) rfl (Nat.le_of_ble_eq_true rfl) (by decide) ?_
  refine r_mu (muL_law_c34_1 a1 a2 μ) rfl ?_
  refine r_istore [(5, _), (0, _), (1, _), (2, _), (3, _), (4, _)] dL_law__2386 (Nat.le_of_ble_eq_true rfl) rfl ?_
  refine r_aload_n dL_law__2388 3 rfl ?_
  refine r_aload_n dL_law__2389 1 rfl ?_
  refine r_iload dL_law__2390 5 rfl ?_
  refine r_iconst 1 dL_law__2392 rfl ?_
  refine r_iadd dL_law__2393 ?_
  refine r_sldA hx1 dL_law__2394 ?_
  refine r_aload_n dL_law__2395 1 rfl ?_
  refine r_iload dL_law__2396 5 rfl ?_
  refine r_iconst 2 dL_law__2398 rfl ?_
  refine r_iadd dL_law__2399 ?_
  refine r_sldA hx2 dL_law__2400 ?_
  have hs3 := hP.1
  replace hP := hP.2
  refine r_cvI (ok_X10_dry (hG.le (by decide)) a1 a2 (muL_law_c34_1 a1 a2 μ) hs3) lL_242 (hG.lt (by decide)) sh57 ⟨_, _, rfl⟩ dL_law__2401 (by decide) (Nat.le_of_ble_eq_true rfl) rfl (Nat.le_of_ble_eq_true rfl) ?_
  refine r_mu (muL_law_c34_2 a1 a2 μ) rfl ?_
  refine r_istore [(6, _), (5, _), (0, _), (1, _), (2, _), (3, _), (4, _)] dL_law__2404 (Nat.le_of_ble_eq_true rfl) rfl ?_
  refine r_aload_n dL_law__2406 4 rfl ?_
  refine r_cvI (ok_X10_thrown (hG.le (by decide))  (muL_law_c34_2 a1 a2 μ)) lL_135 (hG.lt (by decide)) sh57 ⟨_, _, rfl⟩ dL_law__2407 (by decide) (Nat.le_of_ble_eq_true rfl) rfl (Nat.le_of_ble_eq_true rfl) ?_
  refine r_iload dL_law__2410 1 rfl ?_
  refine r_icmp_eq 2417 dL_law__2412 (by decide) (fun c1 => ?_) (fun c1 => ?_)
  · replace hP := hP.1 c1
    refine r_iload dL_law__2417 1 rfl ?_
    refine r_if_ne 2434 dL_law__2419 (by decide) (fun c2 => ?_) (fun c2 => ?_)
    · replace hP := hP.1 c2
      refine r_goto 2749 dL_law__2434 (by decide) ?_
      refine r_iinc (p4 + 8) [(4, _), (6, _), (5, _), (0, _), (1, _), (2, _), (3, _)] dL_law__2749 6 rfl rfl (Nat.le_of_ble_eq_true rfl) rfl ?_
      refine r_goto 23 dL_law__2752 (by decide) ?_
      exact r_sub [3, 4, 5, 6, 0] rfl h
    · replace hP := hP.2 c2
      refine r_aload_n dL_law__2422 5 rfl ?_
      refine r_iconst 0 dL_law__2423 rfl ?_
      refine r_laldK 0 rfl (hG.lt (by decide)) sh548 (vp_of (by decide) (by decide)) dL_law__2424 ?_
      refine r_iload dL_law__2425 0 rfl ?_
      refine r_i2l dL_law__2427 ?_
      refine r_lcmp dL_law__2428 ?_
      refine r_if_eq 2434 dL_law__2429 (by decide) (fun c3 => ?_) (fun c3 => ?_)
      · replace hP := hP.1 c3
        refine r_goto 2749 dL_law__2434 (by decide) ?_
        refine r_iinc (p4 + 8) [(4, _), (6, _), (5, _), (0, _), (1, _), (2, _), (3, _)] dL_law__2749 6 rfl rfl (Nat.le_of_ble_eq_true rfl) rfl ?_
        refine r_goto 23 dL_law__2752 (by decide) ?_
        exact r_sub [3, 4, 5, 6, 0] rfl h
      · replace hP := hP.2 c3
        refine r_iconst 0 dL_law__2432 rfl ?_
        exact hP.elim
  · replace hP := hP.2 c1
    refine r_iconst 0 dL_law__2415 rfl ?_
    exact hP.elim
set_option maxRecDepth 20000 in
set_option maxHeartbeats 2000000 in
theorem case_35 {G : SG} (hG : GK 549 G) (p4 : Int32) (a1 : Int32) (a2 : Int32) (a3 : Int32) (a4 : Int32) (a5 : Int32) (hx1 : vp_in (p4 + 1) (gs G) ∧ gx G (ix (p4 + 1)) = a1) (hx2 : vp_in (p4 + 2) (gs G) ∧ gx G (ix (p4 + 2)) = a2) (hx3 : vp_in (p4 + 3) (gs G) ∧ gx G (ix (p4 + 3)) = a3) (hx4 : vp_in (p4 + 4) (gs G) ∧ gx G (ix (p4 + 4)) = a4) (hx5 : vp_in (p4 + 5) (gs G) ∧ gx G (ix (p4 + 5)) = a5) {μ : Mem} {t : Nat} {Q : PQ} {X : PX} (hP : P_W_35 a1 a2 a3 a4 a5 μ) (h : R G mL_law_ 23 [(0, .ref (gb G)), (1, .ref (ga G 0)), (2, .ref (ga G 57)), (3, .ref (ga G 548)), (4, .int (p4 + 8))] [] (M_W_35 a1 a2 a3 a4 a5 μ) t Q X) : R G mL_law_ 2437 [(0, .ref (gb G)), (1, .ref (ga G 0)), (2, .ref (ga G 57)), (3, .ref (ga G 548)), (4, .int p4)] [] μ (8 + t) Q X := by
  unfold P_W_35 at hP
  unfold M_W_35 at h
  refine r_aload_n dL_law__2437 1 rfl ?_
  refine r_aload_n dL_law__2438 0 rfl ?_
  refine r_iload dL_law__2439 4 rfl ?_
  refine r_iconst 1 dL_law__2441 rfl ?_
  refine r_iadd dL_law__2442 ?_
  refine r_sldA hx1 dL_law__2443 ?_
  refine r_aload_n dL_law__2444 0 rfl ?_
  refine r_iload dL_law__2445 4 rfl ?_
  refine r_iconst 2 dL_law__2447 rfl ?_
  refine r_iadd dL_law__2448 ?_
  refine r_sldA hx2 dL_law__2449 ?_
  refine r_aload_n dL_law__2450 0 rfl ?_
  refine r_iload dL_law__2451 4 rfl ?_
  refine r_iconst 3 dL_law__2453 rfl ?_
  refine r_iadd dL_law__2454 ?_
  refine r_sldA hx3 dL_law__2455 ?_
  refine r_aload_n dL_law__2456 0 rfl ?_
  refine r_iload dL_law__2457 4 rfl ?_
  refine r_iconst 4 dL_law__2459 rfl ?_
  refine r_iadd dL_law__2460 ?_
  refine r_sldA hx4 dL_law__2461 ?_
  refine r_aload_n dL_law__2462 0 rfl ?_
  refine r_iload dL_law__2463 4 rfl ?_
  refine r_iconst 5 dL_law__2465 rfl ?_
  refine r_iadd dL_law__2466 ?_
  refine r_sldA hx5 dL_law__2467 ?_
  refine r_aload_n dL_law__2468 3 rfl ?_
  have hs1 := hP.1
  replace hP := hP.2
  have hs2 := hP.1
  replace hP := hP.2
  refine r_csW (ok_L_year hG a1 a2 a3 a4 a5 μ hs1 hs2) lL_243 dL_law__2469 (by decide) (Nat.le_of_ble_eq_true rfl) rfl (Nat.le_of_ble_eq_true rfl) (by decide) ?_
  refine r_mu (muL_law_c35_1 a1 a2 a3 a4 a5 μ) rfl ?_
  refine r_istore [(5, _), (0, _), (1, _), (2, _), (3, _), (4, _)] dL_law__2472 (Nat.le_of_ble_eq_true rfl) rfl ?_
  refine r_aload_n dL_law__2474 3 rfl ?_
  refine r_aload_n dL_law__2475 1 rfl ?_
  refine r_iload dL_law__2476 5 rfl ?_
  refine r_iconst 1 dL_law__2478 rfl ?_
  refine r_iadd dL_law__2479 ?_
  refine r_sldA hx1 dL_law__2480 ?_
  refine r_aload_n dL_law__2481 1 rfl ?_
  refine r_iload dL_law__2482 5 rfl ?_
  refine r_iconst 2 dL_law__2484 rfl ?_
  refine r_iadd dL_law__2485 ?_
  refine r_sldA hx2 dL_law__2486 ?_
  refine r_aload_n dL_law__2487 1 rfl ?_
  refine r_iload dL_law__2488 5 rfl ?_
  refine r_iconst 3 dL_law__2490 rfl ?_
  refine r_iadd dL_law__2491 ?_
  refine r_sldA hx3 dL_law__2492 ?_
  refine r_aload_n dL_law__2493 1 rfl ?_
  refine r_iload dL_law__2494 5 rfl ?_
  refine r_iconst 4 dL_law__2496 rfl ?_
  refine r_iadd dL_law__2497 ?_
  refine r_sldA hx4 dL_law__2498 ?_
  refine r_aload_n dL_law__2499 1 rfl ?_
  refine r_iload dL_law__2500 5 rfl ?_
  refine r_iconst 5 dL_law__2502 rfl ?_
  refine r_iadd dL_law__2503 ?_
  refine r_sldA hx5 dL_law__2504 ?_
  have hs3 := hP.1
  replace hP := hP.2
  refine r_cvI (ok_X10_year (hG.le (by decide)) a1 a2 a3 a4 a5 (muL_law_c35_1 a1 a2 a3 a4 a5 μ) hs3) lL_246 (hG.lt (by decide)) sh57 ⟨_, _, rfl⟩ dL_law__2505 (by decide) (Nat.le_of_ble_eq_true rfl) rfl (Nat.le_of_ble_eq_true rfl) ?_
  refine r_mu (muL_law_c35_2 a1 a2 a3 a4 a5 μ) rfl ?_
  refine r_istore [(6, _), (5, _), (0, _), (1, _), (2, _), (3, _), (4, _)] dL_law__2508 (Nat.le_of_ble_eq_true rfl) rfl ?_
  refine r_aload_n dL_law__2510 4 rfl ?_
  refine r_cvI (ok_X10_thrown (hG.le (by decide))  (muL_law_c35_2 a1 a2 a3 a4 a5 μ)) lL_135 (hG.lt (by decide)) sh57 ⟨_, _, rfl⟩ dL_law__2511 (by decide) (Nat.le_of_ble_eq_true rfl) rfl (Nat.le_of_ble_eq_true rfl) ?_
  refine r_iload dL_law__2514 1 rfl ?_
  refine r_icmp_eq 2521 dL_law__2516 (by decide) (fun c1 => ?_) (fun c1 => ?_)
  · replace hP := hP.1 c1
    refine r_iload dL_law__2521 1 rfl ?_
    refine r_if_ne 2538 dL_law__2523 (by decide) (fun c2 => ?_) (fun c2 => ?_)
    · replace hP := hP.1 c2
      refine r_goto 2749 dL_law__2538 (by decide) ?_
      refine r_iinc (p4 + 8) [(4, _), (6, _), (5, _), (0, _), (1, _), (2, _), (3, _)] dL_law__2749 6 rfl rfl (Nat.le_of_ble_eq_true rfl) rfl ?_
      refine r_goto 23 dL_law__2752 (by decide) ?_
      exact r_sub [3, 4, 5, 6, 0] rfl h
    · replace hP := hP.2 c2
      refine r_aload_n dL_law__2526 5 rfl ?_
      refine r_iconst 0 dL_law__2527 rfl ?_
      refine r_laldK 0 rfl (hG.lt (by decide)) sh548 (vp_of (by decide) (by decide)) dL_law__2528 ?_
      refine r_iload dL_law__2529 0 rfl ?_
      refine r_i2l dL_law__2531 ?_
      refine r_lcmp dL_law__2532 ?_
      refine r_if_eq 2538 dL_law__2533 (by decide) (fun c3 => ?_) (fun c3 => ?_)
      · replace hP := hP.1 c3
        refine r_goto 2749 dL_law__2538 (by decide) ?_
        refine r_iinc (p4 + 8) [(4, _), (6, _), (5, _), (0, _), (1, _), (2, _), (3, _)] dL_law__2749 6 rfl rfl (Nat.le_of_ble_eq_true rfl) rfl ?_
        refine r_goto 23 dL_law__2752 (by decide) ?_
        exact r_sub [3, 4, 5, 6, 0] rfl h
      · replace hP := hP.2 c3
        refine r_iconst 0 dL_law__2536 rfl ?_
        exact hP.elim
  · replace hP := hP.2 c1
    refine r_iconst 0 dL_law__2519 rfl ?_
    exact hP.elim
set_option maxRecDepth 20000 in
set_option maxHeartbeats 2000000 in
theorem case_36 {G : SG} (hG : GK 549 G) (p4 : Int32) (a1 : Int32) (a2 : Int32) (a3 : Int32) (a4 : Int32) (a5 : Int32) (a6 : Int32) (a7 : Int32) (hx1 : vp_in (p4 + 1) (gs G) ∧ gx G (ix (p4 + 1)) = a1) (hx2 : vp_in (p4 + 2) (gs G) ∧ gx G (ix (p4 + 2)) = a2) (hx3 : vp_in (p4 + 3) (gs G) ∧ gx G (ix (p4 + 3)) = a3) (hx4 : vp_in (p4 + 4) (gs G) ∧ gx G (ix (p4 + 4)) = a4) (hx5 : vp_in (p4 + 5) (gs G) ∧ gx G (ix (p4 + 5)) = a5) (hx6 : vp_in (p4 + 6) (gs G) ∧ gx G (ix (p4 + 6)) = a6) (hx7 : vp_in (p4 + 7) (gs G) ∧ gx G (ix (p4 + 7)) = a7) {μ : Mem} {t : Nat} {Q : PQ} {X : PX} (hP : P_W_36 a1 a2 a3 a4 a5 a6 a7 μ) (h : R G mL_law_ 23 [(0, .ref (gb G)), (1, .ref (ga G 0)), (2, .ref (ga G 57)), (3, .ref (ga G 548)), (4, .int (p4 + 8))] [] (M_W_36 a1 a2 a3 a4 a5 a6 a7 μ) t Q X) : R G mL_law_ 2541 [(0, .ref (gb G)), (1, .ref (ga G 0)), (2, .ref (ga G 57)), (3, .ref (ga G 548)), (4, .int p4)] [] μ (8 + t) Q X := by
  unfold P_W_36 at hP
  unfold M_W_36 at h
  refine r_aload_n dL_law__2541 1 rfl ?_
  refine r_aload_n dL_law__2542 0 rfl ?_
  refine r_iload dL_law__2543 4 rfl ?_
  refine r_iconst 1 dL_law__2545 rfl ?_
  refine r_iadd dL_law__2546 ?_
  refine r_sldA hx1 dL_law__2547 ?_
  refine r_aload_n dL_law__2548 0 rfl ?_
  refine r_iload dL_law__2549 4 rfl ?_
  refine r_iconst 2 dL_law__2551 rfl ?_
  refine r_iadd dL_law__2552 ?_
  refine r_sldA hx2 dL_law__2553 ?_
  refine r_aload_n dL_law__2554 0 rfl ?_
  refine r_iload dL_law__2555 4 rfl ?_
  refine r_iconst 3 dL_law__2557 rfl ?_
  refine r_iadd dL_law__2558 ?_
  refine r_sldA hx3 dL_law__2559 ?_
  refine r_aload_n dL_law__2560 0 rfl ?_
  refine r_iload dL_law__2561 4 rfl ?_
  refine r_iconst 4 dL_law__2563 rfl ?_
  refine r_iadd dL_law__2564 ?_
  refine r_sldA hx4 dL_law__2565 ?_
  refine r_aload_n dL_law__2566 0 rfl ?_
  refine r_iload dL_law__2567 4 rfl ?_
  refine r_iconst 5 dL_law__2569 rfl ?_
  refine r_iadd dL_law__2570 ?_
  refine r_sldA hx5 dL_law__2571 ?_
  refine r_aload_n dL_law__2572 0 rfl ?_
  refine r_iload dL_law__2573 4 rfl ?_
  refine r_bipush 6 dL_law__2575 rfl ?_
  refine r_iadd dL_law__2577 ?_
  refine r_sldA hx6 dL_law__2578 ?_
  refine r_aload_n dL_law__2579 0 rfl ?_
  refine r_iload dL_law__2580 4 rfl ?_
  refine r_bipush 7 dL_law__2582 rfl ?_
  refine r_iadd dL_law__2584 ?_
  refine r_sldA hx7 dL_law__2585 ?_
  refine r_aload_n dL_law__2586 3 rfl ?_
  have hs1 := hP.1
  replace hP := hP.2
  have hs2 := hP.1
  replace hP := hP.2
  refine r_csW (ok_L_span hG a1 a2 a3 a4 a5 a6 a7 μ hs1 hs2) lL_247 dL_law__2587 (by decide) (Nat.le_of_ble_eq_true rfl) rfl (Nat.le_of_ble_eq_true rfl) (by decide) ?_
  refine r_mu (muL_law_c36_1 a1 a2 a3 a4 a5 a6 a7 μ) rfl ?_
  refine r_istore [(5, _), (0, _), (1, _), (2, _), (3, _), (4, _)] dL_law__2590 (Nat.le_of_ble_eq_true rfl) rfl ?_
  refine r_aload_n dL_law__2592 3 rfl ?_
  refine r_aload_n dL_law__2593 1 rfl ?_
  refine r_iload dL_law__2594 5 rfl ?_
  refine r_iconst 1 dL_law__2596 rfl ?_
  refine r_iadd dL_law__2597 ?_
  refine r_sldA hx1 dL_law__2598 ?_
  refine r_aload_n dL_law__2599 1 rfl ?_
  refine r_iload dL_law__2600 5 rfl ?_
  refine r_iconst 2 dL_law__2602 rfl ?_
  refine r_iadd dL_law__2603 ?_
  refine r_sldA hx2 dL_law__2604 ?_
  refine r_aload_n dL_law__2605 1 rfl ?_
  refine r_iload dL_law__2606 5 rfl ?_
  refine r_iconst 3 dL_law__2608 rfl ?_
  refine r_iadd dL_law__2609 ?_
  refine r_sldA hx3 dL_law__2610 ?_
  refine r_aload_n dL_law__2611 1 rfl ?_
  refine r_iload dL_law__2612 5 rfl ?_
  refine r_iconst 4 dL_law__2614 rfl ?_
  refine r_iadd dL_law__2615 ?_
  refine r_sldA hx4 dL_law__2616 ?_
  refine r_aload_n dL_law__2617 1 rfl ?_
  refine r_iload dL_law__2618 5 rfl ?_
  refine r_iconst 5 dL_law__2620 rfl ?_
  refine r_iadd dL_law__2621 ?_
  refine r_sldA hx5 dL_law__2622 ?_
  refine r_aload_n dL_law__2623 1 rfl ?_
  refine r_iload dL_law__2624 5 rfl ?_
  refine r_bipush 6 dL_law__2626 rfl ?_
  refine r_iadd dL_law__2628 ?_
  refine r_sldA hx6 dL_law__2629 ?_
  refine r_aload_n dL_law__2630 1 rfl ?_
  refine r_iload dL_law__2631 5 rfl ?_
  refine r_bipush 7 dL_law__2633 rfl ?_
  refine r_iadd dL_law__2635 ?_
  refine r_sldA hx7 dL_law__2636 ?_
  have hs3 := hP.1
  replace hP := hP.2
  refine r_cvI (ok_X10_span (hG.le (by decide)) a1 a2 a3 a4 a5 a6 a7 (muL_law_c36_1 a1 a2 a3 a4 a5 a6 a7 μ) hs3) lL_250 (hG.lt (by decide)) sh57 ⟨_, _, rfl⟩ dL_law__2637 (by decide) (Nat.le_of_ble_eq_true rfl) rfl (Nat.le_of_ble_eq_true rfl) ?_
  refine r_mu (muL_law_c36_2 a1 a2 a3 a4 a5 a6 a7 μ) rfl ?_
  refine r_istore [(6, _), (5, _), (0, _), (1, _), (2, _), (3, _), (4, _)] dL_law__2640 (Nat.le_of_ble_eq_true rfl) rfl ?_
  refine r_aload_n dL_law__2642 4 rfl ?_
  refine r_cvI (ok_X10_thrown (hG.le (by decide))  (muL_law_c36_2 a1 a2 a3 a4 a5 a6 a7 μ)) lL_135 (hG.lt (by decide)) sh57 ⟨_, _, rfl⟩ dL_law__2643 (by decide) (Nat.le_of_ble_eq_true rfl) rfl (Nat.le_of_ble_eq_true rfl) ?_
  refine r_iload dL_law__2646 1 rfl ?_
  refine r_icmp_eq 2653 dL_law__2648 (by decide) (fun c1 => ?_) (fun c1 => ?_)
  · replace hP := hP.1 c1
    refine r_iload dL_law__2653 1 rfl ?_
    refine r_if_ne 2670 dL_law__2655 (by decide) (fun c2 => ?_) (fun c2 => ?_)
    · replace hP := hP.1 c2
      refine r_goto 2749 dL_law__2670 (by decide) ?_
      refine r_iinc (p4 + 8) [(4, _), (6, _), (5, _), (0, _), (1, _), (2, _), (3, _)] dL_law__2749 6 rfl rfl (Nat.le_of_ble_eq_true rfl) rfl ?_
      refine r_goto 23 dL_law__2752 (by decide) ?_
      exact r_sub [3, 4, 5, 6, 0] rfl h
    · replace hP := hP.2 c2
      refine r_aload_n dL_law__2658 5 rfl ?_
      refine r_iconst 0 dL_law__2659 rfl ?_
      refine r_laldK 0 rfl (hG.lt (by decide)) sh548 (vp_of (by decide) (by decide)) dL_law__2660 ?_
      refine r_iload dL_law__2661 0 rfl ?_
      refine r_i2l dL_law__2663 ?_
      refine r_lcmp dL_law__2664 ?_
      refine r_if_eq 2670 dL_law__2665 (by decide) (fun c3 => ?_) (fun c3 => ?_)
      · replace hP := hP.1 c3
        refine r_goto 2749 dL_law__2670 (by decide) ?_
        refine r_iinc (p4 + 8) [(4, _), (6, _), (5, _), (0, _), (1, _), (2, _), (3, _)] dL_law__2749 6 rfl rfl (Nat.le_of_ble_eq_true rfl) rfl ?_
        refine r_goto 23 dL_law__2752 (by decide) ?_
        exact r_sub [3, 4, 5, 6, 0] rfl h
      · replace hP := hP.2 c3
        refine r_iconst 0 dL_law__2668 rfl ?_
        exact hP.elim
  · replace hP := hP.2 c1
    refine r_iconst 0 dL_law__2651 rfl ?_
    exact hP.elim
set_option maxRecDepth 20000 in
set_option maxHeartbeats 2000000 in
theorem case_37 {G : SG} (hG : GK 549 G) (p4 : Int32)   {μ : Mem} {t : Nat} {Q : PQ} {X : PX} (hP : P_W_37  μ) (h : R G mL_law_ 23 [(0, .ref (gb G)), (1, .ref (ga G 0)), (2, .ref (ga G 57)), (3, .ref (ga G 548)), (4, .int (p4 + 8))] [] (M_W_37  μ) t Q X) : R G mL_law_ 2673 [(0, .ref (gb G)), (1, .ref (ga G 0)), (2, .ref (ga G 57)), (3, .ref (ga G 548)), (4, .int p4)] [] μ (8 + t) Q X := by
  unfold P_W_37 at hP
  unfold M_W_37 at h
  refine r_weak (t' := t) (Nat.le_add_left _ _) (fun _ _ h => h) (fun _ _ h => h) ?_
  refine r_aload_n dL_law__2673 1 rfl ?_
  have hs1 := hP.1
  replace hP := hP.2
  refine r_cvI (ok_X9_image (hG.le (by decide))  μ hs1) lL_251 (hG.lt (by decide)) sh0 ⟨_, _, rfl⟩ dL_law__2674 (by decide) (Nat.le_of_ble_eq_true rfl) rfl (Nat.le_of_ble_eq_true rfl) ?_
  refine r_mu (muL_law_c37_1 μ) rfl ?_
  refine r_aload_n dL_law__2677 2 rfl ?_
  have hs2 := hP.1
  replace hP := hP.2
  refine r_cvI (ok_X10_image (hG.le (by decide))  (muL_law_c37_1 μ) hs2) lL_254 (hG.lt (by decide)) sh57 ⟨_, _, rfl⟩ dL_law__2678 (by decide) (Nat.le_of_ble_eq_true rfl) rfl (Nat.le_of_ble_eq_true rfl) ?_
  refine r_mu (muL_law_c37_2 μ) rfl ?_
  refine r_icmp_eq 2749 dL_law__2681 (by decide) (fun c1 => ?_) (fun c1 => ?_)
  · replace hP := hP.1 c1
    refine r_iinc (p4 + 8) [(4, _), (0, _), (1, _), (2, _), (3, _)] dL_law__2749 4 rfl rfl (Nat.le_of_ble_eq_true rfl) rfl ?_
    refine r_goto 23 dL_law__2752 (by decide) ?_
    exact r_sub [1, 2, 3, 4, 0] rfl h
  · replace hP := hP.2 c1
    refine r_iconst 0 dL_law__2684 rfl ?_
    exact hP.elim
set_option maxRecDepth 20000 in
set_option maxHeartbeats 2000000 in
theorem case_38 {G : SG} (hG : GK 549 G) (p4 : Int32)   {μ : Mem} {t : Nat} {Q : PQ} {X : PX} (hP : P_W_38  μ) (h : R G mL_law_ 23 [(0, .ref (gb G)), (1, .ref (ga G 0)), (2, .ref (ga G 57)), (3, .ref (ga G 548)), (4, .int (p4 + 8))] [] (M_W_38  μ) t Q X) : R G mL_law_ 2686 [(0, .ref (gb G)), (1, .ref (ga G 0)), (2, .ref (ga G 57)), (3, .ref (ga G 548)), (4, .int p4)] [] μ (8 + t) Q X := by
  unfold P_W_38 at hP
  unfold M_W_38 at h
  refine r_weak (t' := t) (Nat.le_add_left _ _) (fun _ _ h => h) (fun _ _ h => h) ?_
  refine r_aload_n dL_law__2686 1 rfl ?_
  have hs1 := hP.1
  replace hP := hP.2
  refine r_cvI (ok_X9_restore (hG.le (by decide))  μ hs1) lL_255 (hG.lt (by decide)) sh0 ⟨_, _, rfl⟩ dL_law__2687 (by decide) (Nat.le_of_ble_eq_true rfl) rfl (Nat.le_of_ble_eq_true rfl) ?_
  refine r_mu (muL_law_c38_1 μ) rfl ?_
  refine r_aload_n dL_law__2690 2 rfl ?_
  have hs2 := hP.1
  replace hP := hP.2
  refine r_cvI (ok_X10_restore (hG.le (by decide))  (muL_law_c38_1 μ) hs2) lL_258 (hG.lt (by decide)) sh57 ⟨_, _, rfl⟩ dL_law__2691 (by decide) (Nat.le_of_ble_eq_true rfl) rfl (Nat.le_of_ble_eq_true rfl) ?_
  refine r_mu (muL_law_c38_2 μ) rfl ?_
  refine r_icmp_eq 2749 dL_law__2694 (by decide) (fun c1 => ?_) (fun c1 => ?_)
  · replace hP := hP.1 c1
    refine r_iinc (p4 + 8) [(4, _), (0, _), (1, _), (2, _), (3, _)] dL_law__2749 4 rfl rfl (Nat.le_of_ble_eq_true rfl) rfl ?_
    refine r_goto 23 dL_law__2752 (by decide) ?_
    exact r_sub [1, 2, 3, 4, 0] rfl h
  · replace hP := hP.2 c1
    refine r_iconst 0 dL_law__2697 rfl ?_
    exact hP.elim
set_option maxRecDepth 20000 in
set_option maxHeartbeats 2000000 in
theorem case_39 {G : SG} (hG : GK 549 G) (p4 : Int32) (a1 : Int32) (hx1 : vp_in (p4 + 1) (gs G) ∧ gx G (ix (p4 + 1)) = a1) {μ : Mem} {t : Nat} {Q : PQ} {X : PX} (hP : P_W_39 a1 μ) (h : R G mL_law_ 23 [(0, .ref (gb G)), (1, .ref (ga G 0)), (2, .ref (ga G 57)), (3, .ref (ga G 548)), (4, .int (p4 + 8))] [] (M_W_39 a1 μ) t Q X) : R G mL_law_ 2699 [(0, .ref (gb G)), (1, .ref (ga G 0)), (2, .ref (ga G 57)), (3, .ref (ga G 548)), (4, .int p4)] [] μ (8 + t) Q X := by
  unfold P_W_39 at hP
  unfold M_W_39 at h
  refine r_weak (t' := t) (Nat.le_add_left _ _) (fun _ _ h => h) (fun _ _ h => h) ?_
  refine r_aload_n dL_law__2699 1 rfl ?_
  refine r_aload_n dL_law__2700 0 rfl ?_
  refine r_iload dL_law__2701 4 rfl ?_
  refine r_iconst 1 dL_law__2703 rfl ?_
  refine r_iadd dL_law__2704 ?_
  refine r_sldA hx1 dL_law__2705 ?_
  refine r_cvI (ok_X9_status (hG.le (by decide)) a1 μ) lL_259 (hG.lt (by decide)) sh0 ⟨_, _, rfl⟩ dL_law__2706 (by decide) (Nat.le_of_ble_eq_true rfl) rfl (Nat.le_of_ble_eq_true rfl) ?_
  refine r_aload_n dL_law__2709 2 rfl ?_
  refine r_aload_n dL_law__2710 0 rfl ?_
  refine r_iload dL_law__2711 4 rfl ?_
  refine r_iconst 1 dL_law__2713 rfl ?_
  refine r_iadd dL_law__2714 ?_
  refine r_sldA hx1 dL_law__2715 ?_
  have hs1 := hP.1
  replace hP := hP.2
  refine r_cvI (ok_X10_status (hG.le (by decide)) a1 μ hs1) lL_262 (hG.lt (by decide)) sh57 ⟨_, _, rfl⟩ dL_law__2716 (by decide) (Nat.le_of_ble_eq_true rfl) rfl (Nat.le_of_ble_eq_true rfl) ?_
  refine r_mu (muL_law_c39_1 a1 μ) rfl ?_
  refine r_icmp_eq 2749 dL_law__2719 (by decide) (fun c1 => ?_) (fun c1 => ?_)
  · replace hP := hP.1 c1
    refine r_iinc (p4 + 8) [(4, _), (0, _), (1, _), (2, _), (3, _)] dL_law__2749 4 rfl rfl (Nat.le_of_ble_eq_true rfl) rfl ?_
    refine r_goto 23 dL_law__2752 (by decide) ?_
    exact r_sub [1, 2, 3, 4, 0] rfl h
  · replace hP := hP.2 c1
    refine r_iconst 0 dL_law__2722 rfl ?_
    exact hP.elim
set_option maxRecDepth 20000 in
set_option maxHeartbeats 2000000 in
theorem case_40 {G : SG} (hG : GK 549 G) (p4 : Int32) (a1 : Int32) (hx1 : vp_in (p4 + 1) (gs G) ∧ gx G (ix (p4 + 1)) = a1) {μ : Mem} {t : Nat} {Q : PQ} {X : PX} (hP : P_W_40 a1 μ) (h : R G mL_law_ 23 [(0, .ref (gb G)), (1, .ref (ga G 0)), (2, .ref (ga G 57)), (3, .ref (ga G 548)), (4, .int (p4 + 8))] [] (M_W_40 a1 μ) t Q X) : R G mL_law_ 2724 [(0, .ref (gb G)), (1, .ref (ga G 0)), (2, .ref (ga G 57)), (3, .ref (ga G 548)), (4, .int p4)] [] μ (8 + t) Q X := by
  unfold P_W_40 at hP
  unfold M_W_40 at h
  refine r_weak (t' := t) (Nat.le_add_left _ _) (fun _ _ h => h) (fun _ _ h => h) ?_
  refine r_aload_n dL_law__2724 1 rfl ?_
  refine r_aload_n dL_law__2725 0 rfl ?_
  refine r_iload dL_law__2726 4 rfl ?_
  refine r_iconst 1 dL_law__2728 rfl ?_
  refine r_iadd dL_law__2729 ?_
  refine r_sldA hx1 dL_law__2730 ?_
  refine r_cvI (ok_X9_count (hG.le (by decide)) a1 μ) lL_263 (hG.lt (by decide)) sh0 ⟨_, _, rfl⟩ dL_law__2731 (by decide) (Nat.le_of_ble_eq_true rfl) rfl (Nat.le_of_ble_eq_true rfl) ?_
  refine r_aload_n dL_law__2734 2 rfl ?_
  refine r_aload_n dL_law__2735 0 rfl ?_
  refine r_iload dL_law__2736 4 rfl ?_
  refine r_iconst 1 dL_law__2738 rfl ?_
  refine r_iadd dL_law__2739 ?_
  refine r_sldA hx1 dL_law__2740 ?_
  refine r_cvI (ok_X10_count (hG.le (by decide)) a1 μ) lL_266 (hG.lt (by decide)) sh57 ⟨_, _, rfl⟩ dL_law__2741 (by decide) (Nat.le_of_ble_eq_true rfl) rfl (Nat.le_of_ble_eq_true rfl) ?_
  refine r_mu (muL_law_c40_1 a1 μ) rfl ?_
  refine r_icmp_eq 2749 dL_law__2744 (by decide) (fun c1 => ?_) (fun c1 => ?_)
  · replace hP := hP.1 c1
    refine r_iinc (p4 + 8) [(4, _), (0, _), (1, _), (2, _), (3, _)] dL_law__2749 4 rfl rfl (Nat.le_of_ble_eq_true rfl) rfl ?_
    refine r_goto 23 dL_law__2752 (by decide) ?_
    exact r_sub [1, 2, 3, 4, 0] rfl h
  · replace hP := hP.2 c1
    refine r_iconst 0 dL_law__2747 rfl ?_
    exact hP.elim
