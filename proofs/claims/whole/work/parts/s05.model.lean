/-! THE START: the reference's constructor, by program -/
theorem w_cMM : Cond.classLink RX10 38 "[[I" ∈ BIG := bc6 125 (by decide +kernel) (by decide +kernel)
/-- the words of a row of fields, walked -/
def mz (f : Nat → Option Nat → Value) : Nat → List (Option Nat) → List Value
  | _, [] => []
  | i, a :: l => f i a :: mz f (i + 1) l
theorem mz_eq : ∀ (l : List (Option Nat)) (f : Nat → Option Nat → Value) (i : Nat), mz f i l = l.mapIdx (fun k => f (i + k))
  | [], _, _ => rfl
  | a :: l, f, i => by
    show f i a :: mz f (i + 1) l = _
    rw [mz_eq l f (i + 1), List.mapIdx_cons]
    refine congrArg (List.cons _) (congrArg (fun g => List.mapIdx g l) ?_)
    funext k
    rw [Nat.add_assoc, Nat.add_comm 1 k]
def f57 : List (Option Nat) := [none, none, none, none, none, none, none, none, none, some 58, some 59, some 60, some 61, some 62, some 63, some 64, some 65, some 66, some 77, some 88, some 95, none, none, some 102, some 263, some 424, some 431, some 438, some 439, some 440, none, some 521, some 522, some 523, some 524, some 525, some 526, some 543, none, none, none, none, none, none, none, none, none, some 547, none, none]
theorem fsh57 : fsh 57 = f57 := by decide +kernel
def g57 (G : SG) (k : Nat) (o : Option Nat) : Value := match o with
  | some j => .ref (ga G j)
  | none => .int (if k = 3 then -1 else 0)
theorem g57_eq {G : SG} {μ : Mem} (h : μ 57 = mu0 57) : fldV G μ 57 = g57 G := by
  funext k o
  cases o with
  | some j => rfl
  | none => show Value.int (μ 57 k) = .int (if k = 3 then -1 else 0); rw [h]; rfl
theorem ent57 {G : SG} {μ : Mem} (h : μ 57 = mu0 57) : ent G μ 57 = .inr (9, [.int 0, .int 0, .int 0, .int (-1), .int 0, .int 0, .int 0, .int 0, .int 0, .ref (ga G 58), .ref (ga G 59), .ref (ga G 60), .ref (ga G 61), .ref (ga G 62), .ref (ga G 63), .ref (ga G 64), .ref (ga G 65), .ref (ga G 66), .ref (ga G 77), .ref (ga G 88), .ref (ga G 95), .int 0, .int 0, .ref (ga G 102), .ref (ga G 263), .ref (ga G 424), .ref (ga G 431), .ref (ga G 438), .ref (ga G 439), .ref (ga G 440), .int 0, .ref (ga G 521), .ref (ga G 522), .ref (ga G 523), .ref (ga G 524), .ref (ga G 525), .ref (ga G 526), .ref (ga G 543), .int 0, .int 0, .int 0, .int 0, .int 0, .int 0, .int 0, .int 0, .int 0, .ref (ga G 547), .int 0, .int 0]) := by
  rw [ent_obj sh57, g57_eq h, fsh57]
  refine congrArg Sum.inr (congrArg (Prod.mk 9) ?_)
  have q := mz_eq f57 (g57 G) 0
  rw [show (fun k => g57 G (0 + k)) = g57 G from funext (fun k => by rw [Nat.zero_add])] at q
  rw [← q]
  rfl
set_option maxRecDepth 20000 in
set_option maxHeartbeats 16000000 in
theorem c_X10_57 {G : SG} {μ1 : Mem} (hG : GA G) (hg : gh G = 549) (hfl : (gL G).stackTraces = false) (e66 : gA G 66 = gA G 66) (r66 : ∀ j, j < 10 → gA G (66 + 1 + j) = gA G 58) (e77 : gA G 77 = gA G 66) (r77 : ∀ j, j < 10 → gA G (77 + 1 + j) = gA G 58) (e88 : gA G 88 = gA G 66) (r88 : ∀ j, j < 6 → gA G (88 + 1 + j) = gA G 58) (e95 : gA G 95 = gA G 66) (r95 : ∀ j, j < 6 → gA G (95 + 1 + j) = gA G 58) (e102 : gA G 102 = gA G 66) (r102 : ∀ j, j < 160 → gA G (102 + 1 + j) = gA G 58) (e263 : gA G 263 = gA G 66) (r263 : ∀ j, j < 160 → gA G (263 + 1 + j) = gA G 58) (e424 : gA G 424 = gA G 66) (r424 : ∀ j, j < 6 → gA G (424 + 1 + j) = gA G 58) (e431 : gA G 431 = gA G 66) (r431 : ∀ j, j < 6 → gA G (431 + 1 + j) = gA G 58) (e440 : gA G 440 = gA G 66) (r440 : ∀ j, j < 80 → gA G (440 + 1 + j) = gA G 58) (e526 : gA G 526 = gA G 66) (r526 : ∀ j, j < 16 → gA G (526 + 1 + j) = gA G 58) (e543 : gA G 543 = gA G 66) (r543 : ∀ j, j < 3 → gA G (543 + 1 + j) = gA G 58) (hμ : ∀ r, 57 ≤ r → μ1 r = mu0 r) (hP1 : P_X10_tellsNothing μ1) (hP2 : P_X10_beginsAnew (M_X10_tellsNothing μ1)) : OkN G mX10_init [.ref (ga G 57)] 58 (upE (ent G μ1) 57 (.inr (9, [.int 0, .int 0, .int 0, .int 0, .int 0, .int 0, .int 0, .int 0, .int 0, .null, .null, .null, .null, .null, .null, .null, .null, .null, .null, .null, .null, .int 0, .int 0, .null, .null, .null, .null, .null, .null, .null, .int 0, .null, .null, .null, .null, .null, .null, .null, .int 0, .int 0, .int 0, .int 0, .int 0, .int 0, .int 0, .int 0, .int 0, .null, .int 0, .int 0]))) 548 (ent G (M_X10_beginsAnew (M_X10_tellsNothing μ1))) := by
  refine okN_ofR (μ0 := μ1) (pf := 263) (lf := [(0, .ref (ga G 57))]) hG hg hfl rfl (by decide +kernel) (Nat.le_of_ble_eq_true rfl) rfl (by decide) (by decide) ?_ ?_
  · refine rk_aload dX10_init_0 0 rfl ?_
    refine rk_obj (bc6 124 (by decide +kernel) (by decide +kernel)) w_oi1 w_oi2 dX10_init_1 ?_
    refine rk_aload dX10_init_4 0 rfl ?_
    refine rk_iconst (-1) dX10_init_5 rfl ?_
    refine rk_putI (ci := 9) (kf := 3) (h := 57) (fs := [.int 0, .int 0, .int 0, .int 0, .int 0, .int 0, .int 0, .int 0, .int 0, .null, .null, .null, .null, .null, .null, .null, .null, .null, .null, .null, .null, .int 0, .int 0, .null, .null, .null, .null, .null, .null, .null, .int 0, .null, .null, .null, .null, .null, .null, .null, .int 0, .int 0, .int 0, .int 0, .int 0, .int 0, .int 0, .int 0, .int 0, .null, .int 0, .int 0]) hG (by decide) (by decide) (upE_eq) fiX10_9 (Nat.le_of_ble_eq_true rfl) dX10_init_6 ?_
    refine rk_aload dX10_init_9 0 rfl ?_
    refine rk_sipush (600) dX10_init_10 rfl ?_
    refine rk_newa (N := 600) hG hg sh58 dX10_init_13 (by decide) rfl (by decide) (by decide) (by decide) w_arI ?_
    refine rk_putF (ci := 9) (kf := 9) (h := 57) (N := 50) (fs := [.int 0, .int 0, .int 0, .int (-1), .int 0, .int 0, .int 0, .int 0, .int 0, .null, .null, .null, .null, .null, .null, .null, .null, .null, .null, .null, .null, .int 0, .int 0, .null, .null, .null, .null, .null, .null, .null, .int 0, .null, .null, .null, .null, .null, .null, .null, .int 0, .int 0, .int 0, .int 0, .int 0, .int 0, .int 0, .int 0, .int 0, .null, .int 0, .int 0]) (Cn := RX10) (T := TX10) (ty0 := tyX10) (ty := .array .int) hG (by decide) (by decide) ((upE_ne (by decide)).trans (upE_eq)) rfl inc_X10 tyX10_ok nmX10 (by decide) (bc6 147 (by decide +kernel) (by decide +kernel)) rfl rfl rfl (by decide +kernel) rfl rfl (Nat.le_of_ble_eq_true rfl) dX10_init_15 ?_
    refine rk_aload dX10_init_18 0 rfl ?_
    refine rk_iconst (2) dX10_init_19 rfl ?_
    refine rk_newa (N := 2) hG hg sh59 dX10_init_20 (by decide) rfl (by decide) (by decide) (by decide) w_arI ?_
    refine rk_putF (ci := 9) (kf := 10) (h := 57) (N := 50) (fs := [.int 0, .int 0, .int 0, .int (-1), .int 0, .int 0, .int 0, .int 0, .int 0, .ref (ga G 58), .null, .null, .null, .null, .null, .null, .null, .null, .null, .null, .null, .int 0, .int 0, .null, .null, .null, .null, .null, .null, .null, .int 0, .null, .null, .null, .null, .null, .null, .null, .int 0, .int 0, .int 0, .int 0, .int 0, .int 0, .int 0, .int 0, .int 0, .null, .int 0, .int 0]) (Cn := RX10) (T := TX10) (ty0 := tyX10) (ty := .array .int) hG (by decide) (by decide) ((upE_ne (by decide)).trans (upE_eq)) rfl inc_X10 tyX10_ok nmX10 (by decide) (bc6 148 (by decide +kernel) (by decide +kernel)) rfl rfl rfl (by decide +kernel) rfl rfl (Nat.le_of_ble_eq_true rfl) dX10_init_22 ?_
    refine rk_aload dX10_init_25 0 rfl ?_
    refine rk_bipush (6) dX10_init_26 rfl ?_
    refine rk_newa (N := 6) hG hg sh60 dX10_init_28 (by decide) rfl (by decide) (by decide) (by decide) w_arI ?_
    refine rk_putF (ci := 9) (kf := 11) (h := 57) (N := 50) (fs := [.int 0, .int 0, .int 0, .int (-1), .int 0, .int 0, .int 0, .int 0, .int 0, .ref (ga G 58), .ref (ga G 59), .null, .null, .null, .null, .null, .null, .null, .null, .null, .null, .int 0, .int 0, .null, .null, .null, .null, .null, .null, .null, .int 0, .null, .null, .null, .null, .null, .null, .null, .int 0, .int 0, .int 0, .int 0, .int 0, .int 0, .int 0, .int 0, .int 0, .null, .int 0, .int 0]) (Cn := RX10) (T := TX10) (ty0 := tyX10) (ty := .array .int) hG (by decide) (by decide) ((upE_ne (by decide)).trans (upE_eq)) rfl inc_X10 tyX10_ok nmX10 (by decide) (bc6 149 (by decide +kernel) (by decide +kernel)) rfl rfl rfl (by decide +kernel) rfl rfl (Nat.le_of_ble_eq_true rfl) dX10_init_30 ?_
    refine rk_aload dX10_init_33 0 rfl ?_
    refine rk_bipush (6) dX10_init_34 rfl ?_
    refine rk_newa (N := 6) hG hg sh61 dX10_init_36 (by decide) rfl (by decide) (by decide) (by decide) w_arI ?_
    refine rk_putF (ci := 9) (kf := 12) (h := 57) (N := 50) (fs := [.int 0, .int 0, .int 0, .int (-1), .int 0, .int 0, .int 0, .int 0, .int 0, .ref (ga G 58), .ref (ga G 59), .ref (ga G 60), .null, .null, .null, .null, .null, .null, .null, .null, .null, .int 0, .int 0, .null, .null, .null, .null, .null, .null, .null, .int 0, .null, .null, .null, .null, .null, .null, .null, .int 0, .int 0, .int 0, .int 0, .int 0, .int 0, .int 0, .int 0, .int 0, .null, .int 0, .int 0]) (Cn := RX10) (T := TX10) (ty0 := tyX10) (ty := .array .int) hG (by decide) (by decide) ((upE_ne (by decide)).trans (upE_eq)) rfl inc_X10 tyX10_ok nmX10 (by decide) (bc6 150 (by decide +kernel) (by decide +kernel)) rfl rfl rfl (by decide +kernel) rfl rfl (Nat.le_of_ble_eq_true rfl) dX10_init_38 ?_
    refine rk_aload dX10_init_41 0 rfl ?_
    refine rk_bipush (6) dX10_init_42 rfl ?_
    refine rk_newa (N := 6) hG hg sh62 dX10_init_44 (by decide) rfl (by decide) (by decide) (by decide) w_arI ?_
    refine rk_putF (ci := 9) (kf := 13) (h := 57) (N := 50) (fs := [.int 0, .int 0, .int 0, .int (-1), .int 0, .int 0, .int 0, .int 0, .int 0, .ref (ga G 58), .ref (ga G 59), .ref (ga G 60), .ref (ga G 61), .null, .null, .null, .null, .null, .null, .null, .null, .int 0, .int 0, .null, .null, .null, .null, .null, .null, .null, .int 0, .null, .null, .null, .null, .null, .null, .null, .int 0, .int 0, .int 0, .int 0, .int 0, .int 0, .int 0, .int 0, .int 0, .null, .int 0, .int 0]) (Cn := RX10) (T := TX10) (ty0 := tyX10) (ty := .array .int) hG (by decide) (by decide) ((upE_ne (by decide)).trans (upE_eq)) rfl inc_X10 tyX10_ok nmX10 (by decide) (bc6 151 (by decide +kernel) (by decide +kernel)) rfl rfl rfl (by decide +kernel) rfl rfl (Nat.le_of_ble_eq_true rfl) dX10_init_46 ?_
    refine rk_aload dX10_init_49 0 rfl ?_
    refine rk_bipush (6) dX10_init_50 rfl ?_
    refine rk_newa (N := 6) hG hg sh63 dX10_init_52 (by decide) rfl (by decide) (by decide) (by decide) w_arI ?_
    refine rk_putF (ci := 9) (kf := 14) (h := 57) (N := 50) (fs := [.int 0, .int 0, .int 0, .int (-1), .int 0, .int 0, .int 0, .int 0, .int 0, .ref (ga G 58), .ref (ga G 59), .ref (ga G 60), .ref (ga G 61), .ref (ga G 62), .null, .null, .null, .null, .null, .null, .null, .int 0, .int 0, .null, .null, .null, .null, .null, .null, .null, .int 0, .null, .null, .null, .null, .null, .null, .null, .int 0, .int 0, .int 0, .int 0, .int 0, .int 0, .int 0, .int 0, .int 0, .null, .int 0, .int 0]) (Cn := RX10) (T := TX10) (ty0 := tyX10) (ty := .array .int) hG (by decide) (by decide) ((upE_ne (by decide)).trans (upE_eq)) rfl inc_X10 tyX10_ok nmX10 (by decide) (bc6 152 (by decide +kernel) (by decide +kernel)) rfl rfl rfl (by decide +kernel) rfl rfl (Nat.le_of_ble_eq_true rfl) dX10_init_54 ?_
    refine rk_aload dX10_init_57 0 rfl ?_
    refine rk_bipush (12) dX10_init_58 rfl ?_
    refine rk_newa (N := 12) hG hg sh64 dX10_init_60 (by decide) rfl (by decide) (by decide) (by decide) w_arI ?_
    refine rk_putF (ci := 9) (kf := 15) (h := 57) (N := 50) (fs := [.int 0, .int 0, .int 0, .int (-1), .int 0, .int 0, .int 0, .int 0, .int 0, .ref (ga G 58), .ref (ga G 59), .ref (ga G 60), .ref (ga G 61), .ref (ga G 62), .ref (ga G 63), .null, .null, .null, .null, .null, .null, .int 0, .int 0, .null, .null, .null, .null, .null, .null, .null, .int 0, .null, .null, .null, .null, .null, .null, .null, .int 0, .int 0, .int 0, .int 0, .int 0, .int 0, .int 0, .int 0, .int 0, .null, .int 0, .int 0]) (Cn := RX10) (T := TX10) (ty0 := tyX10) (ty := .array .int) hG (by decide) (by decide) ((upE_ne (by decide)).trans (upE_eq)) rfl inc_X10 tyX10_ok nmX10 (by decide) (bc6 153 (by decide +kernel) (by decide +kernel)) rfl rfl rfl (by decide +kernel) rfl rfl (Nat.le_of_ble_eq_true rfl) dX10_init_62 ?_
    refine rk_aload dX10_init_65 0 rfl ?_
    refine rk_bipush (12) dX10_init_66 rfl ?_
    refine rk_newa (N := 12) hG hg sh65 dX10_init_68 (by decide) rfl (by decide) (by decide) (by decide) w_arI ?_
    refine rk_putF (ci := 9) (kf := 16) (h := 57) (N := 50) (fs := [.int 0, .int 0, .int 0, .int (-1), .int 0, .int 0, .int 0, .int 0, .int 0, .ref (ga G 58), .ref (ga G 59), .ref (ga G 60), .ref (ga G 61), .ref (ga G 62), .ref (ga G 63), .ref (ga G 64), .null, .null, .null, .null, .null, .int 0, .int 0, .null, .null, .null, .null, .null, .null, .null, .int 0, .null, .null, .null, .null, .null, .null, .null, .int 0, .int 0, .int 0, .int 0, .int 0, .int 0, .int 0, .int 0, .int 0, .null, .int 0, .int 0]) (Cn := RX10) (T := TX10) (ty0 := tyX10) (ty := .array .int) hG (by decide) (by decide) ((upE_ne (by decide)).trans (upE_eq)) rfl inc_X10 tyX10_ok nmX10 (by decide) (bc6 154 (by decide +kernel) (by decide +kernel)) rfl rfl rfl (by decide +kernel) rfl rfl (Nat.le_of_ble_eq_true rfl) dX10_init_70 ?_
    refine rk_aload dX10_init_73 0 rfl ?_
    refine rk_bipush (10) dX10_init_74 rfl ?_
    refine rk_iconst (4) dX10_init_76 rfl ?_
    refine rk_multi (N := 10) (M := 4) hG hg sh66 shr66 e66 r66 w_cMM w_arI dX10_init_77 (by decide) (by decide) rfl rfl (by decide) (by decide) (by decide) (by decide) ?_
    refine rk_putF (ci := 9) (kf := 17) (h := 57) (N := 50) (fs := [.int 0, .int 0, .int 0, .int (-1), .int 0, .int 0, .int 0, .int 0, .int 0, .ref (ga G 58), .ref (ga G 59), .ref (ga G 60), .ref (ga G 61), .ref (ga G 62), .ref (ga G 63), .ref (ga G 64), .ref (ga G 65), .null, .null, .null, .null, .int 0, .int 0, .null, .null, .null, .null, .null, .null, .null, .int 0, .null, .null, .null, .null, .null, .null, .null, .int 0, .int 0, .int 0, .int 0, .int 0, .int 0, .int 0, .int 0, .int 0, .null, .int 0, .int 0]) (Cn := RX10) (T := TX10) (ty0 := tyX10) (ty := .array (.array .int)) hG (by decide) (by decide) ((upM_out (Or.inl (by decide))).trans (upE_eq)) rfl inc_X10 tyX10_ok nmX10 (by decide) (bc6 155 (by decide +kernel) (by decide +kernel)) rfl rfl rfl (by decide +kernel) rfl rfl (Nat.le_of_ble_eq_true rfl) dX10_init_81 ?_
    refine rk_aload dX10_init_84 0 rfl ?_
    refine rk_bipush (10) dX10_init_85 rfl ?_
    refine rk_iconst (4) dX10_init_87 rfl ?_
    refine rk_multi (N := 10) (M := 4) hG hg sh77 shr77 e77 r77 w_cMM w_arI dX10_init_88 (by decide) (by decide) rfl rfl (by decide) (by decide) (by decide) (by decide) ?_
    refine rk_putF (ci := 9) (kf := 18) (h := 57) (N := 50) (fs := [.int 0, .int 0, .int 0, .int (-1), .int 0, .int 0, .int 0, .int 0, .int 0, .ref (ga G 58), .ref (ga G 59), .ref (ga G 60), .ref (ga G 61), .ref (ga G 62), .ref (ga G 63), .ref (ga G 64), .ref (ga G 65), .ref (ga G 66), .null, .null, .null, .int 0, .int 0, .null, .null, .null, .null, .null, .null, .null, .int 0, .null, .null, .null, .null, .null, .null, .null, .int 0, .int 0, .int 0, .int 0, .int 0, .int 0, .int 0, .int 0, .int 0, .null, .int 0, .int 0]) (Cn := RX10) (T := TX10) (ty0 := tyX10) (ty := .array (.array .int)) hG (by decide) (by decide) ((upM_out (Or.inl (by decide))).trans (upE_eq)) rfl inc_X10 tyX10_ok nmX10 (by decide) (bc6 156 (by decide +kernel) (by decide +kernel)) rfl rfl rfl (by decide +kernel) rfl rfl (Nat.le_of_ble_eq_true rfl) dX10_init_92 ?_
    refine rk_aload dX10_init_95 0 rfl ?_
    refine rk_bipush (6) dX10_init_96 rfl ?_
    refine rk_iconst (2) dX10_init_98 rfl ?_
    refine rk_multi (N := 6) (M := 2) hG hg sh88 shr88 e88 r88 w_cMM w_arI dX10_init_99 (by decide) (by decide) rfl rfl (by decide) (by decide) (by decide) (by decide) ?_
    refine rk_putF (ci := 9) (kf := 19) (h := 57) (N := 50) (fs := [.int 0, .int 0, .int 0, .int (-1), .int 0, .int 0, .int 0, .int 0, .int 0, .ref (ga G 58), .ref (ga G 59), .ref (ga G 60), .ref (ga G 61), .ref (ga G 62), .ref (ga G 63), .ref (ga G 64), .ref (ga G 65), .ref (ga G 66), .ref (ga G 77), .null, .null, .int 0, .int 0, .null, .null, .null, .null, .null, .null, .null, .int 0, .null, .null, .null, .null, .null, .null, .null, .int 0, .int 0, .int 0, .int 0, .int 0, .int 0, .int 0, .int 0, .int 0, .null, .int 0, .int 0]) (Cn := RX10) (T := TX10) (ty0 := tyX10) (ty := .array (.array .int)) hG (by decide) (by decide) ((upM_out (Or.inl (by decide))).trans (upE_eq)) rfl inc_X10 tyX10_ok nmX10 (by decide) (bc6 157 (by decide +kernel) (by decide +kernel)) rfl rfl rfl (by decide +kernel) rfl rfl (Nat.le_of_ble_eq_true rfl) dX10_init_103 ?_
    refine rk_aload dX10_init_106 0 rfl ?_
    refine rk_bipush (6) dX10_init_107 rfl ?_
    refine rk_iconst (2) dX10_init_109 rfl ?_
    refine rk_multi (N := 6) (M := 2) hG hg sh95 shr95 e95 r95 w_cMM w_arI dX10_init_110 (by decide) (by decide) rfl rfl (by decide) (by decide) (by decide) (by decide) ?_
    refine rk_putF (ci := 9) (kf := 20) (h := 57) (N := 50) (fs := [.int 0, .int 0, .int 0, .int (-1), .int 0, .int 0, .int 0, .int 0, .int 0, .ref (ga G 58), .ref (ga G 59), .ref (ga G 60), .ref (ga G 61), .ref (ga G 62), .ref (ga G 63), .ref (ga G 64), .ref (ga G 65), .ref (ga G 66), .ref (ga G 77), .ref (ga G 88), .null, .int 0, .int 0, .null, .null, .null, .null, .null, .null, .null, .int 0, .null, .null, .null, .null, .null, .null, .null, .int 0, .int 0, .int 0, .int 0, .int 0, .int 0, .int 0, .int 0, .int 0, .null, .int 0, .int 0]) (Cn := RX10) (T := TX10) (ty0 := tyX10) (ty := .array (.array .int)) hG (by decide) (by decide) ((upM_out (Or.inl (by decide))).trans (upE_eq)) rfl inc_X10 tyX10_ok nmX10 (by decide) (bc6 158 (by decide +kernel) (by decide +kernel)) rfl rfl rfl (by decide +kernel) rfl rfl (Nat.le_of_ble_eq_true rfl) dX10_init_114 ?_
    refine rk_aload dX10_init_117 0 rfl ?_
    refine rk_sipush (160) dX10_init_118 rfl ?_
    refine rk_iconst (2) dX10_init_121 rfl ?_
    refine rk_multi (N := 160) (M := 2) hG hg sh102 shr102 e102 r102 w_cMM w_arI dX10_init_122 (by decide) (by decide) rfl rfl (by decide) (by decide) (by decide) (by decide) ?_
    refine rk_putF (ci := 9) (kf := 23) (h := 57) (N := 50) (fs := [.int 0, .int 0, .int 0, .int (-1), .int 0, .int 0, .int 0, .int 0, .int 0, .ref (ga G 58), .ref (ga G 59), .ref (ga G 60), .ref (ga G 61), .ref (ga G 62), .ref (ga G 63), .ref (ga G 64), .ref (ga G 65), .ref (ga G 66), .ref (ga G 77), .ref (ga G 88), .ref (ga G 95), .int 0, .int 0, .null, .null, .null, .null, .null, .null, .null, .int 0, .null, .null, .null, .null, .null, .null, .null, .int 0, .int 0, .int 0, .int 0, .int 0, .int 0, .int 0, .int 0, .int 0, .null, .int 0, .int 0]) (Cn := RX10) (T := TX10) (ty0 := tyX10) (ty := .array (.array .int)) hG (by decide) (by decide) ((upM_out (Or.inl (by decide))).trans (upE_eq)) rfl inc_X10 tyX10_ok nmX10 (by decide) (bc6 161 (by decide +kernel) (by decide +kernel)) rfl rfl rfl (by decide +kernel) rfl rfl (Nat.le_of_ble_eq_true rfl) dX10_init_126 ?_
    refine rk_aload dX10_init_129 0 rfl ?_
    refine rk_sipush (160) dX10_init_130 rfl ?_
    refine rk_iconst (2) dX10_init_133 rfl ?_
    refine rk_multi (N := 160) (M := 2) hG hg sh263 shr263 e263 r263 w_cMM w_arI dX10_init_134 (by decide) (by decide) rfl rfl (by decide) (by decide) (by decide) (by decide) ?_
    refine rk_putF (ci := 9) (kf := 24) (h := 57) (N := 50) (fs := [.int 0, .int 0, .int 0, .int (-1), .int 0, .int 0, .int 0, .int 0, .int 0, .ref (ga G 58), .ref (ga G 59), .ref (ga G 60), .ref (ga G 61), .ref (ga G 62), .ref (ga G 63), .ref (ga G 64), .ref (ga G 65), .ref (ga G 66), .ref (ga G 77), .ref (ga G 88), .ref (ga G 95), .int 0, .int 0, .ref (ga G 102), .null, .null, .null, .null, .null, .null, .int 0, .null, .null, .null, .null, .null, .null, .null, .int 0, .int 0, .int 0, .int 0, .int 0, .int 0, .int 0, .int 0, .int 0, .null, .int 0, .int 0]) (Cn := RX10) (T := TX10) (ty0 := tyX10) (ty := .array (.array .int)) hG (by decide) (by decide) ((upM_out (Or.inl (by decide))).trans (upE_eq)) rfl inc_X10 tyX10_ok nmX10 (by decide) (bc6 162 (by decide +kernel) (by decide +kernel)) rfl rfl rfl (by decide +kernel) rfl rfl (Nat.le_of_ble_eq_true rfl) dX10_init_138 ?_
    refine rk_aload dX10_init_141 0 rfl ?_
    refine rk_bipush (6) dX10_init_142 rfl ?_
    refine rk_iconst (2) dX10_init_144 rfl ?_
    refine rk_multi (N := 6) (M := 2) hG hg sh424 shr424 e424 r424 w_cMM w_arI dX10_init_145 (by decide) (by decide) rfl rfl (by decide) (by decide) (by decide) (by decide) ?_
    refine rk_putF (ci := 9) (kf := 25) (h := 57) (N := 50) (fs := [.int 0, .int 0, .int 0, .int (-1), .int 0, .int 0, .int 0, .int 0, .int 0, .ref (ga G 58), .ref (ga G 59), .ref (ga G 60), .ref (ga G 61), .ref (ga G 62), .ref (ga G 63), .ref (ga G 64), .ref (ga G 65), .ref (ga G 66), .ref (ga G 77), .ref (ga G 88), .ref (ga G 95), .int 0, .int 0, .ref (ga G 102), .ref (ga G 263), .null, .null, .null, .null, .null, .int 0, .null, .null, .null, .null, .null, .null, .null, .int 0, .int 0, .int 0, .int 0, .int 0, .int 0, .int 0, .int 0, .int 0, .null, .int 0, .int 0]) (Cn := RX10) (T := TX10) (ty0 := tyX10) (ty := .array (.array .int)) hG (by decide) (by decide) ((upM_out (Or.inl (by decide))).trans (upE_eq)) rfl inc_X10 tyX10_ok nmX10 (by decide) (bc6 163 (by decide +kernel) (by decide +kernel)) rfl rfl rfl (by decide +kernel) rfl rfl (Nat.le_of_ble_eq_true rfl) dX10_init_149 ?_
    refine rk_aload dX10_init_152 0 rfl ?_
    refine rk_bipush (6) dX10_init_153 rfl ?_
    refine rk_iconst (2) dX10_init_155 rfl ?_
    refine rk_multi (N := 6) (M := 2) hG hg sh431 shr431 e431 r431 w_cMM w_arI dX10_init_156 (by decide) (by decide) rfl rfl (by decide) (by decide) (by decide) (by decide) ?_
    refine rk_putF (ci := 9) (kf := 26) (h := 57) (N := 50) (fs := [.int 0, .int 0, .int 0, .int (-1), .int 0, .int 0, .int 0, .int 0, .int 0, .ref (ga G 58), .ref (ga G 59), .ref (ga G 60), .ref (ga G 61), .ref (ga G 62), .ref (ga G 63), .ref (ga G 64), .ref (ga G 65), .ref (ga G 66), .ref (ga G 77), .ref (ga G 88), .ref (ga G 95), .int 0, .int 0, .ref (ga G 102), .ref (ga G 263), .ref (ga G 424), .null, .null, .null, .null, .int 0, .null, .null, .null, .null, .null, .null, .null, .int 0, .int 0, .int 0, .int 0, .int 0, .int 0, .int 0, .int 0, .int 0, .null, .int 0, .int 0]) (Cn := RX10) (T := TX10) (ty0 := tyX10) (ty := .array (.array .int)) hG (by decide) (by decide) ((upM_out (Or.inl (by decide))).trans (upE_eq)) rfl inc_X10 tyX10_ok nmX10 (by decide) (bc6 164 (by decide +kernel) (by decide +kernel)) rfl rfl rfl (by decide +kernel) rfl rfl (Nat.le_of_ble_eq_true rfl) dX10_init_160 ?_
    refine rk_aload dX10_init_163 0 rfl ?_
    refine rk_sipush (160) dX10_init_164 rfl ?_
    refine rk_newa (N := 160) hG hg sh438 dX10_init_167 (by decide) rfl (by decide) (by decide) (by decide) w_arI ?_
    refine rk_putF (ci := 9) (kf := 27) (h := 57) (N := 50) (fs := [.int 0, .int 0, .int 0, .int (-1), .int 0, .int 0, .int 0, .int 0, .int 0, .ref (ga G 58), .ref (ga G 59), .ref (ga G 60), .ref (ga G 61), .ref (ga G 62), .ref (ga G 63), .ref (ga G 64), .ref (ga G 65), .ref (ga G 66), .ref (ga G 77), .ref (ga G 88), .ref (ga G 95), .int 0, .int 0, .ref (ga G 102), .ref (ga G 263), .ref (ga G 424), .ref (ga G 431), .null, .null, .null, .int 0, .null, .null, .null, .null, .null, .null, .null, .int 0, .int 0, .int 0, .int 0, .int 0, .int 0, .int 0, .int 0, .int 0, .null, .int 0, .int 0]) (Cn := RX10) (T := TX10) (ty0 := tyX10) (ty := .array .int) hG (by decide) (by decide) ((upE_ne (by decide)).trans (upE_eq)) rfl inc_X10 tyX10_ok nmX10 (by decide) (bc6 165 (by decide +kernel) (by decide +kernel)) rfl rfl rfl (by decide +kernel) rfl rfl (Nat.le_of_ble_eq_true rfl) dX10_init_169 ?_
    refine rk_aload dX10_init_172 0 rfl ?_
    refine rk_bipush (7) dX10_init_173 rfl ?_
    refine rk_newa (N := 7) hG hg sh439 dX10_init_175 (by decide) rfl (by decide) (by decide) (by decide) w_arI ?_
    refine rk_putF (ci := 9) (kf := 28) (h := 57) (N := 50) (fs := [.int 0, .int 0, .int 0, .int (-1), .int 0, .int 0, .int 0, .int 0, .int 0, .ref (ga G 58), .ref (ga G 59), .ref (ga G 60), .ref (ga G 61), .ref (ga G 62), .ref (ga G 63), .ref (ga G 64), .ref (ga G 65), .ref (ga G 66), .ref (ga G 77), .ref (ga G 88), .ref (ga G 95), .int 0, .int 0, .ref (ga G 102), .ref (ga G 263), .ref (ga G 424), .ref (ga G 431), .ref (ga G 438), .null, .null, .int 0, .null, .null, .null, .null, .null, .null, .null, .int 0, .int 0, .int 0, .int 0, .int 0, .int 0, .int 0, .int 0, .int 0, .null, .int 0, .int 0]) (Cn := RX10) (T := TX10) (ty0 := tyX10) (ty := .array .int) hG (by decide) (by decide) ((upE_ne (by decide)).trans (upE_eq)) rfl inc_X10 tyX10_ok nmX10 (by decide) (bc6 166 (by decide +kernel) (by decide +kernel)) rfl rfl rfl (by decide +kernel) rfl rfl (Nat.le_of_ble_eq_true rfl) dX10_init_177 ?_
    refine rk_aload dX10_init_180 0 rfl ?_
    refine rk_bipush (80) dX10_init_181 rfl ?_
    refine rk_iconst (3) dX10_init_183 rfl ?_
    refine rk_multi (N := 80) (M := 3) hG hg sh440 shr440 e440 r440 w_cMM w_arI dX10_init_184 (by decide) (by decide) rfl rfl (by decide) (by decide) (by decide) (by decide) ?_
    refine rk_putF (ci := 9) (kf := 29) (h := 57) (N := 50) (fs := [.int 0, .int 0, .int 0, .int (-1), .int 0, .int 0, .int 0, .int 0, .int 0, .ref (ga G 58), .ref (ga G 59), .ref (ga G 60), .ref (ga G 61), .ref (ga G 62), .ref (ga G 63), .ref (ga G 64), .ref (ga G 65), .ref (ga G 66), .ref (ga G 77), .ref (ga G 88), .ref (ga G 95), .int 0, .int 0, .ref (ga G 102), .ref (ga G 263), .ref (ga G 424), .ref (ga G 431), .ref (ga G 438), .ref (ga G 439), .null, .int 0, .null, .null, .null, .null, .null, .null, .null, .int 0, .int 0, .int 0, .int 0, .int 0, .int 0, .int 0, .int 0, .int 0, .null, .int 0, .int 0]) (Cn := RX10) (T := TX10) (ty0 := tyX10) (ty := .array (.array .int)) hG (by decide) (by decide) ((upM_out (Or.inl (by decide))).trans (upE_eq)) rfl inc_X10 tyX10_ok nmX10 (by decide) (bc6 167 (by decide +kernel) (by decide +kernel)) rfl rfl rfl (by decide +kernel) rfl rfl (Nat.le_of_ble_eq_true rfl) dX10_init_188 ?_
    refine rk_aload dX10_init_191 0 rfl ?_
    refine rk_bipush (63) dX10_init_192 rfl ?_
    refine rk_newa (N := 63) hG hg sh521 dX10_init_194 (by decide) rfl (by decide) (by decide) (by decide) w_arI ?_
    refine rk_putF (ci := 9) (kf := 31) (h := 57) (N := 50) (fs := [.int 0, .int 0, .int 0, .int (-1), .int 0, .int 0, .int 0, .int 0, .int 0, .ref (ga G 58), .ref (ga G 59), .ref (ga G 60), .ref (ga G 61), .ref (ga G 62), .ref (ga G 63), .ref (ga G 64), .ref (ga G 65), .ref (ga G 66), .ref (ga G 77), .ref (ga G 88), .ref (ga G 95), .int 0, .int 0, .ref (ga G 102), .ref (ga G 263), .ref (ga G 424), .ref (ga G 431), .ref (ga G 438), .ref (ga G 439), .ref (ga G 440), .int 0, .null, .null, .null, .null, .null, .null, .null, .int 0, .int 0, .int 0, .int 0, .int 0, .int 0, .int 0, .int 0, .int 0, .null, .int 0, .int 0]) (Cn := RX10) (T := TX10) (ty0 := tyX10) (ty := .array .int) hG (by decide) (by decide) ((upE_ne (by decide)).trans (upE_eq)) rfl inc_X10 tyX10_ok nmX10 (by decide) (bc6 169 (by decide +kernel) (by decide +kernel)) rfl rfl rfl (by decide +kernel) rfl rfl (Nat.le_of_ble_eq_true rfl) dX10_init_196 ?_
    refine rk_aload dX10_init_199 0 rfl ?_
    refine rk_bipush (63) dX10_init_200 rfl ?_
    refine rk_newa (N := 63) hG hg sh522 dX10_init_202 (by decide) rfl (by decide) (by decide) (by decide) w_arI ?_
    refine rk_putF (ci := 9) (kf := 32) (h := 57) (N := 50) (fs := [.int 0, .int 0, .int 0, .int (-1), .int 0, .int 0, .int 0, .int 0, .int 0, .ref (ga G 58), .ref (ga G 59), .ref (ga G 60), .ref (ga G 61), .ref (ga G 62), .ref (ga G 63), .ref (ga G 64), .ref (ga G 65), .ref (ga G 66), .ref (ga G 77), .ref (ga G 88), .ref (ga G 95), .int 0, .int 0, .ref (ga G 102), .ref (ga G 263), .ref (ga G 424), .ref (ga G 431), .ref (ga G 438), .ref (ga G 439), .ref (ga G 440), .int 0, .ref (ga G 521), .null, .null, .null, .null, .null, .null, .int 0, .int 0, .int 0, .int 0, .int 0, .int 0, .int 0, .int 0, .int 0, .null, .int 0, .int 0]) (Cn := RX10) (T := TX10) (ty0 := tyX10) (ty := .array .int) hG (by decide) (by decide) ((upE_ne (by decide)).trans (upE_eq)) rfl inc_X10 tyX10_ok nmX10 (by decide) (bc6 170 (by decide +kernel) (by decide +kernel)) rfl rfl rfl (by decide +kernel) rfl rfl (Nat.le_of_ble_eq_true rfl) dX10_init_204 ?_
    refine rk_aload dX10_init_207 0 rfl ?_
    refine rk_bipush (6) dX10_init_208 rfl ?_
    refine rk_newa (N := 6) hG hg sh523 dX10_init_210 (by decide) rfl (by decide) (by decide) (by decide) w_arI ?_
    refine rk_putF (ci := 9) (kf := 33) (h := 57) (N := 50) (fs := [.int 0, .int 0, .int 0, .int (-1), .int 0, .int 0, .int 0, .int 0, .int 0, .ref (ga G 58), .ref (ga G 59), .ref (ga G 60), .ref (ga G 61), .ref (ga G 62), .ref (ga G 63), .ref (ga G 64), .ref (ga G 65), .ref (ga G 66), .ref (ga G 77), .ref (ga G 88), .ref (ga G 95), .int 0, .int 0, .ref (ga G 102), .ref (ga G 263), .ref (ga G 424), .ref (ga G 431), .ref (ga G 438), .ref (ga G 439), .ref (ga G 440), .int 0, .ref (ga G 521), .ref (ga G 522), .null, .null, .null, .null, .null, .int 0, .int 0, .int 0, .int 0, .int 0, .int 0, .int 0, .int 0, .int 0, .null, .int 0, .int 0]) (Cn := RX10) (T := TX10) (ty0 := tyX10) (ty := .array .int) hG (by decide) (by decide) ((upE_ne (by decide)).trans (upE_eq)) rfl inc_X10 tyX10_ok nmX10 (by decide) (bc6 171 (by decide +kernel) (by decide +kernel)) rfl rfl rfl (by decide +kernel) rfl rfl (Nat.le_of_ble_eq_true rfl) dX10_init_212 ?_
    refine rk_aload dX10_init_215 0 rfl ?_
    refine rk_bipush (6) dX10_init_216 rfl ?_
    refine rk_newa (N := 6) hG hg sh524 dX10_init_218 (by decide) rfl (by decide) (by decide) (by decide) w_arI ?_
    refine rk_putF (ci := 9) (kf := 34) (h := 57) (N := 50) (fs := [.int 0, .int 0, .int 0, .int (-1), .int 0, .int 0, .int 0, .int 0, .int 0, .ref (ga G 58), .ref (ga G 59), .ref (ga G 60), .ref (ga G 61), .ref (ga G 62), .ref (ga G 63), .ref (ga G 64), .ref (ga G 65), .ref (ga G 66), .ref (ga G 77), .ref (ga G 88), .ref (ga G 95), .int 0, .int 0, .ref (ga G 102), .ref (ga G 263), .ref (ga G 424), .ref (ga G 431), .ref (ga G 438), .ref (ga G 439), .ref (ga G 440), .int 0, .ref (ga G 521), .ref (ga G 522), .ref (ga G 523), .null, .null, .null, .null, .int 0, .int 0, .int 0, .int 0, .int 0, .int 0, .int 0, .int 0, .int 0, .null, .int 0, .int 0]) (Cn := RX10) (T := TX10) (ty0 := tyX10) (ty := .array .int) hG (by decide) (by decide) ((upE_ne (by decide)).trans (upE_eq)) rfl inc_X10 tyX10_ok nmX10 (by decide) (bc6 172 (by decide +kernel) (by decide +kernel)) rfl rfl rfl (by decide +kernel) rfl rfl (Nat.le_of_ble_eq_true rfl) dX10_init_220 ?_
    refine rk_aload dX10_init_223 0 rfl ?_
    refine rk_bipush (6) dX10_init_224 rfl ?_
    refine rk_newa (N := 6) hG hg sh525 dX10_init_226 (by decide) rfl (by decide) (by decide) (by decide) w_arI ?_
    refine rk_putF (ci := 9) (kf := 35) (h := 57) (N := 50) (fs := [.int 0, .int 0, .int 0, .int (-1), .int 0, .int 0, .int 0, .int 0, .int 0, .ref (ga G 58), .ref (ga G 59), .ref (ga G 60), .ref (ga G 61), .ref (ga G 62), .ref (ga G 63), .ref (ga G 64), .ref (ga G 65), .ref (ga G 66), .ref (ga G 77), .ref (ga G 88), .ref (ga G 95), .int 0, .int 0, .ref (ga G 102), .ref (ga G 263), .ref (ga G 424), .ref (ga G 431), .ref (ga G 438), .ref (ga G 439), .ref (ga G 440), .int 0, .ref (ga G 521), .ref (ga G 522), .ref (ga G 523), .ref (ga G 524), .null, .null, .null, .int 0, .int 0, .int 0, .int 0, .int 0, .int 0, .int 0, .int 0, .int 0, .null, .int 0, .int 0]) (Cn := RX10) (T := TX10) (ty0 := tyX10) (ty := .array .int) hG (by decide) (by decide) ((upE_ne (by decide)).trans (upE_eq)) rfl inc_X10 tyX10_ok nmX10 (by decide) (bc6 173 (by decide +kernel) (by decide +kernel)) rfl rfl rfl (by decide +kernel) rfl rfl (Nat.le_of_ble_eq_true rfl) dX10_init_228 ?_
    refine rk_aload dX10_init_231 0 rfl ?_
    refine rk_bipush (16) dX10_init_232 rfl ?_
    refine rk_bipush (63) dX10_init_234 rfl ?_
    refine rk_multi (N := 16) (M := 63) hG hg sh526 shr526 e526 r526 w_cMM w_arI dX10_init_236 (by decide) (by decide) rfl rfl (by decide) (by decide) (by decide) (by decide) ?_
    refine rk_putF (ci := 9) (kf := 36) (h := 57) (N := 50) (fs := [.int 0, .int 0, .int 0, .int (-1), .int 0, .int 0, .int 0, .int 0, .int 0, .ref (ga G 58), .ref (ga G 59), .ref (ga G 60), .ref (ga G 61), .ref (ga G 62), .ref (ga G 63), .ref (ga G 64), .ref (ga G 65), .ref (ga G 66), .ref (ga G 77), .ref (ga G 88), .ref (ga G 95), .int 0, .int 0, .ref (ga G 102), .ref (ga G 263), .ref (ga G 424), .ref (ga G 431), .ref (ga G 438), .ref (ga G 439), .ref (ga G 440), .int 0, .ref (ga G 521), .ref (ga G 522), .ref (ga G 523), .ref (ga G 524), .ref (ga G 525), .null, .null, .int 0, .int 0, .int 0, .int 0, .int 0, .int 0, .int 0, .int 0, .int 0, .null, .int 0, .int 0]) (Cn := RX10) (T := TX10) (ty0 := tyX10) (ty := .array (.array .int)) hG (by decide) (by decide) ((upM_out (Or.inl (by decide))).trans (upE_eq)) rfl inc_X10 tyX10_ok nmX10 (by decide) (bc6 174 (by decide +kernel) (by decide +kernel)) rfl rfl rfl (by decide +kernel) rfl rfl (Nat.le_of_ble_eq_true rfl) dX10_init_240 ?_
    refine rk_aload dX10_init_243 0 rfl ?_
    refine rk_iconst (3) dX10_init_244 rfl ?_
    refine rk_sipush (1072) dX10_init_245 rfl ?_
    refine rk_multi (N := 3) (M := 1072) hG hg sh543 shr543 e543 r543 w_cMM w_arI dX10_init_248 (by decide) (by decide) rfl rfl (by decide) (by decide) (by decide) (by decide) ?_
    refine rk_putF (ci := 9) (kf := 37) (h := 57) (N := 50) (fs := [.int 0, .int 0, .int 0, .int (-1), .int 0, .int 0, .int 0, .int 0, .int 0, .ref (ga G 58), .ref (ga G 59), .ref (ga G 60), .ref (ga G 61), .ref (ga G 62), .ref (ga G 63), .ref (ga G 64), .ref (ga G 65), .ref (ga G 66), .ref (ga G 77), .ref (ga G 88), .ref (ga G 95), .int 0, .int 0, .ref (ga G 102), .ref (ga G 263), .ref (ga G 424), .ref (ga G 431), .ref (ga G 438), .ref (ga G 439), .ref (ga G 440), .int 0, .ref (ga G 521), .ref (ga G 522), .ref (ga G 523), .ref (ga G 524), .ref (ga G 525), .ref (ga G 526), .null, .int 0, .int 0, .int 0, .int 0, .int 0, .int 0, .int 0, .int 0, .int 0, .null, .int 0, .int 0]) (Cn := RX10) (T := TX10) (ty0 := tyX10) (ty := .array (.array .int)) hG (by decide) (by decide) ((upM_out (Or.inl (by decide))).trans (upE_eq)) rfl inc_X10 tyX10_ok nmX10 (by decide) (bc6 175 (by decide +kernel) (by decide +kernel)) rfl rfl rfl (by decide +kernel) rfl rfl (Nat.le_of_ble_eq_true rfl) dX10_init_252 ?_
    refine rk_aload dX10_init_255 0 rfl ?_
    refine rk_bipush (61) dX10_init_256 rfl ?_
    refine rk_newa (N := 61) hG hg sh547 dX10_init_258 (by decide) rfl (by decide) (by decide) (by decide) w_arI ?_
    refine rk_putF (ci := 9) (kf := 47) (h := 57) (N := 50) (fs := [.int 0, .int 0, .int 0, .int (-1), .int 0, .int 0, .int 0, .int 0, .int 0, .ref (ga G 58), .ref (ga G 59), .ref (ga G 60), .ref (ga G 61), .ref (ga G 62), .ref (ga G 63), .ref (ga G 64), .ref (ga G 65), .ref (ga G 66), .ref (ga G 77), .ref (ga G 88), .ref (ga G 95), .int 0, .int 0, .ref (ga G 102), .ref (ga G 263), .ref (ga G 424), .ref (ga G 431), .ref (ga G 438), .ref (ga G 439), .ref (ga G 440), .int 0, .ref (ga G 521), .ref (ga G 522), .ref (ga G 523), .ref (ga G 524), .ref (ga G 525), .ref (ga G 526), .ref (ga G 543), .int 0, .int 0, .int 0, .int 0, .int 0, .int 0, .int 0, .int 0, .int 0, .null, .int 0, .int 0]) (Cn := RX10) (T := TX10) (ty0 := tyX10) (ty := .array .int) hG (by decide) (by decide) ((upE_ne (by decide)).trans (upE_eq)) rfl inc_X10 tyX10_ok nmX10 (by decide) (bc6 185 (by decide +kernel) (by decide +kernel)) rfl rfl rfl (by decide +kernel) rfl rfl (Nat.le_of_ble_eq_true rfl) dX10_init_260 ?_
    refine rk_end [0] rfl rfl (fun x hx => ?_)
    by_cases h57 : x = 57
    · subst h57
      exact (if_pos rfl).trans (ent57 (hμ 57 (by decide))).symm
    by_cases h58 : x = 58
    · subst h58
      rw [ent_int sh58, hμ 58 (by decide)]
      rfl
    by_cases h59 : x = 59
    · subst h59
      rw [ent_int sh59, hμ 59 (by decide)]
      rfl
    by_cases h60 : x = 60
    · subst h60
      rw [ent_int sh60, hμ 60 (by decide)]
      rfl
    by_cases h61 : x = 61
    · subst h61
      rw [ent_int sh61, hμ 61 (by decide)]
      rfl
    by_cases h62 : x = 62
    · subst h62
      rw [ent_int sh62, hμ 62 (by decide)]
      rfl
    by_cases h63 : x = 63
    · subst h63
      rw [ent_int sh63, hμ 63 (by decide)]
      rfl
    by_cases h64 : x = 64
    · subst h64
      rw [ent_int sh64, hμ 64 (by decide)]
      rfl
    by_cases h65 : x = 65
    · subst h65
      rw [ent_int sh65, hμ 65 (by decide)]
      rfl
    by_cases h66 : x = 66
    · subst h66
      rw [ent_ref sh66]
      rfl
    by_cases g66 : 66 < x ∧ x ≤ 76
    · rw [upE_ne (by omega), upE_ne (by omega), upE_ne (by omega), upM_out (by omega), upE_ne (by omega), upM_out (by omega), upE_ne (by omega), upE_ne (by omega), upE_ne (by omega), upE_ne (by omega), upE_ne (by omega), upE_ne (by omega), upE_ne (by omega), upE_ne (by omega), upE_ne (by omega), upE_ne (by omega), upE_ne (by omega), upM_out (by omega), upE_ne (by omega), upE_ne (by omega), upE_ne (by omega), upE_ne (by omega), upE_ne (by omega), upM_out (by omega), upE_ne (by omega), upM_out (by omega), upE_ne (by omega), upM_out (by omega), upE_ne (by omega), upM_out (by omega), upE_ne (by omega), upM_out (by omega), upE_ne (by omega), upM_out (by omega), upE_ne (by omega), upM_out (by omega), upE_ne (by omega), upM_in g66.1 g66.2, ent_int (show shp x = _ by rw [show x = 67 + (x - 67) by omega]; exact shr66 _ (by omega)), hμ x (by omega)]
      refine congrArg Sum.inl (congrArg (Prod.mk _) (congrArg (Prod.mk _) (congrArg Sum.inl ?_)))
      unfold mu0
      rw [if_neg (by omega), if_neg (by omega), if_neg (by omega), if_neg (by omega)]
    by_cases h77 : x = 77
    · subst h77
      rw [ent_ref sh77]
      rfl
    by_cases g77 : 77 < x ∧ x ≤ 87
    · rw [upE_ne (by omega), upE_ne (by omega), upE_ne (by omega), upM_out (by omega), upE_ne (by omega), upM_out (by omega), upE_ne (by omega), upE_ne (by omega), upE_ne (by omega), upE_ne (by omega), upE_ne (by omega), upE_ne (by omega), upE_ne (by omega), upE_ne (by omega), upE_ne (by omega), upE_ne (by omega), upE_ne (by omega), upM_out (by omega), upE_ne (by omega), upE_ne (by omega), upE_ne (by omega), upE_ne (by omega), upE_ne (by omega), upM_out (by omega), upE_ne (by omega), upM_out (by omega), upE_ne (by omega), upM_out (by omega), upE_ne (by omega), upM_out (by omega), upE_ne (by omega), upM_out (by omega), upE_ne (by omega), upM_out (by omega), upE_ne (by omega), upM_in g77.1 g77.2, ent_int (show shp x = _ by rw [show x = 78 + (x - 78) by omega]; exact shr77 _ (by omega)), hμ x (by omega)]
      refine congrArg Sum.inl (congrArg (Prod.mk _) (congrArg (Prod.mk _) (congrArg Sum.inl ?_)))
      unfold mu0
      rw [if_neg (by omega), if_neg (by omega), if_neg (by omega), if_neg (by omega)]
    by_cases h88 : x = 88
    · subst h88
      rw [ent_ref sh88]
      rfl
    by_cases g88 : 88 < x ∧ x ≤ 94
    · rw [upE_ne (by omega), upE_ne (by omega), upE_ne (by omega), upM_out (by omega), upE_ne (by omega), upM_out (by omega), upE_ne (by omega), upE_ne (by omega), upE_ne (by omega), upE_ne (by omega), upE_ne (by omega), upE_ne (by omega), upE_ne (by omega), upE_ne (by omega), upE_ne (by omega), upE_ne (by omega), upE_ne (by omega), upM_out (by omega), upE_ne (by omega), upE_ne (by omega), upE_ne (by omega), upE_ne (by omega), upE_ne (by omega), upM_out (by omega), upE_ne (by omega), upM_out (by omega), upE_ne (by omega), upM_out (by omega), upE_ne (by omega), upM_out (by omega), upE_ne (by omega), upM_out (by omega), upE_ne (by omega), upM_in g88.1 g88.2, ent_int (show shp x = _ by rw [show x = 89 + (x - 89) by omega]; exact shr88 _ (by omega)), hμ x (by omega)]
      refine congrArg Sum.inl (congrArg (Prod.mk _) (congrArg (Prod.mk _) (congrArg Sum.inl ?_)))
      unfold mu0
      rw [if_neg (by omega), if_neg (by omega), if_neg (by omega), if_neg (by omega)]
    by_cases h95 : x = 95
    · subst h95
      rw [ent_ref sh95]
      rfl
    by_cases g95 : 95 < x ∧ x ≤ 101
    · rw [upE_ne (by omega), upE_ne (by omega), upE_ne (by omega), upM_out (by omega), upE_ne (by omega), upM_out (by omega), upE_ne (by omega), upE_ne (by omega), upE_ne (by omega), upE_ne (by omega), upE_ne (by omega), upE_ne (by omega), upE_ne (by omega), upE_ne (by omega), upE_ne (by omega), upE_ne (by omega), upE_ne (by omega), upM_out (by omega), upE_ne (by omega), upE_ne (by omega), upE_ne (by omega), upE_ne (by omega), upE_ne (by omega), upM_out (by omega), upE_ne (by omega), upM_out (by omega), upE_ne (by omega), upM_out (by omega), upE_ne (by omega), upM_out (by omega), upE_ne (by omega), upM_in g95.1 g95.2, ent_int (show shp x = _ by rw [show x = 96 + (x - 96) by omega]; exact shr95 _ (by omega)), hμ x (by omega)]
      refine congrArg Sum.inl (congrArg (Prod.mk _) (congrArg (Prod.mk _) (congrArg Sum.inl ?_)))
      unfold mu0
      rw [if_neg (by omega), if_neg (by omega), if_neg (by omega), if_neg (by omega)]
    by_cases h102 : x = 102
    · subst h102
      rw [ent_ref sh102]
      rfl
    by_cases g102 : 102 < x ∧ x ≤ 262
    · rw [upE_ne (by omega), upE_ne (by omega), upE_ne (by omega), upM_out (by omega), upE_ne (by omega), upM_out (by omega), upE_ne (by omega), upE_ne (by omega), upE_ne (by omega), upE_ne (by omega), upE_ne (by omega), upE_ne (by omega), upE_ne (by omega), upE_ne (by omega), upE_ne (by omega), upE_ne (by omega), upE_ne (by omega), upM_out (by omega), upE_ne (by omega), upE_ne (by omega), upE_ne (by omega), upE_ne (by omega), upE_ne (by omega), upM_out (by omega), upE_ne (by omega), upM_out (by omega), upE_ne (by omega), upM_out (by omega), upE_ne (by omega), upM_in g102.1 g102.2, ent_int (show shp x = _ by rw [show x = 103 + (x - 103) by omega]; exact shr102 _ (by omega)), hμ x (by omega)]
      refine congrArg Sum.inl (congrArg (Prod.mk _) (congrArg (Prod.mk _) (congrArg Sum.inl ?_)))
      unfold mu0
      rw [if_neg (by omega), if_neg (by omega), if_neg (by omega), if_neg (by omega)]
    by_cases h263 : x = 263
    · subst h263
      rw [ent_ref sh263]
      rfl
    by_cases g263 : 263 < x ∧ x ≤ 423
    · rw [upE_ne (by omega), upE_ne (by omega), upE_ne (by omega), upM_out (by omega), upE_ne (by omega), upM_out (by omega), upE_ne (by omega), upE_ne (by omega), upE_ne (by omega), upE_ne (by omega), upE_ne (by omega), upE_ne (by omega), upE_ne (by omega), upE_ne (by omega), upE_ne (by omega), upE_ne (by omega), upE_ne (by omega), upM_out (by omega), upE_ne (by omega), upE_ne (by omega), upE_ne (by omega), upE_ne (by omega), upE_ne (by omega), upM_out (by omega), upE_ne (by omega), upM_out (by omega), upE_ne (by omega), upM_in g263.1 g263.2, ent_int (show shp x = _ by rw [show x = 264 + (x - 264) by omega]; exact shr263 _ (by omega)), hμ x (by omega)]
      refine congrArg Sum.inl (congrArg (Prod.mk _) (congrArg (Prod.mk _) (congrArg Sum.inl ?_)))
      unfold mu0
      rw [if_neg (by omega), if_neg (by omega), if_neg (by omega), if_neg (by omega)]
    by_cases h424 : x = 424
    · subst h424
      rw [ent_ref sh424]
      rfl
    by_cases g424 : 424 < x ∧ x ≤ 430
    · rw [upE_ne (by omega), upE_ne (by omega), upE_ne (by omega), upM_out (by omega), upE_ne (by omega), upM_out (by omega), upE_ne (by omega), upE_ne (by omega), upE_ne (by omega), upE_ne (by omega), upE_ne (by omega), upE_ne (by omega), upE_ne (by omega), upE_ne (by omega), upE_ne (by omega), upE_ne (by omega), upE_ne (by omega), upM_out (by omega), upE_ne (by omega), upE_ne (by omega), upE_ne (by omega), upE_ne (by omega), upE_ne (by omega), upM_out (by omega), upE_ne (by omega), upM_in g424.1 g424.2, ent_int (show shp x = _ by rw [show x = 425 + (x - 425) by omega]; exact shr424 _ (by omega)), hμ x (by omega)]
      refine congrArg Sum.inl (congrArg (Prod.mk _) (congrArg (Prod.mk _) (congrArg Sum.inl ?_)))
      unfold mu0
      rw [if_neg (by omega), if_neg (by omega), if_neg (by omega), if_neg (by omega)]
    by_cases h431 : x = 431
    · subst h431
      rw [ent_ref sh431]
      rfl
    by_cases g431 : 431 < x ∧ x ≤ 437
    · rw [upE_ne (by omega), upE_ne (by omega), upE_ne (by omega), upM_out (by omega), upE_ne (by omega), upM_out (by omega), upE_ne (by omega), upE_ne (by omega), upE_ne (by omega), upE_ne (by omega), upE_ne (by omega), upE_ne (by omega), upE_ne (by omega), upE_ne (by omega), upE_ne (by omega), upE_ne (by omega), upE_ne (by omega), upM_out (by omega), upE_ne (by omega), upE_ne (by omega), upE_ne (by omega), upE_ne (by omega), upE_ne (by omega), upM_in g431.1 g431.2, ent_int (show shp x = _ by rw [show x = 432 + (x - 432) by omega]; exact shr431 _ (by omega)), hμ x (by omega)]
      refine congrArg Sum.inl (congrArg (Prod.mk _) (congrArg (Prod.mk _) (congrArg Sum.inl ?_)))
      unfold mu0
      rw [if_neg (by omega), if_neg (by omega), if_neg (by omega), if_neg (by omega)]
    by_cases h438 : x = 438
    · subst h438
      rw [ent_int sh438, hμ 438 (by decide)]
      rfl
    by_cases h439 : x = 439
    · subst h439
      rw [ent_int sh439, hμ 439 (by decide)]
      rfl
    by_cases h440 : x = 440
    · subst h440
      rw [ent_ref sh440]
      rfl
    by_cases g440 : 440 < x ∧ x ≤ 520
    · rw [upE_ne (by omega), upE_ne (by omega), upE_ne (by omega), upM_out (by omega), upE_ne (by omega), upM_out (by omega), upE_ne (by omega), upE_ne (by omega), upE_ne (by omega), upE_ne (by omega), upE_ne (by omega), upE_ne (by omega), upE_ne (by omega), upE_ne (by omega), upE_ne (by omega), upE_ne (by omega), upE_ne (by omega), upM_in g440.1 g440.2, ent_int (show shp x = _ by rw [show x = 441 + (x - 441) by omega]; exact shr440 _ (by omega)), hμ x (by omega)]
      refine congrArg Sum.inl (congrArg (Prod.mk _) (congrArg (Prod.mk _) (congrArg Sum.inl ?_)))
      unfold mu0
      rw [if_neg (by omega), if_neg (by omega), if_neg (by omega), if_neg (by omega)]
    by_cases h521 : x = 521
    · subst h521
      rw [ent_int sh521, hμ 521 (by decide)]
      rfl
    by_cases h522 : x = 522
    · subst h522
      rw [ent_int sh522, hμ 522 (by decide)]
      rfl
    by_cases h523 : x = 523
    · subst h523
      rw [ent_int sh523, hμ 523 (by decide)]
      rfl
    by_cases h524 : x = 524
    · subst h524
      rw [ent_int sh524, hμ 524 (by decide)]
      rfl
    by_cases h525 : x = 525
    · subst h525
      rw [ent_int sh525, hμ 525 (by decide)]
      rfl
    by_cases h526 : x = 526
    · subst h526
      rw [ent_ref sh526]
      rfl
    by_cases g526 : 526 < x ∧ x ≤ 542
    · rw [upE_ne (by omega), upE_ne (by omega), upE_ne (by omega), upM_out (by omega), upE_ne (by omega), upM_in g526.1 g526.2, ent_int (show shp x = _ by rw [show x = 527 + (x - 527) by omega]; exact shr526 _ (by omega)), hμ x (by omega)]
      refine congrArg Sum.inl (congrArg (Prod.mk _) (congrArg (Prod.mk _) (congrArg Sum.inl ?_)))
      unfold mu0
      rw [if_neg (by omega), if_neg (by omega), if_neg (by omega), if_neg (by omega)]
    by_cases h543 : x = 543
    · subst h543
      rw [ent_ref sh543]
      rfl
    by_cases g543 : 543 < x ∧ x ≤ 546
    · rw [upE_ne (by omega), upE_ne (by omega), upE_ne (by omega), upM_in g543.1 g543.2, ent_int (show shp x = _ by rw [show x = 544 + (x - 544) by omega]; exact shr543 _ (by omega)), hμ x (by omega)]
      refine congrArg Sum.inl (congrArg (Prod.mk _) (congrArg (Prod.mk _) (congrArg Sum.inl ?_)))
      unfold mu0
      rw [if_neg (by omega), if_neg (by omega), if_neg (by omega), if_neg (by omega)]
    by_cases h547 : x = 547
    · subst h547
      rw [ent_int sh547, hμ 547 (by decide)]
      rfl
    rw [upE_ne (by omega), upE_ne (by omega), upE_ne (by omega), upM_out (by omega), upE_ne (by omega), upM_out (by omega), upE_ne (by omega), upE_ne (by omega), upE_ne (by omega), upE_ne (by omega), upE_ne (by omega), upE_ne (by omega), upE_ne (by omega), upE_ne (by omega), upE_ne (by omega), upE_ne (by omega), upE_ne (by omega), upM_out (by omega), upE_ne (by omega), upE_ne (by omega), upE_ne (by omega), upE_ne (by omega), upE_ne (by omega), upM_out (by omega), upE_ne (by omega), upM_out (by omega), upE_ne (by omega), upM_out (by omega), upE_ne (by omega), upM_out (by omega), upE_ne (by omega), upM_out (by omega), upE_ne (by omega), upM_out (by omega), upE_ne (by omega), upM_out (by omega), upE_ne (by omega), upM_out (by omega), upE_ne (by omega), upE_ne (by omega), upE_ne (by omega), upE_ne (by omega), upE_ne (by omega), upE_ne (by omega), upE_ne (by omega), upE_ne (by omega), upE_ne (by omega), upE_ne (by omega), upE_ne (by omega), upE_ne (by omega), upE_ne (by omega), upE_ne (by omega), upE_ne (by omega), upE_ne (by omega), upE_ne (by omega), upE_ne (by omega)]
  · have hG5 : GK 548 (gK G 548) := ⟨Nat.le_refl _, hfl⟩
    refine r_aload_n dX10_init_263 0 rfl ?_
    refine r_cvF (As := []) (rest := []) (ok_X10_tellsNothing hG5 μ1 hP1) lX10_97 (hG5.lt (by decide)) sh57 ⟨_, _, rfl⟩ dX10_init_264 (by decide) (by decide) rfl (by decide) ?_
    refine r_aload_n dX10_init_267 0 rfl ?_
    refine r_cvF (As := []) (rest := []) (ok_X10_beginsAnew hG5 (M_X10_tellsNothing μ1) hP2) lX10_100 (hG5.lt (by decide)) sh57 ⟨_, _, rfl⟩ dX10_init_268 (by decide) (by decide) rfl (by decide) ?_
    exact r_return dX10_init_271 rfl ⟨rfl, rfl⟩
