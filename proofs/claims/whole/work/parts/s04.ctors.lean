/-! THE START: the constructors, by program -/
theorem w_arI : Cond.arrayClass .int ∈ BIG := bc1 65 (by decide +kernel) (by decide +kernel)
theorem w_arJ : Cond.arrayClass .long ∈ BIG := bc9 17 (by decide +kernel) (by decide +kernel)
theorem w_oi1 : Cond.instanceMethod Lib.objectInit ∈ BIG := bc1 30 (by decide +kernel) (by decide +kernel)
-- (.code ⟨"java/lang/Object", "<init>", "()V"⟩ object_method_1_code (1) (Option.none : Option Jvm.ClassFile.FieldType))
theorem w_oi2 : Cond.code Lib.objectInit ⟨#[0xb1]⟩ 1 none ∈ BIG := bc1 31 (by decide +kernel) (by decide +kernel)
/-- the ints at the start -/
def mu0 : Mem := fun h => if h = 1 then (fun k => if k = 7 then -1 else 0) else if h = 3 then (fun k => if k = 12 then 10 else if k = 13 then 3 else 0) else if h = 12 then (fun k => if k = 12 then 10 else if k = 13 then 3 else 0) else if h = 57 then (fun k => if k = 3 then -1 else 0) else fun _ => 0
/-- the cells from a on, below b, stand -/
def upR (G : SG) (En : Nat → va_E) (a b : Nat) : Nat → va_E := fun x => if a ≤ x ∧ x < b then ent G mu0 x else En x
theorem upE_ne {En : Nat → va_E} {h x : Nat} {e : va_E} (hx : x ≠ h) : upE En h e x = En x := if_neg hx
theorem upE_eq {En : Nat → va_E} {h : Nat} {e : va_E} : upE En h e h = e := if_pos rfl
theorem upR_in {G : SG} {En : Nat → va_E} {a b x : Nat} (h1 : a ≤ x) (h2 : x < b) : upR G En a b x = ent G mu0 x := if_pos ⟨h1, h2⟩
theorem upR_out {G : SG} {En : Nat → va_E} {a b x : Nat} (h : x < a ∨ b ≤ x) : upR G En a b x = En x := if_neg fun q => by omega
theorem upM_out {G : SG} {En : Nat → va_E} {k N M x : Nat} (h : x < k ∨ k + N < x) : upM G En k N M x = En x := by
  unfold upM
  rw [if_neg (by omega), if_neg (by omega)]
theorem upM_in {G : SG} {En : Nat → va_E} {k N M x : Nat} (h1 : k < x) (h2 : x ≤ k + N) : upM G En k N M x = .inl (gA G x, M, .inl (fun _ => 0)) := by
  unfold upM
  rw [if_neg (by omega), if_pos ⟨h1, h2⟩]
theorem upM_eq {G : SG} {En : Nat → va_E} {k N M : Nat} : upM G En k N M k = .inl (gA G k, N, .inr (.inr (.inr (.inr (fun i => if i < N then some (ga G (k + 1 + i)) else none))))) := if_pos rfl
theorem w_inX0 : Cond.instantiable RX0 4 ∈ BIG := bc2 17 (by decide +kernel) (by decide +kernel)
theorem w_iiX0 : Cond.initialized RX0 ∈ BIG := bc1 9 (by decide +kernel) (by decide +kernel)
theorem w_imX0 : Cond.instanceMethod yX0_init ∈ BIG := bc2 19 (by decide +kernel) (by decide +kernel)
theorem w_icX0 : Cond.code yX0_init cX0_init (mL mX0_init) none ∈ BIG := bc2 20 (by decide +kernel) (by decide +kernel)
theorem w_fsX0 : ∀ j, j < 4 → defaultValue (tyX0 j) = vp_V [.null, .null, .null, .null] j := fun j hj => by
    have : j = 0 ∨ j = 1 ∨ j = 2 ∨ j = 3 := by omega
    rcases this with rfl | rfl | rfl | rfl <;> rfl
theorem w_inX1 : Cond.instantiable RX1 5 ∈ BIG := bc1 144 (by decide +kernel) (by decide +kernel)
theorem w_iiX1 : Cond.initialized RX1 ∈ BIG := bc1 4 (by decide +kernel) (by decide +kernel)
theorem w_imX1 : Cond.instanceMethod yX1_init ∈ BIG := bc1 146 (by decide +kernel) (by decide +kernel)
theorem w_icX1 : Cond.code yX1_init cX1_init (mL mX1_init) none ∈ BIG := bc1 147 (by decide +kernel) (by decide +kernel)
theorem w_fsX1 : ∀ j, j < 5 → defaultValue (tyX1 j) = vp_V [.null, .null, .null, .null, .int 0] j := fun j hj => by
    have : j = 0 ∨ j = 1 ∨ j = 2 ∨ j = 3 ∨ j = 4 := by omega
    rcases this with rfl | rfl | rfl | rfl | rfl <;> rfl
theorem w_inX2 : Cond.instantiable RX2 3 ∈ BIG := bc1 198 (by decide +kernel) (by decide +kernel)
theorem w_iiX2 : Cond.initialized RX2 ∈ BIG := bc1 6 (by decide +kernel) (by decide +kernel)
theorem w_imX2 : Cond.instanceMethod yX2_init ∈ BIG := bc1 200 (by decide +kernel) (by decide +kernel)
theorem w_icX2 : Cond.code yX2_init cX2_init (mL mX2_init) none ∈ BIG := bc1 201 (by decide +kernel) (by decide +kernel)
theorem w_fsX2 : ∀ j, j < 3 → defaultValue (tyX2 j) = vp_V [.null, .null, .int 0] j := fun j hj => by
    have : j = 0 ∨ j = 1 ∨ j = 2 := by omega
    rcases this with rfl | rfl | rfl <;> rfl
theorem w_inX4 : Cond.instantiable RX4 4 ∈ BIG := bc1 236 (by decide +kernel) (by decide +kernel)
theorem w_iiX4 : Cond.initialized RX4 ∈ BIG := bc1 8 (by decide +kernel) (by decide +kernel)
theorem w_imX4 : Cond.instanceMethod yX4_init ∈ BIG := bc1 238 (by decide +kernel) (by decide +kernel)
theorem w_icX4 : Cond.code yX4_init cX4_init (mL mX4_init) none ∈ BIG := bc1 239 (by decide +kernel) (by decide +kernel)
theorem w_fsX4 : ∀ j, j < 4 → defaultValue (tyX4 j) = vp_V [.null, .null, .int 0, .int 0] j := fun j hj => by
    have : j = 0 ∨ j = 1 ∨ j = 2 ∨ j = 3 := by omega
    rcases this with rfl | rfl | rfl | rfl <;> rfl
theorem w_inX5 : Cond.instantiable RX5 4 ∈ BIG := bc1 215 (by decide +kernel) (by decide +kernel)
theorem w_iiX5 : Cond.initialized RX5 ∈ BIG := bc1 7 (by decide +kernel) (by decide +kernel)
theorem w_imX5 : Cond.instanceMethod yX5_init ∈ BIG := bc1 217 (by decide +kernel) (by decide +kernel)
theorem w_icX5 : Cond.code yX5_init cX5_init (mL mX5_init) none ∈ BIG := bc1 218 (by decide +kernel) (by decide +kernel)
theorem w_fsX5 : ∀ j, j < 4 → defaultValue (tyX5 j) = vp_V [.null, .null, .null, .null] j := fun j hj => by
    have : j = 0 ∨ j = 1 ∨ j = 2 ∨ j = 3 := by omega
    rcases this with rfl | rfl | rfl | rfl <;> rfl
theorem w_inX6 : Cond.instantiable RX6 8 ∈ BIG := bc1 166 (by decide +kernel) (by decide +kernel)
theorem w_iiX6 : Cond.initialized RX6 ∈ BIG := bc1 5 (by decide +kernel) (by decide +kernel)
theorem w_imX6 : Cond.instanceMethod yX6_init ∈ BIG := bc1 168 (by decide +kernel) (by decide +kernel)
theorem w_icX6 : Cond.code yX6_init cX6_init (mL mX6_init) none ∈ BIG := bc1 169 (by decide +kernel) (by decide +kernel)
theorem w_fsX6 : ∀ j, j < 8 → defaultValue (tyX6 j) = vp_V [.null, .null, .null, .null, .null, .int 0, .int 0, .int 0] j := fun j hj => by
    have : j = 0 ∨ j = 1 ∨ j = 2 ∨ j = 3 ∨ j = 4 ∨ j = 5 ∨ j = 6 ∨ j = 7 := by omega
    rcases this with rfl | rfl | rfl | rfl | rfl | rfl | rfl | rfl <;> rfl
theorem w_inX7 : Cond.instantiable RX7 14 ∈ BIG := bc1 67 (by decide +kernel) (by decide +kernel)
theorem w_iiX7 : Cond.initialized RX7 ∈ BIG := bc1 3 (by decide +kernel) (by decide +kernel)
theorem w_imX7 : Cond.instanceMethod yX7_init ∈ BIG := bc1 69 (by decide +kernel) (by decide +kernel)
theorem w_icX7 : Cond.code yX7_init cX7_init (mL mX7_init) none ∈ BIG := bc1 70 (by decide +kernel) (by decide +kernel)
theorem w_fsX7 : ∀ j, j < 14 → defaultValue (tyX7 j) = vp_V [.null, .null, .null, .null, .null, .null, .null, .null, .int 0, .int 0, .int 0, .int 0, .int 0, .int 0] j := fun j hj => by
    have : j = 0 ∨ j = 1 ∨ j = 2 ∨ j = 3 ∨ j = 4 ∨ j = 5 ∨ j = 6 ∨ j = 7 ∨ j = 8 ∨ j = 9 ∨ j = 10 ∨ j = 11 ∨ j = 12 ∨ j = 13 := by omega
    rcases this with rfl | rfl | rfl | rfl | rfl | rfl | rfl | rfl | rfl | rfl | rfl | rfl | rfl | rfl <;> rfl
theorem w_inX8 : Cond.instantiable RX8 8 ∈ BIG := bc1 33 (by decide +kernel) (by decide +kernel)
theorem w_iiX8 : Cond.initialized RX8 ∈ BIG := bc1 2 (by decide +kernel) (by decide +kernel)
theorem w_imX8 : Cond.instanceMethod yX8_init ∈ BIG := bc1 35 (by decide +kernel) (by decide +kernel)
theorem w_icX8 : Cond.code yX8_init cX8_init (mL mX8_init) none ∈ BIG := bc1 36 (by decide +kernel) (by decide +kernel)
theorem w_fsX8 : ∀ j, j < 8 → defaultValue (tyX8 j) = vp_V [.null, .int 0, .int 0, .int 0, .int 0, .int 0, .int 0, .int 0] j := fun j hj => by
    have : j = 0 ∨ j = 1 ∨ j = 2 ∨ j = 3 ∨ j = 4 ∨ j = 5 ∨ j = 6 ∨ j = 7 := by omega
    rcases this with rfl | rfl | rfl | rfl | rfl | rfl | rfl | rfl <;> rfl
theorem w_inX9 : Cond.instantiable RX9 14 ∈ BIG := bc1 25 (by decide +kernel) (by decide +kernel)
theorem w_iiX9 : Cond.initialized RX9 ∈ BIG := bc1 1 (by decide +kernel) (by decide +kernel)
theorem w_imX9 : Cond.instanceMethod yX9_init ∈ BIG := bc1 27 (by decide +kernel) (by decide +kernel)
theorem w_icX9 : Cond.code yX9_init cX9_init (mL mX9_init) none ∈ BIG := bc1 28 (by decide +kernel) (by decide +kernel)
theorem w_fsX9 : ∀ j, j < 14 → defaultValue (tyX9 j) = vp_V [.null, .null, .null, .null, .null, .null, .null, .null, .null, .null, .null, .int 0, .int 0, .int 0] j := fun j hj => by
    have : j = 0 ∨ j = 1 ∨ j = 2 ∨ j = 3 ∨ j = 4 ∨ j = 5 ∨ j = 6 ∨ j = 7 ∨ j = 8 ∨ j = 9 ∨ j = 10 ∨ j = 11 ∨ j = 12 ∨ j = 13 := by omega
    rcases this with rfl | rfl | rfl | rfl | rfl | rfl | rfl | rfl | rfl | rfl | rfl | rfl | rfl | rfl <;> rfl
theorem w_inX10 : Cond.instantiable RX10 50 ∈ BIG := bc6 120 (by decide +kernel) (by decide +kernel)
theorem w_iiX10 : Cond.initialized RX10 ∈ BIG := bc1 10 (by decide +kernel) (by decide +kernel)
theorem w_imX10 : Cond.instanceMethod yX10_init ∈ BIG := bc6 122 (by decide +kernel) (by decide +kernel)
theorem w_icX10 : Cond.code yX10_init cX10_init (mL mX10_init) none ∈ BIG := bc6 123 (by decide +kernel) (by decide +kernel)
theorem w_fsX10 : ∀ j, j < 50 → defaultValue (tyX10 j) = vp_V [.int 0, .int 0, .int 0, .int 0, .int 0, .int 0, .int 0, .int 0, .int 0, .null, .null, .null, .null, .null, .null, .null, .null, .null, .null, .null, .null, .int 0, .int 0, .null, .null, .null, .null, .null, .null, .null, .int 0, .null, .null, .null, .null, .null, .null, .null, .int 0, .int 0, .int 0, .int 0, .int 0, .int 0, .int 0, .int 0, .int 0, .null, .int 0, .int 0] j := fun j hj => by
    have : j = 0 ∨ j = 1 ∨ j = 2 ∨ j = 3 ∨ j = 4 ∨ j = 5 ∨ j = 6 ∨ j = 7 ∨ j = 8 ∨ j = 9 ∨ j = 10 ∨ j = 11 ∨ j = 12 ∨ j = 13 ∨ j = 14 ∨ j = 15 ∨ j = 16 ∨ j = 17 ∨ j = 18 ∨ j = 19 ∨ j = 20 ∨ j = 21 ∨ j = 22 ∨ j = 23 ∨ j = 24 ∨ j = 25 ∨ j = 26 ∨ j = 27 ∨ j = 28 ∨ j = 29 ∨ j = 30 ∨ j = 31 ∨ j = 32 ∨ j = 33 ∨ j = 34 ∨ j = 35 ∨ j = 36 ∨ j = 37 ∨ j = 38 ∨ j = 39 ∨ j = 40 ∨ j = 41 ∨ j = 42 ∨ j = 43 ∨ j = 44 ∨ j = 45 ∨ j = 46 ∨ j = 47 ∨ j = 48 ∨ j = 49 := by omega
    rcases this with rfl | rfl | rfl | rfl | rfl | rfl | rfl | rfl | rfl | rfl | rfl | rfl | rfl | rfl | rfl | rfl | rfl | rfl | rfl | rfl | rfl | rfl | rfl | rfl | rfl | rfl | rfl | rfl | rfl | rfl | rfl | rfl | rfl | rfl | rfl | rfl | rfl | rfl | rfl | rfl | rfl | rfl | rfl | rfl | rfl | rfl | rfl | rfl | rfl | rfl <;> rfl
set_option maxRecDepth 20000 in
theorem c_X8_1 {G : SG} {En : Nat → va_E} (hG : GA G) (hg : gh G = 549) (hfl : (gL G).stackTraces = false) : OkN G mX8_init [.ref (ga G 1)] 2 (upE En 1 (.inr (7, [.null, .int 0, .int 0, .int 0, .int 0, .int 0, .int 0, .int 0]))) 3 (upR G En 1 3) := by
  refine okN_of (pf := 18) hfl rfl (by decide +kernel) (Nat.le_of_ble_eq_true rfl) rfl (by decide) dX8_init_18 ?_
  refine rk_aload dX8_init_0 0 rfl ?_
  refine rk_obj (bc1 37 (by decide +kernel) (by decide +kernel)) w_oi1 w_oi2 dX8_init_1 ?_
  refine rk_aload dX8_init_4 0 rfl ?_
  refine rk_sipush (600) dX8_init_5 rfl ?_
  refine rk_newa (N := 600) hG hg sh2 dX8_init_8 (by decide) rfl (by decide) (by decide) (by decide) w_arI ?_
  refine rk_putF (ci := 7) (kf := 0) (h := 1) (N := 8) (fs := [.null, .int 0, .int 0, .int 0, .int 0, .int 0, .int 0, .int 0]) (Cn := RX8) (T := TX8) (ty0 := tyX8) (ty := .array .int) hG (by decide) (by decide) ((upE_ne (by decide)).trans (upE_eq)) rfl inc_X8 tyX8_ok nmX8 (by decide) (bc1 38 (by decide +kernel) (by decide +kernel)) rfl rfl rfl (by decide +kernel) rfl rfl (Nat.le_of_ble_eq_true rfl) dX8_init_10 ?_
  refine rk_aload dX8_init_13 0 rfl ?_
  refine rk_iconst (-1) dX8_init_14 rfl ?_
  refine rk_putI (ci := 7) (kf := 7) (h := 1) (fs := [.ref (ga G 2), .int 0, .int 0, .int 0, .int 0, .int 0, .int 0, .int 0]) hG (by decide) (by decide) (upE_eq) fiX8_15 (Nat.le_of_ble_eq_true rfl) dX8_init_15 ?_
  refine rk_end [] rfl rfl (fun x hx => ?_)
  by_cases h1 : x = 1
  · subst h1
    rw [upR_in (by decide) (by decide), ent_obj sh1]
    rfl
  by_cases h2 : x = 2
  · subst h2
    rw [upR_in (by decide) (by decide), ent_int sh2]
    rfl
  rw [upR_out (by omega)]
  rw [upE_ne (by omega), upE_ne (by omega), upE_ne (by omega), upE_ne (by omega)]
set_option maxRecDepth 20000 in
theorem c_X7_3 {G : SG} {En : Nat → va_E} (hG : GA G) (hg : gh G = 549) (hfl : (gL G).stackTraces = false) : OkN G mX7_init [.ref (ga G 3)] 4 (upE En 3 (.inr (6, [.null, .null, .null, .null, .null, .null, .null, .null, .int 0, .int 0, .int 0, .int 0, .int 0, .int 0]))) 12 (upR G En 3 12) := by
  refine okN_of (pf := 79) hfl rfl (by decide +kernel) (Nat.le_of_ble_eq_true rfl) rfl (by decide) dX7_init_79 ?_
  refine rk_aload dX7_init_0 0 rfl ?_
  refine rk_obj (bc1 71 (by decide +kernel) (by decide +kernel)) w_oi1 w_oi2 dX7_init_1 ?_
  refine rk_aload dX7_init_4 0 rfl ?_
  refine rk_bipush (6) dX7_init_5 rfl ?_
  refine rk_newa (N := 6) hG hg sh4 dX7_init_7 (by decide) rfl (by decide) (by decide) (by decide) w_arI ?_
  refine rk_putF (ci := 6) (kf := 0) (h := 3) (N := 14) (fs := [.null, .null, .null, .null, .null, .null, .null, .null, .int 0, .int 0, .int 0, .int 0, .int 0, .int 0]) (Cn := RX7) (T := TX7) (ty0 := tyX7) (ty := .array .int) hG (by decide) (by decide) ((upE_ne (by decide)).trans (upE_eq)) rfl inc_X7 tyX7_ok nmX7 (by decide) (bc1 72 (by decide +kernel) (by decide +kernel)) rfl rfl rfl (by decide +kernel) rfl rfl (Nat.le_of_ble_eq_true rfl) dX7_init_9 ?_
  refine rk_aload dX7_init_12 0 rfl ?_
  refine rk_bipush (10) dX7_init_13 rfl ?_
  refine rk_newa (N := 10) hG hg sh5 dX7_init_15 (by decide) rfl (by decide) (by decide) (by decide) w_arI ?_
  refine rk_putF (ci := 6) (kf := 1) (h := 3) (N := 14) (fs := [.ref (ga G 4), .null, .null, .null, .null, .null, .null, .null, .int 0, .int 0, .int 0, .int 0, .int 0, .int 0]) (Cn := RX7) (T := TX7) (ty0 := tyX7) (ty := .array .int) hG (by decide) (by decide) ((upE_ne (by decide)).trans (upE_eq)) rfl inc_X7 tyX7_ok nmX7 (by decide) (bc1 74 (by decide +kernel) (by decide +kernel)) rfl rfl rfl (by decide +kernel) rfl rfl (Nat.le_of_ble_eq_true rfl) dX7_init_17 ?_
  refine rk_aload dX7_init_20 0 rfl ?_
  refine rk_bipush (10) dX7_init_21 rfl ?_
  refine rk_newa (N := 10) hG hg sh6 dX7_init_23 (by decide) rfl (by decide) (by decide) (by decide) w_arI ?_
  refine rk_putF (ci := 6) (kf := 2) (h := 3) (N := 14) (fs := [.ref (ga G 4), .ref (ga G 5), .null, .null, .null, .null, .null, .null, .int 0, .int 0, .int 0, .int 0, .int 0, .int 0]) (Cn := RX7) (T := TX7) (ty0 := tyX7) (ty := .array .int) hG (by decide) (by decide) ((upE_ne (by decide)).trans (upE_eq)) rfl inc_X7 tyX7_ok nmX7 (by decide) (bc1 76 (by decide +kernel) (by decide +kernel)) rfl rfl rfl (by decide +kernel) rfl rfl (Nat.le_of_ble_eq_true rfl) dX7_init_25 ?_
  refine rk_aload dX7_init_28 0 rfl ?_
  refine rk_bipush (10) dX7_init_29 rfl ?_
  refine rk_newa (N := 10) hG hg sh7 dX7_init_31 (by decide) rfl (by decide) (by decide) (by decide) w_arI ?_
  refine rk_putF (ci := 6) (kf := 3) (h := 3) (N := 14) (fs := [.ref (ga G 4), .ref (ga G 5), .ref (ga G 6), .null, .null, .null, .null, .null, .int 0, .int 0, .int 0, .int 0, .int 0, .int 0]) (Cn := RX7) (T := TX7) (ty0 := tyX7) (ty := .array .int) hG (by decide) (by decide) ((upE_ne (by decide)).trans (upE_eq)) rfl inc_X7 tyX7_ok nmX7 (by decide) (bc1 79 (by decide +kernel) (by decide +kernel)) rfl rfl rfl (by decide +kernel) rfl rfl (Nat.le_of_ble_eq_true rfl) dX7_init_33 ?_
  refine rk_aload dX7_init_36 0 rfl ?_
  refine rk_bipush (10) dX7_init_37 rfl ?_
  refine rk_newa (N := 10) hG hg sh8 dX7_init_39 (by decide) rfl (by decide) (by decide) (by decide) w_arI ?_
  refine rk_putF (ci := 6) (kf := 4) (h := 3) (N := 14) (fs := [.ref (ga G 4), .ref (ga G 5), .ref (ga G 6), .ref (ga G 7), .null, .null, .null, .null, .int 0, .int 0, .int 0, .int 0, .int 0, .int 0]) (Cn := RX7) (T := TX7) (ty0 := tyX7) (ty := .array .int) hG (by decide) (by decide) ((upE_ne (by decide)).trans (upE_eq)) rfl inc_X7 tyX7_ok nmX7 (by decide) (bc1 82 (by decide +kernel) (by decide +kernel)) rfl rfl rfl (by decide +kernel) rfl rfl (Nat.le_of_ble_eq_true rfl) dX7_init_41 ?_
  refine rk_aload dX7_init_44 0 rfl ?_
  refine rk_bipush (12) dX7_init_45 rfl ?_
  refine rk_newa (N := 12) hG hg sh9 dX7_init_47 (by decide) rfl (by decide) (by decide) (by decide) w_arI ?_
  refine rk_putF (ci := 6) (kf := 5) (h := 3) (N := 14) (fs := [.ref (ga G 4), .ref (ga G 5), .ref (ga G 6), .ref (ga G 7), .ref (ga G 8), .null, .null, .null, .int 0, .int 0, .int 0, .int 0, .int 0, .int 0]) (Cn := RX7) (T := TX7) (ty0 := tyX7) (ty := .array .int) hG (by decide) (by decide) ((upE_ne (by decide)).trans (upE_eq)) rfl inc_X7 tyX7_ok nmX7 (by decide) (bc1 84 (by decide +kernel) (by decide +kernel)) rfl rfl rfl (by decide +kernel) rfl rfl (Nat.le_of_ble_eq_true rfl) dX7_init_49 ?_
  refine rk_aload dX7_init_52 0 rfl ?_
  refine rk_bipush (6) dX7_init_53 rfl ?_
  refine rk_newa (N := 6) hG hg sh10 dX7_init_55 (by decide) rfl (by decide) (by decide) (by decide) w_arI ?_
  refine rk_putF (ci := 6) (kf := 6) (h := 3) (N := 14) (fs := [.ref (ga G 4), .ref (ga G 5), .ref (ga G 6), .ref (ga G 7), .ref (ga G 8), .ref (ga G 9), .null, .null, .int 0, .int 0, .int 0, .int 0, .int 0, .int 0]) (Cn := RX7) (T := TX7) (ty0 := tyX7) (ty := .array .int) hG (by decide) (by decide) ((upE_ne (by decide)).trans (upE_eq)) rfl inc_X7 tyX7_ok nmX7 (by decide) (bc1 85 (by decide +kernel) (by decide +kernel)) rfl rfl rfl (by decide +kernel) rfl rfl (Nat.le_of_ble_eq_true rfl) dX7_init_57 ?_
  refine rk_aload dX7_init_60 0 rfl ?_
  refine rk_bipush (6) dX7_init_61 rfl ?_
  refine rk_newa (N := 6) hG hg sh11 dX7_init_63 (by decide) rfl (by decide) (by decide) (by decide) w_arI ?_
  refine rk_putF (ci := 6) (kf := 7) (h := 3) (N := 14) (fs := [.ref (ga G 4), .ref (ga G 5), .ref (ga G 6), .ref (ga G 7), .ref (ga G 8), .ref (ga G 9), .ref (ga G 10), .null, .int 0, .int 0, .int 0, .int 0, .int 0, .int 0]) (Cn := RX7) (T := TX7) (ty0 := tyX7) (ty := .array .int) hG (by decide) (by decide) ((upE_ne (by decide)).trans (upE_eq)) rfl inc_X7 tyX7_ok nmX7 (by decide) (bc1 88 (by decide +kernel) (by decide +kernel)) rfl rfl rfl (by decide +kernel) rfl rfl (Nat.le_of_ble_eq_true rfl) dX7_init_65 ?_
  refine rk_aload dX7_init_68 0 rfl ?_
  refine rk_bipush (10) dX7_init_69 rfl ?_
  refine rk_putI (ci := 6) (kf := 12) (h := 3) (fs := [.ref (ga G 4), .ref (ga G 5), .ref (ga G 6), .ref (ga G 7), .ref (ga G 8), .ref (ga G 9), .ref (ga G 10), .ref (ga G 11), .int 0, .int 0, .int 0, .int 0, .int 0, .int 0]) hG (by decide) (by decide) (upE_eq) fiX7_36 (Nat.le_of_ble_eq_true rfl) dX7_init_71 ?_
  refine rk_aload dX7_init_74 0 rfl ?_
  refine rk_iconst (3) dX7_init_75 rfl ?_
  refine rk_putI (ci := 6) (kf := 13) (h := 3) (fs := [.ref (ga G 4), .ref (ga G 5), .ref (ga G 6), .ref (ga G 7), .ref (ga G 8), .ref (ga G 9), .ref (ga G 10), .ref (ga G 11), .int 0, .int 0, .int 0, .int 0, .int (10), .int 0]) hG (by decide) (by decide) (upE_eq) fiX7_40 (Nat.le_of_ble_eq_true rfl) dX7_init_76 ?_
  refine rk_end [] rfl rfl (fun x hx => ?_)
  by_cases h3 : x = 3
  · subst h3
    rw [upR_in (by decide) (by decide), ent_obj sh3]
    rfl
  by_cases h4 : x = 4
  · subst h4
    rw [upR_in (by decide) (by decide), ent_int sh4]
    rfl
  by_cases h5 : x = 5
  · subst h5
    rw [upR_in (by decide) (by decide), ent_int sh5]
    rfl
  by_cases h6 : x = 6
  · subst h6
    rw [upR_in (by decide) (by decide), ent_int sh6]
    rfl
  by_cases h7 : x = 7
  · subst h7
    rw [upR_in (by decide) (by decide), ent_int sh7]
    rfl
  by_cases h8 : x = 8
  · subst h8
    rw [upR_in (by decide) (by decide), ent_int sh8]
    rfl
  by_cases h9 : x = 9
  · subst h9
    rw [upR_in (by decide) (by decide), ent_int sh9]
    rfl
  by_cases h10 : x = 10
  · subst h10
    rw [upR_in (by decide) (by decide), ent_int sh10]
    rfl
  by_cases h11 : x = 11
  · subst h11
    rw [upR_in (by decide) (by decide), ent_int sh11]
    rfl
  rw [upR_out (by omega)]
  rw [upE_ne (by omega), upE_ne (by omega), upE_ne (by omega), upE_ne (by omega), upE_ne (by omega), upE_ne (by omega), upE_ne (by omega), upE_ne (by omega), upE_ne (by omega), upE_ne (by omega), upE_ne (by omega), upE_ne (by omega), upE_ne (by omega), upE_ne (by omega), upE_ne (by omega), upE_ne (by omega), upE_ne (by omega), upE_ne (by omega), upE_ne (by omega)]
set_option maxRecDepth 20000 in
theorem c_X7_12 {G : SG} {En : Nat → va_E} (hG : GA G) (hg : gh G = 549) (hfl : (gL G).stackTraces = false) : OkN G mX7_init [.ref (ga G 12)] 13 (upE En 12 (.inr (6, [.null, .null, .null, .null, .null, .null, .null, .null, .int 0, .int 0, .int 0, .int 0, .int 0, .int 0]))) 21 (upR G En 12 21) := by
  refine okN_of (pf := 79) hfl rfl (by decide +kernel) (Nat.le_of_ble_eq_true rfl) rfl (by decide) dX7_init_79 ?_
  refine rk_aload dX7_init_0 0 rfl ?_
  refine rk_obj (bc1 71 (by decide +kernel) (by decide +kernel)) w_oi1 w_oi2 dX7_init_1 ?_
  refine rk_aload dX7_init_4 0 rfl ?_
  refine rk_bipush (6) dX7_init_5 rfl ?_
  refine rk_newa (N := 6) hG hg sh13 dX7_init_7 (by decide) rfl (by decide) (by decide) (by decide) w_arI ?_
  refine rk_putF (ci := 6) (kf := 0) (h := 12) (N := 14) (fs := [.null, .null, .null, .null, .null, .null, .null, .null, .int 0, .int 0, .int 0, .int 0, .int 0, .int 0]) (Cn := RX7) (T := TX7) (ty0 := tyX7) (ty := .array .int) hG (by decide) (by decide) ((upE_ne (by decide)).trans (upE_eq)) rfl inc_X7 tyX7_ok nmX7 (by decide) (bc1 72 (by decide +kernel) (by decide +kernel)) rfl rfl rfl (by decide +kernel) rfl rfl (Nat.le_of_ble_eq_true rfl) dX7_init_9 ?_
  refine rk_aload dX7_init_12 0 rfl ?_
  refine rk_bipush (10) dX7_init_13 rfl ?_
  refine rk_newa (N := 10) hG hg sh14 dX7_init_15 (by decide) rfl (by decide) (by decide) (by decide) w_arI ?_
  refine rk_putF (ci := 6) (kf := 1) (h := 12) (N := 14) (fs := [.ref (ga G 13), .null, .null, .null, .null, .null, .null, .null, .int 0, .int 0, .int 0, .int 0, .int 0, .int 0]) (Cn := RX7) (T := TX7) (ty0 := tyX7) (ty := .array .int) hG (by decide) (by decide) ((upE_ne (by decide)).trans (upE_eq)) rfl inc_X7 tyX7_ok nmX7 (by decide) (bc1 74 (by decide +kernel) (by decide +kernel)) rfl rfl rfl (by decide +kernel) rfl rfl (Nat.le_of_ble_eq_true rfl) dX7_init_17 ?_
  refine rk_aload dX7_init_20 0 rfl ?_
  refine rk_bipush (10) dX7_init_21 rfl ?_
  refine rk_newa (N := 10) hG hg sh15 dX7_init_23 (by decide) rfl (by decide) (by decide) (by decide) w_arI ?_
  refine rk_putF (ci := 6) (kf := 2) (h := 12) (N := 14) (fs := [.ref (ga G 13), .ref (ga G 14), .null, .null, .null, .null, .null, .null, .int 0, .int 0, .int 0, .int 0, .int 0, .int 0]) (Cn := RX7) (T := TX7) (ty0 := tyX7) (ty := .array .int) hG (by decide) (by decide) ((upE_ne (by decide)).trans (upE_eq)) rfl inc_X7 tyX7_ok nmX7 (by decide) (bc1 76 (by decide +kernel) (by decide +kernel)) rfl rfl rfl (by decide +kernel) rfl rfl (Nat.le_of_ble_eq_true rfl) dX7_init_25 ?_
  refine rk_aload dX7_init_28 0 rfl ?_
  refine rk_bipush (10) dX7_init_29 rfl ?_
  refine rk_newa (N := 10) hG hg sh16 dX7_init_31 (by decide) rfl (by decide) (by decide) (by decide) w_arI ?_
  refine rk_putF (ci := 6) (kf := 3) (h := 12) (N := 14) (fs := [.ref (ga G 13), .ref (ga G 14), .ref (ga G 15), .null, .null, .null, .null, .null, .int 0, .int 0, .int 0, .int 0, .int 0, .int 0]) (Cn := RX7) (T := TX7) (ty0 := tyX7) (ty := .array .int) hG (by decide) (by decide) ((upE_ne (by decide)).trans (upE_eq)) rfl inc_X7 tyX7_ok nmX7 (by decide) (bc1 79 (by decide +kernel) (by decide +kernel)) rfl rfl rfl (by decide +kernel) rfl rfl (Nat.le_of_ble_eq_true rfl) dX7_init_33 ?_
  refine rk_aload dX7_init_36 0 rfl ?_
  refine rk_bipush (10) dX7_init_37 rfl ?_
  refine rk_newa (N := 10) hG hg sh17 dX7_init_39 (by decide) rfl (by decide) (by decide) (by decide) w_arI ?_
  refine rk_putF (ci := 6) (kf := 4) (h := 12) (N := 14) (fs := [.ref (ga G 13), .ref (ga G 14), .ref (ga G 15), .ref (ga G 16), .null, .null, .null, .null, .int 0, .int 0, .int 0, .int 0, .int 0, .int 0]) (Cn := RX7) (T := TX7) (ty0 := tyX7) (ty := .array .int) hG (by decide) (by decide) ((upE_ne (by decide)).trans (upE_eq)) rfl inc_X7 tyX7_ok nmX7 (by decide) (bc1 82 (by decide +kernel) (by decide +kernel)) rfl rfl rfl (by decide +kernel) rfl rfl (Nat.le_of_ble_eq_true rfl) dX7_init_41 ?_
  refine rk_aload dX7_init_44 0 rfl ?_
  refine rk_bipush (12) dX7_init_45 rfl ?_
  refine rk_newa (N := 12) hG hg sh18 dX7_init_47 (by decide) rfl (by decide) (by decide) (by decide) w_arI ?_
  refine rk_putF (ci := 6) (kf := 5) (h := 12) (N := 14) (fs := [.ref (ga G 13), .ref (ga G 14), .ref (ga G 15), .ref (ga G 16), .ref (ga G 17), .null, .null, .null, .int 0, .int 0, .int 0, .int 0, .int 0, .int 0]) (Cn := RX7) (T := TX7) (ty0 := tyX7) (ty := .array .int) hG (by decide) (by decide) ((upE_ne (by decide)).trans (upE_eq)) rfl inc_X7 tyX7_ok nmX7 (by decide) (bc1 84 (by decide +kernel) (by decide +kernel)) rfl rfl rfl (by decide +kernel) rfl rfl (Nat.le_of_ble_eq_true rfl) dX7_init_49 ?_
  refine rk_aload dX7_init_52 0 rfl ?_
  refine rk_bipush (6) dX7_init_53 rfl ?_
  refine rk_newa (N := 6) hG hg sh19 dX7_init_55 (by decide) rfl (by decide) (by decide) (by decide) w_arI ?_
  refine rk_putF (ci := 6) (kf := 6) (h := 12) (N := 14) (fs := [.ref (ga G 13), .ref (ga G 14), .ref (ga G 15), .ref (ga G 16), .ref (ga G 17), .ref (ga G 18), .null, .null, .int 0, .int 0, .int 0, .int 0, .int 0, .int 0]) (Cn := RX7) (T := TX7) (ty0 := tyX7) (ty := .array .int) hG (by decide) (by decide) ((upE_ne (by decide)).trans (upE_eq)) rfl inc_X7 tyX7_ok nmX7 (by decide) (bc1 85 (by decide +kernel) (by decide +kernel)) rfl rfl rfl (by decide +kernel) rfl rfl (Nat.le_of_ble_eq_true rfl) dX7_init_57 ?_
  refine rk_aload dX7_init_60 0 rfl ?_
  refine rk_bipush (6) dX7_init_61 rfl ?_
  refine rk_newa (N := 6) hG hg sh20 dX7_init_63 (by decide) rfl (by decide) (by decide) (by decide) w_arI ?_
  refine rk_putF (ci := 6) (kf := 7) (h := 12) (N := 14) (fs := [.ref (ga G 13), .ref (ga G 14), .ref (ga G 15), .ref (ga G 16), .ref (ga G 17), .ref (ga G 18), .ref (ga G 19), .null, .int 0, .int 0, .int 0, .int 0, .int 0, .int 0]) (Cn := RX7) (T := TX7) (ty0 := tyX7) (ty := .array .int) hG (by decide) (by decide) ((upE_ne (by decide)).trans (upE_eq)) rfl inc_X7 tyX7_ok nmX7 (by decide) (bc1 88 (by decide +kernel) (by decide +kernel)) rfl rfl rfl (by decide +kernel) rfl rfl (Nat.le_of_ble_eq_true rfl) dX7_init_65 ?_
  refine rk_aload dX7_init_68 0 rfl ?_
  refine rk_bipush (10) dX7_init_69 rfl ?_
  refine rk_putI (ci := 6) (kf := 12) (h := 12) (fs := [.ref (ga G 13), .ref (ga G 14), .ref (ga G 15), .ref (ga G 16), .ref (ga G 17), .ref (ga G 18), .ref (ga G 19), .ref (ga G 20), .int 0, .int 0, .int 0, .int 0, .int 0, .int 0]) hG (by decide) (by decide) (upE_eq) fiX7_36 (Nat.le_of_ble_eq_true rfl) dX7_init_71 ?_
  refine rk_aload dX7_init_74 0 rfl ?_
  refine rk_iconst (3) dX7_init_75 rfl ?_
  refine rk_putI (ci := 6) (kf := 13) (h := 12) (fs := [.ref (ga G 13), .ref (ga G 14), .ref (ga G 15), .ref (ga G 16), .ref (ga G 17), .ref (ga G 18), .ref (ga G 19), .ref (ga G 20), .int 0, .int 0, .int 0, .int 0, .int (10), .int 0]) hG (by decide) (by decide) (upE_eq) fiX7_40 (Nat.le_of_ble_eq_true rfl) dX7_init_76 ?_
  refine rk_end [] rfl rfl (fun x hx => ?_)
  by_cases h12 : x = 12
  · subst h12
    rw [upR_in (by decide) (by decide), ent_obj sh12]
    rfl
  by_cases h13 : x = 13
  · subst h13
    rw [upR_in (by decide) (by decide), ent_int sh13]
    rfl
  by_cases h14 : x = 14
  · subst h14
    rw [upR_in (by decide) (by decide), ent_int sh14]
    rfl
  by_cases h15 : x = 15
  · subst h15
    rw [upR_in (by decide) (by decide), ent_int sh15]
    rfl
  by_cases h16 : x = 16
  · subst h16
    rw [upR_in (by decide) (by decide), ent_int sh16]
    rfl
  by_cases h17 : x = 17
  · subst h17
    rw [upR_in (by decide) (by decide), ent_int sh17]
    rfl
  by_cases h18 : x = 18
  · subst h18
    rw [upR_in (by decide) (by decide), ent_int sh18]
    rfl
  by_cases h19 : x = 19
  · subst h19
    rw [upR_in (by decide) (by decide), ent_int sh19]
    rfl
  by_cases h20 : x = 20
  · subst h20
    rw [upR_in (by decide) (by decide), ent_int sh20]
    rfl
  rw [upR_out (by omega)]
  rw [upE_ne (by omega), upE_ne (by omega), upE_ne (by omega), upE_ne (by omega), upE_ne (by omega), upE_ne (by omega), upE_ne (by omega), upE_ne (by omega), upE_ne (by omega), upE_ne (by omega), upE_ne (by omega), upE_ne (by omega), upE_ne (by omega), upE_ne (by omega), upE_ne (by omega), upE_ne (by omega), upE_ne (by omega), upE_ne (by omega), upE_ne (by omega)]
set_option maxRecDepth 20000 in
theorem c_X1_21 {G : SG} {En : Nat → va_E} (hG : GA G) (hg : gh G = 549) (hfl : (gL G).stackTraces = false) : OkN G mX1_init [.ref (ga G 21)] 22 (upE En 21 (.inr (1, [.null, .null, .null, .null, .int 0]))) 26 (upR G En 21 26) := by
  refine okN_of (pf := 39) hfl rfl (by decide +kernel) (Nat.le_of_ble_eq_true rfl) rfl (by decide) dX1_init_39 ?_
  refine rk_aload dX1_init_0 0 rfl ?_
  refine rk_obj (bc1 148 (by decide +kernel) (by decide +kernel)) w_oi1 w_oi2 dX1_init_1 ?_
  refine rk_aload dX1_init_4 0 rfl ?_
  refine rk_sipush (150) dX1_init_5 rfl ?_
  refine rk_newa (N := 150) hG hg sh22 dX1_init_8 (by decide) rfl (by decide) (by decide) (by decide) w_arI ?_
  refine rk_putF (ci := 1) (kf := 0) (h := 21) (N := 5) (fs := [.null, .null, .null, .null, .int 0]) (Cn := RX1) (T := TX1) (ty0 := tyX1) (ty := .array .int) hG (by decide) (by decide) ((upE_ne (by decide)).trans (upE_eq)) rfl inc_X1 tyX1_ok nmX1 (by decide) (bc1 149 (by decide +kernel) (by decide +kernel)) rfl rfl rfl (by decide +kernel) rfl rfl (Nat.le_of_ble_eq_true rfl) dX1_init_10 ?_
  refine rk_aload dX1_init_13 0 rfl ?_
  refine rk_sipush (150) dX1_init_14 rfl ?_
  refine rk_newa (N := 150) hG hg sh23 dX1_init_17 (by decide) rfl (by decide) (by decide) (by decide) w_arI ?_
  refine rk_putF (ci := 1) (kf := 1) (h := 21) (N := 5) (fs := [.ref (ga G 22), .null, .null, .null, .int 0]) (Cn := RX1) (T := TX1) (ty0 := tyX1) (ty := .array .int) hG (by decide) (by decide) ((upE_ne (by decide)).trans (upE_eq)) rfl inc_X1 tyX1_ok nmX1 (by decide) (bc1 150 (by decide +kernel) (by decide +kernel)) rfl rfl rfl (by decide +kernel) rfl rfl (Nat.le_of_ble_eq_true rfl) dX1_init_19 ?_
  refine rk_aload dX1_init_22 0 rfl ?_
  refine rk_bipush (7) dX1_init_23 rfl ?_
  refine rk_newa (N := 7) hG hg sh24 dX1_init_25 (by decide) rfl (by decide) (by decide) (by decide) w_arI ?_
  refine rk_putF (ci := 1) (kf := 2) (h := 21) (N := 5) (fs := [.ref (ga G 22), .ref (ga G 23), .null, .null, .int 0]) (Cn := RX1) (T := TX1) (ty0 := tyX1) (ty := .array .int) hG (by decide) (by decide) ((upE_ne (by decide)).trans (upE_eq)) rfl inc_X1 tyX1_ok nmX1 (by decide) (bc1 151 (by decide +kernel) (by decide +kernel)) rfl rfl rfl (by decide +kernel) rfl rfl (Nat.le_of_ble_eq_true rfl) dX1_init_27 ?_
  refine rk_aload dX1_init_30 0 rfl ?_
  refine rk_sipush (150) dX1_init_31 rfl ?_
  refine rk_newa (N := 150) hG hg sh25 dX1_init_34 (by decide) rfl (by decide) (by decide) (by decide) w_arI ?_
  refine rk_putF (ci := 1) (kf := 3) (h := 21) (N := 5) (fs := [.ref (ga G 22), .ref (ga G 23), .ref (ga G 24), .null, .int 0]) (Cn := RX1) (T := TX1) (ty0 := tyX1) (ty := .array .int) hG (by decide) (by decide) ((upE_ne (by decide)).trans (upE_eq)) rfl inc_X1 tyX1_ok nmX1 (by decide) (bc1 152 (by decide +kernel) (by decide +kernel)) rfl rfl rfl (by decide +kernel) rfl rfl (Nat.le_of_ble_eq_true rfl) dX1_init_36 ?_
  refine rk_end [] rfl rfl (fun x hx => ?_)
  by_cases h21 : x = 21
  · subst h21
    rw [upR_in (by decide) (by decide), ent_obj sh21]
    rfl
  by_cases h22 : x = 22
  · subst h22
    rw [upR_in (by decide) (by decide), ent_int sh22]
    rfl
  by_cases h23 : x = 23
  · subst h23
    rw [upR_in (by decide) (by decide), ent_int sh23]
    rfl
  by_cases h24 : x = 24
  · subst h24
    rw [upR_in (by decide) (by decide), ent_int sh24]
    rfl
  by_cases h25 : x = 25
  · subst h25
    rw [upR_in (by decide) (by decide), ent_int sh25]
    rfl
  rw [upR_out (by omega)]
  rw [upE_ne (by omega), upE_ne (by omega), upE_ne (by omega), upE_ne (by omega), upE_ne (by omega), upE_ne (by omega), upE_ne (by omega), upE_ne (by omega), upE_ne (by omega)]
set_option maxRecDepth 20000 in
theorem c_X1_26 {G : SG} {En : Nat → va_E} (hG : GA G) (hg : gh G = 549) (hfl : (gL G).stackTraces = false) : OkN G mX1_init [.ref (ga G 26)] 27 (upE En 26 (.inr (1, [.null, .null, .null, .null, .int 0]))) 31 (upR G En 26 31) := by
  refine okN_of (pf := 39) hfl rfl (by decide +kernel) (Nat.le_of_ble_eq_true rfl) rfl (by decide) dX1_init_39 ?_
  refine rk_aload dX1_init_0 0 rfl ?_
  refine rk_obj (bc1 148 (by decide +kernel) (by decide +kernel)) w_oi1 w_oi2 dX1_init_1 ?_
  refine rk_aload dX1_init_4 0 rfl ?_
  refine rk_sipush (150) dX1_init_5 rfl ?_
  refine rk_newa (N := 150) hG hg sh27 dX1_init_8 (by decide) rfl (by decide) (by decide) (by decide) w_arI ?_
  refine rk_putF (ci := 1) (kf := 0) (h := 26) (N := 5) (fs := [.null, .null, .null, .null, .int 0]) (Cn := RX1) (T := TX1) (ty0 := tyX1) (ty := .array .int) hG (by decide) (by decide) ((upE_ne (by decide)).trans (upE_eq)) rfl inc_X1 tyX1_ok nmX1 (by decide) (bc1 149 (by decide +kernel) (by decide +kernel)) rfl rfl rfl (by decide +kernel) rfl rfl (Nat.le_of_ble_eq_true rfl) dX1_init_10 ?_
  refine rk_aload dX1_init_13 0 rfl ?_
  refine rk_sipush (150) dX1_init_14 rfl ?_
  refine rk_newa (N := 150) hG hg sh28 dX1_init_17 (by decide) rfl (by decide) (by decide) (by decide) w_arI ?_
  refine rk_putF (ci := 1) (kf := 1) (h := 26) (N := 5) (fs := [.ref (ga G 27), .null, .null, .null, .int 0]) (Cn := RX1) (T := TX1) (ty0 := tyX1) (ty := .array .int) hG (by decide) (by decide) ((upE_ne (by decide)).trans (upE_eq)) rfl inc_X1 tyX1_ok nmX1 (by decide) (bc1 150 (by decide +kernel) (by decide +kernel)) rfl rfl rfl (by decide +kernel) rfl rfl (Nat.le_of_ble_eq_true rfl) dX1_init_19 ?_
  refine rk_aload dX1_init_22 0 rfl ?_
  refine rk_bipush (7) dX1_init_23 rfl ?_
  refine rk_newa (N := 7) hG hg sh29 dX1_init_25 (by decide) rfl (by decide) (by decide) (by decide) w_arI ?_
  refine rk_putF (ci := 1) (kf := 2) (h := 26) (N := 5) (fs := [.ref (ga G 27), .ref (ga G 28), .null, .null, .int 0]) (Cn := RX1) (T := TX1) (ty0 := tyX1) (ty := .array .int) hG (by decide) (by decide) ((upE_ne (by decide)).trans (upE_eq)) rfl inc_X1 tyX1_ok nmX1 (by decide) (bc1 151 (by decide +kernel) (by decide +kernel)) rfl rfl rfl (by decide +kernel) rfl rfl (Nat.le_of_ble_eq_true rfl) dX1_init_27 ?_
  refine rk_aload dX1_init_30 0 rfl ?_
  refine rk_sipush (150) dX1_init_31 rfl ?_
  refine rk_newa (N := 150) hG hg sh30 dX1_init_34 (by decide) rfl (by decide) (by decide) (by decide) w_arI ?_
  refine rk_putF (ci := 1) (kf := 3) (h := 26) (N := 5) (fs := [.ref (ga G 27), .ref (ga G 28), .ref (ga G 29), .null, .int 0]) (Cn := RX1) (T := TX1) (ty0 := tyX1) (ty := .array .int) hG (by decide) (by decide) ((upE_ne (by decide)).trans (upE_eq)) rfl inc_X1 tyX1_ok nmX1 (by decide) (bc1 152 (by decide +kernel) (by decide +kernel)) rfl rfl rfl (by decide +kernel) rfl rfl (Nat.le_of_ble_eq_true rfl) dX1_init_36 ?_
  refine rk_end [] rfl rfl (fun x hx => ?_)
  by_cases h26 : x = 26
  · subst h26
    rw [upR_in (by decide) (by decide), ent_obj sh26]
    rfl
  by_cases h27 : x = 27
  · subst h27
    rw [upR_in (by decide) (by decide), ent_int sh27]
    rfl
  by_cases h28 : x = 28
  · subst h28
    rw [upR_in (by decide) (by decide), ent_int sh28]
    rfl
  by_cases h29 : x = 29
  · subst h29
    rw [upR_in (by decide) (by decide), ent_int sh29]
    rfl
  by_cases h30 : x = 30
  · subst h30
    rw [upR_in (by decide) (by decide), ent_int sh30]
    rfl
  rw [upR_out (by omega)]
  rw [upE_ne (by omega), upE_ne (by omega), upE_ne (by omega), upE_ne (by omega), upE_ne (by omega), upE_ne (by omega), upE_ne (by omega), upE_ne (by omega), upE_ne (by omega)]
set_option maxRecDepth 20000 in
theorem c_X6_31 {G : SG} {En : Nat → va_E} (hG : GA G) (hg : gh G = 549) (hfl : (gL G).stackTraces = false) : OkN G mX6_init [.ref (ga G 31)] 32 (upE En 31 (.inr (5, [.null, .null, .null, .null, .null, .int 0, .int 0, .int 0]))) 37 (upR G En 31 37) := by
  refine okN_of (pf := 47) hfl rfl (by decide +kernel) (Nat.le_of_ble_eq_true rfl) rfl (by decide) dX6_init_47 ?_
  refine rk_aload dX6_init_0 0 rfl ?_
  refine rk_obj (bc1 170 (by decide +kernel) (by decide +kernel)) w_oi1 w_oi2 dX6_init_1 ?_
  refine rk_aload dX6_init_4 0 rfl ?_
  refine rk_sipush (150) dX6_init_5 rfl ?_
  refine rk_newa (N := 150) hG hg sh32 dX6_init_8 (by decide) rfl (by decide) (by decide) (by decide) w_arI ?_
  refine rk_putF (ci := 5) (kf := 0) (h := 31) (N := 8) (fs := [.null, .null, .null, .null, .null, .int 0, .int 0, .int 0]) (Cn := RX6) (T := TX6) (ty0 := tyX6) (ty := .array .int) hG (by decide) (by decide) ((upE_ne (by decide)).trans (upE_eq)) rfl inc_X6 tyX6_ok nmX6 (by decide) (bc1 171 (by decide +kernel) (by decide +kernel)) rfl rfl rfl (by decide +kernel) rfl rfl (Nat.le_of_ble_eq_true rfl) dX6_init_10 ?_
  refine rk_aload dX6_init_13 0 rfl ?_
  refine rk_sipush (150) dX6_init_14 rfl ?_
  refine rk_newa (N := 150) hG hg sh33 dX6_init_17 (by decide) rfl (by decide) (by decide) (by decide) w_arI ?_
  refine rk_putF (ci := 5) (kf := 1) (h := 31) (N := 8) (fs := [.ref (ga G 32), .null, .null, .null, .null, .int 0, .int 0, .int 0]) (Cn := RX6) (T := TX6) (ty0 := tyX6) (ty := .array .int) hG (by decide) (by decide) ((upE_ne (by decide)).trans (upE_eq)) rfl inc_X6 tyX6_ok nmX6 (by decide) (bc1 172 (by decide +kernel) (by decide +kernel)) rfl rfl rfl (by decide +kernel) rfl rfl (Nat.le_of_ble_eq_true rfl) dX6_init_19 ?_
  refine rk_aload dX6_init_22 0 rfl ?_
  refine rk_sipush (150) dX6_init_23 rfl ?_
  refine rk_newa (N := 150) hG hg sh34 dX6_init_26 (by decide) rfl (by decide) (by decide) (by decide) w_arI ?_
  refine rk_putF (ci := 5) (kf := 2) (h := 31) (N := 8) (fs := [.ref (ga G 32), .ref (ga G 33), .null, .null, .null, .int 0, .int 0, .int 0]) (Cn := RX6) (T := TX6) (ty0 := tyX6) (ty := .array .int) hG (by decide) (by decide) ((upE_ne (by decide)).trans (upE_eq)) rfl inc_X6 tyX6_ok nmX6 (by decide) (bc1 173 (by decide +kernel) (by decide +kernel)) rfl rfl rfl (by decide +kernel) rfl rfl (Nat.le_of_ble_eq_true rfl) dX6_init_28 ?_
  refine rk_aload dX6_init_31 0 rfl ?_
  refine rk_bipush (6) dX6_init_32 rfl ?_
  refine rk_newa (N := 6) hG hg sh35 dX6_init_34 (by decide) rfl (by decide) (by decide) (by decide) w_arI ?_
  refine rk_putF (ci := 5) (kf := 3) (h := 31) (N := 8) (fs := [.ref (ga G 32), .ref (ga G 33), .ref (ga G 34), .null, .null, .int 0, .int 0, .int 0]) (Cn := RX6) (T := TX6) (ty0 := tyX6) (ty := .array .int) hG (by decide) (by decide) ((upE_ne (by decide)).trans (upE_eq)) rfl inc_X6 tyX6_ok nmX6 (by decide) (bc1 174 (by decide +kernel) (by decide +kernel)) rfl rfl rfl (by decide +kernel) rfl rfl (Nat.le_of_ble_eq_true rfl) dX6_init_36 ?_
  refine rk_aload dX6_init_39 0 rfl ?_
  refine rk_bipush (6) dX6_init_40 rfl ?_
  refine rk_newa (N := 6) hG hg sh36 dX6_init_42 (by decide) rfl (by decide) (by decide) (by decide) w_arI ?_
  refine rk_putF (ci := 5) (kf := 4) (h := 31) (N := 8) (fs := [.ref (ga G 32), .ref (ga G 33), .ref (ga G 34), .ref (ga G 35), .null, .int 0, .int 0, .int 0]) (Cn := RX6) (T := TX6) (ty0 := tyX6) (ty := .array .int) hG (by decide) (by decide) ((upE_ne (by decide)).trans (upE_eq)) rfl inc_X6 tyX6_ok nmX6 (by decide) (bc1 175 (by decide +kernel) (by decide +kernel)) rfl rfl rfl (by decide +kernel) rfl rfl (Nat.le_of_ble_eq_true rfl) dX6_init_44 ?_
  refine rk_end [] rfl rfl (fun x hx => ?_)
  by_cases h31 : x = 31
  · subst h31
    rw [upR_in (by decide) (by decide), ent_obj sh31]
    rfl
  by_cases h32 : x = 32
  · subst h32
    rw [upR_in (by decide) (by decide), ent_int sh32]
    rfl
  by_cases h33 : x = 33
  · subst h33
    rw [upR_in (by decide) (by decide), ent_int sh33]
    rfl
  by_cases h34 : x = 34
  · subst h34
    rw [upR_in (by decide) (by decide), ent_int sh34]
    rfl
  by_cases h35 : x = 35
  · subst h35
    rw [upR_in (by decide) (by decide), ent_int sh35]
    rfl
  by_cases h36 : x = 36
  · subst h36
    rw [upR_in (by decide) (by decide), ent_int sh36]
    rfl
  rw [upR_out (by omega)]
  rw [upE_ne (by omega), upE_ne (by omega), upE_ne (by omega), upE_ne (by omega), upE_ne (by omega), upE_ne (by omega), upE_ne (by omega), upE_ne (by omega), upE_ne (by omega), upE_ne (by omega), upE_ne (by omega)]
set_option maxRecDepth 20000 in
theorem c_X2_37 {G : SG} {En : Nat → va_E} (hG : GA G) (hg : gh G = 549) (hfl : (gL G).stackTraces = false) : OkN G mX2_init [.ref (ga G 37)] 38 (upE En 37 (.inr (2, [.null, .null, .int 0]))) 40 (upR G En 37 40) := by
  refine okN_of (pf := 20) hfl rfl (by decide +kernel) (Nat.le_of_ble_eq_true rfl) rfl (by decide) dX2_init_20 ?_
  refine rk_aload dX2_init_0 0 rfl ?_
  refine rk_obj (bc1 202 (by decide +kernel) (by decide +kernel)) w_oi1 w_oi2 dX2_init_1 ?_
  refine rk_aload dX2_init_4 0 rfl ?_
  refine rk_bipush (6) dX2_init_5 rfl ?_
  refine rk_newa (N := 6) hG hg sh38 dX2_init_7 (by decide) rfl (by decide) (by decide) (by decide) w_arI ?_
  refine rk_putF (ci := 2) (kf := 0) (h := 37) (N := 3) (fs := [.null, .null, .int 0]) (Cn := RX2) (T := TX2) (ty0 := tyX2) (ty := .array .int) hG (by decide) (by decide) ((upE_ne (by decide)).trans (upE_eq)) rfl inc_X2 tyX2_ok nmX2 (by decide) (bc1 203 (by decide +kernel) (by decide +kernel)) rfl rfl rfl (by decide +kernel) rfl rfl (Nat.le_of_ble_eq_true rfl) dX2_init_9 ?_
  refine rk_aload dX2_init_12 0 rfl ?_
  refine rk_bipush (61) dX2_init_13 rfl ?_
  refine rk_newa (N := 61) hG hg sh39 dX2_init_15 (by decide) rfl (by decide) (by decide) (by decide) w_arI ?_
  refine rk_putF (ci := 2) (kf := 1) (h := 37) (N := 3) (fs := [.ref (ga G 38), .null, .int 0]) (Cn := RX2) (T := TX2) (ty0 := tyX2) (ty := .array .int) hG (by decide) (by decide) ((upE_ne (by decide)).trans (upE_eq)) rfl inc_X2 tyX2_ok nmX2 (by decide) (bc1 204 (by decide +kernel) (by decide +kernel)) rfl rfl rfl (by decide +kernel) rfl rfl (Nat.le_of_ble_eq_true rfl) dX2_init_17 ?_
  refine rk_end [] rfl rfl (fun x hx => ?_)
  by_cases h37 : x = 37
  · subst h37
    rw [upR_in (by decide) (by decide), ent_obj sh37]
    rfl
  by_cases h38 : x = 38
  · subst h38
    rw [upR_in (by decide) (by decide), ent_int sh38]
    rfl
  by_cases h39 : x = 39
  · subst h39
    rw [upR_in (by decide) (by decide), ent_int sh39]
    rfl
  rw [upR_out (by omega)]
  rw [upE_ne (by omega), upE_ne (by omega), upE_ne (by omega), upE_ne (by omega), upE_ne (by omega)]
set_option maxRecDepth 20000 in
theorem c_X2_40 {G : SG} {En : Nat → va_E} (hG : GA G) (hg : gh G = 549) (hfl : (gL G).stackTraces = false) : OkN G mX2_init [.ref (ga G 40)] 41 (upE En 40 (.inr (2, [.null, .null, .int 0]))) 43 (upR G En 40 43) := by
  refine okN_of (pf := 20) hfl rfl (by decide +kernel) (Nat.le_of_ble_eq_true rfl) rfl (by decide) dX2_init_20 ?_
  refine rk_aload dX2_init_0 0 rfl ?_
  refine rk_obj (bc1 202 (by decide +kernel) (by decide +kernel)) w_oi1 w_oi2 dX2_init_1 ?_
  refine rk_aload dX2_init_4 0 rfl ?_
  refine rk_bipush (6) dX2_init_5 rfl ?_
  refine rk_newa (N := 6) hG hg sh41 dX2_init_7 (by decide) rfl (by decide) (by decide) (by decide) w_arI ?_
  refine rk_putF (ci := 2) (kf := 0) (h := 40) (N := 3) (fs := [.null, .null, .int 0]) (Cn := RX2) (T := TX2) (ty0 := tyX2) (ty := .array .int) hG (by decide) (by decide) ((upE_ne (by decide)).trans (upE_eq)) rfl inc_X2 tyX2_ok nmX2 (by decide) (bc1 203 (by decide +kernel) (by decide +kernel)) rfl rfl rfl (by decide +kernel) rfl rfl (Nat.le_of_ble_eq_true rfl) dX2_init_9 ?_
  refine rk_aload dX2_init_12 0 rfl ?_
  refine rk_bipush (61) dX2_init_13 rfl ?_
  refine rk_newa (N := 61) hG hg sh42 dX2_init_15 (by decide) rfl (by decide) (by decide) (by decide) w_arI ?_
  refine rk_putF (ci := 2) (kf := 1) (h := 40) (N := 3) (fs := [.ref (ga G 41), .null, .int 0]) (Cn := RX2) (T := TX2) (ty0 := tyX2) (ty := .array .int) hG (by decide) (by decide) ((upE_ne (by decide)).trans (upE_eq)) rfl inc_X2 tyX2_ok nmX2 (by decide) (bc1 204 (by decide +kernel) (by decide +kernel)) rfl rfl rfl (by decide +kernel) rfl rfl (Nat.le_of_ble_eq_true rfl) dX2_init_17 ?_
  refine rk_end [] rfl rfl (fun x hx => ?_)
  by_cases h40 : x = 40
  · subst h40
    rw [upR_in (by decide) (by decide), ent_obj sh40]
    rfl
  by_cases h41 : x = 41
  · subst h41
    rw [upR_in (by decide) (by decide), ent_int sh41]
    rfl
  by_cases h42 : x = 42
  · subst h42
    rw [upR_in (by decide) (by decide), ent_int sh42]
    rfl
  rw [upR_out (by omega)]
  rw [upE_ne (by omega), upE_ne (by omega), upE_ne (by omega), upE_ne (by omega), upE_ne (by omega)]
set_option maxRecDepth 20000 in
theorem c_X5_43 {G : SG} {En : Nat → va_E} (hG : GA G) (hg : gh G = 549) (hfl : (gL G).stackTraces = false) : OkN G mX5_init [.ref (ga G 43)] 44 (upE En 43 (.inr (4, [.null, .null, .null, .null]))) 48 (upR G En 43 48) := by
  refine okN_of (pf := 36) hfl rfl (by decide +kernel) (Nat.le_of_ble_eq_true rfl) rfl (by decide) dX5_init_36 ?_
  refine rk_aload dX5_init_0 0 rfl ?_
  refine rk_obj (bc1 219 (by decide +kernel) (by decide +kernel)) w_oi1 w_oi2 dX5_init_1 ?_
  refine rk_aload dX5_init_4 0 rfl ?_
  refine rk_bipush (69) dX5_init_5 rfl ?_
  refine rk_newa (N := 69) hG hg sh44 dX5_init_7 (by decide) rfl (by decide) (by decide) (by decide) w_arI ?_
  refine rk_putF (ci := 4) (kf := 0) (h := 43) (N := 4) (fs := [.null, .null, .null, .null]) (Cn := RX5) (T := TX5) (ty0 := tyX5) (ty := .array .int) hG (by decide) (by decide) ((upE_ne (by decide)).trans (upE_eq)) rfl inc_X5 tyX5_ok nmX5 (by decide) (bc1 220 (by decide +kernel) (by decide +kernel)) rfl rfl rfl (by decide +kernel) rfl rfl (Nat.le_of_ble_eq_true rfl) dX5_init_9 ?_
  refine rk_aload dX5_init_12 0 rfl ?_
  refine rk_bipush (6) dX5_init_13 rfl ?_
  refine rk_newa (N := 6) hG hg sh45 dX5_init_15 (by decide) rfl (by decide) (by decide) (by decide) w_arI ?_
  refine rk_putF (ci := 4) (kf := 1) (h := 43) (N := 4) (fs := [.ref (ga G 44), .null, .null, .null]) (Cn := RX5) (T := TX5) (ty0 := tyX5) (ty := .array .int) hG (by decide) (by decide) ((upE_ne (by decide)).trans (upE_eq)) rfl inc_X5 tyX5_ok nmX5 (by decide) (bc1 223 (by decide +kernel) (by decide +kernel)) rfl rfl rfl (by decide +kernel) rfl rfl (Nat.le_of_ble_eq_true rfl) dX5_init_17 ?_
  refine rk_aload dX5_init_20 0 rfl ?_
  refine rk_bipush (6) dX5_init_21 rfl ?_
  refine rk_newa (N := 6) hG hg sh46 dX5_init_23 (by decide) rfl (by decide) (by decide) (by decide) w_arI ?_
  refine rk_putF (ci := 4) (kf := 2) (h := 43) (N := 4) (fs := [.ref (ga G 44), .ref (ga G 45), .null, .null]) (Cn := RX5) (T := TX5) (ty0 := tyX5) (ty := .array .int) hG (by decide) (by decide) ((upE_ne (by decide)).trans (upE_eq)) rfl inc_X5 tyX5_ok nmX5 (by decide) (bc1 224 (by decide +kernel) (by decide +kernel)) rfl rfl rfl (by decide +kernel) rfl rfl (Nat.le_of_ble_eq_true rfl) dX5_init_25 ?_
  refine rk_aload dX5_init_28 0 rfl ?_
  refine rk_bipush (6) dX5_init_29 rfl ?_
  refine rk_newa (N := 6) hG hg sh47 dX5_init_31 (by decide) rfl (by decide) (by decide) (by decide) w_arI ?_
  refine rk_putF (ci := 4) (kf := 3) (h := 43) (N := 4) (fs := [.ref (ga G 44), .ref (ga G 45), .ref (ga G 46), .null]) (Cn := RX5) (T := TX5) (ty0 := tyX5) (ty := .array .int) hG (by decide) (by decide) ((upE_ne (by decide)).trans (upE_eq)) rfl inc_X5 tyX5_ok nmX5 (by decide) (bc1 225 (by decide +kernel) (by decide +kernel)) rfl rfl rfl (by decide +kernel) rfl rfl (Nat.le_of_ble_eq_true rfl) dX5_init_33 ?_
  refine rk_end [] rfl rfl (fun x hx => ?_)
  by_cases h43 : x = 43
  · subst h43
    rw [upR_in (by decide) (by decide), ent_obj sh43]
    rfl
  by_cases h44 : x = 44
  · subst h44
    rw [upR_in (by decide) (by decide), ent_int sh44]
    rfl
  by_cases h45 : x = 45
  · subst h45
    rw [upR_in (by decide) (by decide), ent_int sh45]
    rfl
  by_cases h46 : x = 46
  · subst h46
    rw [upR_in (by decide) (by decide), ent_int sh46]
    rfl
  by_cases h47 : x = 47
  · subst h47
    rw [upR_in (by decide) (by decide), ent_int sh47]
    rfl
  rw [upR_out (by omega)]
  rw [upE_ne (by omega), upE_ne (by omega), upE_ne (by omega), upE_ne (by omega), upE_ne (by omega), upE_ne (by omega), upE_ne (by omega), upE_ne (by omega), upE_ne (by omega)]
set_option maxRecDepth 20000 in
theorem c_X4_48 {G : SG} {En : Nat → va_E} (hG : GA G) (hg : gh G = 549) (hfl : (gL G).stackTraces = false) : OkN G mX4_init [.ref (ga G 48)] 49 (upE En 48 (.inr (3, [.null, .null, .int 0, .int 0]))) 51 (upR G En 48 51) := by
  refine okN_of (pf := 22) hfl rfl (by decide +kernel) (Nat.le_of_ble_eq_true rfl) rfl (by decide) dX4_init_22 ?_
  refine rk_aload dX4_init_0 0 rfl ?_
  refine rk_obj (bc2 0 (by decide +kernel) (by decide +kernel)) w_oi1 w_oi2 dX4_init_1 ?_
  refine rk_aload dX4_init_4 0 rfl ?_
  refine rk_sipush (1104) dX4_init_5 rfl ?_
  refine rk_newa (N := 1104) hG hg sh49 dX4_init_8 (by decide) rfl (by decide) (by decide) (by decide) w_arI ?_
  refine rk_putF (ci := 3) (kf := 0) (h := 48) (N := 4) (fs := [.null, .null, .int 0, .int 0]) (Cn := RX4) (T := TX4) (ty0 := tyX4) (ty := .array .int) hG (by decide) (by decide) ((upE_ne (by decide)).trans (upE_eq)) rfl inc_X4 tyX4_ok nmX4 (by decide) (bc2 1 (by decide +kernel) (by decide +kernel)) rfl rfl rfl (by decide +kernel) rfl rfl (Nat.le_of_ble_eq_true rfl) dX4_init_10 ?_
  refine rk_aload dX4_init_13 0 rfl ?_
  refine rk_sipush (3522) dX4_init_14 rfl ?_
  refine rk_newa (N := 3522) hG hg sh50 dX4_init_17 (by decide) rfl (by decide) (by decide) (by decide) w_arI ?_
  refine rk_putF (ci := 3) (kf := 1) (h := 48) (N := 4) (fs := [.ref (ga G 49), .null, .int 0, .int 0]) (Cn := RX4) (T := TX4) (ty0 := tyX4) (ty := .array .int) hG (by decide) (by decide) ((upE_ne (by decide)).trans (upE_eq)) rfl inc_X4 tyX4_ok nmX4 (by decide) (bc2 2 (by decide +kernel) (by decide +kernel)) rfl rfl rfl (by decide +kernel) rfl rfl (Nat.le_of_ble_eq_true rfl) dX4_init_19 ?_
  refine rk_end [] rfl rfl (fun x hx => ?_)
  by_cases h48 : x = 48
  · subst h48
    rw [upR_in (by decide) (by decide), ent_obj sh48]
    rfl
  by_cases h49 : x = 49
  · subst h49
    rw [upR_in (by decide) (by decide), ent_int sh49]
    rfl
  by_cases h50 : x = 50
  · subst h50
    rw [upR_in (by decide) (by decide), ent_int sh50]
    rfl
  rw [upR_out (by omega)]
  rw [upE_ne (by omega), upE_ne (by omega), upE_ne (by omega), upE_ne (by omega), upE_ne (by omega)]
set_option maxRecDepth 20000 in
theorem c_X5_52 {G : SG} {En : Nat → va_E} (hG : GA G) (hg : gh G = 549) (hfl : (gL G).stackTraces = false) : OkN G mX5_init [.ref (ga G 52)] 53 (upE En 52 (.inr (4, [.null, .null, .null, .null]))) 57 (upR G En 52 57) := by
  refine okN_of (pf := 36) hfl rfl (by decide +kernel) (Nat.le_of_ble_eq_true rfl) rfl (by decide) dX5_init_36 ?_
  refine rk_aload dX5_init_0 0 rfl ?_
  refine rk_obj (bc1 219 (by decide +kernel) (by decide +kernel)) w_oi1 w_oi2 dX5_init_1 ?_
  refine rk_aload dX5_init_4 0 rfl ?_
  refine rk_bipush (69) dX5_init_5 rfl ?_
  refine rk_newa (N := 69) hG hg sh53 dX5_init_7 (by decide) rfl (by decide) (by decide) (by decide) w_arI ?_
  refine rk_putF (ci := 4) (kf := 0) (h := 52) (N := 4) (fs := [.null, .null, .null, .null]) (Cn := RX5) (T := TX5) (ty0 := tyX5) (ty := .array .int) hG (by decide) (by decide) ((upE_ne (by decide)).trans (upE_eq)) rfl inc_X5 tyX5_ok nmX5 (by decide) (bc1 220 (by decide +kernel) (by decide +kernel)) rfl rfl rfl (by decide +kernel) rfl rfl (Nat.le_of_ble_eq_true rfl) dX5_init_9 ?_
  refine rk_aload dX5_init_12 0 rfl ?_
  refine rk_bipush (6) dX5_init_13 rfl ?_
  refine rk_newa (N := 6) hG hg sh54 dX5_init_15 (by decide) rfl (by decide) (by decide) (by decide) w_arI ?_
  refine rk_putF (ci := 4) (kf := 1) (h := 52) (N := 4) (fs := [.ref (ga G 53), .null, .null, .null]) (Cn := RX5) (T := TX5) (ty0 := tyX5) (ty := .array .int) hG (by decide) (by decide) ((upE_ne (by decide)).trans (upE_eq)) rfl inc_X5 tyX5_ok nmX5 (by decide) (bc1 223 (by decide +kernel) (by decide +kernel)) rfl rfl rfl (by decide +kernel) rfl rfl (Nat.le_of_ble_eq_true rfl) dX5_init_17 ?_
  refine rk_aload dX5_init_20 0 rfl ?_
  refine rk_bipush (6) dX5_init_21 rfl ?_
  refine rk_newa (N := 6) hG hg sh55 dX5_init_23 (by decide) rfl (by decide) (by decide) (by decide) w_arI ?_
  refine rk_putF (ci := 4) (kf := 2) (h := 52) (N := 4) (fs := [.ref (ga G 53), .ref (ga G 54), .null, .null]) (Cn := RX5) (T := TX5) (ty0 := tyX5) (ty := .array .int) hG (by decide) (by decide) ((upE_ne (by decide)).trans (upE_eq)) rfl inc_X5 tyX5_ok nmX5 (by decide) (bc1 224 (by decide +kernel) (by decide +kernel)) rfl rfl rfl (by decide +kernel) rfl rfl (Nat.le_of_ble_eq_true rfl) dX5_init_25 ?_
  refine rk_aload dX5_init_28 0 rfl ?_
  refine rk_bipush (6) dX5_init_29 rfl ?_
  refine rk_newa (N := 6) hG hg sh56 dX5_init_31 (by decide) rfl (by decide) (by decide) (by decide) w_arI ?_
  refine rk_putF (ci := 4) (kf := 3) (h := 52) (N := 4) (fs := [.ref (ga G 53), .ref (ga G 54), .ref (ga G 55), .null]) (Cn := RX5) (T := TX5) (ty0 := tyX5) (ty := .array .int) hG (by decide) (by decide) ((upE_ne (by decide)).trans (upE_eq)) rfl inc_X5 tyX5_ok nmX5 (by decide) (bc1 225 (by decide +kernel) (by decide +kernel)) rfl rfl rfl (by decide +kernel) rfl rfl (Nat.le_of_ble_eq_true rfl) dX5_init_33 ?_
  refine rk_end [] rfl rfl (fun x hx => ?_)
  by_cases h52 : x = 52
  · subst h52
    rw [upR_in (by decide) (by decide), ent_obj sh52]
    rfl
  by_cases h53 : x = 53
  · subst h53
    rw [upR_in (by decide) (by decide), ent_int sh53]
    rfl
  by_cases h54 : x = 54
  · subst h54
    rw [upR_in (by decide) (by decide), ent_int sh54]
    rfl
  by_cases h55 : x = 55
  · subst h55
    rw [upR_in (by decide) (by decide), ent_int sh55]
    rfl
  by_cases h56 : x = 56
  · subst h56
    rw [upR_in (by decide) (by decide), ent_int sh56]
    rfl
  rw [upR_out (by omega)]
  rw [upE_ne (by omega), upE_ne (by omega), upE_ne (by omega), upE_ne (by omega), upE_ne (by omega), upE_ne (by omega), upE_ne (by omega), upE_ne (by omega), upE_ne (by omega)]
set_option maxRecDepth 20000 in
theorem c_X0_51 {G : SG} {En : Nat → va_E} (hG : GA G) (hg : gh G = 549) (hfl : (gL G).stackTraces = false) : OkN G mX0_init [.ref (ga G 51), .ref (ga G 3), .ref (ga G 21), .ref (ga G 43)] 52 (upE En 51 (.inr (0, [.null, .null, .null, .null]))) 57 (upR G En 51 57) := by
  refine okN_of (pf := 30) hfl rfl (by decide +kernel) (Nat.le_of_ble_eq_true rfl) rfl (by decide) dX0_init_30 ?_
  refine rk_aload dX0_init_0 0 rfl ?_
  refine rk_obj (bc2 21 (by decide +kernel) (by decide +kernel)) w_oi1 w_oi2 dX0_init_1 ?_
  refine rk_aload dX0_init_4 0 rfl ?_
  refine rk_new (ci := 4) (Cn := RX5) (T := TX5) (N := 4) (ty := tyX5) (fs := [.null, .null, .null, .null]) hG rfl inc_X5 tyX5_ok (bc2 22 (by decide +kernel) (by decide +kernel)) w_inX5 w_iiX5 w_fsX5 (by decide) (by decide) (by decide) dX0_init_5 ?_
  refine rk_dup dX0_init_8 rfl ?_
  refine rk_call (mk := mX5_init) (k1 := 57) (As := []) (rest := [.ref (ga G 52), .ref (ga G 51)]) hG (c_X5_52 hG hg hfl) (Or.inr ⟨"TideLodger", nc2 23 (by decide +kernel) (by decide +kernel)⟩) w_iiX5 ⟨by decide +kernel, by decide +kernel, (by decide +kernel : (parseMethodDescriptor yX5_init.desc).map (fun d => d.parameters.length) = some 0)⟩ w_icX5 w_imX5 rfl rfl dX0_init_9 (by decide) (by decide) rfl (Nat.le_of_ble_eq_true rfl) (by decide) (by decide) (by decide) ?_
  refine rk_putF (ci := 0) (kf := 3) (h := 51) (N := 4) (fs := [.null, .null, .null, .null]) (Cn := RX0) (T := TX0) (ty0 := tyX0) (ty := .object "TideLodger$Stand") hG (by decide) (by decide) ((upR_out (by decide)).trans (upE_eq)) rfl inc_X0 tyX0_ok nmX0 (by decide) (bc2 27 (by decide +kernel) (by decide +kernel)) rfl rfl rfl (by decide +kernel) rfl rfl (Nat.le_of_ble_eq_true rfl) dX0_init_12 ?_
  refine rk_aload dX0_init_15 0 rfl ?_
  refine rk_aload dX0_init_16 1 rfl ?_
  refine rk_putF (ci := 0) (kf := 0) (h := 51) (N := 4) (fs := [.null, .null, .null, .ref (ga G 52)]) (Cn := RX0) (T := TX0) (ty0 := tyX0) (ty := .object "TideLodger$Street") hG (by decide) (by decide) (upE_eq) rfl inc_X0 tyX0_ok nmX0 (by decide) (bc2 24 (by decide +kernel) (by decide +kernel)) rfl rfl rfl (by decide +kernel) rfl rfl (Nat.le_of_ble_eq_true rfl) dX0_init_17 ?_
  refine rk_aload dX0_init_20 0 rfl ?_
  refine rk_aload dX0_init_21 2 rfl ?_
  refine rk_putF (ci := 0) (kf := 1) (h := 51) (N := 4) (fs := [.ref (ga G 3), .null, .null, .ref (ga G 52)]) (Cn := RX0) (T := TX0) (ty0 := tyX0) (ty := .object "TideLodger$Law") hG (by decide) (by decide) (upE_eq) rfl inc_X0 tyX0_ok nmX0 (by decide) (bc2 25 (by decide +kernel) (by decide +kernel)) rfl rfl rfl (by decide +kernel) rfl rfl (Nat.le_of_ble_eq_true rfl) dX0_init_22 ?_
  refine rk_aload dX0_init_25 0 rfl ?_
  refine rk_aload dX0_init_26 3 rfl ?_
  refine rk_putF (ci := 0) (kf := 2) (h := 51) (N := 4) (fs := [.ref (ga G 3), .ref (ga G 21), .null, .ref (ga G 52)]) (Cn := RX0) (T := TX0) (ty0 := tyX0) (ty := .object "TideLodger$Stand") hG (by decide) (by decide) (upE_eq) rfl inc_X0 tyX0_ok nmX0 (by decide) (bc2 26 (by decide +kernel) (by decide +kernel)) rfl rfl rfl (by decide +kernel) rfl rfl (Nat.le_of_ble_eq_true rfl) dX0_init_27 ?_
  refine rk_end [] rfl rfl (fun x hx => ?_)
  by_cases h51 : x = 51
  · subst h51
    rw [upR_in (by decide) (by decide), ent_obj sh51]
    rfl
  by_cases hr : 52 ≤ x ∧ x < 57
  · rw [upR_in (by omega) (by omega)]
    rw [upE_ne (by omega), upE_ne (by omega), upE_ne (by omega), upE_ne (by omega), upR_in (by omega) (by omega)]
  rw [upR_out (by omega)]
  rw [upE_ne (by omega), upE_ne (by omega), upE_ne (by omega), upE_ne (by omega), upR_out (by omega), upE_ne (by omega)]
set_option maxRecDepth 20000 in
set_option maxHeartbeats 1000000 in
theorem c_X9_0 {G : SG} {En : Nat → va_E} (hG : GA G) (hg : gh G = 549) (hfl : (gL G).stackTraces = false) (hP : P_X9_openStreet mu0) : OkN G mX9_init [.ref (ga G 0)] 1 (upE En 0 (.inr (8, [.null, .null, .null, .null, .null, .null, .null, .null, .null, .null, .null, .int 0, .int 0, .int 0]))) 57 (ent G (M_X9_openStreet mu0)) := by
  refine okN_ofR (μ0 := mu0) (pf := 137) (lf := [(0, .ref (ga G 0))]) hG hg hfl rfl (by decide +kernel) (Nat.le_of_ble_eq_true rfl) rfl (by decide) (by decide) ?_ ?_
  · refine rk_aload dX9_init_0 0 rfl ?_
    refine rk_obj (bc1 29 (by decide +kernel) (by decide +kernel)) w_oi1 w_oi2 dX9_init_1 ?_
    refine rk_aload dX9_init_4 0 rfl ?_
    refine rk_new (ci := 7) (Cn := RX8) (T := TX8) (N := 8) (ty := tyX8) (fs := [.null, .int 0, .int 0, .int 0, .int 0, .int 0, .int 0, .int 0]) hG rfl inc_X8 tyX8_ok (bc1 32 (by decide +kernel) (by decide +kernel)) w_inX8 w_iiX8 w_fsX8 (by decide) (by decide) (by decide) dX9_init_5 ?_
    refine rk_dup dX9_init_8 rfl ?_
    refine rk_call (mk := mX8_init) (k1 := 3) (As := []) (rest := [.ref (ga G 1), .ref (ga G 0)]) hG (c_X8_1 hG hg hfl) (Or.inr ⟨"TideLodger", nc1 34 (by decide +kernel) (by decide +kernel)⟩) w_iiX8 ⟨by decide +kernel, by decide +kernel, (by decide +kernel : (parseMethodDescriptor yX8_init.desc).map (fun d => d.parameters.length) = some 0)⟩ w_icX8 w_imX8 rfl rfl dX9_init_9 (by decide) (by decide) rfl (Nat.le_of_ble_eq_true rfl) (by decide) (by decide) (by decide) ?_
    refine rk_putF (ci := 8) (kf := 0) (h := 0) (N := 14) (fs := [.null, .null, .null, .null, .null, .null, .null, .null, .null, .null, .null, .int 0, .int 0, .int 0]) (Cn := RX9) (T := TX9) (ty0 := tyX9) (ty := .object "TideLodger$Text") hG (by decide) (by decide) ((upR_out (by decide)).trans (upE_eq)) rfl inc_X9 tyX9_ok nmX9 (by decide) (bc2 77 (by decide +kernel) (by decide +kernel)) rfl rfl rfl (by decide +kernel) rfl rfl (Nat.le_of_ble_eq_true rfl) dX9_init_12 ?_
    refine rk_aload dX9_init_15 0 rfl ?_
    refine rk_new (ci := 6) (Cn := RX7) (T := TX7) (N := 14) (ty := tyX7) (fs := [.null, .null, .null, .null, .null, .null, .null, .null, .int 0, .int 0, .int 0, .int 0, .int 0, .int 0]) hG rfl inc_X7 tyX7_ok (bc1 66 (by decide +kernel) (by decide +kernel)) w_inX7 w_iiX7 w_fsX7 (by decide) (by decide) (by decide) dX9_init_16 ?_
    refine rk_dup dX9_init_19 rfl ?_
    refine rk_call (mk := mX7_init) (k1 := 12) (As := []) (rest := [.ref (ga G 3), .ref (ga G 0)]) hG (c_X7_3 hG hg hfl) (Or.inr ⟨"TideLodger", nc1 68 (by decide +kernel) (by decide +kernel)⟩) w_iiX7 ⟨by decide +kernel, by decide +kernel, (by decide +kernel : (parseMethodDescriptor yX7_init.desc).map (fun d => d.parameters.length) = some 0)⟩ w_icX7 w_imX7 rfl rfl dX9_init_20 (by decide) (by decide) rfl (Nat.le_of_ble_eq_true rfl) (by decide) (by decide) (by decide) ?_
    refine rk_putF (ci := 8) (kf := 1) (h := 0) (N := 14) (fs := [.ref (ga G 1), .null, .null, .null, .null, .null, .null, .null, .null, .null, .null, .int 0, .int 0, .int 0]) (Cn := RX9) (T := TX9) (ty0 := tyX9) (ty := .object "TideLodger$Street") hG (by decide) (by decide) ((upR_out (by decide)).trans (upE_eq)) rfl inc_X9 tyX9_ok nmX9 (by decide) (bc2 78 (by decide +kernel) (by decide +kernel)) rfl rfl rfl (by decide +kernel) rfl rfl (Nat.le_of_ble_eq_true rfl) dX9_init_23 ?_
    refine rk_aload dX9_init_26 0 rfl ?_
    refine rk_new (ci := 6) (Cn := RX7) (T := TX7) (N := 14) (ty := tyX7) (fs := [.null, .null, .null, .null, .null, .null, .null, .null, .int 0, .int 0, .int 0, .int 0, .int 0, .int 0]) hG rfl inc_X7 tyX7_ok (bc1 66 (by decide +kernel) (by decide +kernel)) w_inX7 w_iiX7 w_fsX7 (by decide) (by decide) (by decide) dX9_init_27 ?_
    refine rk_dup dX9_init_30 rfl ?_
    refine rk_call (mk := mX7_init) (k1 := 21) (As := []) (rest := [.ref (ga G 12), .ref (ga G 0)]) hG (c_X7_12 hG hg hfl) (Or.inr ⟨"TideLodger", nc1 68 (by decide +kernel) (by decide +kernel)⟩) w_iiX7 ⟨by decide +kernel, by decide +kernel, (by decide +kernel : (parseMethodDescriptor yX7_init.desc).map (fun d => d.parameters.length) = some 0)⟩ w_icX7 w_imX7 rfl rfl dX9_init_31 (by decide) (by decide) rfl (Nat.le_of_ble_eq_true rfl) (by decide) (by decide) (by decide) ?_
    refine rk_putF (ci := 8) (kf := 2) (h := 0) (N := 14) (fs := [.ref (ga G 1), .ref (ga G 3), .null, .null, .null, .null, .null, .null, .null, .null, .null, .int 0, .int 0, .int 0]) (Cn := RX9) (T := TX9) (ty0 := tyX9) (ty := .object "TideLodger$Street") hG (by decide) (by decide) ((upR_out (by decide)).trans (upE_eq)) rfl inc_X9 tyX9_ok nmX9 (by decide) (bc2 79 (by decide +kernel) (by decide +kernel)) rfl rfl rfl (by decide +kernel) rfl rfl (Nat.le_of_ble_eq_true rfl) dX9_init_34 ?_
    refine rk_aload dX9_init_37 0 rfl ?_
    refine rk_new (ci := 1) (Cn := RX1) (T := TX1) (N := 5) (ty := tyX1) (fs := [.null, .null, .null, .null, .int 0]) hG rfl inc_X1 tyX1_ok (bc1 143 (by decide +kernel) (by decide +kernel)) w_inX1 w_iiX1 w_fsX1 (by decide) (by decide) (by decide) dX9_init_38 ?_
    refine rk_dup dX9_init_41 rfl ?_
    refine rk_call (mk := mX1_init) (k1 := 26) (As := []) (rest := [.ref (ga G 21), .ref (ga G 0)]) hG (c_X1_21 hG hg hfl) (Or.inr ⟨"TideLodger", nc1 145 (by decide +kernel) (by decide +kernel)⟩) w_iiX1 ⟨by decide +kernel, by decide +kernel, (by decide +kernel : (parseMethodDescriptor yX1_init.desc).map (fun d => d.parameters.length) = some 0)⟩ w_icX1 w_imX1 rfl rfl dX9_init_42 (by decide) (by decide) rfl (Nat.le_of_ble_eq_true rfl) (by decide) (by decide) (by decide) ?_
    refine rk_putF (ci := 8) (kf := 3) (h := 0) (N := 14) (fs := [.ref (ga G 1), .ref (ga G 3), .ref (ga G 12), .null, .null, .null, .null, .null, .null, .null, .null, .int 0, .int 0, .int 0]) (Cn := RX9) (T := TX9) (ty0 := tyX9) (ty := .object "TideLodger$Law") hG (by decide) (by decide) ((upR_out (by decide)).trans (upE_eq)) rfl inc_X9 tyX9_ok nmX9 (by decide) (bc2 80 (by decide +kernel) (by decide +kernel)) rfl rfl rfl (by decide +kernel) rfl rfl (Nat.le_of_ble_eq_true rfl) dX9_init_45 ?_
    refine rk_aload dX9_init_48 0 rfl ?_
    refine rk_new (ci := 1) (Cn := RX1) (T := TX1) (N := 5) (ty := tyX1) (fs := [.null, .null, .null, .null, .int 0]) hG rfl inc_X1 tyX1_ok (bc1 143 (by decide +kernel) (by decide +kernel)) w_inX1 w_iiX1 w_fsX1 (by decide) (by decide) (by decide) dX9_init_49 ?_
    refine rk_dup dX9_init_52 rfl ?_
    refine rk_call (mk := mX1_init) (k1 := 31) (As := []) (rest := [.ref (ga G 26), .ref (ga G 0)]) hG (c_X1_26 hG hg hfl) (Or.inr ⟨"TideLodger", nc1 145 (by decide +kernel) (by decide +kernel)⟩) w_iiX1 ⟨by decide +kernel, by decide +kernel, (by decide +kernel : (parseMethodDescriptor yX1_init.desc).map (fun d => d.parameters.length) = some 0)⟩ w_icX1 w_imX1 rfl rfl dX9_init_53 (by decide) (by decide) rfl (Nat.le_of_ble_eq_true rfl) (by decide) (by decide) (by decide) ?_
    refine rk_putF (ci := 8) (kf := 4) (h := 0) (N := 14) (fs := [.ref (ga G 1), .ref (ga G 3), .ref (ga G 12), .ref (ga G 21), .null, .null, .null, .null, .null, .null, .null, .int 0, .int 0, .int 0]) (Cn := RX9) (T := TX9) (ty0 := tyX9) (ty := .object "TideLodger$Law") hG (by decide) (by decide) ((upR_out (by decide)).trans (upE_eq)) rfl inc_X9 tyX9_ok nmX9 (by decide) (bc2 81 (by decide +kernel) (by decide +kernel)) rfl rfl rfl (by decide +kernel) rfl rfl (Nat.le_of_ble_eq_true rfl) dX9_init_56 ?_
    refine rk_aload dX9_init_59 0 rfl ?_
    refine rk_new (ci := 5) (Cn := RX6) (T := TX6) (N := 8) (ty := tyX6) (fs := [.null, .null, .null, .null, .null, .int 0, .int 0, .int 0]) hG rfl inc_X6 tyX6_ok (bc1 165 (by decide +kernel) (by decide +kernel)) w_inX6 w_iiX6 w_fsX6 (by decide) (by decide) (by decide) dX9_init_60 ?_
    refine rk_dup dX9_init_63 rfl ?_
    refine rk_call (mk := mX6_init) (k1 := 37) (As := []) (rest := [.ref (ga G 31), .ref (ga G 0)]) hG (c_X6_31 hG hg hfl) (Or.inr ⟨"TideLodger", nc1 167 (by decide +kernel) (by decide +kernel)⟩) w_iiX6 ⟨by decide +kernel, by decide +kernel, (by decide +kernel : (parseMethodDescriptor yX6_init.desc).map (fun d => d.parameters.length) = some 0)⟩ w_icX6 w_imX6 rfl rfl dX9_init_64 (by decide) (by decide) rfl (Nat.le_of_ble_eq_true rfl) (by decide) (by decide) (by decide) ?_
    refine rk_putF (ci := 8) (kf := 5) (h := 0) (N := 14) (fs := [.ref (ga G 1), .ref (ga G 3), .ref (ga G 12), .ref (ga G 21), .ref (ga G 26), .null, .null, .null, .null, .null, .null, .int 0, .int 0, .int 0]) (Cn := RX9) (T := TX9) (ty0 := tyX9) (ty := .object "TideLodger$Steps") hG (by decide) (by decide) ((upR_out (by decide)).trans (upE_eq)) rfl inc_X9 tyX9_ok nmX9 (by decide) (bc2 82 (by decide +kernel) (by decide +kernel)) rfl rfl rfl (by decide +kernel) rfl rfl (Nat.le_of_ble_eq_true rfl) dX9_init_67 ?_
    refine rk_aload dX9_init_70 0 rfl ?_
    refine rk_new (ci := 2) (Cn := RX2) (T := TX2) (N := 3) (ty := tyX2) (fs := [.null, .null, .int 0]) hG rfl inc_X2 tyX2_ok (bc1 197 (by decide +kernel) (by decide +kernel)) w_inX2 w_iiX2 w_fsX2 (by decide) (by decide) (by decide) dX9_init_71 ?_
    refine rk_dup dX9_init_74 rfl ?_
    refine rk_call (mk := mX2_init) (k1 := 40) (As := []) (rest := [.ref (ga G 37), .ref (ga G 0)]) hG (c_X2_37 hG hg hfl) (Or.inr ⟨"TideLodger", nc1 199 (by decide +kernel) (by decide +kernel)⟩) w_iiX2 ⟨by decide +kernel, by decide +kernel, (by decide +kernel : (parseMethodDescriptor yX2_init.desc).map (fun d => d.parameters.length) = some 0)⟩ w_icX2 w_imX2 rfl rfl dX9_init_75 (by decide) (by decide) rfl (Nat.le_of_ble_eq_true rfl) (by decide) (by decide) (by decide) ?_
    refine rk_putF (ci := 8) (kf := 6) (h := 0) (N := 14) (fs := [.ref (ga G 1), .ref (ga G 3), .ref (ga G 12), .ref (ga G 21), .ref (ga G 26), .ref (ga G 31), .null, .null, .null, .null, .null, .int 0, .int 0, .int 0]) (Cn := RX9) (T := TX9) (ty0 := tyX9) (ty := .object "TideLodger$Marks") hG (by decide) (by decide) ((upR_out (by decide)).trans (upE_eq)) rfl inc_X9 tyX9_ok nmX9 (by decide) (bc2 83 (by decide +kernel) (by decide +kernel)) rfl rfl rfl (by decide +kernel) rfl rfl (Nat.le_of_ble_eq_true rfl) dX9_init_78 ?_
    refine rk_aload dX9_init_81 0 rfl ?_
    refine rk_new (ci := 2) (Cn := RX2) (T := TX2) (N := 3) (ty := tyX2) (fs := [.null, .null, .int 0]) hG rfl inc_X2 tyX2_ok (bc1 197 (by decide +kernel) (by decide +kernel)) w_inX2 w_iiX2 w_fsX2 (by decide) (by decide) (by decide) dX9_init_82 ?_
    refine rk_dup dX9_init_85 rfl ?_
    refine rk_call (mk := mX2_init) (k1 := 43) (As := []) (rest := [.ref (ga G 40), .ref (ga G 0)]) hG (c_X2_40 hG hg hfl) (Or.inr ⟨"TideLodger", nc1 199 (by decide +kernel) (by decide +kernel)⟩) w_iiX2 ⟨by decide +kernel, by decide +kernel, (by decide +kernel : (parseMethodDescriptor yX2_init.desc).map (fun d => d.parameters.length) = some 0)⟩ w_icX2 w_imX2 rfl rfl dX9_init_86 (by decide) (by decide) rfl (Nat.le_of_ble_eq_true rfl) (by decide) (by decide) (by decide) ?_
    refine rk_putF (ci := 8) (kf := 7) (h := 0) (N := 14) (fs := [.ref (ga G 1), .ref (ga G 3), .ref (ga G 12), .ref (ga G 21), .ref (ga G 26), .ref (ga G 31), .ref (ga G 37), .null, .null, .null, .null, .int 0, .int 0, .int 0]) (Cn := RX9) (T := TX9) (ty0 := tyX9) (ty := .object "TideLodger$Marks") hG (by decide) (by decide) ((upR_out (by decide)).trans (upE_eq)) rfl inc_X9 tyX9_ok nmX9 (by decide) (bc2 84 (by decide +kernel) (by decide +kernel)) rfl rfl rfl (by decide +kernel) rfl rfl (Nat.le_of_ble_eq_true rfl) dX9_init_89 ?_
    refine rk_aload dX9_init_92 0 rfl ?_
    refine rk_new (ci := 4) (Cn := RX5) (T := TX5) (N := 4) (ty := tyX5) (fs := [.null, .null, .null, .null]) hG rfl inc_X5 tyX5_ok (bc1 214 (by decide +kernel) (by decide +kernel)) w_inX5 w_iiX5 w_fsX5 (by decide) (by decide) (by decide) dX9_init_93 ?_
    refine rk_dup dX9_init_96 rfl ?_
    refine rk_call (mk := mX5_init) (k1 := 48) (As := []) (rest := [.ref (ga G 43), .ref (ga G 0)]) hG (c_X5_43 hG hg hfl) (Or.inr ⟨"TideLodger", nc1 216 (by decide +kernel) (by decide +kernel)⟩) w_iiX5 ⟨by decide +kernel, by decide +kernel, (by decide +kernel : (parseMethodDescriptor yX5_init.desc).map (fun d => d.parameters.length) = some 0)⟩ w_icX5 w_imX5 rfl rfl dX9_init_97 (by decide) (by decide) rfl (Nat.le_of_ble_eq_true rfl) (by decide) (by decide) (by decide) ?_
    refine rk_putF (ci := 8) (kf := 8) (h := 0) (N := 14) (fs := [.ref (ga G 1), .ref (ga G 3), .ref (ga G 12), .ref (ga G 21), .ref (ga G 26), .ref (ga G 31), .ref (ga G 37), .ref (ga G 40), .null, .null, .null, .int 0, .int 0, .int 0]) (Cn := RX9) (T := TX9) (ty0 := tyX9) (ty := .object "TideLodger$Stand") hG (by decide) (by decide) ((upR_out (by decide)).trans (upE_eq)) rfl inc_X9 tyX9_ok nmX9 (by decide) (bc2 85 (by decide +kernel) (by decide +kernel)) rfl rfl rfl (by decide +kernel) rfl rfl (Nat.le_of_ble_eq_true rfl) dX9_init_100 ?_
    refine rk_aload dX9_init_103 0 rfl ?_
    refine rk_new (ci := 3) (Cn := RX4) (T := TX4) (N := 4) (ty := tyX4) (fs := [.null, .null, .int 0, .int 0]) hG rfl inc_X4 tyX4_ok (bc1 235 (by decide +kernel) (by decide +kernel)) w_inX4 w_iiX4 w_fsX4 (by decide) (by decide) (by decide) dX9_init_104 ?_
    refine rk_dup dX9_init_107 rfl ?_
    refine rk_call (mk := mX4_init) (k1 := 51) (As := []) (rest := [.ref (ga G 48), .ref (ga G 0)]) hG (c_X4_48 hG hg hfl) (Or.inr ⟨"TideLodger", nc1 237 (by decide +kernel) (by decide +kernel)⟩) w_iiX4 ⟨by decide +kernel, by decide +kernel, (by decide +kernel : (parseMethodDescriptor yX4_init.desc).map (fun d => d.parameters.length) = some 0)⟩ w_icX4 w_imX4 rfl rfl dX9_init_108 (by decide) (by decide) rfl (Nat.le_of_ble_eq_true rfl) (by decide) (by decide) (by decide) ?_
    refine rk_putF (ci := 8) (kf := 9) (h := 0) (N := 14) (fs := [.ref (ga G 1), .ref (ga G 3), .ref (ga G 12), .ref (ga G 21), .ref (ga G 26), .ref (ga G 31), .ref (ga G 37), .ref (ga G 40), .ref (ga G 43), .null, .null, .int 0, .int 0, .int 0]) (Cn := RX9) (T := TX9) (ty0 := tyX9) (ty := .object "TideLodger$Past") hG (by decide) (by decide) ((upR_out (by decide)).trans (upE_eq)) rfl inc_X9 tyX9_ok nmX9 (by decide) (bc2 86 (by decide +kernel) (by decide +kernel)) rfl rfl rfl (by decide +kernel) rfl rfl (Nat.le_of_ble_eq_true rfl) dX9_init_111 ?_
    refine rk_aload dX9_init_114 0 rfl ?_
    refine rk_new (ci := 0) (Cn := RX0) (T := TX0) (N := 4) (ty := tyX0) (fs := [.null, .null, .null, .null]) hG rfl inc_X0 tyX0_ok (bc2 16 (by decide +kernel) (by decide +kernel)) w_inX0 w_iiX0 w_fsX0 (by decide) (by decide) (by decide) dX9_init_115 ?_
    refine rk_dup dX9_init_118 rfl ?_
    refine rk_aload dX9_init_119 0 rfl ?_
    refine rk_get (h := 0) (fs := [.ref (ga G 1), .ref (ga G 3), .ref (ga G 12), .ref (ga G 21), .ref (ga G 26), .ref (ga G 31), .ref (ga G 37), .ref (ga G 40), .ref (ga G 43), .ref (ga G 48), .null, .int 0, .int 0, .int 0]) (v := .ref (ga G 3)) (by decide) ((upE_ne (by decide)).trans (upE_eq)) fX9_19 rfl dX9_init_120 ?_
    refine rk_aload dX9_init_123 0 rfl ?_
    refine rk_get (h := 0) (fs := [.ref (ga G 1), .ref (ga G 3), .ref (ga G 12), .ref (ga G 21), .ref (ga G 26), .ref (ga G 31), .ref (ga G 37), .ref (ga G 40), .ref (ga G 43), .ref (ga G 48), .null, .int 0, .int 0, .int 0]) (v := .ref (ga G 21)) (by decide) ((upE_ne (by decide)).trans (upE_eq)) fX9_29 rfl dX9_init_124 ?_
    refine rk_aload dX9_init_127 0 rfl ?_
    refine rk_get (h := 0) (fs := [.ref (ga G 1), .ref (ga G 3), .ref (ga G 12), .ref (ga G 21), .ref (ga G 26), .ref (ga G 31), .ref (ga G 37), .ref (ga G 40), .ref (ga G 43), .ref (ga G 48), .null, .int 0, .int 0, .int 0]) (v := .ref (ga G 43)) (by decide) ((upE_ne (by decide)).trans (upE_eq)) fX9_56 rfl dX9_init_128 ?_
    refine rk_call (mk := mX0_init) (k1 := 57) (As := [.ref (ga G 3), .ref (ga G 21), .ref (ga G 43)]) (rest := [.ref (ga G 51), .ref (ga G 0)]) hG (c_X0_51 hG hg hfl) (Or.inr ⟨"TideLodger", nc2 18 (by decide +kernel) (by decide +kernel)⟩) w_iiX0 ⟨by decide +kernel, by decide +kernel, (by decide +kernel : (parseMethodDescriptor yX0_init.desc).map (fun d => d.parameters.length) = some 3)⟩ w_icX0 w_imX0 rfl rfl dX9_init_131 (by decide) (by decide) rfl (Nat.le_of_ble_eq_true rfl) (by decide) (by decide) (by decide) ?_
    refine rk_putF (ci := 8) (kf := 10) (h := 0) (N := 14) (fs := [.ref (ga G 1), .ref (ga G 3), .ref (ga G 12), .ref (ga G 21), .ref (ga G 26), .ref (ga G 31), .ref (ga G 37), .ref (ga G 40), .ref (ga G 43), .ref (ga G 48), .null, .int 0, .int 0, .int 0]) (Cn := RX9) (T := TX9) (ty0 := tyX9) (ty := .object "TideLodger$Course") hG (by decide) (by decide) ((upR_out (by decide)).trans (upE_eq)) rfl inc_X9 tyX9_ok nmX9 (by decide) (bc2 87 (by decide +kernel) (by decide +kernel)) rfl rfl rfl (by decide +kernel) rfl rfl (Nat.le_of_ble_eq_true rfl) dX9_init_134 ?_
    refine rk_end [0] rfl rfl (fun x hx => ?_)
    by_cases h0 : x = 0
    · subst h0
      rw [ent_obj sh0]
      rfl
    by_cases h1 : 1 ≤ x ∧ x < 3
    · rw [upE_ne (by omega), upR_out (by omega), upE_ne (by omega), upR_out (by omega), upE_ne (by omega), upR_out (by omega), upE_ne (by omega), upR_out (by omega), upE_ne (by omega), upR_out (by omega), upE_ne (by omega), upR_out (by omega), upE_ne (by omega), upR_out (by omega), upE_ne (by omega), upR_out (by omega), upE_ne (by omega), upR_out (by omega), upE_ne (by omega), upR_out (by omega), upE_ne (by omega), upR_in (by omega) (by omega)]
    by_cases h3 : 3 ≤ x ∧ x < 12
    · rw [upE_ne (by omega), upR_out (by omega), upE_ne (by omega), upR_out (by omega), upE_ne (by omega), upR_out (by omega), upE_ne (by omega), upR_out (by omega), upE_ne (by omega), upR_out (by omega), upE_ne (by omega), upR_out (by omega), upE_ne (by omega), upR_out (by omega), upE_ne (by omega), upR_out (by omega), upE_ne (by omega), upR_out (by omega), upE_ne (by omega), upR_in (by omega) (by omega)]
    by_cases h12 : 12 ≤ x ∧ x < 21
    · rw [upE_ne (by omega), upR_out (by omega), upE_ne (by omega), upR_out (by omega), upE_ne (by omega), upR_out (by omega), upE_ne (by omega), upR_out (by omega), upE_ne (by omega), upR_out (by omega), upE_ne (by omega), upR_out (by omega), upE_ne (by omega), upR_out (by omega), upE_ne (by omega), upR_out (by omega), upE_ne (by omega), upR_in (by omega) (by omega)]
    by_cases h21 : 21 ≤ x ∧ x < 26
    · rw [upE_ne (by omega), upR_out (by omega), upE_ne (by omega), upR_out (by omega), upE_ne (by omega), upR_out (by omega), upE_ne (by omega), upR_out (by omega), upE_ne (by omega), upR_out (by omega), upE_ne (by omega), upR_out (by omega), upE_ne (by omega), upR_out (by omega), upE_ne (by omega), upR_in (by omega) (by omega)]
    by_cases h26 : 26 ≤ x ∧ x < 31
    · rw [upE_ne (by omega), upR_out (by omega), upE_ne (by omega), upR_out (by omega), upE_ne (by omega), upR_out (by omega), upE_ne (by omega), upR_out (by omega), upE_ne (by omega), upR_out (by omega), upE_ne (by omega), upR_out (by omega), upE_ne (by omega), upR_in (by omega) (by omega)]
    by_cases h31 : 31 ≤ x ∧ x < 37
    · rw [upE_ne (by omega), upR_out (by omega), upE_ne (by omega), upR_out (by omega), upE_ne (by omega), upR_out (by omega), upE_ne (by omega), upR_out (by omega), upE_ne (by omega), upR_out (by omega), upE_ne (by omega), upR_in (by omega) (by omega)]
    by_cases h37 : 37 ≤ x ∧ x < 40
    · rw [upE_ne (by omega), upR_out (by omega), upE_ne (by omega), upR_out (by omega), upE_ne (by omega), upR_out (by omega), upE_ne (by omega), upR_out (by omega), upE_ne (by omega), upR_in (by omega) (by omega)]
    by_cases h40 : 40 ≤ x ∧ x < 43
    · rw [upE_ne (by omega), upR_out (by omega), upE_ne (by omega), upR_out (by omega), upE_ne (by omega), upR_out (by omega), upE_ne (by omega), upR_in (by omega) (by omega)]
    by_cases h43 : 43 ≤ x ∧ x < 48
    · rw [upE_ne (by omega), upR_out (by omega), upE_ne (by omega), upR_out (by omega), upE_ne (by omega), upR_in (by omega) (by omega)]
    by_cases h48 : 48 ≤ x ∧ x < 51
    · rw [upE_ne (by omega), upR_out (by omega), upE_ne (by omega), upR_in (by omega) (by omega)]
    by_cases h51 : 51 ≤ x ∧ x < 57
    · rw [upE_ne (by omega), upR_in (by omega) (by omega)]
    omega
  · have hG57 : GK 57 (gK G 57) := ⟨Nat.le_refl _, hfl⟩
    refine r_aload_n dX9_init_137 0 rfl ?_
    refine r_cvF (As := []) (rest := []) (ok_X9_openStreet hG57 mu0 hP) lX9_76 (hG57.lt (by decide)) sh0 ⟨_, _, rfl⟩ dX9_init_138 (by decide) (by decide) rfl (by decide) ?_
    exact r_return dX9_init_141 rfl ⟨rfl, rfl⟩
