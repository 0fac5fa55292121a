/-! how many sets of tides have each greatest height -/
def sumN (n : Nat) (f : Nat → Nat) : Nat := fo n (fun i s => s + f i) 0
theorem sumN_s (n : Nat) (f : Nat → Nat) : sumN (n + 1) f = sumN n f + f n := rfl
theorem sumN_congr {n : Nat} {f g : Nat → Nat} (h : ∀ i, i < n → f i = g i) : sumN n f = sumN n g := by
  induction n with
  | zero => rfl
  | succ n ih => rw [sumN_s, sumN_s, ih fun i hi => h i (by omega), h n (by omega)]
theorem sumN_add (m n : Nat) (f : Nat → Nat) : sumN (m + n) f = sumN m f + sumN n (fun i => f (m + i)) := by
  induction n with
  | zero => rfl
  | succ n ih => rw [← Nat.add_assoc, sumN_s, ih, sumN_s, Nat.add_assoc]
/-- the greatest height of set v of the first n heights -/
def hmN (G : Nat → Nat) (v n : Nat) : Nat := fo n (fun t m => if v.testBit t = true then max m (G t) else m) 0
theorem hmN_s (G : Nat → Nat) (v n : Nat) : hmN G v (n + 1) = if v.testBit n = true then max (hmN G v n) (G n) else hmN G v n := rfl
theorem hmN_congr {G : Nat → Nat} {v w n : Nat} (h : ∀ t, t < n → v.testBit t = w.testBit t) : hmN G v n = hmN G w n := by
  induction n with
  | zero => rfl
  | succ n ih => rw [hmN_s, hmN_s, ih fun t ht => h t (by omega), h n (by omega)]
def beN (G : Nat → Nat) (n g : Nat) : Nat := sumN n fun t => if G t < g then 1 else 0
def alN (G : Nat → Nat) (n g : Nat) : Nat := sumN n fun t => if G t = g then 1 else 0
def suN (G : Nat → Nat) (n g : Nat) : Nat := (2 ^ alN G n g - 1) * 2 ^ beN G n g
theorem be_s (G : Nat → Nat) (n g : Nat) : beN G n (g + 1) = beN G n g + alN G n g := by
  unfold beN alN
  induction n with
  | zero => rfl
  | succ n ih =>
    rw [sumN_s, sumN_s, sumN_s, ih]
    by_cases a : G n < g
    · rw [if_pos (by omega), if_pos a, if_neg (by omega)]
      omega
    · by_cases b : G n = g
      · rw [if_pos (by omega), if_neg a, if_pos b]
        omega
      · rw [if_neg (by omega), if_neg a, if_neg b]
        omega
theorem be_0 (G : Nat → Nat) (n : Nat) : beN G n 0 = 0 := by
  unfold beN
  induction n with
  | zero => rfl
  | succ n ih => rw [sumN_s, ih, if_neg (by omega)]
theorem su_eq (G : Nat → Nat) (n g : Nat) : suN G n g + 2 ^ beN G n g = 2 ^ beN G n (g + 1) := by
  unfold suN
  rw [be_s, Nat.pow_add, Nat.mul_comm (2 ^ beN G n g)]
  have h : 1 ≤ 2 ^ alN G n g := Nat.one_le_two_pow
  generalize 2 ^ alN G n g = x at *
  generalize 2 ^ beN G n g = y
  obtain ⟨z, rfl⟩ : ∃ z, x = z + 1 := ⟨x - 1, by omega⟩
  rw [Nat.add_sub_cancel, Nat.add_mul, Nat.one_mul]
theorem be_n (G : Nat → Nat) (n g : Nat) : beN G (n + 1) g = beN G n g + if G n < g then 1 else 0 := rfl
theorem su_lt {G : Nat → Nat} {n g : Nat} (h : g < G n) : suN G (n + 1) g = suN G n g := by
  have a := su_eq G (n + 1) g
  have b := su_eq G n g
  rw [be_n, be_n, if_neg (show ¬ G n < g by omega), if_neg (show ¬ G n < g + 1 by omega)] at a
  simp only [Nat.add_zero] at a
  omega
theorem su_gt {G : Nat → Nat} {n g : Nat} (h : G n < g) : suN G (n + 1) g = 2 * suN G n g := by
  have a := su_eq G (n + 1) g
  have b := su_eq G n g
  rw [be_n, be_n, if_pos (show G n < g from h), if_pos (show G n < g + 1 by omega), Nat.pow_succ, Nat.pow_succ] at a
  omega
theorem su_at (G : Nat → Nat) (n : Nat) : suN G (n + 1) (G n) = 2 * suN G n (G n) + 2 ^ beN G n (G n) := by
  have a := su_eq G (n + 1) (G n)
  have b := su_eq G n (G n)
  rw [be_n, be_n, if_pos (show G n < G n + 1 by omega), if_neg (show ¬ G n < G n by omega), Nat.pow_succ] at a
  simp only [Nat.add_zero] at a
  omega
/-- what all sets weigh, the empty one with them -/
theorem count_all (G : Nat → Nat) (M : Nat) : ∀ n, (∀ t, t < n → G t < M) → ∀ P : Nat → Nat, sumN (2 ^ n) (fun v => P (hmN G v n)) = P 0 + sumN M (fun g => P g * suN G n g) := by
  intro n
  induction n with
  | zero =>
    intro _ P
    have z : ∀ m, sumN m (fun g => P g * suN G 0 g) = 0 := by
      intro m
      induction m with
      | zero => rfl
      | succ m ih =>
        rw [sumN_s, ih]
        show 0 + P m * ((2 ^ 0 - 1) * 2 ^ 0) = 0
        simp
    rw [z]
    show 0 + P 0 = P 0 + 0
    omega
  | succ n ih =>
    intro hG P
    have hg : G n < M := hG n (by omega)
    have ih' := ih fun t ht => hG t (by omega)
    rw [Nat.pow_succ, Nat.mul_two, sumN_add]
    have e1 : sumN (2 ^ n) (fun v => P (hmN G v (n + 1))) = sumN (2 ^ n) (fun v => P (hmN G v n)) := sumN_congr fun v hv => by
      rw [hmN_s, Nat.testBit_lt_two_pow hv, if_neg (by decide)]
    have e2 : sumN (2 ^ n) (fun v => P (hmN G (2 ^ n + v) (n + 1))) = sumN (2 ^ n) (fun v => P (max (hmN G v n) (G n))) := sumN_congr fun v hv => by
      have b : (2 ^ n + v).testBit n = true := by
        rw [Nat.testBit_two_pow_add_eq, Nat.testBit_lt_two_pow hv]
        rfl
      have c : hmN G (2 ^ n + v) n = hmN G v n := hmN_congr fun t ht => Nat.testBit_two_pow_add_gt ht v
      rw [hmN_s, b, if_pos rfl, c]
    rw [e1, e2, ih' P, ih' fun m => P (max m (G n))]
    have key : ∀ x, P (G n) + (sumN x (fun g => P (max g (G n)) * suN G n g) + sumN x (fun g => P g * suN G n g)) = sumN x (fun g => P g * suN G (n + 1) g) + if x ≤ G n then P (G n) * 2 ^ beN G n x else 0 := by
      intro x
      induction x with
      | zero =>
        rw [if_pos (Nat.zero_le _), be_0]
        show P (G n) + (0 + 0) = 0 + P (G n) * 1
        omega
      | succ x ihx =>
        rw [sumN_s, sumN_s, sumN_s]
        by_cases a : x < G n
        · rw [if_pos (by omega)] at ihx
          rw [if_pos (by omega), Nat.max_eq_right (by omega), su_lt a, ← su_eq, Nat.mul_add]
          omega
        · by_cases b : x = G n
          · rw [if_pos (by omega)] at ihx
            rw [if_neg (by omega), b, Nat.max_self, su_at, Nat.mul_add]
            rw [b] at ihx
            have : P (G n) * (2 * suN G n (G n)) = P (G n) * suN G n (G n) + P (G n) * suN G n (G n) := by
              rw [Nat.two_mul, Nat.mul_add]
            omega
          · rw [if_neg (by omega)] at ihx
            rw [if_neg (by omega), Nat.max_eq_left (by omega), su_gt (by omega)]
            have : P x * (2 * suN G n x) = P x * suN G n x + P x * suN G n x := by
              rw [Nat.two_mul, Nat.mul_add]
            omega
    have k := key M
    rw [if_neg (by omega)] at k
    have m0 : max 0 (G n) = G n := Nat.max_eq_right (Nat.zero_le _)
    show P 0 + sumN M (fun g => P g * suN G n g) + (P (max 0 (G n)) + sumN M (fun g => P (max g (G n)) * suN G n g)) = _
    rw [m0]
    omega
