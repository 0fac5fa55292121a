/-! a question, both sides: what one proves of it, and what the law's round asks -/
def QOk (μ : Mem) (K9 : Nat) (F9 : Int32) (M9 : Mem) (P9 : Prop) (F10 : Mem → Int32) (M10 : Mem → Mem) (P10 : Mem → Prop) : Prop :=
  K9 = 0 ∧ P9 ∧ KQ μ M9 ∧ ∀ ν, KQ μ ν → P10 ν ∧ F10 ν = F9 ∧ KQ ν (M10 ν) ∧ M10 ν 57 0 = 0 ∧ M10 ν 548 0 = ν 548 0
def QNo (wf : Nat → Int32) (μ : Mem) (K9 : Nat) (M9 : Mem) (P9 : Prop) (M10 : Mem → Mem) (P10 : Mem → Prop) (j : Nat) : Prop :=
  K9 = j + 1 ∧ P9 ∧ M9 = M_needR (12 + j) μ ∧ ∀ ν, (∀ h, h ≠ 0 → ν h = μ h) → P10 ν ∧ M10 ν = thr (wf (j + 1)) j ν
def Q (wf : Nat → Int32) (js : Nat → Prop) (μ : Mem) (K9 : Nat) (F9 : Int32) (M9 : Mem) (P9 : Prop) (F10 : Mem → Int32) (M10 : Mem → Mem) (P10 : Mem → Prop) : Prop :=
  QOk μ K9 F9 M9 P9 F10 M10 P10 ∨ ∃ j, js j ∧ QNo wf μ K9 M9 P9 M10 P10 j
def w1 : Nat → Int32 := fun _ => 1
def w2 : Nat → Int32 := fun k => nI k
def jI (j : Nat) : Prop := j = 1
def jN (j : Nat) : Prop := j = 0
def jB (j : Nat) : Prop := j = 0 ∨ j = 1
theorem KQ.out {μ M9 : Mem} {v : Int32} (h : KQ μ M9) : KQ μ (upm M9 548 0 v) := by
  refine ⟨fun h' q1 q2 q3 q4 q5 q6 q7 q8 q9 q10 q11 => ?_, fun k q1 q2 q3 => ?_⟩
  · rw [upm_other q11]
    exact h.1 h' q1 q2 q3 q4 q5 q6 q7 q8 q9 q10 q11
  · rw [upm_other (by decide)]
    exact h.2 k q1 q2 q3
