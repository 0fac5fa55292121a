/-! a question as the law's round asks it -/
/-- what is left of a round, from a question -/
theorem q_ends {wf : Nat → Int32} {js : Nat → Prop} {E : EV} {L : LW} {μ : Mem} {K9 : Nat} {F9 : Int32} {M9 : Mem} {P9 : Prop} {F10 : Mem → Int32} {M10 : Mem → Mem} {P10 : Mem → Prop} (hjs : ∀ j, js j → j = 0 ∨ j = 1) (hI : Inv E L μ) (h : Q wf js μ K9 F9 M9 P9 F10 M10 P10) :
    P9 ∧ P10 (M_out K9 F9 M9) ∧ Inv E L (M10 (M_out K9 F9 M9)) ∧ ((K9 = 0 ∧ M10 (M_out K9 F9 M9) 57 0 = 0 ∧ M10 (M_out K9 F9 M9) 548 0 = F10 (M_out K9 F9 M9)) ∨ ∃ j, js j ∧ K9 = j + 1 ∧ M10 (M_out K9 F9 M9) 57 0 = wf (j + 1)) := by
  rcases h with ⟨k0, p9, kq, h⟩ | ⟨j, hj, k1, p9, e9, h⟩
  · have e : M_out K9 F9 M9 = upm M9 548 0 F9 := by
      unfold M_out
      rw [if_pos k0]
    obtain ⟨a1, a2, a3, a4, a5⟩ := h (upm M9 548 0 F9) kq.out
    rw [e]
    refine ⟨p9, a1, hI.keep (kq.out.trans a3), Or.inl ⟨k0, a4, ?_⟩⟩
    rw [a5, a2, upm_rr, if_pos rfl]
  · have e : M_out K9 F9 M9 = M_needR (12 + j) μ := by
      unfold M_out
      rw [if_neg (by omega), e9]
    obtain ⟨a1, a2⟩ := h (M_needR (12 + j) μ) (fun h hh => by unfold M_needR; rw [upm_other hh])
    rw [e, a2]
    refine ⟨p9, a1, inv_thr hI (hjs j hj), Or.inr ⟨j, hj, k1, ?_⟩⟩
    unfold thr
    rw [upm_other (by decide), upm_rr, if_pos rfl]
theorem lgc {x y : Int64} (h : x = y) : lg_cmp x y = 0 := by rw [h]; exact lg_self y
theorem wrapI {E : EV} {L : LW} {μ : Mem} (K9 : Nat) (F9 : Int32) (M9 : Mem) (P9 : Prop) (F10 : Mem → Int32) (M10 : Mem → Mem) (P10 : Mem → Prop) (hI : Inv E L μ) (h : Q w1 jI μ K9 F9 M9 P9 F10 M10 P10) :
    (P9 ∧ (K9 ≠ 1 ∧ (P10 (M_out K9 F9 M9) ∧ ((M10 (M_out K9 F9 M9) 57 0 = (if K9 = 0 then 0 else 1) → (((if K9 = 0 then (0 : Int32) else 1) ≠ 0 → True) ∧ ((if K9 = 0 then (0 : Int32) else 1) = 0 → ((lg_cmp (M10 (M_out K9 F9 M9) 548 0).toInt64 (F10 (M_out K9 F9 M9)).toInt64 = 0 → True) ∧ (¬ lg_cmp (M10 (M_out K9 F9 M9) 548 0).toInt64 (F10 (M_out K9 F9 M9)).toInt64 = 0 → False))))) ∧ (¬ M10 (M_out K9 F9 M9) 57 0 = (if K9 = 0 then 0 else 1) → False))))) ∧ Inv E L (M10 (M_out K9 F9 M9)) := by
  obtain ⟨b1, b2, b3, b4⟩ := q_ends (fun j hj => Or.inr hj) hI h
  refine ⟨⟨b1, ?_, b2, fun _ => ⟨fun _ => trivial, fun q => ⟨fun _ => trivial, fun z => z ?_⟩⟩, fun q => q ?_⟩, b3⟩
  · rcases b4 with ⟨k, -⟩ | ⟨j, hj, k, -⟩
    · omega
    · have : j = 1 := hj
      omega
  · rcases b4 with ⟨k, -, e⟩ | ⟨j, hj, k, -⟩
    · exact lgc (by rw [e])
    · rw [if_neg (by omega)] at q
      exact absurd q (by decide)
  · rcases b4 with ⟨k, e, -⟩ | ⟨j, hj, k, e⟩
    · rw [if_pos k, e]
    · rw [if_neg (by omega), e]
      rfl
theorem wrapIn {E : EV} {L : LW} {μ : Mem} (K9 : Nat) (F9 : Int32) (M9 : Mem) (F10 : Mem → Int32) (M10 : Mem → Mem) (P10 : Mem → Prop) (hI : Inv E L μ) (h : Q w1 jI μ K9 F9 M9 True F10 M10 P10) :
    (K9 ≠ 1 ∧ (P10 (M_out K9 F9 M9) ∧ ((M10 (M_out K9 F9 M9) 57 0 = (if K9 = 0 then 0 else 1) → (((if K9 = 0 then (0 : Int32) else 1) ≠ 0 → True) ∧ ((if K9 = 0 then (0 : Int32) else 1) = 0 → ((lg_cmp (M10 (M_out K9 F9 M9) 548 0).toInt64 (F10 (M_out K9 F9 M9)).toInt64 = 0 → True) ∧ (¬ lg_cmp (M10 (M_out K9 F9 M9) 548 0).toInt64 (F10 (M_out K9 F9 M9)).toInt64 = 0 → False))))) ∧ (¬ M10 (M_out K9 F9 M9) 57 0 = (if K9 = 0 then 0 else 1) → False)))) ∧ Inv E L (M10 (M_out K9 F9 M9)) :=
  let q := wrapI K9 F9 M9 True F10 M10 P10 hI h
  ⟨q.1.2, q.2⟩
theorem wrapN {E : EV} {L : LW} {μ : Mem} (K9 : Nat) (F9 : Int32) (M9 : Mem) (P9 : Prop) (F10 : Mem → Int32) (M10 : Mem → Mem) (P10 : Mem → Prop) (hI : Inv E L μ) (h : Q w1 jN μ K9 F9 M9 P9 F10 M10 P10) :
    (P9 ∧ (K9 ≠ 2 ∧ (P10 (M_out K9 F9 M9) ∧ ((M10 (M_out K9 F9 M9) 57 0 = (if K9 = 0 then 0 else 1) → (((if K9 = 0 then (0 : Int32) else 1) ≠ 0 → True) ∧ ((if K9 = 0 then (0 : Int32) else 1) = 0 → ((lg_cmp (M10 (M_out K9 F9 M9) 548 0).toInt64 (F10 (M_out K9 F9 M9)).toInt64 = 0 → True) ∧ (¬ lg_cmp (M10 (M_out K9 F9 M9) 548 0).toInt64 (F10 (M_out K9 F9 M9)).toInt64 = 0 → False))))) ∧ (¬ M10 (M_out K9 F9 M9) 57 0 = (if K9 = 0 then 0 else 1) → False))))) ∧ Inv E L (M10 (M_out K9 F9 M9)) := by
  obtain ⟨b1, b2, b3, b4⟩ := q_ends (fun j hj => Or.inl hj) hI h
  refine ⟨⟨b1, ?_, b2, fun _ => ⟨fun _ => trivial, fun q => ⟨fun _ => trivial, fun z => z ?_⟩⟩, fun q => q ?_⟩, b3⟩
  · rcases b4 with ⟨k, -⟩ | ⟨j, hj, k, -⟩
    · omega
    · have : j = 0 := hj
      omega
  · rcases b4 with ⟨k, -, e⟩ | ⟨j, hj, k, -⟩
    · exact lgc (by rw [e])
    · rw [if_neg (by omega)] at q
      exact absurd q (by decide)
  · rcases b4 with ⟨k, e, -⟩ | ⟨j, hj, k, e⟩
    · rw [if_pos k, e]
    · rw [if_neg (by omega), e]
      rfl
theorem wrapB {E : EV} {L : LW} {μ : Mem} (K9 : Nat) (F9 : Int32) (M9 : Mem) (P9 : Prop) (F10 : Mem → Int32) (M10 : Mem → Mem) (P10 : Mem → Prop) (hI : Inv E L μ) (h : Q w2 jB μ K9 F9 M9 P9 F10 M10 P10) :
    (P9 ∧ (P10 (M_out K9 F9 M9) ∧ ((M10 (M_out K9 F9 M9) 57 0 = (if K9 = 0 then 0 else if K9 = 1 then 1 else 2) → (((if K9 = 0 then (0 : Int32) else if K9 = 1 then 1 else 2) ≠ 0 → True) ∧ ((if K9 = 0 then (0 : Int32) else if K9 = 1 then 1 else 2) = 0 → ((lg_cmp (M10 (M_out K9 F9 M9) 548 0).toInt64 (F10 (M_out K9 F9 M9)).toInt64 = 0 → True) ∧ (¬ lg_cmp (M10 (M_out K9 F9 M9) 548 0).toInt64 (F10 (M_out K9 F9 M9)).toInt64 = 0 → False))))) ∧ (¬ M10 (M_out K9 F9 M9) 57 0 = (if K9 = 0 then 0 else if K9 = 1 then 1 else 2) → False)))) ∧ Inv E L (M10 (M_out K9 F9 M9)) := by
  obtain ⟨b1, b2, b3, b4⟩ := q_ends (fun j hj => hj) hI h
  refine ⟨⟨b1, b2, fun _ => ⟨fun _ => trivial, fun q => ⟨fun _ => trivial, fun z => z ?_⟩⟩, fun q => q ?_⟩, b3⟩
  · rcases b4 with ⟨k, -, e⟩ | ⟨j, hj, k, -⟩
    · exact lgc (by rw [e])
    · rw [if_neg (by omega)] at q
      split at q <;> exact absurd q (by decide)
  · rcases b4 with ⟨k, e, -⟩ | ⟨j, hj, k, e⟩
    · rw [if_pos k, e]
    · rw [if_neg (by omega), e]
      rcases hj with rfl | rfl
      · rw [if_pos (by omega)]
        rfl
      · rw [if_neg (by omega)]
        rfl
theorem wrapBn {E : EV} {L : LW} {μ : Mem} (K9 : Nat) (F9 : Int32) (M9 : Mem) (F10 : Mem → Int32) (M10 : Mem → Mem) (P10 : Mem → Prop) (hI : Inv E L μ) (h : Q w2 jB μ K9 F9 M9 True F10 M10 P10) :
    (P10 (M_out K9 F9 M9) ∧ ((M10 (M_out K9 F9 M9) 57 0 = (if K9 = 0 then 0 else if K9 = 1 then 1 else 2) → (((if K9 = 0 then (0 : Int32) else if K9 = 1 then 1 else 2) ≠ 0 → True) ∧ ((if K9 = 0 then (0 : Int32) else if K9 = 1 then 1 else 2) = 0 → ((lg_cmp (M10 (M_out K9 F9 M9) 548 0).toInt64 (F10 (M_out K9 F9 M9)).toInt64 = 0 → True) ∧ (¬ lg_cmp (M10 (M_out K9 F9 M9) 548 0).toInt64 (F10 (M_out K9 F9 M9)).toInt64 = 0 → False))))) ∧ (¬ M10 (M_out K9 F9 M9) 57 0 = (if K9 = 0 then 0 else if K9 = 1 then 1 else 2) → False))) ∧ Inv E L (M10 (M_out K9 F9 M9)) :=
  let q := wrapB K9 F9 M9 True F10 M10 P10 hI h
  ⟨q.1.2, q.2⟩
