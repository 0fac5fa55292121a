/-! all calls together -/
theorem case_all {E : EV} {L : LW} {μ : Mem} (hI : Inv E L μ) (a : Nat → Int32) (c : Nat) : caseP c a μ ∧ ∃ E' L', Inv E' L' (caseM c a μ) := by
  match c with
  | 0 => exact ⟨(case_feed hI (a 1) (a 2) (a 3) (a 4) (a 5)).1, E, L, (case_feed hI (a 1) (a 2) (a 3) (a 4) (a 5)).2⟩
  | 1 => exact case_street hI (a 1)
  | 2 => exact case_law hI (a 1)
  | 3 => exact case_work hI (a 1)
  | 4 => exact case_stains hI (a 1)
  | 5 => exact ⟨(case_fault hI ).1, E, L, (case_fault hI ).2⟩
  | 6 => exact ⟨(case_undo hI ).1, E, L, (case_undo hI ).2⟩
  | 7 => exact ⟨(case_told hI (a 1)).1, E, L, (case_told hI (a 1)).2⟩
  | 8 => exact ⟨(case_house hI (a 1) (a 2)).1, E, L, (case_house hI (a 1) (a 2)).2⟩
  | 9 => exact ⟨(case_thing hI (a 1) (a 2)).1, E, L, (case_thing hI (a 1) (a 2)).2⟩
  | 10 => exact ⟨(case_height hI (a 1)).1, E, L, (case_height hI (a 1)).2⟩
  | 11 => exact ⟨(case_find hI (a 1) (a 2)).1, E, L, (case_find hI (a 1) (a 2)).2⟩
  | 12 => exact ⟨(case_due hI (a 1)).1, E, L, (case_due hI (a 1)).2⟩
  | 13 => exact ⟨(case_would hI (a 1) (a 2) (a 3) (a 4) (a 5) (a 6)).1, E, L, (case_would hI (a 1) (a 2) (a 3) (a 4) (a 5) (a 6)).2⟩
  | 14 => exact ⟨(case_ahead hI (a 1) (a 2)).1, E, L, (case_ahead hI (a 1) (a 2)).2⟩
  | 15 => exact ⟨(case_comes hI (a 1)).1, E, L, (case_comes hI (a 1)).2⟩
  | 16 => exact ⟨(case_spring hI (a 1)).1, E, L, (case_spring hI (a 1)).2⟩
  | 17 => exact ⟨(case_carry hI (a 1) (a 2) (a 3)).1, E, L, (case_carry hI (a 1) (a 2) (a 3)).2⟩
  | 18 => exact ⟨(case_rent hI (a 1) (a 2)).1, E, L, (case_rent hI (a 1) (a 2)).2⟩
  | 19 => exact ⟨(case_bags hI (a 1) (a 2)).1, E, L, (case_bags hI (a 1) (a 2)).2⟩
  | 20 => exact ⟨(case_parlour hI (a 1) (a 2) (a 3)).1, E, L, (case_parlour hI (a 1) (a 2) (a 3)).2⟩
  | 21 => exact ⟨(case_in hI (a 1)).1, E, L, (case_in hI (a 1)).2⟩
  | 22 => exact ⟨(case_board hI (a 1)).1, E, L, (case_board hI (a 1)).2⟩
  | 23 => exact ⟨(case_drift hI (a 1) (a 2) (a 3)).1, E, L, (case_drift hI (a 1) (a 2) (a 3)).2⟩
  | 24 => exact ⟨(case_whence hI (a 1) (a 2) (a 3)).1, E, L, (case_whence hI (a 1) (a 2) (a 3)).2⟩
  | 25 => exact ⟨(case_gain hI (a 1) (a 2) (a 3)).1, E, L, (case_gain hI (a 1) (a 2) (a 3)).2⟩
  | 26 => exact ⟨(case_share hI (a 1) (a 2) (a 3)).1, E, L, (case_share hI (a 1) (a 2) (a 3)).2⟩
  | 27 => exact ⟨(case_soaked hI (a 1) (a 2)).1, E, L, (case_soaked hI (a 1) (a 2)).2⟩
  | 28 => exact ⟨(case_snaps hI (a 1)).1, E, L, (case_snaps hI (a 1)).2⟩
  | 29 => exact ⟨(case_fullest hI (a 1)).1, E, L, (case_fullest hI (a 1)).2⟩
  | 30 => exact ⟨(case_pays hI (a 1) (a 2)).1, E, L, (case_pays hI (a 1) (a 2)).2⟩
  | 31 => exact ⟨(case_neap hI (a 1)).1, E, L, (case_neap hI (a 1)).2⟩
  | 32 => exact ⟨(case_loads hI (a 1) (a 2)).1, E, L, (case_loads hI (a 1) (a 2)).2⟩
  | 33 => exact ⟨(case_dearest hI (a 1)).1, E, L, (case_dearest hI (a 1)).2⟩
  | 34 => exact ⟨(case_dry hI (a 1) (a 2)).1, E, L, (case_dry hI (a 1) (a 2)).2⟩
  | 35 => exact ⟨(case_year hI (a 1) (a 2) (a 3) (a 4) (a 5)).1, E, L, (case_year hI (a 1) (a 2) (a 3) (a 4) (a 5)).2⟩
  | 36 => exact ⟨(case_span hI (a 1) (a 2) (a 3) (a 4) (a 5) (a 6) (a 7)).1, E, L, (case_span hI (a 1) (a 2) (a 3) (a 4) (a 5) (a 6) (a 7)).2⟩
  | 37 => exact ⟨(case_image hI ).1, E, L, (case_image hI ).2⟩
  | 38 => exact ⟨(case_restore hI ).1, E, L, (case_restore hI ).2⟩
  | 39 => exact ⟨(case_status hI (a 1)).1, E, L, (case_status hI (a 1)).2⟩
  | 40 => exact ⟨(case_count hI (a 1)).1, E, L, (case_count hI (a 1)).2⟩
  | c + 41 =>
    rw [caseM_hi (by omega)]
    exact ⟨trivial, E, L, hI⟩
theorem run_all {x : Nat → Int32} {μ0 : Mem} (h0 : ∃ E L, Inv E L μ0) : ∀ j, (∃ E L, Inv E L (runM x j μ0)) ∧ caseP (cN (x (8 * j))) (rd x j) (runM x j μ0)
  | 0 => by
    obtain ⟨E, L, h⟩ := h0
    exact ⟨⟨E, L, h⟩, (case_all h (rd x 0) _).1⟩
  | j + 1 => by
    obtain ⟨⟨E, L, h⟩, -⟩ := run_all h0 j
    have q : ∃ E L, Inv E L (runM x (j + 1) μ0) := (case_all h (rd x j) (cN (x (8 * j)))).2
    obtain ⟨E', L', h'⟩ := q
    exact ⟨⟨E', L', h'⟩, (case_all h' (rd x (j + 1)) _).1⟩
