/-- the class's sums of a LAW, l open ones deep at most -/
def TsumC : Nat → (Int32 → Mem → Int32) × (Int32 → Mem → Mem) × (Int32 → Mem → Prop)
  | 0 => (fun _ _ => 0, fun _ μ => μ, fun _ _ => False)
  | l + 1 => (F_X1_readSum (TsumC l).1 (TsumC l).2.1 (TsumC l).2.2, M_X1_readSum (TsumC l).1 (TsumC l).2.1 (TsumC l).2.2, P_X1_readSum (TsumC l).1 (TsumC l).2.1 (TsumC l).2.2)
def FsumC (o : Int32) (μ : Mem) : Int32 := (TsumC 8).1 o μ
def MsumC (o : Int32) (μ : Mem) : Mem := (TsumC 8).2.1 o μ
def PsumC (o : Int32) (μ : Mem) : Prop := (TsumC 8).2.2 o μ
theorem TsumC_s (l : Nat) : TsumC (l + 1) = (F_X1_readSum (TsumC l).1 (TsumC l).2.1 (TsumC l).2.2, M_X1_readSum (TsumC l).1 (TsumC l).2.1 (TsumC l).2.2, P_X1_readSum (TsumC l).1 (TsumC l).2.1 (TsumC l).2.2) := rfl
theorem TsumC_z : TsumC 0 = (fun _ _ => 0, fun _ μ => μ, fun _ _ => False) := rfl
theorem bo_TsumC (l : Nat) : ∀ (o : Int32) (μ : Mem), (TsumC l).1 o μ = 0 ∨ (TsumC l).1 o μ = 1 := by
  induction l with
  | zero => intro o μ; rw [TsumC_z]; exact Or.inl rfl
  | succ l ih => intro o μ; rw [TsumC_s]; dsimp only; exact bo_X1_readSum (TsumC l).1 (TsumC l).2.1 (TsumC l).2.2 o ih μ
theorem bo_sumC (o : Int32) (μ : Mem) : FsumC o μ = 0 ∨ FsumC o μ = 1 := by
  unfold FsumC
  generalize h : TsumC 8 = T
  rw [← h]
  exact bo_TsumC 8 o μ
theorem ok_TsumC {G : SG} (hG : GK 57 G) (l : Nat) : ∀ (o : Int32) (μ : Mem), (TsumC l).2.2 o μ → OkF G (mX1_readSum (40 + 4 * l)) [.ref (ga G 26), .ref (ga G 1), .int o] μ (some (.int ((TsumC l).1 o μ))) ((TsumC l).2.1 o μ) := by
  induction l with
  | zero => intro o μ h; rw [TsumC_z] at h; exact h.elim
  | succ l ih =>
    intro o μ h
    rw [TsumC_s] at h ⊢
    dsimp only at h ⊢
    exact ok_X1_readSum hG (Nat.le_add_right 40 _) (TsumC l).1 (TsumC l).2.1 (TsumC l).2.2 (fun x ν hν => ih x ν hν) (bo_TsumC l) o μ h
theorem ok_sumC {G : SG} (hG : GK 57 G) (o : Int32) (μ : Mem) (h : PsumC o μ) : OkF G (mX1_readSum 72) [.ref (ga G 26), .ref (ga G 1), .int o] μ (some (.int (FsumC o μ))) (MsumC o μ) := by
  unfold PsumC at h
  unfold FsumC MsumC
  exact ok_TsumC hG 8 o μ h
