/-! figures of kinds -/
theorem gFg_sp {k : Nat} (h : k < 12) : (((k : Int) < 2 ∨ (k : Int) = 7) ∧ gFg k = 1) ∨ (((k : Int) = 5 ∨ (k : Int) = 11) ∧ gFg k = 3) ∨ (¬ ((k : Int) < 2 ∨ (k : Int) = 7 ∨ (k : Int) = 5 ∨ (k : Int) = 11) ∧ gFg k = 2) := by
  have : ∀ k : Nat, k < 12 → (((k : Int) < 2 ∨ (k : Int) = 7) ∧ gFg k = 1) ∨ (((k : Int) = 5 ∨ (k : Int) = 11) ∧ gFg k = 3) ∨ (¬ ((k : Int) < 2 ∨ (k : Int) = 7 ∨ (k : Int) = 5 ∨ (k : Int) = 11) ∧ gFg k = 2) := by decide
  exact this k h
theorem fgz_sp (K : Int) : ((K < 2 ∨ K = 7) ∧ fgz K = 1) ∨ ((K = 5 ∨ K = 11) ∧ fgz K = 3) ∨ (¬ (K < 2 ∨ K = 7 ∨ K = 5 ∨ K = 11) ∧ fgz K = 2) := by
  unfold fgz
  split
  · exact Or.inl ⟨by assumption, rfl⟩
  · split
    · exact Or.inr (Or.inl ⟨by assumption, rfl⟩)
    · exact Or.inr (Or.inr ⟨by omega, rfl⟩)
/-- the most that a figure can be, or 0 where there is none -/
def fgL (K : Int) (i : Nat) (n : Int) : Int := if i < fgz K then mst K i n else 0
theorem fgL_sp (K : Int) (i : Nat) (n : Int) : (fgz K ≤ i ∧ fgL K i n = 0) ∨ (i < fgz K ∧ K = 0 ∧ fgL K i n = 1) ∨ (i < fgz K ∧ K ≠ 0 ∧ (K = 1 ∨ (K = 6 ∧ i = 0)) ∧ fgL K i n = 9) ∨ (i < fgz K ∧ K ≠ 0 ∧ ¬ (K = 1 ∨ (K = 6 ∧ i = 0)) ∧ fgL K i n = n - 1) := by
  unfold fgL
  split
  · unfold mst
    split
    · omega
    · split <;> omega
  · omega
theorem sPl_sp (K : Int) {i : Nat} (hi : i < 3) : sPl K i ↔ 1 < K ∧ i < fgz K ∧ (K ≠ 6 ∨ 0 < i) := by
  have := fgz_sp K
  unfold sPl
  omega
