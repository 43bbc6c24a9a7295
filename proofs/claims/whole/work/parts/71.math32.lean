theorem lsT_in {A : Nat → Int} {n : Nat} (h : ∀ i, i < n → 0 ≤ A i ∧ A i ≤ 12) : ∀ {i : Nat}, i ≤ n → 0 ≤ lsT A i ∧ lsT A i ≤ 12
  | 0, _ => by show (0 : Int) ≤ 0 ∧ (0 : Int) ≤ 12; omega
  | i + 1, hi => by
    have ih := lsT_in h (i := i) (by omega)
    have := h i (by omega)
    rw [lsT]
    split <;> omega
/-- all that was seen up to tick L is so -/
def exK (σ : gS) (n : Nat) (L : Nat) (R : Nat → Nat → Int) : Bool := decide (∀ t, t < L → ∀ i, i < n → (σ 94 i = ((t + 1 : Nat) : Int) → (vc (R (t + 1)) (σ 95 i) = σ 96 i ↔ σ 97 i = 1)))
theorem ftC_r {σ σ' : gS} {t i : Nat} {R : Nat → Int} (h8 : fp σ' 8 = R) (e4 : σ' 94 = σ 94) (e5 : σ' 95 = σ 95) (e6 : σ' 96 = σ 96) (e7 : σ' 97 = σ 97) : ftC σ' t i ↔ (σ 94 i = (t : Int) → (vc R (σ 95 i) = σ 96 i ↔ σ 97 i = 1)) := by
  unfold ftC
  rw [h8, e4, e5, e6, e7]
theorem w8_93 (i k : Nat) (h : 13 ≤ i) : wF 8 i k = false := by simp [wF]; omega
