/-- the same inputs at each tick -/
def cst (a b : Int) : Nat → Int × Int := fun _ => (a, b)
theorem cst_in {a b : Int} (ha : 0 ≤ a ∧ a ≤ 99) (hb : 0 ≤ b ∧ b ≤ 99) : ∀ i, (0 ≤ (cst a b i).1 ∧ (cst a b i).1 ≤ 99) ∧ (0 ≤ (cst a b i).2 ∧ (cst a b i).2 ≤ 99) := fun _ => ⟨ha, hb⟩
/-- the weight of a path, as the class reckons it -/
def wgC (x d : Nat) : Nat → Nat
  | 0 => 1
  | i + 1 => wgC x d i * (if d / 2 ^ i % 2 = 1 then x else 10 - x)
theorem wgC_le {x d : Nat} (hx : x ≤ 10) : ∀ {n : Nat}, n ≤ 6 → wgC x d n ≤ 10 ^ n
  | 0, _ => Nat.le_refl 1
  | i + 1, hi => by
    have ih := wgC_le (d := d) hx (n := i) (by omega)
    rw [wgC, Nat.pow_succ]
    refine Nat.mul_le_mul ih ?_
    split <;> omega
/-- steps of the divisor -/
def gdP : Nat → Nat × Nat → Nat × Nat
  | 0, q => q
  | i + 1, q => if (gdP i q).2 = 0 then gdP i q else ((gdP i q).2, (gdP i q).1 % (gdP i q).2)
theorem gdP_gcd (q : Nat × Nat) : ∀ i, Nat.gcd (gdP i q).1 (gdP i q).2 = Nat.gcd q.1 q.2
  | 0 => rfl
  | i + 1 => by
    have ih := gdP_gcd q i
    rw [gdP]
    split
    · exact ih
    · show Nat.gcd (gdP i q).2 ((gdP i q).1 % (gdP i q).2) = _
      rw [gcd_step]; exact ih
theorem gdP_lt (q : Nat × Nat) (h : q.1 < 2147483648 ∧ q.2 < 2147483648) : ∀ i, (gdP i q).1 < 2147483648 ∧ (gdP i q).2 < 2147483648
  | 0 => h
  | i + 1 => by
    have ih := gdP_lt q h i
    rw [gdP]
    split
    · exact ih
    · next hne =>
      have := Nat.mod_lt (gdP i q).1 (show 0 < (gdP i q).2 by omega)
      exact ⟨ih.2, by show (gdP i q).1 % (gdP i q).2 < _; omega⟩
