theorem wgC_odW (x d : Nat) : ∀ n, wgC x d n = odW x n d
  | 0 => rfl
  | i + 1 => by
    have ih := wgC_odW x d i
    have ho := onN_le d i
    have hb := Nat.mod_lt (d / 2 ^ i) (show 0 < 2 by omega)
    rw [wgC, ih]
    unfold odW
    rw [onN]
    by_cases q : d / 2 ^ i % 2 = 1
    · rw [if_pos q, q, Nat.pow_succ, show i + 1 - (onN d i + 1) = i - onN d i by omega, Nat.mul_right_comm]
    · rw [if_neg q, show d / 2 ^ i % 2 = 0 by omega, Nat.add_zero, show i + 1 - onN d i = (i - onN d i) + 1 by omega, Nat.pow_succ, Nat.mul_assoc]
theorem gdP_stop {q : Nat × Nat} {i : Nat} (h : (gdP i q).2 = 0) : ∀ d, gdP (i + d) q = gdP i q
  | 0 => rfl
  | d + 1 => by
    have ih := gdP_stop h d
    show gdP ((i + d) + 1) q = _
    rw [gdP, ih, if_pos h]
theorem mod_half {a b : Nat} (hb : 0 < b) (h : b ≤ a) : a % b * 2 ≤ a := by
  have h1 := Nat.div_add_mod a b
  have h2 := Nat.mod_lt a hb
  have h3 : b * 1 ≤ b * (a / b) := Nat.mul_le_mul_left b ((Nat.le_div_iff_mul_le hb).mpr (by omega))
  omega
theorem gdP_half (q : Nat × Nat) (i : Nat) : (gdP (i + 2) q).2 * 2 ≤ (gdP i q).2 := by
  by_cases h : (gdP i q).2 = 0
  · rw [gdP_stop h 2, h]; omega
  · have e1 : gdP (i + 1) q = ((gdP i q).2, (gdP i q).1 % (gdP i q).2) := by rw [gdP, if_neg h]
    have hl := Nat.mod_lt (gdP i q).1 (show 0 < (gdP i q).2 by omega)
    by_cases h2 : (gdP (i + 1) q).2 = 0
    · rw [gdP_stop h2 1, h2]; omega
    · have e2 : gdP (i + 2) q = ((gdP (i + 1) q).2, (gdP (i + 1) q).1 % (gdP (i + 1) q).2) := by
        show gdP ((i + 1) + 1) q = _
        rw [gdP, if_neg h2]
      rw [e2]
      show (gdP (i + 1) q).1 % (gdP (i + 1) q).2 * 2 ≤ _
      rw [e1] at h2 ⊢
      exact mod_half (by show 0 < (gdP i q).1 % (gdP i q).2; have h3 : ¬ (gdP i q).1 % (gdP i q).2 = 0 := h2; omega) (by show (gdP i q).1 % (gdP i q).2 ≤ (gdP i q).2; omega)
theorem gdP_pow (q : Nat × Nat) : ∀ k, (gdP (2 * k) q).2 * 2 ^ k ≤ q.2
  | 0 => by show q.2 * 1 ≤ q.2; omega
  | k + 1 => by
    have ih := gdP_pow q k
    have h := gdP_half q (2 * k)
    have e : (gdP (2 * (k + 1)) q).2 * 2 ^ (k + 1) = (gdP (2 * k + 2) q).2 * 2 * 2 ^ k := by rw [Nat.pow_succ, Nat.mul_comm (2 ^ k) 2, ← Nat.mul_assoc]; rfl
    rw [e]
    exact Nat.le_trans (Nat.mul_le_mul_right _ h) ih
theorem gdP_64 (a b : Nat) (hb : b < 2147483648) : (gdP 64 (a, b)).1 = Nat.gcd a b := by
  have h1 : (gdP 64 (a, b)).2 * 4294967296 ≤ b := gdP_pow (a, b) 32
  have h2 : (gdP 64 (a, b)).2 = 0 := by omega
  have h3 := gdP_gcd (a, b) 64
  rw [h2, Nat.gcd_zero_right] at h3
  exact h3
theorem gdP_end {a b i : Nat} (hi : i ≤ 64) (h : (gdP i (a, b)).2 = 0 ∨ i = 64) (hb : b < 2147483648) : (gdP i (a, b)).1 = Nat.gcd a b := by
  rcases h with h | h
  · have h3 := gdP_gcd (a, b) i
    rw [h, Nat.gcd_zero_right] at h3
    exact h3
  · subst h; exact gdP_64 a b hb
/-- the class's sum over runs -/
def rnK (R : Nat → Nat → Int) : Nat → Int
  | 0 => 0
  | k + 1 => rnK R k + smC (R (k + 1)) 8
theorem rnK_in {R : Nat → Nat → Int} (h : ∀ k, bC (R k)) : ∀ k : Nat, -800 * (k : Int) ≤ rnK R k ∧ rnK R k ≤ 808 * k
  | 0 => by show (-800 : Int) * ((0 : Nat) : Int) ≤ 0 ∧ (0 : Int) ≤ 808 * ((0 : Nat) : Int); omega
  | k + 1 => by
    have ih := rnK_in h k
    have := smC_in (h (k + 1)) (Nat.le_refl 8)
    rw [rnK]
    omega
