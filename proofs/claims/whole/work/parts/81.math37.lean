/-! how many are there, by bits -/
def ctC (G : Nat → Int) : Nat → Nat
  | 0 => 0
  | s + 1 => ctC G s + (if G (41 + s) = -9 then 0 else 1)
theorem tbC_bit (G : Nat → Int) : ∀ n k, (tbC G n).testBit k = (decide (k < n) && decide (G (41 + k) ≠ -9))
  | 0, k => by simp [tbC]
  | n + 1, k => by
    have ih := tbC_bit G n k
    rw [tbC]
    by_cases q : G (41 + n) = -9
    · rw [if_pos q, ih]
      by_cases e : k = n
      · subst e; simp [q]
      · rw [show decide (k < n + 1) = decide (k < n) from by congr 1; exact propext ⟨fun _ => by omega, fun _ => by omega⟩]
    · rw [if_neg q, Nat.testBit_or, ih, Nat.testBit_two_pow]
      by_cases e : k = n
      · subst e; simp [q]
      · rw [show decide (k < n + 1) = decide (k < n) from by congr 1; exact propext ⟨fun _ => by omega, fun _ => by omega⟩, decide_eq_false (fun h : n = k => e h.symm), Bool.or_false]
theorem pcN_ct (G : Nat → Int) (m : Nat) : ∀ n, n ≤ m → pcN (tbC G m) n = ctC G n
  | 0, _ => rfl
  | n + 1, h => by
    have ih := pcN_ct G m n (by omega)
    have hb := tbC_bit G m n
    rw [Nat.testBit_eq_decide_div_mod_eq, decide_eq_true (show n < m by omega), Bool.true_and] at hb
    have hm := Nat.mod_lt (tbC G m / 2 ^ n) (show 0 < 2 by omega)
    rw [pcN, ctC, ih]
    by_cases q : G (41 + n) = -9
    · rw [if_pos q]
      have : ¬ tbC G m / 2 ^ n % 2 = 1 := fun e => by rw [decide_eq_true e] at hb; simp [q] at hb
      omega
    · rw [if_neg q]
      have : tbC G m / 2 ^ n % 2 = 1 := by
        rcases Nat.lt_or_ge (tbC G m / 2 ^ n % 2) 1 with e | e
        · rw [decide_eq_false (show ¬ tbC G m / 2 ^ n % 2 = 1 by omega)] at hb; simp [q] at hb
        · omega
      omega
