def kf (g : Nat → Int) (s : Nat) : Int := if g (1 + s) = 6 then g (9 + 3 * s) else if g (1 + s) = 7 then -8 else 0
def af (g : Nat → Int) (i : Nat) : Nat → Int := fun k => if 33 ≤ k ∧ k < 33 + i then kf g (k - 33) else if 41 ≤ k ∧ k < 41 + i then -9 else g k
theorem af_0 (g : Nat → Int) : af g 0 = g := by funext k; unfold af; rw [if_neg (by omega), if_neg (by omega)]
theorem af_low (g : Nat → Int) {i k : Nat} (h : k < 33) : af g i k = g k := by unfold af; rw [if_neg (by omega), if_neg (by omega)]
theorem af_step (g : Nat → Int) (i : Nat) : upn (upn (af g i) (33 + i) (kf g i)) (41 + i) (-9) = af g (i + 1) := by
  funext k
  by_cases h : k = 41 + i
  · subst h
    rw [upn_eq]
    unfold af
    by_cases q : 33 ≤ 41 + i ∧ 41 + i < 33 + (i + 1)
    · omega
    · rw [if_neg q, if_pos (by omega)]
  · rw [upn_ne _ _ h]
    by_cases h2 : k = 33 + i
    · subst h2
      rw [upn_eq]
      unfold af
      rw [if_pos (by omega), show 33 + i - 33 = i by omega]
    · rw [upn_ne _ _ h2]
      unfold af
      by_cases q : 33 ≤ k ∧ k < 33 + i
      · rw [if_pos q, if_pos (by omega)]
      · rw [if_neg q, if_neg (show ¬ (33 ≤ k ∧ k < 33 + (i + 1)) by omega)]
        by_cases q2 : 41 ≤ k ∧ k < 41 + i
        · rw [if_pos q2, if_pos (by omega)]
        · rw [if_neg q2, if_neg (by omega)]
def afM (g : Nat → Int) : Nat → Int := upn (af g 8) 49 0
theorem all_down {C : Nat → Prop} {i n : Nat} (h : ∀ d, i ≤ d → d < n → C d) (h1 : C (i - 1)) : ∀ d, i - 1 ≤ d → d < n → C d := fun d q1 q2 => by
  rcases Nat.lt_or_ge d i with q | q
  · rw [show d = i - 1 by omega]; exact h1
  · exact h d q q2
