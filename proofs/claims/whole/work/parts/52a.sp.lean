theorem cW.spn {G : Nat → Int} {N : Nat} (h : cW G N) {k i : Nat} (hk : k < N) (hi : i < 3) : spZ (G (9 + 3 * k + i)) = ((sp0 (fa G k i) : Nat) : Int) := by
  rw [h.fg hk hi]
  unfold spZ sp0
  by_cases q : fa G k i < 8
  · rw [if_pos q, if_neg (by omega)]
  · rw [if_neg q, if_pos (by omega)]; rfl
theorem cW.sp {G : Nat → Int} {N : Nat} (h : cW G N) {k i : Nat} (hk : k < N) (hi : i < 3) (hl : fa G k i < 8) : spZ (G (9 + 3 * k + i)) = ((fa G k i : Nat) : Int) := by
  rw [h.spn hk hi, sp0_in hl]
