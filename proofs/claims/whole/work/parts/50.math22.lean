theorem isF_sn2 : ∀ f ∈ flL, f + 4 < 13 ∨ 20 < f := by decide +kernel
theorem isF.sn {f : Nat} (h : isF f) {i k : Nat} (hi : 13 ≤ i ∧ i ≤ 20) : wF f i k = false := by
  have := isF_sn2 f h
  simp [wF]; omega
theorem fp_fill {σ σ' : gS} {f : Nat} (h : ∀ k, k < 8 → σ' (f + 4) k = -9) (hf : fr (fun i _ => i == f + 4) σ σ') : fp σ' f = rs (fp σ f) 8 := by
  have o : ∀ j k, j ≠ f + 4 → σ' j k = σ j k := fun j k hj => hf j k (by simp; exact hj)
  refine fp_ext ?_ (fun s hs => ?_) (fun s hs => ?_) (fun s hs => ?_) (fun s hs => ?_) ?_ (fun k hk => ?_)
  · unfold rs; rw [if_neg (by omega)]; exact o _ _ (by omega)
  · unfold rs; rw [if_neg (by omega), fp_k _ _ hs, fp_k _ _ hs]; exact o _ _ (by omega)
  · unfold rs; rw [if_neg (by omega), fp_p _ _ hs, fp_p _ _ hs]; exact o _ _ (by omega)
  · unfold rs; rw [if_neg (by omega), fp_h _ _ hs, fp_h _ _ hs]; exact o _ _ (by omega)
  · unfold rs; rw [if_pos (by omega), fp_v _ _ hs]; exact h s hs
  · unfold rs; rw [if_neg (by omega)]; exact o _ _ (by omega)
  · unfold rs; rw [if_neg (by omega), fp_o _ _ hk, fp_o _ _ hk]
theorem cpR_0 (f g : Nat → Int) {n k : Nat} (h : k < n) : cpR f g 0 0 n k = f k := by
  unfold cpR; rw [if_pos (by omega), show 0 + (k - 0) = k by omega]
def eqC (G : Nat → Int) (s : Nat) (K a b c : Int) : Nat → Int := upn (upn (upn (upn G (1 + s) K) (9 + 3 * s) a) (9 + 3 * s + 1) b) (9 + 3 * s + 2) c
