def jcR (G : Nat → Int) (T : Nat → Nat) (S : Nat → Int) (N r n : Nat) : Nat → Nat → Int
  | 0 => G
  | k + 1 => jcG (jcR G T S N r n k) T S N (jdF r n k)
theorem jcG_b {G : Nat → Int} (h : bC G) {T : Nat → Nat} {S : Nat → Int} {N : Nat} (h0 : G 0 = (N : Int)) (hT : ∀ i, i < N → T i < 8 ∧ T i < N) (f : Nat) : bC (jcG G T S N f) := by
  unfold jcG
  split
  · exact wkC_b h h0 hT (by omega) (by omega)
  · split
    · exact rsC_b h
    · exact h
theorem jcG_0 {G : Nat → Int} {T : Nat → Nat} {S : Nat → Int} {N : Nat} (hT : ∀ i, i < N → T i < 8 ∧ T i < N) (f : Nat) : jcG G T S N f 0 = G 0 := by
  unfold jcG
  split
  · exact wkC_0 hT
  · split
    · exact rsP_low G (by omega)
    · rfl
theorem jcR_0 {G : Nat → Int} {T : Nat → Nat} {S : Nat → Int} {N : Nat} (hT : ∀ i, i < N → T i < 8 ∧ T i < N) (r n : Nat) : ∀ k, jcR G T S N r n k 0 = G 0
  | 0 => rfl
  | k + 1 => by rw [jcR, jcG_0 hT, jcR_0 hT r n k]
theorem jcR_b {G : Nat → Int} (h : bC G) {T : Nat → Nat} {S : Nat → Int} {N : Nat} (h0 : G 0 = (N : Int)) (hT : ∀ i, i < N → T i < 8 ∧ T i < N) (r n : Nat) : ∀ k, bC (jcR G T S N r n k)
  | 0 => h
  | k + 1 => jcG_b (jcR_b h h0 hT r n k) (by rw [jcR_0 hT]; exact h0) hT _
def jkP (G : Nat → Int) (T : Nat → Nat) (S D : Nat → Int) (N r n : Nat) (q : Int) : Prop := (q = -9 ∧ ∀ k, k < n → jcB (jcR G T S N r n k) S D N (jdF r n k)) ∨ ∃ k : Nat, k < n ∧ q = (k : Int) ∧ ¬ jcB (jcR G T S N r n k) S D N (jdF r n k) ∧ ∀ i, i < k → jcB (jcR G T S N r n i) S D N (jdF r n i)
