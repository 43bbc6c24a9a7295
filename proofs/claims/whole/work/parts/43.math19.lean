/-! judging -/
theorem pow_5 {n : Nat} (h : n ≤ 3) : 1 ≤ 100000 ^ n ∧ 100000 ^ n ≤ 1000000000000000 := by
  have : n = 0 ∨ n = 1 ∨ n = 2 ∨ n = 3 := by omega
  rcases this with rfl | rfl | rfl | rfl <;> decide
/-- the same clock -/
def lkP (w : mC) (a b : Nat) : Prop := dN w a = dN w b ∧ (dN w a = 0 ∨ w.2 (xs w b 0) = w.2 (xs w a 0))
def soP (N : Nat) (R : Nat → Int) (w : mC) (k a b t : Nat) : Prop := a < N ∧ ((k = 3 ∧ b = 0 ∧ R (41 + a) = (t : Int)) ∨ (k = 4 ∧ b = 0 ∧ t = 0 ∧ R (41 + a) = -9) ∨ (k = 5 ∧ t = 0 ∧ dN w a = b) ∨ (k = 6 ∧ t = 0 ∧ b < N ∧ lkP w a b))
def jdG (g : Nat → Int) (w : mC) (T : Nat → Nat) (N f : Nat) : Nat → Int := if f / 10000 = 1 then tkM g w T N ((f / 100 % 100 : Nat) : Int) ((f % 100 : Nat) : Int) else if f = 20000 then afM g else g
def jdB (g : Nat → Int) (w : mC) (N f : Nat) : Prop := f / 10000 = 1 ∨ f = 20000 ∨ soP N g w (f / 10000) (f / 1000 % 10) (f / 100 % 10) (f % 100)
def jdF (r n k : Nat) : Nat := r / 100000 ^ (n - 1 - k) % 100000
def jdR (g : Nat → Int) (w : mC) (T : Nat → Nat) (N r n : Nat) : Nat → Nat → Int
  | 0 => g
  | k + 1 => jdG (jdR g w T N r n k) w T N (jdF r n k)
theorem jdG_ok {g : Nat → Int} {w : mC} {T : Nat → Nat} {N f : Nat} (h : tOk g N) (hT : ∀ i, i < N → T i < N) : tOk (jdG g w T N f) N := by
  unfold jdG
  split
  · exact tkM_ok h hT (by omega) (by omega)
  · split
    · exact afM_ok h
    · exact h
theorem jdR_ok {g : Nat → Int} {w : mC} {T : Nat → Nat} {N r n : Nat} (h : tOk g N) (hT : ∀ i, i < N → T i < N) : ∀ k, tOk (jdR g w T N r n k) N
  | 0 => h
  | k + 1 => jdG_ok (jdR_ok h hT k) hT
def jgP (g : Nat → Int) (w : mC) (T : Nat → Nat) (N r n : Nat) (q : Int) : Prop := (q = -9 ∧ ∀ k, k < n → jdB (jdR g w T N r n k) w N (jdF r n k)) ∨ ∃ k : Nat, k < n ∧ q = (k : Int) ∧ ¬ jdB (jdR g w T N r n k) w N (jdF r n k) ∧ ∀ i, i < k → jdB (jdR g w T N r n i) w N (jdF r n i)
