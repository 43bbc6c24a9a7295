/-- one told thing of a judged row, in the class -/
def soC (N : Nat) (R : Nat → Int) (S D : Nat → Int) (k a b t : Nat) : Prop := a < N ∧ ((k = 3 ∧ b = 0 ∧ R (41 + a) = (t : Int)) ∨ (k = 4 ∧ b = 0 ∧ t = 0 ∧ R (41 + a) = -9) ∨ (k = 5 ∧ t = 0 ∧ D a = (b : Int)) ∨ (k = 6 ∧ t = 0 ∧ b < N ∧ S a = S b))
def jcB (G : Nat → Int) (S D : Nat → Int) (N f : Nat) : Prop := f / 10000 = 1 ∨ f = 20000 ∨ soC N G S D (f / 10000) (f / 1000 % 10) (f / 100 % 10) (f % 100)
def jcG (G : Nat → Int) (T : Nat → Nat) (S : Nat → Int) (N f : Nat) : Nat → Int := if f / 10000 = 1 then wkC G T S N ((f / 100 % 100 : Nat) : Int) ((f % 100 : Nat) : Int) else if f = 20000 then rsC G else G
