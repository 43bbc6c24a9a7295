/-- a figure as a stream: 0 where it is none -/
def spZ (v : Int) : Int := if v < 0 ∨ 8 ≤ v then 0 else v
def sp0 (n : Nat) : Nat := if n < 8 then n else 0
theorem sp0_in {n : Nat} (h : n < 8) : sp0 n = n := if_pos h
