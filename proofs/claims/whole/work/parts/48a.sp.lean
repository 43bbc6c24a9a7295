def sp0 (n : Nat) : Nat := if n < 8 then n else 0
theorem sp0_in {n : Nat} (h : n < 8) : sp0 n = n := if_pos h
