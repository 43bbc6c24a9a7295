theorem cAll_none {G : Nat → Int} {k i : Nat} {w : mC} (h : cAll G k i w = none) : ∀ {j : Nat}, i ≤ j → cAll G k j w = none
  | 0, hj => by rw [show i = 0 by omega] at h; exact h
  | j + 1, hj => by
    by_cases q : i = j + 1
    · rw [q] at h; exact h
    · rw [cAll, cAll_none h (show i ≤ j by omega)]; rfl
theorem gb_fp3 {σ σ' : gS} (h : fr wGB σ σ') : fp σ' 3 = fp σ 3 := fp_fr h ⟨rfl, rfl, fun j k h1 h2 => by simp [wGB]; omega⟩
theorem cnx_end {w : mC} {r : Nat} (h : w.2 r < 0) : cnx w r = r := if_neg (by omega)
theorem cnx_pos {w : mC} {r : Nat} (h : 0 ≤ w.2 r) : cnx w r = w.1 (w.2 r / 10).toNat := if_pos h
def fcC (G : Nat → Int) (N : Nat) (q : Int) (σ' : gS) : Prop := (q = -9 ∧ ∃ w, cClk G N N = some w ∧ cA σ' w) ∨ ∃ k : Nat, k < N ∧ q = (k : Int) ∧ (∃ w, cClk G N k = some w) ∧ cClk G N (k + 1) = none
theorem mThen_s (w : mC) (f : mC → Option mC) : mThen (some w) f = f w := rfl
theorem mThen_n (f : mC → Option mC) : mThen none f = none := rfl
