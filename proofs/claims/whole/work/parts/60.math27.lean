/-- what the class has found of its flow -/
def cAn (G : Nat → Int) (N : Nat) (σ' : gS) : Prop := σ' 13 3 = (N : Int) ∧
  ((∃ j : Nat, j < N ∧ σ' 13 0 = (j : Int) ∧ (∃ w, cClk G N j = some w) ∧ cClk G N (j + 1) = none ∧ σ' 13 1 = 0 ∧ σ' 13 2 = -9) ∨
  (σ' 13 0 = -9 ∧ ∃ w, cClk G N N = some w ∧ (∀ k, k < N → σ' 16 k = stC w k) ∧ (∀ k, k < N → σ' 17 k = ((dCr (stC w) 8 k : Nat) : Int)) ∧ σ' 13 1 = (((2 ^ N - 1) &&& ((oS (wtC G (stC w)) N N).1 ^^^ 255) : Nat) : Int) ∧ (∀ k, k < 8 → σ' 18 k = (oS (wtC G (stC w)) N N).2 k) ∧ (∀ i, i < N → σ' 19 i = nO (fsR (rdy (wtC G (stC w)) (oS (wtC G (stC w)) N i).1) N)) ∧ (∀ k, k < 8 → σ' 20 k = lpC G N 8 k) ∧ σ' 13 2 = nO (fsR (rwC G (lpC G N 8)) N)))
def wSe (i k : Nat) : Bool := (i == 13 && decide (k < 4)) || (decide (13 < i) && decide (i ≤ 20))
theorem se_fp {σ σ' : gS} (h : fr wSe σ σ') {f : Nat} (hF : isF f) : fp σ' f = fp σ f := by
  have := isF_sn2 f hF
  refine fp_fr h ⟨?_, ?_, fun j k h1 h2 => ?_⟩ <;> simp [wSe] <;> omega
theorem se_gb (i k : Nat) (h : wGB i k = true) : wSe i k = true := by simp [wGB] at h; simp [wSe]; omega
theorem se_st (i k : Nat) (h : wSt i k = true) : wSe i k = true := by simp [wSt] at h; simp [wSe]; omega
theorem se_oc (i k : Nat) (h : wOC i k = true) : wSe i k = true := by simp [wOC] at h; simp [wSe]; omega
theorem se_20 (i k : Nat) (h : w20 i k = true) : wSe i k = true := by simp [w20] at h; simp [wSe]; omega
theorem cA.keep {σ σ' : gS} {w : mC} (h : cA σ w) (e1 : σ' 14 = σ 14) (e2 : σ' 15 = σ 15) : cA σ' w := fun k hk => by rw [e1, e2]; exact h k hk
