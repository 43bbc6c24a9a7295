def wFC (i k : Nat) : Bool := i == 123 || i == 124 || (i == 111 && k == 19)
def wOrd (i k : Nat) : Bool := i == 125 || i == 127 || (i == 111 && k == 20)
/-- the first equation that can not have what it asks, so far -/
def fcI (g : Nat → Int) (k : Nat) (σ' : gS) : Prop := (σ' 111 19 = -9 ∧ ∃ w, mClk g k = some w ∧ mA σ' w) ∨ (∃ j : Nat, j < k ∧ σ' 111 19 = (j : Int) ∧ (∃ w, mClk g j = some w) ∧ mClk g (j + 1) = none)
theorem fcI.mono {g : Nat → Int} {k n : Nat} {σ' : gS} (h : fcI g k σ') (hk : k ≤ n) (hc : ¬ σ' 111 19 = -9) : fcI g n σ' := by
  rcases h with h | ⟨j, h1, h2⟩
  · exact absurd h.1 hc
  · exact Or.inr ⟨j, by omega, h2⟩
/-- the least from i on -/
def lsP (R : Nat → Bool) (i N : Nat) (v : Int) : Prop := (v = -9 ∧ ∀ k, i ≤ k → k < N → R k = false) ∨ (∃ k, i ≤ k ∧ k < N ∧ v = ((k : Nat) : Int) ∧ R k = true ∧ ∀ j, i ≤ j → j < k → R j = false)
theorem lsP_N (R : Nat → Bool) (N : Nat) : lsP R N N (-9) := Or.inl ⟨rfl, fun k h1 h2 => absurd h2 (by omega)⟩
theorem lsP_no {R : Nat → Bool} {i N : Nat} {v : Int} (h : lsP R i N v) (hi : 0 < i) (hr : R (i - 1) = false) : lsP R (i - 1) N v := by
  rcases h with ⟨h1, h2⟩ | ⟨k, h1, h2, h3, h4, h5⟩
  · exact Or.inl ⟨h1, fun k q1 q2 => by
      rcases Nat.lt_or_ge k i with q | q
      · rw [show k = i - 1 by omega]; exact hr
      · exact h2 k q q2⟩
  · exact Or.inr ⟨k, by omega, h2, h3, h4, fun j q1 q2 => by
      rcases Nat.lt_or_ge j i with q | q
      · rw [show j = i - 1 by omega]; exact hr
      · exact h5 j q q2⟩
theorem lsP_yes {R : Nat → Bool} {i N : Nat} (hi : 0 < i) (hN : i ≤ N) (hr : R (i - 1) = true) : lsP R (i - 1) N (((i - 1 : Nat) : Nat) : Int) :=
  Or.inr ⟨i - 1, Nat.le_refl _, by omega, rfl, hr, fun j q1 q2 => absurd q2 (by omega)⟩
theorem lsP_0 {R : Nat → Bool} {N : Nat} {v : Int} (h : lsP R 0 N v) : v = nO (fsR R N) := by
  rcases h with ⟨h1, h2⟩ | ⟨k, h1, h2, h3, h4, h5⟩
  · rw [fsR_none.mpr (fun k hk => h2 k (Nat.zero_le _) hk), h1]; rfl
  · rw [fsR_some.mpr ⟨h2, h4, fun j hj => h5 j (Nat.zero_le _) hj⟩, h3]; rfl
theorem nO_in {R : Nat → Bool} {N : Nat} : (nO (fsR R N) = -9 ∧ fsR R N = none) ∨ (∃ k, k < N ∧ nO (fsR R N) = ((k : Nat) : Int) ∧ fsR R N = some k) := by
  cases e : fsR R N with
  | none => exact Or.inl ⟨rfl, rfl⟩
  | some k => exact Or.inr ⟨k, (fsR_some.mp e).1, rfl, rfl⟩
theorem wtN_lt {g : Nat → Int} (hW : Wf g) {w : mC} (h : mOK w) {k : Nat} (hk : k < 8) (hn : (k : Int) < g 0) : wtN g w k < 256 := wtA_lt (figS_lt hW hk hn) h hk (Nat.le_refl _)
theorem bit_div (d k : Nat) : d.testBit k = decide (d / 2 ^ k % 2 = 1) := Nat.testBit_eq_decide_div_mod_eq
theorem rdy_has {W : Nat → Nat} {d k : Nat} (h : d / 2 ^ k % 2 = 1) : rdy W d k = false := by
  unfold rdy; rw [bit_div, decide_eq_true h]; rfl
theorem rdy_not {W : Nat → Nat} {d k : Nat} (h : W k &&& (d ^^^ 255) ≠ 0) : rdy W d k = false := by
  unfold rdy; simp [h]
theorem rdy_yes {W : Nat → Nat} {d k : Nat} (h : ¬ d / 2 ^ k % 2 = 1) (h2 : W k &&& (d ^^^ 255) = 0) : rdy W d k = true := by
  unfold rdy; rw [bit_div, decide_eq_false h, h2]; rfl
theorem oS_succ {W : Nat → Nat} {N j k : Nat} (h : fsR (rdy W (oS W N j).1) N = some k) : oS W N (j + 1) = ((oS W N j).1 ||| 2 ^ k, upn (oS W N j).2 k (j : Int)) := by
  show (match fsR (rdy W (oS W N j).1) N with | some k => _ | none => _) = _
  rw [h]
theorem oS_end {W : Nat → Nat} {N j : Nat} (hf : ∀ i, i < j → fsR (rdy W (oS W N i).1) N ≠ none) (h : fsR (rdy W (oS W N j).1) N = none) : oS W N N = oS W N j := by
  have := oS_cz hf
  obtain ⟨d, rfl⟩ := Nat.le.dest (show j ≤ N by omega)
  exact oS_stop h d
theorem pow_N {N : Nat} (h : N ≤ 8) : 1 ≤ 2 ^ N ∧ 2 ^ N ≤ 256 := by
  have : ∀ N, N ≤ 8 → 1 ≤ 2 ^ N ∧ 2 ^ N ≤ 256 := by decide
  exact this N h
