def alk (S : Nat → Int) (t u : Nat) : Prop := ∀ s, s < 8 → S (8 * t + s) = S (8 * u + s)
def wLs (i _k : Nat) : Bool := i == 115 || i == 127 || i == 128
theorem sc_ls (i k : Nat) (h : wLs i k = true) : wSc i k = true := by simp [wLs] at h; simp [wSc]; omega
theorem ls_tk (i k : Nat) (h : wTk 115 i k = true) : wLs i k = true := by simp [wTk] at h; simp [wLs]; omega
theorem ls_115 (i k : Nat) (h : w115 i k = true) : wLs i k = true := by simp [w115] at h; simp [wLs]; omega
/-- ROUND -/
def rdP (A : Nat → Nat → Prop) (what q : Int) : Prop := (∃ l t, 1 ≤ l ∧ t + l ≤ 40 ∧ A t (t + l) ∧ (∀ l' t', 1 ≤ l' → l' < l → t' + l' ≤ 40 → ¬ A t' (t' + l')) ∧ (∀ t', t' < t → ¬ A t' (t' + l)) ∧ ((what = 0 ∧ q = ((l : Nat) : Int)) ∨ (what ≠ 0 ∧ q = ((t : Nat) : Int)))) ∨ ((∀ l t, 1 ≤ l → t + l ≤ 40 → ¬ A t (t + l)) ∧ q = -9)
/-- what was seen is so -/
def exC (σ : gS) (R : Nat → Nat → Int) (i t : Nat) : Prop := σ 119 i = ((t + 1 : Nat) : Int) → (R (t + 1) (41 + (σ 120 i).toNat) = σ 121 i ↔ σ 122 i = 1)
def exP (σ : gS) (n : Nat) (R : Nat → Nat → Int) : Prop := ∀ t, t < 12 → ∀ i, i < n → exC σ R i t
noncomputable def exB (σ : gS) (n : Nat) (R : Nat → Nat → Int) : Bool := @decide (exP σ n R) (Classical.propDecidable _)
theorem exB_t {σ : gS} {n : Nat} {R : Nat → Nat → Int} (h : exP σ n R) : exB σ n R = true := @decide_eq_true _ (Classical.propDecidable _) h
theorem exB_f {σ : gS} {n : Nat} {R : Nat → Nat → Int} (h : ¬ exP σ n R) : exB σ n R = false := @decide_eq_false _ (Classical.propDecidable _) h
def cnB (e : Nat → Bool) : Nat → Nat
  | 0 => 0
  | k + 1 => cnB e k + (if e k = true then 1 else 0)
theorem cnB_le (e : Nat → Bool) : ∀ k, cnB e k ≤ k
  | 0 => Nat.le_refl 0
  | k + 1 => by have := cnB_le e k; unfold cnB; split <;> omega
theorem cnB_0 {e : Nat → Bool} : ∀ {k : Nat}, cnB e k = 0 → fsR e k = none
  | 0, _ => rfl
  | k + 1, h => by
    unfold cnB at h
    have h1 : cnB e k = 0 := by split at h <;> omega
    rw [fsR, cnB_0 h1]
    split at h
    · omega
    · next q => simp [q]
theorem cnB_pos {e : Nat → Bool} : ∀ {k : Nat}, fsR e k = none → cnB e k = 0
  | 0, _ => rfl
  | k + 1, h => by
    have h2 := fsR_none.mp h
    rw [cnB, cnB_pos (fsR_none.mpr (fun j hj => h2 j (by omega))), h2 k (by omega)]
    rfl
theorem fsR_step {e : Nat → Bool} {k : Nat} : nO (fsR e (k + 1)) = if e k = true ∧ cnB e k = 0 then (k : Int) else nO (fsR e k) := by
  rw [fsR]
  by_cases h : cnB e k = 0
  · rw [cnB_0 h]
    by_cases q : e k = true
    · simp [q, h, nO]
    · simp [q, nO]
  · have hn : ¬ (e k = true ∧ cnB e k = 0) := fun q => h q.2
    cases e2 : fsR e k with
    | none => exact absurd (cnB_pos e2) h
    | some j => exact (if_neg hn).symm
def seenOK (σ : gS) (n : Nat) : Prop := n ≤ 6 ∧ ∀ i, i < n → 0 ≤ σ 120 i ∧ σ 120 i < 8
