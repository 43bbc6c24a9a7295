theorem tg_22 (p : Nat) : tg 22 p = 23 + 5 * p := by unfold tg; rw [if_neg (by decide), if_pos rfl]
theorem tg_98 (p : Nat) : tg 98 p = 101 + 5 * p := by unfold tg; rw [if_neg (by decide), if_neg (by decide), if_pos rfl]
theorem isF_row {p : Nat} (h : p < 14) : isF (23 + 5 * p) := by
  have : ∀ p, p < 14 → 23 + 5 * p ∈ flL := by decide
  exact this p h
theorem isF_slot {p : Nat} (h : p < 2) : isF (101 + 5 * p) := by
  have : ∀ p, p < 2 → 101 + 5 * p ∈ flL := by decide
  exact this p h
theorem fp_off {σ : gS} {i k f : Nat} {v : Int} (h : i < f ∨ f + 4 < i) : fp (up2 σ i k v) f = fp σ f :=
  fp_cong (up2_c _ _ (by omega)) (fun _ _ => up2_c _ _ (by omega)) (fun _ _ => up2_c _ _ (by omega)) (fun _ _ => up2_c _ _ (by omega)) (fun _ _ => up2_c _ _ (by omega)) (up2_c _ _ (by omega))
def wDo (p : Nat) (i k : Nat) : Bool := wF (23 + 5 * p) i k || (i == 21 && decide (k < 2))
def wTB (i k : Nat) : Bool := wF 3 i k || (i == 21 && k == 0)
theorem wF_wDo (p i k : Nat) (h : wF (23 + 5 * p) i k = true) : wDo p i k = true := by unfold wDo; rw [h]; rfl
theorem wF_wTB (i k : Nat) (h : wF 3 i k = true) : wTB i k = true := by unfold wTB; rw [h]; rfl
def lsT (A : Nat → Int) : Nat → Int
  | 0 => 0
  | i + 1 => if lsT A i < A i then A i else lsT A i
def ftC (σ : gS) (t : Nat) (i : Nat) : Prop := σ 94 i = (t : Int) → (vc (fp σ 8) (σ 95 i) = σ 96 i ↔ σ 97 i = 1)
def wSg (i k : Nat) : Bool := (i == 93 && k == 0) || i == 94 || i == 95 || i == 96 || i == 97
def wTc (i k : Nat) : Bool := (i == 1 && k == 1) || i == 2
def w21 (i k : Nat) : Bool := i == 21 && k == 0
