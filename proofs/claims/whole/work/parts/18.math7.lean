/-! levels -/
def o1 (g : Nat → Int) (L : Nat → Int) (k : Nat) : Nat → Int
  | 0 => if g (1 + k) = 7 then 1 else 0
  | i + 1 => if o1 g L k i = 1 ∨ (((2 ≤ g (1 + k) ∧ g (1 + k) ≤ 5) ∨ ((g (1 + k) = 9 ∨ g (1 + k) = 10) ∧ i = 0)) ∧ sO g k i ≠ -9 ∧ L (sO g k i).toNat = 1) then 1 else 0
def r1 (g : Nat → Int) (L : Nat → Int) (k : Nat) : Nat → Int
  | 0 => 0
  | i + 1 => if r1 g L k i = 1 ∨ ((g (1 + k) = 6 ∨ g (1 + k) = 7 ∨ (g (1 + k) = 8 ∧ i = 0) ∨ ((g (1 + k) = 9 ∨ g (1 + k) = 10) ∧ i = 1) ∨ g (1 + k) = 11) ∧ sO g k i ≠ -9 ∧ L (sO g k i).toNat = 1) then 1 else 0
theorem o1_01 (g L : Nat → Int) (k : Nat) : ∀ i, o1 g L k i = 0 ∨ o1 g L k i = 1
  | 0 => by unfold o1; split <;> omega
  | i + 1 => by unfold o1; split <;> omega
theorem r1_01 (g L : Nat → Int) (k : Nat) : ∀ i, r1 g L k i = 0 ∨ r1 g L k i = 1
  | 0 => Or.inl rfl
  | i + 1 => by unfold r1; split <;> omega
theorem o1_cong {g L M : Nat → Int} (hW : Wf g) {k : Nat} (hk : k < 8) (hn : (k : Int) < g 0) (h : ∀ j, j < 8 → L j = M j) : ∀ i, i ≤ 3 → o1 g L k i = o1 g M k i
  | 0, _ => rfl
  | i + 1, hi => by
    have ih := o1_cong hW hk hn h i (by omega)
    have hs := sO_in hW hk hn (show i < 3 by omega)
    unfold o1
    rw [ih]
    by_cases q : sO g k i = -9
    · simp [q]
    · rw [h _ (show (sO g k i).toNat < 8 by omega)]
theorem r1_cong {g L M : Nat → Int} (hW : Wf g) {k : Nat} (hk : k < 8) (hn : (k : Int) < g 0) (h : ∀ j, j < 8 → L j = M j) : ∀ i, i ≤ 3 → r1 g L k i = r1 g M k i
  | 0, _ => rfl
  | i + 1, hi => by
    have ih := r1_cong hW hk hn h i (by omega)
    have hs := sO_in hW hk hn (show i < 3 by omega)
    unfold r1
    rw [ih]
    by_cases q : sO g k i = -9
    · simp [q]
    · rw [h _ (show (sO g k i).toNat < 8 by omega)]
def lvK (g : Nat → Int) (L : Nat → Int) : Nat → Nat → Int
  | 0 => L
  | k + 1 => upn (lvK g L k) k (if o1 g (lvK g L k) k 3 = 1 then 1 else lvK g L k k)
def lvP (g : Nat → Int) (n : Nat) : Nat → Nat → Int
  | 0 => fun _ => 0
  | t + 1 => lvK g (lvP g n t) n
def wLev (i k : Nat) : Bool := i == 126
/-- what the reference has found of its page -/
def mAn (g : Nat → Int) (N : Nat) (σ' : gS) : Prop :=
  (∃ j : Nat, j < N ∧ σ' 111 19 = (j : Int) ∧ (∃ w, mClk g j = some w) ∧ mClk g (j + 1) = none ∧ σ' 111 20 = 0 ∧ σ' 111 21 = -9) ∨
  (σ' 111 19 = -9 ∧ ∃ w, mClk g N = some w ∧ mA σ' w ∧ σ' 111 20 = (((2 ^ N - 1) &&& ((oS (wtN g w) N N).1 ^^^ 255) : Nat) : Int) ∧ (∀ k, k < 8 → σ' 125 k = (oS (wtN g w) N N).2 k) ∧ (∀ k, k < 8 → σ' 126 k = lvP g N 8 k) ∧ σ' 111 21 = nO (fsR (fun k => r1 g (lvP g N 8) k 3 == 1) N))
def wAn (i k : Nat) : Bool := i == 123 || i == 124 || i == 125 || i == 126 || i == 127 || (i == 111 && (k == 19 || k == 20 || k == 21))
theorem up_upn {f : Nat → Int} {σ : gS} {i : Nat} (h : ∀ k, k < 8 → σ i k = f k) (v : Nat) (x : Int) : ∀ k, k < 8 → up2 σ i v x i k = upn f v x k := fun k hk => by
  by_cases q : k = v
  · subst q; rw [up2_eq, upn_eq]
  · rw [up2_k _ _ q, upn_ne _ _ q]; exact h k hk
theorem mm1 {N j n : Nat} (h1 : j + 1 ≤ N) (h2 : N - j + 1 < n + 1) : N - (j + 1) + 1 < n := by omega
