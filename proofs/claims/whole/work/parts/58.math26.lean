/-! the class's levels -/
def hgC (G : Nat → Int) (L : Nat → Int) (s : Nat) : Nat → Int
  | 0 => 0
  | i + 1 => if nmS (G (1 + s)) i = true then (if hgC G L s i < L (fa G s i) then L (fa G s i) else hgC G L s i) else hgC G L s i
def lvC (G : Nat → Int) (L : Nat → Int) (s : Nat) : Int :=
  if G (1 + s) = 7 then 1 else if 2 ≤ G (1 + s) ∧ G (1 + s) ≤ 5 then hgC G L s 3 else if G (1 + s) = 9 ∨ G (1 + s) = 10 then L (fa G s 0) else 0
def lkC (G : Nat → Int) (L : Nat → Int) : Nat → Nat → Int
  | 0 => L
  | k + 1 => upn (lkC G L k) k (lvC G (lkC G L k) k)
def lpC (G : Nat → Int) (N : Nat) : Nat → Nat → Int
  | 0 => fun _ => 0
  | t + 1 => lkC G (lpC G N t) N
def rwC (G : Nat → Int) (L : Nat → Int) (s : Nat) : Bool :=
  decide (((G (1 + s) = 7 ∨ G (1 + s) = 8) ∧ L (fa G s 0) = 1) ∨ ((G (1 + s) = 6 ∨ G (1 + s) = 9 ∨ G (1 + s) = 10) ∧ L (fa G s 1) = 1) ∨ (G (1 + s) = 11 ∧ hgC G L s 3 = 1))
theorem hgC_cong {G : Nat → Int} {N : Nat} (hG : cW G N) {s : Nat} (hs : s < N) {L M : Nat → Int} (h : ∀ k, k < 8 → L k = M k) : ∀ i, i ≤ 3 → hgC G L s i = hgC G M s i
  | 0, _ => rfl
  | i + 1, hi => by
    have ih := hgC_cong hG hs h i (by omega)
    have hN := hG.2.1
    rw [hgC, hgC, ih]
    by_cases q : nmS (G (1 + s)) i = true
    · rw [if_pos q, if_pos q, h _ (by have := hG.st hs (i := i) (by omega) ((sPl_sp _ (by omega)).mpr (of_decide_eq_true q)); omega)]
    · rw [if_neg q, if_neg q]
theorem lvC_cong {G : Nat → Int} {N : Nat} (hG : cW G N) {s : Nat} (hs : s < N) {L M : Nat → Int} (h : ∀ k, k < 8 → L k = M k) : lvC G L s = lvC G M s := by
  have hN := hG.2.1
  unfold lvC
  rw [hgC_cong hG hs h 3 (Nat.le_refl 3)]
  by_cases q : G (1 + s) = 9 ∨ G (1 + s) = 10
  · rw [h (fa G s 0) (by have := hG.st hs (i := 0) (by omega) (by unfold sPl; omega); omega)]
  · rw [if_neg q, if_neg q]
theorem rwC_cong {G : Nat → Int} {N : Nat} (hG : cW G N) {s : Nat} (hs : s < N) {L M : Nat → Int} (h : ∀ k, k < 8 → L k = M k) : rwC G L s = rwC G M s := by
  have hN := hG.2.1
  unfold rwC
  rw [hgC_cong hG hs h 3 (Nat.le_refl 3)]
  by_cases q : G (1 + s) = 7 ∨ G (1 + s) = 8
  · rw [h (fa G s 0) (by have := hG.st hs (i := 0) (by omega) (by unfold sPl; omega); omega)]
    by_cases q2 : G (1 + s) = 6 ∨ G (1 + s) = 9 ∨ G (1 + s) = 10
    · omega
    · simp only [q2, false_and]
  · simp only [q, false_and]
    by_cases q2 : G (1 + s) = 6 ∨ G (1 + s) = 9 ∨ G (1 + s) = 10
    · rw [h (fa G s 1) (by have := hG.st hs (i := 1) (by omega) (by unfold sPl; omega); omega)]
    · simp only [q2, false_and]
theorem oc_fp3 {σ σ' : gS} (h : fr wOC σ σ') : fp σ' 3 = fp σ 3 := fp_fr h ⟨rfl, rfl, fun j k h1 h2 => by simp [wOC]; omega⟩
def w20 (i _k : Nat) : Bool := i == 20
theorem l_fp3 {σ σ' : gS} (h : fr w20 σ σ') : fp σ' 3 = fp σ 3 := fp_fr h ⟨rfl, rfl, fun j k h1 h2 => by simp [w20]; omega⟩
