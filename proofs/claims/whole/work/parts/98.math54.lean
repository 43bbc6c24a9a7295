/-! levels are closed after eight passes; what soundness says of them -/
def lsl (L M : Nat → Int) : Prop := ∀ s, s < 8 → L s = 1 → M s = 1
theorem lvK_step (g L : Nat → Int) (k : Nat) : lsl (lvK g L k) (lvK g L (k + 1)) := fun s _ h => by
  rw [lvK]
  by_cases q : s = k
  · subst q; rw [upn_eq]; split
    · rfl
    · exact h
  · rw [upn_ne _ _ q]; exact h
theorem lvK_le (g L : Nat → Int) (j : Nat) : ∀ d, lsl (lvK g L j) (lvK g L (j + d))
  | 0 => fun _ _ h => h
  | d + 1 => fun s hs h => lvK_step g L (j + d) s hs (lvK_le g L j d s hs h)
def lsC (g : Nat → Int) (N : Nat) (L : Nat → Int) : Prop := ∀ k, k < N → o1 g L k 3 = 1 → L k = 1
theorem lsC_a {g L : Nat → Int} {N : Nat} (hW : Wf g) (hN : g 0 = (N : Int)) (h : lsl (lvK g L N) L) : lsC g N L := fun k hk e => by
  have h8 := hW.1
  have e1 := o1_mono hW (show k < 8 by omega) (by omega) (M := lvK g L k) (fun s hs q => by
    have := lvK_le g L 0 k s hs q; rw [Nat.zero_add] at this; exact this) e
  have e2 : lvK g L (k + 1) k = 1 := by rw [lvK, upn_eq, if_pos e1]
  have e3 := lvK_le g L (k + 1) (N - (k + 1)) k (by omega) e2
  rw [show k + 1 + (N - (k + 1)) = N by omega] at e3
  exact h k (by omega) e3
theorem lsC_k {g L : Nat → Int} {N : Nat} (hW : Wf g) (hN : g 0 = (N : Int)) (h : lsC g N L) : ∀ k, k ≤ N → lsl (lvK g L k) L
  | 0, _ => fun _ _ q => q
  | k + 1, hk => fun s hs q => by
    have h8 := hW.1
    have ih := lsC_k hW hN h k (by omega)
    rw [lvK] at q
    by_cases e : s = k
    · subst e
      rw [upn_eq] at q
      split at q
      · next q2 => exact h s (by omega) (o1_mono hW (by omega) (by omega) ih q2)
      · exact ih s hs q
    · rw [upn_ne _ _ e] at q; exact ih s hs q
theorem lsC_b {g L : Nat → Int} {N : Nat} (hW : Wf g) (hN : g 0 = (N : Int)) (h : lsC g N L) : lsC g N (lvK g L N) := fun k hk e => by
  have h8 := hW.1
  have e1 := h k hk (o1_mono hW (by omega) (by omega) (lsC_k hW hN h N (Nat.le_refl N)) e)
  have e2 := lvK_le g L 0 N k (by omega) e1
  rw [Nat.zero_add] at e2; exact e2
def cn1 (L : Nat → Int) : Nat → Nat
  | 0 => 0
  | n + 1 => cn1 L n + (if L n = 1 then 1 else 0)
theorem cn1_le {L M : Nat → Int} (h : lsl L M) : ∀ n, n ≤ 8 → cn1 L n ≤ cn1 M n
  | 0, _ => Nat.le_refl 0
  | n + 1, hn => by
    have ih := cn1_le h n (by omega)
    have := h n (by omega)
    unfold cn1
    split
    · next q => rw [if_pos (this q)]; omega
    · split <;> omega
theorem cn1_lt {L M : Nat → Int} (h : lsl L M) {s : Nat} (h1 : M s = 1) (h2 : L s ≠ 1) : ∀ n, s < n → n ≤ 8 → cn1 L n < cn1 M n
  | 0, hs, _ => absurd hs (Nat.not_lt_zero _)
  | n + 1, hs, hn => by
    unfold cn1
    by_cases q : s = n
    · subst q
      have := cn1_le h s (by omega)
      rw [if_pos h1, if_neg h2]; omega
    · have ih := cn1_lt h h1 h2 n (by omega) (by omega)
      have := h n (by omega)
      split
      · next q => rw [if_pos (this q)]; omega
      · split <;> omega
theorem cn1_max (L : Nat → Int) : ∀ n, cn1 L n ≤ n
  | 0 => Nat.le_refl 0
  | n + 1 => by have := cn1_max L n; unfold cn1; split <;> omega
theorem cn1_all {L : Nat → Int} : ∀ {n : Nat}, n ≤ cn1 L n → ∀ s, s < n → L s = 1
  | 0, _, s, hs => absurd hs (Nat.not_lt_zero _)
  | n + 1, h, s, hs => by
    have hm := cn1_max L n
    unfold cn1 at h
    split at h
    · next q =>
      by_cases e : s = n
      · rw [e]; exact q
      · exact cn1_all (n := n) (by omega) s (by omega)
    · omega
theorem lvP_cl {g : Nat → Int} {N : Nat} (hW : Wf g) (hN : g 0 = (N : Int)) : ∀ t, t ≤ cn1 (lvP g N t) 8 ∨ lsC g N (lvP g N t)
  | 0 => Or.inl (Nat.zero_le _)
  | t + 1 => by
    rcases lvP_cl hW hN t with h | h
    · by_cases q : lsl (lvK g (lvP g N t) N) (lvP g N t)
      · exact Or.inr (lsC_b hW hN (lsC_a hW hN q))
      · refine Or.inl ?_
        have : ∃ s, s < 8 ∧ lvK g (lvP g N t) N s = 1 ∧ lvP g N t s ≠ 1 := Classical.byContradiction fun h2 => q (fun s hs e => Classical.byContradiction fun h3 => h2 ⟨s, hs, e, h3⟩)
        obtain ⟨s, h1, h2, h3⟩ := this
        have le : lsl (lvP g N t) (lvK g (lvP g N t) N) := fun s hs e => by
          have := lvK_le g (lvP g N t) 0 N s hs e; rw [Nat.zero_add] at this; exact this
        have := cn1_lt le h2 h3 8 h1 (Nat.le_refl 8)
        rw [lvP]; omega
    · exact Or.inr (lsC_b hW hN h)
theorem lvP_closed {g : Nat → Int} {N : Nat} (hW : Wf g) (hN : g 0 = (N : Int)) : lsC g N (lvP g N 8) := by
  rcases lvP_cl hW hN 8 with h | h
  · exact fun k hk _ => cn1_all h k (by have := hW.1; omega)
  · exact h
/-- what levels say, and what it says that none is raw -/
def lvF (c : Nat → Int) (N : Nat) (L : Nat → Int) : Prop := ∀ s, s < N →
  (L s ≠ 1 → (2 ≤ c (1 + s) ∧ c (1 + s) ≤ 5) → ∀ i, i < 3 → sPl (c (1 + s)) i → L (fa c s i) ≠ 1) ∧
  (L s ≠ 1 → (c (1 + s) = 9 ∨ c (1 + s) = 10) → L (fa c s 0) ≠ 1) ∧
  (L s ≠ 1 → c (1 + s) ≠ 7) ∧
  ((c (1 + s) = 7 ∨ c (1 + s) = 8) → L (fa c s 0) ≠ 1) ∧
  ((c (1 + s) = 6 ∨ c (1 + s) = 9 ∨ c (1 + s) = 10) → L (fa c s 1) ≠ 1) ∧
  (c (1 + s) = 11 → ∀ i, i < 3 → L (fa c s i) ≠ 1)
theorem lvF_of {c g : Nat → Int} {N : Nat} (hS : Sk c g N) (hG : cW c N) (hW : Wf g) (hr : ∀ k, k < N → r1 g (lvP g N 8) k 3 = 0) : lvF c N (lvP g N 8) := by
  intro s hs
  have h8 := hG.2.1
  obtain ⟨eK, eF⟩ := hS.2.1 s hs
  have ef : ∀ j, j < 3 → fa c s j = fa g s j := fun j hj => by unfold fa; rw [eF j hj]
  have cl := lvP_closed hW hS.1.2.1 s hs
  have ho := o1_ex (L := lvP g N 8) hW (show s < 8 by omega) 3 (Nat.le_refl 3)
  have hx := r1_ex (L := lvP g N 8) hW (show s < 8 by omega) 3 (Nat.le_refl 3)
  have hr0 := hr s hs
  have nr : ∀ i, i < 3 → (g (1 + s) = 6 ∨ g (1 + s) = 7 ∨ (g (1 + s) = 8 ∧ i = 0) ∨ ((g (1 + s) = 9 ∨ g (1 + s) = 10) ∧ i = 1) ∨ g (1 + s) = 11) → sPl (g (1 + s)) i → lvP g N 8 (fa c s i) ≠ 1 := fun i hi a sp e => by
    have := hx.mpr ⟨i, hi, a, nm_of hi sp, by rw [← ef i hi]; exact e⟩
    omega
  rw [eK]
  refine ⟨fun a b i hi sp e => a (cl (ho.mpr (Or.inr ⟨i, hi, Or.inl b, nm_of hi sp, by rw [← ef i hi]; exact e⟩))), fun a b e => a (cl (ho.mpr (Or.inr ⟨0, by omega, Or.inr ⟨b, rfl⟩, nm_of (by omega) (by unfold sPl; omega), by rw [← ef 0 (by omega)]; exact e⟩))), fun a b => a (cl (ho.mpr (Or.inl b))), fun a => ?_, fun a => ?_, fun a i hi => ?_⟩
  · exact nr 0 (by omega) (by omega) (by unfold sPl; omega)
  · exact nr 1 (by omega) (by omega) (by unfold sPl; omega)
  · exact nr i hi (by omega) (by unfold sPl; omega)
theorem cnd_lv {c L : Nat → Int} {N : Nat} (h : lvF c N L) {x : Nat} (hx : cnd c N x) : L x ≠ 1 := by
  obtain ⟨k, hk, ⟨a, b⟩ | ⟨a, b⟩⟩ := hx
  · rw [← b]; exact (h k hk).2.2.2.2.1 (by omega)
  · rw [← b]; exact (h k hk).2.2.2.2.2 a 0 (by omega)
