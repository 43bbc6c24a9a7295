/-! levels, alike in both -/
def ls01 (L : Nat → Int) : Prop := ∀ k, k < 8 → L k = 0 ∨ L k = 1
theorem sO_ne {g : Nat → Int} (hW : Wf g) {k i : Nat} (hk : k < 8) (hi : i < 3) (L : Nat → Int) : (sO g k i ≠ -9 ∧ L (sO g k i).toNat = 1) ↔ (nmS (g (1 + k)) i = true ∧ L (fa g k i) = 1) := by
  rw [sO_nm hW hk hi]
  by_cases q : nmS (g (1 + k)) i = true
  · rw [if_pos q, show (((fa g k i : Nat) : Int)).toNat = fa g k i by omega]
    exact ⟨fun h => ⟨q, h.2⟩, fun h => ⟨by omega, h.2⟩⟩
  · rw [if_neg q]
    exact ⟨fun h => absurd rfl h.1, fun h => absurd h.1 q⟩
theorem o1_ex {g L : Nat → Int} (hW : Wf g) {k : Nat} (hk : k < 8) : ∀ n, n ≤ 3 → (o1 g L k n = 1 ↔ g (1 + k) = 7 ∨ ∃ i, i < n ∧ ((2 ≤ g (1 + k) ∧ g (1 + k) ≤ 5) ∨ ((g (1 + k) = 9 ∨ g (1 + k) = 10) ∧ i = 0)) ∧ nmS (g (1 + k)) i = true ∧ L (fa g k i) = 1)
  | 0, _ => by
    unfold o1
    split
    · next q => exact ⟨fun _ => Or.inl q, fun _ => rfl⟩
    · next q => exact ⟨fun h => by omega, fun h => h.elim (fun h => absurd h q) (fun ⟨i, hi, _⟩ => absurd hi (Nat.not_lt_zero _))⟩
  | n + 1, hn => by
    have ih := o1_ex (L := L) hW hk n (by omega)
    have hs := sO_ne hW hk (show n < 3 by omega) L
    rw [o1]
    constructor
    · intro h
      split at h
      · next q =>
        rcases q with q | ⟨q0, q1⟩
        · rcases ih.mp q with q | ⟨i, q1, q2⟩
          · exact Or.inl q
          · exact Or.inr ⟨i, by omega, q2⟩
        · exact Or.inr ⟨n, by omega, q0, hs.mp q1⟩
      · omega
    · intro h
      rw [if_pos]
      rcases h with h | ⟨i, h1, h2⟩
      · exact Or.inl (ih.mpr (Or.inl h))
      · rcases Nat.lt_or_ge i n with e | e
        · exact Or.inl (ih.mpr (Or.inr ⟨i, e, h2⟩))
        · rw [show i = n by omega] at h2; exact Or.inr ⟨h2.1, hs.mpr h2.2⟩
theorem r1_ex {g L : Nat → Int} (hW : Wf g) {k : Nat} (hk : k < 8) : ∀ n, n ≤ 3 → (r1 g L k n = 1 ↔ ∃ i, i < n ∧ (g (1 + k) = 6 ∨ g (1 + k) = 7 ∨ (g (1 + k) = 8 ∧ i = 0) ∨ ((g (1 + k) = 9 ∨ g (1 + k) = 10) ∧ i = 1) ∨ g (1 + k) = 11) ∧ nmS (g (1 + k)) i = true ∧ L (fa g k i) = 1)
  | 0, _ => ⟨fun h => by have : (0 : Int) = 1 := h; omega, fun ⟨i, hi, _⟩ => absurd hi (Nat.not_lt_zero _)⟩
  | n + 1, hn => by
    have ih := r1_ex (L := L) hW hk n (by omega)
    have hs := sO_ne hW hk (show n < 3 by omega) L
    rw [r1]
    constructor
    · intro h
      split at h
      · next q =>
        rcases q with q | ⟨q0, q1⟩
        · obtain ⟨i, q1, q2⟩ := ih.mp q
          exact ⟨i, by omega, q2⟩
        · exact ⟨n, by omega, q0, hs.mp q1⟩
      · omega
    · intro h
      rw [if_pos]
      obtain ⟨i, h1, h2⟩ := h
      rcases Nat.lt_or_ge i n with e | e
      · exact Or.inl (ih.mpr ⟨i, e, h2⟩)
      · rw [show i = n by omega] at h2; exact Or.inr ⟨h2.1, hs.mpr h2.2⟩
theorem hgC_ex {c L : Nat → Int} {N : Nat} (hG : cW c N) (hL : ls01 L) {s : Nat} (hs : s < N) : ∀ n, n ≤ 3 → (hgC c L s n = 0 ∨ hgC c L s n = 1) ∧ (hgC c L s n = 1 ↔ ∃ i, i < n ∧ nmS (c (1 + s)) i = true ∧ L (fa c s i) = 1)
  | 0, _ => ⟨Or.inl rfl, fun h => by have : (0 : Int) = 1 := h; omega, fun ⟨i, hi, _⟩ => absurd hi (Nat.not_lt_zero _)⟩
  | n + 1, hn => by
    obtain ⟨i1, i2⟩ := hgC_ex hG hL hs n (by omega)
    have h8 := hG.2.1
    rw [hgC]
    by_cases q : nmS (c (1 + s)) n = true
    · have lt := hG.st hs (i := n) (by omega) ((sPl_sp _ (by omega)).mpr (of_decide_eq_true q))
      have h01 := hL (fa c s n) (by omega)
      rw [if_pos q]
      refine ⟨by split <;> omega, ?_⟩
      constructor
      · intro h
        by_cases e : L (fa c s n) = 1
        · exact ⟨n, by omega, q, e⟩
        · rw [if_neg (by omega)] at h
          obtain ⟨i, a1, a2⟩ := i2.mp h
          exact ⟨i, by omega, a2⟩
      · rintro ⟨i, a1, a2, a3⟩
        rcases Nat.lt_or_ge i n with e | e
        · have := i2.mpr ⟨i, e, a2, a3⟩
          split <;> omega
        · rw [show i = n by omega] at a3
          split <;> omega
    · rw [if_neg q]
      refine ⟨i1, i2.trans ⟨fun ⟨i, a1, a2⟩ => ⟨i, by omega, a2⟩, fun ⟨i, a1, a2, a3⟩ => ⟨i, ?_, a2, a3⟩⟩⟩
      rcases Nat.lt_or_ge i n with e | e
      · exact e
      · rw [show i = n by omega] at a2; exact absurd a2 q
theorem nm_of {K : Int} {i : Nat} (hi : i < 3) (h : sPl K i) : nmS K i = true := nmS_t hi h
theorem lv_one {c g : Nat → Int} {N : Nat} (hS : Sk c g N) (hG : cW c N) (hW : Wf g) {L : Nat → Int} (hL : ls01 L) {s : Nat} (hs : s < N) : lvC c L s = o1 g L s 3 := by
  have h8 := hG.2.1
  obtain ⟨eK, eF⟩ := hS.2.1 s hs
  have ef : ∀ j, j < 3 → fa c s j = fa g s j := fun j hj => by unfold fa; rw [eF j hj]
  have ho := o1_ex (L := L) hW (show s < 8 by omega) 3 (Nat.le_refl 3)
  have h01 := o1_01 g L s 3
  obtain ⟨g1, g2⟩ := hgC_ex hG hL hs 3 (Nat.le_refl 3)
  have hK := (hG.2.2 s hs).1
  have fin : ∀ x : Int, (x = 0 ∨ x = 1) → (x = 1 ↔ o1 g L s 3 = 1) → x = o1 g L s 3 := fun x a b => by
    rcases a with a | a
    · rcases h01 with e | e
      · omega
      · have := b.mpr e; omega
    · have := b.mp a; omega
  unfold lvC
  split
  · next q => exact fin 1 (Or.inr rfl) ⟨fun _ => ho.mpr (Or.inl (by omega)), fun _ => rfl⟩
  · next q7 =>
    split
    · next q =>
      refine fin _ g1 (g2.trans ?_)
      rw [ho]
      constructor
      · rintro ⟨i, a1, a2, a3⟩
        exact Or.inr ⟨i, a1, Or.inl (by omega), by rw [← eK]; exact a2, by rw [← ef i a1]; exact a3⟩
      · rintro (a | ⟨i, a1, -, a2, a3⟩)
        · omega
        · exact ⟨i, a1, by rw [eK]; exact a2, by rw [ef i a1]; exact a3⟩
    · next q25 =>
      split
      · next q =>
        have lt := hG.st hs (i := 0) (by omega) (by unfold sPl; omega)
        refine fin _ (hL _ (by omega)) ?_
        rw [ho, ef 0 (by omega)]
        constructor
        · intro a
          exact Or.inr ⟨0, by omega, Or.inr ⟨by omega, rfl⟩, nm_of (by omega) (by unfold sPl; omega), a⟩
        · rintro (a | ⟨i, a1, a0 | ⟨a0, a4⟩, a2, a3⟩)
          · omega
          · omega
          · subst a4; exact a3
      · next q =>
        refine fin 0 (Or.inl rfl) ?_
        rw [ho]
        constructor
        · intro a; omega
        · rintro (a | ⟨i, a1, a0 | ⟨a0, a4⟩, a2, a3⟩) <;> omega
theorem rw_one {c g : Nat → Int} {N : Nat} (hS : Sk c g N) (hG : cW c N) (hW : Wf g) {L : Nat → Int} (hL : ls01 L) {s : Nat} (hs : s < N) : rwC c L s = true ↔ r1 g L s 3 = 1 := by
  have h8 := hG.2.1
  obtain ⟨eK, eF⟩ := hS.2.1 s hs
  have ef : ∀ j, j < 3 → fa c s j = fa g s j := fun j hj => by unfold fa; rw [eF j hj]
  obtain ⟨g1, g2⟩ := hgC_ex hG hL hs 3 (Nat.le_refl 3)
  have nsp : ∀ i, i < 3 → nmS (g (1 + s)) i = true → sPl (g (1 + s)) i := fun i hi q => (sPl_sp _ hi).mpr (of_decide_eq_true q)
  rw [r1_ex hW (by omega) 3 (Nat.le_refl 3), rwC, decide_eq_true_iff, g2, eK]
  constructor
  · rintro (⟨a, b⟩ | ⟨a, b⟩ | ⟨a, i, b1, b2, b3⟩)
    · exact ⟨0, by omega, by omega, nm_of (by omega) (by unfold sPl; omega), by rw [← ef 0 (by omega)]; exact b⟩
    · exact ⟨1, by omega, by omega, nm_of (by omega) (by unfold sPl; omega), by rw [← ef 1 (by omega)]; exact b⟩
    · exact ⟨i, b1, by omega, by exact b2, by rw [← ef i b1]; exact b3⟩
  · rintro ⟨i, a1, a2, a3, a4⟩
    have sp := nsp i a1 a3
    rw [← ef i a1] at a4
    by_cases q11 : g (1 + s) = 11
    · exact Or.inr (Or.inr ⟨q11, i, a1, a3, a4⟩)
    · unfold sPl at sp
      by_cases q7 : g (1 + s) = 7 ∨ g (1 + s) = 8
      · have : i = 0 := by omega
        subst this; exact Or.inl ⟨q7, a4⟩
      · have : i = 1 := by omega
        subst this; exact Or.inr (Or.inl ⟨by omega, a4⟩)
theorem o1_mono {g L M : Nat → Int} (hW : Wf g) {k : Nat} (hk : k < 8) (hn : (k : Int) < g 0) (h : ∀ s, s < 8 → L s = 1 → M s = 1) (e : o1 g L k 3 = 1) : o1 g M k 3 = 1 := by
  rcases (o1_ex hW hk 3 (Nat.le_refl 3)).mp e with a | ⟨i, a1, a2, a3, a4⟩
  · exact (o1_ex hW hk 3 (Nat.le_refl 3)).mpr (Or.inl a)
  · have lt := hW.st hk hn a1 ((sPl_sp _ a1).mpr (of_decide_eq_true a3))
    exact (o1_ex hW hk 3 (Nat.le_refl 3)).mpr (Or.inr ⟨i, a1, a2, a3, h _ lt a4⟩)
/-- each 1 has its ground -/
def lsS (g : Nat → Int) (N : Nat) (L : Nat → Int) : Prop := ls01 L ∧ ∀ s, s < N → L s = 1 → o1 g L s 3 = 1
theorem lk_eq {c g : Nat → Int} {N : Nat} (hS : Sk c g N) (hG : cW c N) (hW : Wf g) {L : Nat → Int} (hL : lsS g N L) : ∀ k, k ≤ N → lkC c L k = lvK g L k ∧ lsS g N (lvK g L k)
  | 0, _ => ⟨rfl, hL⟩
  | k + 1, hk => by
    obtain ⟨e, h1⟩ := lk_eq hS hG hW hL k (by omega)
    have h8 := hG.2.1
    have hl := lv_one hS hG hW h1.1 (show k < N by omega)
    have h01 := o1_01 g (lvK g L k) k 3
    have hv : lvC c (lvK g L k) k = if o1 g (lvK g L k) k 3 = 1 then 1 else lvK g L k k := by
      rw [hl]
      split
      · next q => exact q
      · next q =>
        have := h1.1 k (by omega)
        have h2 := h1.2 k (by omega)
        rcases this with t | t
        · omega
        · exact absurd (h2 t) q
    rw [lkC, lvK, e, hv]
    refine ⟨rfl, fun s hs => ?_, fun s hs q => ?_⟩
    · by_cases q : s = k
      · subst q; rw [upn_eq]; have := h1.1 s hs; split <;> omega
      · rw [upn_ne _ _ q]; exact h1.1 s hs
    · have mono : ∀ t, t < 8 → lvK g L k t = 1 → upn (lvK g L k) k (if o1 g (lvK g L k) k 3 = 1 then 1 else lvK g L k k) t = 1 := fun t ht e2 => by
        by_cases q2 : t = k
        · subst q2; rw [upn_eq]; split
          · rfl
          · exact e2
        · rw [upn_ne _ _ q2]; exact e2
      refine o1_mono hW (by omega) (by rw [hS.1.2.1]; omega) mono ?_
      by_cases q2 : s = k
      · subst q2
        rw [upn_eq] at q
        split at q
        · next q3 => exact q3
        · exact h1.2 s hs q
      · rw [upn_ne _ _ q2] at q; exact h1.2 s hs q
theorem lp_eq {c g : Nat → Int} {N : Nat} (hS : Sk c g N) (hG : cW c N) (hW : Wf g) : ∀ t, lpC c N t = lvP g N t ∧ lsS g N (lvP g N t)
  | 0 => ⟨rfl, fun _ _ => Or.inl rfl, fun s _ q => by have : (0 : Int) = 1 := q; omega⟩
  | t + 1 => by
    obtain ⟨e, h1⟩ := lp_eq hS hG hW t
    rw [lpC, lvP, e]
    exact lk_eq hS hG hW h1 N (Nat.le_refl N)
theorem raw_eq {c g : Nat → Int} {N : Nat} (hS : Sk c g N) (hG : cW c N) (hW : Wf g) : fsR (rwC c (lpC c N 8)) N = fsR (fun k => r1 g (lvP g N 8) k 3 == 1) N := by
  obtain ⟨e, h1⟩ := lp_eq hS hG hW 8
  rw [e]
  refine fsR_cong (fun k hk => ?_)
  have := rw_one hS hG hW h1.1 hk
  by_cases q : r1 g (lvP g N 8) k 3 = 1
  · rw [this.mpr q, beq_iff_eq.mpr q]
  · rw [beq_eq_false_iff_ne.mpr q]
    cases e2 : rwC c (lvP g N 8) k with
    | false => rfl
    | true => exact absurd (this.mp e2) q
