/-! orders found whole -/
def tn (W : Nat → Nat) (N j : Nat) : Nat := (fsR (rdy W (oS W N j).1) N).getD 0
def fnd (W : Nat → Nat) (N n : Nat) : Prop := ∀ i, i < n → fsR (rdy W (oS W N i).1) N ≠ none
theorem fnd.at {W : Nat → Nat} {N n j : Nat} (h : fnd W N n) (hj : j < n) : fsR (rdy W (oS W N j).1) N = some (tn W N j) := by
  unfold tn
  cases e : fsR (rdy W (oS W N j).1) N with
  | none => exact absurd e (h j hj)
  | some k => rfl
theorem fnd.lt {W : Nat → Nat} {N n j : Nat} (h : fnd W N n) (hj : j < n) : tn W N j < N := (fsR_some.mp (h.at hj)).1
theorem fnd.rd {W : Nat → Nat} {N n j : Nat} (h : fnd W N n) (hj : j < n) : (oS W N j).1.testBit (tn W N j) = false ∧ W (tn W N j) &&& ((oS W N j).1 ^^^ 255) = 0 := by
  have h1 := (fsR_some.mp (h.at hj)).2.1
  unfold rdy at h1
  simp only [Bool.and_eq_true, Bool.not_eq_true', beq_iff_eq] at h1
  exact h1
theorem fnd.succ {W : Nat → Nat} {N n j : Nat} (h : fnd W N n) (hj : j < n) : oS W N (j + 1) = ((oS W N j).1 ||| 2 ^ tn W N j, upn (oS W N j).2 (tn W N j) (j : Int)) := oS_succ (h.at hj)
theorem fnd.bit {W : Nat → Nat} {N n : Nat} (h : fnd W N n) : ∀ {j : Nat}, j ≤ n → ∀ s, (oS W N j).1.testBit s = true ↔ ∃ i, i < j ∧ tn W N i = s
  | 0, _, s => by
    show Nat.testBit 0 s = true ↔ _
    rw [Nat.zero_testBit]
    exact ⟨fun q => (by cases q), fun ⟨i, q, _⟩ => absurd q (Nat.not_lt_zero _)⟩
  | j + 1, hj, s => by
    rw [h.succ (by omega)]
    show ((oS W N j).1 ||| 2 ^ tn W N j).testBit s = true ↔ _
    rw [bit_or, Bool.or_eq_true, h.bit (by omega) s, decide_eq_true_iff]
    constructor
    · rintro (⟨i, q1, q2⟩ | q)
      · exact ⟨i, by omega, q2⟩
      · exact ⟨j, by omega, q.symm⟩
    · rintro ⟨i, q1, q2⟩
      rcases Nat.lt_or_ge i j with q | q
      · exact Or.inl ⟨i, q, q2⟩
      · have : i = j := by omega
        subst this; exact Or.inr q2.symm
theorem fnd.inj {W : Nat → Nat} {N n i j : Nat} (h : fnd W N n) (hi : i < j) (hj : j < n) : tn W N i ≠ tn W N j := fun e => by
  have h1 := (h.rd hj).1
  have h2 := (h.bit (j := j) (by omega) (tn W N j)).mpr ⟨i, hi, e⟩
  rw [h1] at h2; cases h2
theorem fnd.ord {W : Nat → Nat} {N n : Nat} (h : fnd W N n) : ∀ {j : Nat}, j ≤ n → (∀ i, i < j → (oS W N j).2 (tn W N i) = (i : Int)) ∧ ∀ s, (∀ i, i < j → tn W N i ≠ s) → (oS W N j).2 s = -9
  | 0, _ => ⟨fun i q => absurd q (Nat.not_lt_zero _), fun _ _ => rfl⟩
  | j + 1, hj => by
    have ih := h.ord (j := j) (by omega)
    rw [h.succ (by omega)]
    refine ⟨fun i hi => ?_, fun s hs => ?_⟩
    · show upn _ _ _ (tn W N i) = _
      rcases Nat.lt_or_ge i j with q | q
      · rw [upn_ne _ _ (h.inj q (by omega))]; exact ih.1 i q
      · have : i = j := by omega
        subst this; exact upn_eq _ _ _
    · show upn _ _ _ s = _
      rw [upn_ne _ _ (fun q => hs j (by omega) q.symm)]
      exact ih.2 s (fun i hi => hs i (by omega))
theorem fnd.wait {W : Nat → Nat} {N n j t : Nat} (h : fnd W N n) (hj : j < n) (hN : N ≤ 8) (ht : t < 8) (hw : (W (tn W N j)).testBit t = true) : ∃ i, i < j ∧ tn W N i = t := by
  have h1 := (h.rd hj).2
  refine (h.bit (j := j) (by omega) t).mp ?_
  have h2 : (W (tn W N j) &&& ((oS W N j).1 ^^^ 255)).testBit t = false := by rw [h1, Nat.zero_testBit]
  rw [Nat.testBit_and, hw, Bool.true_and, Nat.testBit_xor] at h2
  have h3 : Nat.testBit 255 t = true := by
    have : ∀ j, j < 8 → Nat.testBit 255 j = true := by decide
    exact this t ht
  rw [h3] at h2
  cases e : (oS W N j).1.testBit t with
  | true => rfl
  | false => rw [e] at h2; cases h2
theorem cz_pos {d k : Nat} (hd : d.testBit k = false) {N : Nat} (hk : k < N) : 0 < cz d N := by
  have := cz_in hd hk; omega
theorem cz_bit {d : Nat} : ∀ {N : Nat}, 0 < cz d N → ∃ k, k < N ∧ d.testBit k = false
  | 0, h => absurd h (Nat.not_lt_zero _)
  | N + 1, h => by
    unfold cz at h
    cases e : d.testBit N with
    | false => exact ⟨N, by omega, e⟩
    | true =>
      rw [e] at h
      obtain ⟨k, hk, q⟩ := cz_bit (d := d) (N := N) (by simpa using h)
      exact ⟨k, by omega, q⟩
theorem knot_bits {N d : Nat} (hN : N ≤ 8) : ((2 ^ N - 1) &&& (d ^^^ 255) = 0) ↔ ∀ k, k < N → d.testBit k = true := by
  have h255 : ∀ j, j < 8 → Nat.testBit 255 j = true := by decide
  constructor
  · intro h k hk
    have h2 : ((2 ^ N - 1) &&& (d ^^^ 255)).testBit k = false := by rw [h, Nat.zero_testBit]
    rw [Nat.testBit_and, Nat.testBit_two_pow_sub_one, decide_eq_true hk, Bool.true_and, Nat.testBit_xor, h255 k (by omega)] at h2
    cases e : d.testBit k with
    | true => rfl
    | false => rw [e] at h2; cases h2
  · intro h
    apply Nat.eq_of_testBit_eq
    intro k
    rw [Nat.zero_testBit, Nat.testBit_and, Nat.testBit_two_pow_sub_one, Nat.testBit_xor]
    by_cases hk : k < N
    · rw [h k hk, h255 k (by omega), decide_eq_true hk]; rfl
    · rw [decide_eq_false hk, Bool.false_and]
theorem fnd_all {W : Nat → Nat} {N : Nat} (hN : N ≤ 8) (h : (2 ^ N - 1) &&& ((oS W N N).1 ^^^ 255) = 0) : fnd W N N := by
  have hb := (knot_bits hN).mp h
  have hz : cz (oS W N N).1 N = 0 := by
    rcases Nat.eq_zero_or_pos (cz (oS W N N).1 N) with q | q
    · exact q
    · obtain ⟨k, hk, e⟩ := cz_bit q
      rw [hb k hk] at e; cases e
  intro i hi hnone
  obtain ⟨m, hm, hmin⟩ := pk_least (fun i => fsR (rdy W (oS W N i).1) N = none) ⟨i, hnone⟩
  have hmi : m ≤ i := by
    rcases Nat.lt_or_ge i m with q | q
    · exact absurd hnone (hmin i q)
    · exact q
  have h1 := oS_cz (W := W) (N := N) (j := m) (fun a ha => hmin a ha)
  have h2 := oS_stop hm (N - m)
  rw [show m + (N - m) = N by omega] at h2
  rw [← h2] at h1
  omega
/-- what a sound page gives a tick -/
theorem mAn_snd {g : Nat → Int} {N : Nat} {σ' : gS} (hW : Wf g) (hN : g 0 = (N : Int)) (h : mAn g N σ') (hs : σ' 111 19 = -9 ∧ σ' 111 20 = 0 ∧ σ' 111 21 = -9) : ∃ w, mClk g N = some w ∧ mOK w ∧ mA σ' w ∧ fnd (wtN g w) N N ∧ (∀ j, j < N → tn (wtN g w) N j < N ∧ σ' 125 (tn (wtN g w) N j) = ((j : Nat) : Int) ∧ ∀ s, s < 8 → σ' 125 s = ((j : Nat) : Int) → s = tn (wtN g w) N j) ∧ ∀ k, k < N → r1 g (lvP g N 8) k 3 = 0 := by
  have hN8 : N ≤ 8 := by have := hW.1; omega
  rcases h with ⟨j, h1, h2, -⟩ | ⟨h1, w, h2, h3, h4, h5, h6, h7⟩
  · omega
  · have hk : (2 ^ N - 1) &&& ((oS (wtN g w) N N).1 ^^^ 255) = 0 := by rw [hs.2.1] at h4; omega
    have hf := fnd_all hN8 hk
    have ho := hf.ord (j := N) (Nat.le_refl _)
    refine ⟨w, h2, mClk_ok hW (by omega) h2, h3, hf, fun j hj => ⟨hf.lt hj, ?_, fun s hs8 e => ?_⟩, fun k hk2 => ?_⟩
    · have := hf.lt hj
      rw [h5 _ (by omega)]
      exact ho.1 j hj
    · rw [h5 s hs8] at e
      by_cases q : ∃ i, i < N ∧ tn (wtN g w) N i = s
      · obtain ⟨i, q1, q2⟩ := q
        rw [← q2, ho.1 i q1] at e
        have : i = j := by omega
        rw [← q2, this]
      · rw [ho.2 s (fun i hi e2 => q ⟨i, hi, e2⟩)] at e
        omega
    · rw [hs.2.2] at h7
      rcases nO_in (R := fun k => r1 g (lvP g N 8) k 3 == 1) (N := N) with ⟨-, q⟩ | ⟨j, q1, q2, -⟩
      · have := fsR_none.mp q k hk2
        have h01 := r1_01 g (lvP g N 8) k 3
        simp at this
        omega
      · omega
