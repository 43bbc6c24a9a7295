/-- equations alike: what is told of N streams; streams that are not told have kind 0 in the reference -/
def Sk (c g : Nat → Int) (N : Nat) : Prop := (c 0 = (N : Int) ∧ g 0 = (N : Int) ∧ N ≤ 8) ∧ (∀ s, s < N → c (1 + s) = g (1 + s) ∧ ∀ i, i < 3 → c (9 + 3 * s + i) = g (9 + 3 * s + i)) ∧ ∀ s, N ≤ s → s < 8 → g (1 + s) = 0
/-- the class's page c is the reference's page g: equations, what is kept, the tick, the values (of a stream that is not told the reference may have 0) -/
def Sm (c g : Nat → Int) (N : Nat) : Prop := Sk c g N ∧ (∀ s, s < 8 → c (33 + s) = g (33 + s)) ∧ c 49 = g 49 ∧ ∀ s, s < 8 → c (41 + s) = g (41 + s) ∨ (N ≤ s ∧ c (41 + s) = -9 ∧ g (41 + s) = 0)
theorem Sk.low {c g c' g' : Nat → Int} {N : Nat} (h : Sk c g N) (e1 : ∀ k, k < 33 → c' k = c k) (e2 : ∀ k, k < 33 → g' k = g k) : Sk c' g' N := by
  obtain ⟨⟨h1, h2, h3⟩, h4, h6⟩ := h
  refine ⟨⟨by rw [e1 0 (by omega)]; exact h1, by rw [e2 0 (by omega)]; exact h2, h3⟩, fun s hs => ⟨?_, fun i hi => ?_⟩, fun s h7 h8 => ?_⟩
  · rw [e1 _ (by omega), e2 _ (by omega)]; exact (h4 s hs).1
  · rw [e1 _ (by omega), e2 _ (by omega)]; exact (h4 s hs).2 i hi
  · rw [e2 _ (by omega)]; exact h6 s h7 h8
theorem Sm.low {c g c' g' : Nat → Int} {N : Nat} (h : Sk c g N) (e1 : ∀ k, k < 33 → c' k = c k) (e2 : ∀ k, k < 33 → g' k = g k) (e3 : ∀ k, 33 ≤ k → k < 50 → c' k = g' k) : Sm c' g' N :=
  ⟨h.low e1 e2, fun s hs => e3 _ (by omega) (by omega), e3 _ (by omega) (by omega), fun s hs => Or.inl (e3 _ (by omega) (by omega))⟩
theorem Sk.rs {c g : Nat → Int} {N : Nat} (h : Sk c g N) : Sm (rsC c) (afM g) N := by
  refine Sm.low h (fun k hk => rsP_low c hk) (fun k hk => ?_) (fun k h1 h2 => ?_)
  · unfold afM
    rw [upn_ne _ _ (by omega), af_low _ hk]
  · unfold afM rsC rsP
    by_cases q : k = 49
    · subst q; rw [if_pos rfl, upn_eq]
    · rw [if_neg q, upn_ne _ _ q]
      unfold af
      by_cases q2 : 41 ≤ k
      · rw [if_pos (by omega), if_neg (by omega), if_pos (by omega)]
      · rw [if_neg (by omega), if_pos (by omega), if_pos (by omega)]
        unfold hfC
        obtain ⟨⟨a1, a2, a3⟩, a4, a6⟩ := h
        by_cases q3 : k - 33 < N
        · have hk := a4 (k - 33) q3
          have hf := hk.2 0 (by omega)
          rw [if_pos (by omega)]
          unfold haC kf
          rw [hk.1, show 9 + 3 * (k - 33) = 9 + 3 * (k - 33) + 0 from rfl, hf]
        · rw [if_neg (by omega)]
          unfold kf
          rw [a6 (k - 33) (by omega) (by omega), if_neg (by decide), if_neg (by decide)]
