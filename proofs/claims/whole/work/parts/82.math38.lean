/-- the class's page c is the reference's page g: what is told of N streams, what is kept, the values, the tick; streams that are not told have kind 0 in the reference -/
def Sm (c g : Nat → Int) (N : Nat) : Prop := (c 0 = (N : Int) ∧ g 0 = (N : Int) ∧ N ≤ 8) ∧ (∀ s, s < N → c (1 + s) = g (1 + s) ∧ ∀ i, i < 3 → c (9 + 3 * s + i) = g (9 + 3 * s + i)) ∧ (∀ k, 33 ≤ k → k < 50 → c k = g k) ∧ ∀ s, N ≤ s → s < 8 → g (1 + s) = 0
theorem Sm.low {c g c' g' : Nat → Int} {N : Nat} (h : Sm c g N) (e1 : ∀ k, k < 33 → c' k = c k) (e2 : ∀ k, k < 33 → g' k = g k) (e3 : ∀ k, 33 ≤ k → k < 50 → c' k = g' k) : Sm c' g' N := by
  obtain ⟨⟨h1, h2, h3⟩, h4, h5, h6⟩ := h
  refine ⟨⟨by rw [e1 0 (by omega)]; exact h1, by rw [e2 0 (by omega)]; exact h2, h3⟩, fun s hs => ⟨?_, fun i hi => ?_⟩, e3, fun s h7 h8 => ?_⟩
  · rw [e1 _ (by omega), e2 _ (by omega)]; exact (h4 s hs).1
  · rw [e1 _ (by omega), e2 _ (by omega)]; exact (h4 s hs).2 i hi
  · rw [e2 _ (by omega)]; exact h6 s h7 h8
theorem Sm.rs {c g : Nat → Int} {N : Nat} (h : Sm c g N) : Sm (rsC c) (afM g) N := by
  refine h.low (fun k hk => rsP_low c hk) (fun k hk => ?_) (fun k h1 h2 => ?_)
  · unfold afM
    rw [upn_ne _ _ (by omega), af_low _ hk]
  · unfold afM rsC rsP
    by_cases q : k = 49
    · subst q; rw [if_pos rfl, upn_eq]
    · rw [if_neg q, upn_ne _ _ q]
      unfold af
      by_cases q2 : 41 ≤ k
      · rw [if_pos (by omega), if_neg (by omega), if_pos (by omega)]
      · rw [if_neg (by omega), if_pos (by omega), if_pos (by omega)]
        unfold hfC
        obtain ⟨⟨a1, a2, a3⟩, a4, a5, a6⟩ := h
        by_cases q3 : k - 33 < N
        · have hk := a4 (k - 33) q3
          have hf := hk.2 0 (by omega)
          rw [if_pos (by omega)]
          unfold haC kf
          rw [hk.1, show 9 + 3 * (k - 33) = 9 + 3 * (k - 33) + 0 from rfl, hf]
        · rw [if_neg (by omega)]
          unfold kf
          rw [a6 (k - 33) (by omega) (by omega), if_neg (by decide), if_neg (by decide)]
