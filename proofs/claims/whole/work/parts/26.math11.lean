theorem eS_row {txt : Nat → Int} {len n s : Nat} {k : Int} {p0 : Nat} {g0 : Nat → Int} : ∀ i, (eS txt len n s k p0 g0 i).1 = -9 → (∀ x, ¬ (9 + 3 * s ≤ x ∧ x < 9 + 3 * s + i) → (eS txt len n s k p0 g0 i).2.2 x = g0 x) ∧ ∀ j, j < i → 0 ≤ (eS txt len n s k p0 g0 i).2.2 (9 + 3 * s + j) ∧ (eS txt len n s k p0 g0 i).2.2 (9 + 3 * s + j) ≤ mst k (j : Int) (n : Int)
  | 0, _ => ⟨fun _ _ => rfl, fun j h => absurd h (Nat.not_lt_zero _)⟩
  | i + 1, h => by
    by_cases h1 : (eS txt len n s k p0 g0 i).1 = -9
    · have ih := eS_row i h1
      rw [eS, if_pos h1] at h ⊢
      by_cases h2 : 0 ≤ ltr txt len (eS txt len n s k p0 g0 i).2.1 - 48 ∧ ltr txt len (eS txt len n s k p0 g0 i).2.1 - 48 ≤ mst k (i : Int) (n : Int)
      · rw [if_pos h2]
        refine ⟨fun x hx => ?_, fun j hj => ?_⟩
        · show upn _ _ _ x = _
          rw [upn_ne _ _ (by omega)]
          exact ih.1 x (by omega)
        · show 0 ≤ upn _ _ _ (9 + 3 * s + j) ∧ upn _ _ _ (9 + 3 * s + j) ≤ _
          by_cases q : j = i
          · subst q; rw [upn_eq]; exact h2
          · rw [upn_ne _ _ (by omega)]
            exact ih.2 j (by omega)
      · rw [if_neg h2] at h
        exfalso
        have : ((eS txt len n s k p0 g0 i).2.1 : Int) = -9 := h
        omega
    · rw [eS, if_neg h1] at h
      exact absurd h h1
/-- a page as far as it is read -/
def PI (n s : Nat) (g : Nat → Int) : Prop := ∀ t, t < 8 → (0 ≤ g (1 + t) ∧ g (1 + t) ≤ 11 ∧ (s ≤ t → g (1 + t) = 0)) ∧ ∀ i, i < 3 → (0 ≤ g (9 + 3 * t + i) ∧ g (9 + 3 * t + i) ≤ 9 ∧ (s ≤ t → g (9 + 3 * t + i) = 0)) ∧ (t < s → sPl (g (1 + t)) i → g (9 + 3 * t + i) < (n : Int))
theorem pS_PI {txt : Nat → Int} {len n : Nat} (hn : 1 ≤ n ∧ n ≤ 8) {g0 : Nat → Int} (hg : ∀ k, k < 50 → g0 k = 0) : ∀ s, s ≤ n → (pS txt len n g0 s).1 = -9 → PI n s (pS txt len n g0 s).2.2 ∧ ∀ k, 33 ≤ k → k < 50 → (pS txt len n g0 s).2.2 k = 0
  | 0, _, _ => ⟨fun t ht => ⟨by show 0 ≤ g0 (1 + t) ∧ g0 (1 + t) ≤ 11 ∧ (0 ≤ t → g0 (1 + t) = 0); rw [hg _ (by omega)]; omega, fun i hi => by
      show (0 ≤ g0 (9 + 3 * t + i) ∧ g0 (9 + 3 * t + i) ≤ 9 ∧ (0 ≤ t → g0 (9 + 3 * t + i) = 0)) ∧ _
      rw [hg _ (by omega)]
      exact ⟨by omega, fun h => absurd h (Nat.not_lt_zero _)⟩⟩, fun k _ h => hg k h⟩
  | s + 1, hs, h => by
    by_cases h1 : (pS txt len n g0 s).1 = -9
    · have ih := pS_PI hn hg s (by omega) h1
      rw [pS, if_pos h1] at h ⊢
      unfold eQ at h ⊢
      have hKi := kOf_in (ltr txt len (pS txt len n g0 s).2.1)
      by_cases h2 : kOf (ltr txt len (pS txt len n g0 s).2.1) = -9
      · rw [if_pos h2] at h
        exfalso
        have : ((pS txt len n g0 s).2.1 : Int) = -9 := h
        omega
      · rw [if_neg h2] at h ⊢
        generalize kOf (ltr txt len (pS txt len n g0 s).2.1) = K at h h2 hKi ⊢
        have hr := eS_row _ h
        have hfz := fgz_in K
        generalize hG : (eS txt len n s K ((pS txt len n g0 s).2.1 + 1) (upn (pS txt len n g0 s).2.2 (1 + s) K) (fgz K)).2.2 = G at hr ⊢
        have hK : ∀ t, t < 8 → G (1 + t) = if t = s then K else (pS txt len n g0 s).2.2 (1 + t) := fun t ht => by
          rw [hr.1 (1 + t) (by omega)]
          by_cases q : t = s
          · subst q; rw [if_pos rfl, upn_eq]
          · rw [if_neg q, upn_ne _ _ (by omega)]
        refine ⟨fun t ht => ⟨?_, fun i hi => ?_⟩, fun k hk1 hk2 => ?_⟩
        · rw [hK t ht]
          have := (ih.1 t ht).1
          split <;> omega
        · by_cases q : t = s
          · subst q
            have hz := (ih.1 t ht).2 i hi
            by_cases q2 : i < fgz K
            · have h3 := hr.2 i q2
              refine ⟨⟨h3.1, ?_, fun w => absurd w (by omega)⟩, fun _ hp => ?_⟩
              · have : mst K (i : Int) (n : Int) ≤ 9 := by unfold mst; split; omega; split <;> omega
                omega
              · rw [hK t ht, if_pos rfl] at hp
                have : mst K (i : Int) (n : Int) = n - 1 := by
                  unfold mst; unfold sPl at hp
                  rw [if_neg (by omega), if_neg (by omega)]
                omega
            · rw [hr.1 (9 + 3 * t + i) (by omega), upn_ne _ _ (by omega)]
              refine ⟨⟨hz.1.1, hz.1.2.1, fun w => absurd w (by omega)⟩, fun _ hp => ?_⟩
              rw [hK t ht, if_pos rfl] at hp
              exfalso
              unfold sPl at hp
              unfold fgz at q2
              split at q2
              · omega
              · split at q2 <;> omega
          · have hz := (ih.1 t ht).2 i hi
            rw [hr.1 (9 + 3 * t + i) (by have := hfz.2; omega), upn_ne _ _ (by omega), hK t ht, if_neg q]
            exact ⟨⟨hz.1.1, hz.1.2.1, fun w => hz.1.2.2 (by omega)⟩, fun w hp => hz.2 (by omega) hp⟩
        · rw [hr.1 k (by have := hfz.2; omega), upn_ne _ _ (by omega)]
          exact ih.2 k hk1 hk2
    · rw [pS, if_neg h1] at h
      exact absurd h h1
theorem fltT_ok {txt : Nat → Int} {len : Nat} (h : fltT txt len = -9) : 1 ≤ nOf txt len ∧ nOf txt len ≤ 8 ∧ ∀ g, (pS txt len (nOf txt len).toNat g (nOf txt len).toNat).1 = -9 := by
  unfold fltT at h
  split at h
  · split at h
    · next hn =>
      refine ⟨hn.1, hn.2, fun g => ?_⟩
      rw [(pS_ind g z0 _).1]
      split at h
      · next q => exact q
      · exact h
    · omega
  · omega
theorem rowT_wf {txt : Nat → Int} {len : Nat} (h : fltT txt len = -9) {g0 : Nat → Int} (hg : ∀ k, k < 50 → g0 k = 0) : Wf (rowT txt len g0) ∧ rowT txt len g0 0 = nOf txt len ∧ (∀ k, 33 ≤ k → k < 50 → rowT txt len g0 k = 0) ∧ ∀ t : Nat, t < 8 → nOf txt len ≤ (t : Int) → rowT txt len g0 (1 + t) = 0 := by
  obtain ⟨h1, h2, h3⟩ := fltT_ok h
  obtain ⟨hp, hz⟩ := pS_PI (txt := txt) (len := len) (n := (nOf txt len).toNat) (by omega) hg _ (Nat.le_refl _) (h3 g0)
  unfold rowT
  refine ⟨⟨by rw [upn_eq]; omega, fun s hs => ?_⟩, upn_eq _ _ _, fun k hk hk2 => by rw [upn_ne _ _ (by omega)]; exact hz k hk hk2, fun t ht hn => by rw [upn_ne _ _ (by omega)]; exact (hp t ht).1.2.2 (by omega)⟩
  rw [upn_ne _ _ (by omega), upn_eq]
  refine ⟨⟨(hp s hs).1.1, (hp s hs).1.2.1⟩, fun i hi => ?_⟩
  rw [upn_ne _ _ (by omega)]
  have := (hp s hs).2 i hi
  exact ⟨⟨this.1.1, this.1.2.1⟩, fun q1 q2 => by have := this.2 (by omega) q2; omega⟩
/-- the first i places are another row's -/
def cpr (h g : Nat → Int) (i : Nat) : Nat → Int := fun k => if k < i then h k else g k
theorem cpr_0 (h g : Nat → Int) : cpr h g 0 = g := by funext k; unfold cpr; rw [if_neg (by omega)]
theorem cpr_step (h g : Nat → Int) (i : Nat) : upn (cpr h g i) i (h i) = cpr h g (i + 1) := by
  funext k
  unfold upn cpr
  by_cases q : k = i
  · rw [if_pos q, if_pos (by omega), q]
  · rw [if_neg q]
    by_cases q2 : k < i
    · rw [if_pos q2, if_pos (by omega)]
    · rw [if_neg q2, if_neg (by omega)]
theorem afM_low (g : Nat → Int) {k : Nat} (h : k < 33) : afM g k = g k := by unfold afM; rw [upn_ne _ _ (by omega), af_low _ h]
