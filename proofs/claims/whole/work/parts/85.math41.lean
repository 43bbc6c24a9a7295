theorem cR_set {w v : mC} (h : cR w v) {s : Nat} (hs : s < 8) (hf : w.2 (rt w.1 s) = -9) {is : Int} (hi : is = -1 ∨ 0 ≤ is) : cR (w.1, upn w.2 (rt w.1 s) is) (v.1, upn v.2 (v.1 s) (cnv is)) := by
  intro a ha
  show upn v.2 (v.1 s) (cnv is) (v.1 a) = cnv (upn w.2 (rt w.1 s) is (rt w.1 a)) ∧ ∀ r, r < 8 → (rt w.1 r = rt w.1 a → v.1 r = v.1 a) ∧ (upn w.2 (rt w.1 s) is (rt w.1 a) = -9 → v.1 r = v.1 a → rt w.1 r = rt w.1 a)
  by_cases q : rt w.1 a = rt w.1 s
  · have e := ((h s hs).2 a ha).1 q
    rw [q, e, upn_eq, upn_eq]
    refine ⟨rfl, fun r hr => ⟨fun h1 => ((h s hs).2 r hr).1 h1, fun h1 _ => by omega⟩⟩
  · have e : v.1 a ≠ v.1 s := fun e2 => q (((h s hs).2 a ha).2 hf e2)
    rw [upn_ne _ _ e, upn_ne _ _ q]
    exact h a ha
theorem sim_set {w v : mC} (h : cR w v) {s : Nat} (hs : s < 8) {is : Int} (hi : is = -1 ∨ 0 ≤ is) (ht : w.2 (rt w.1 s) = -9 ∨ w.2 (rt w.1 s) = -1 ∨ 0 ≤ w.2 (rt w.1 s)) {w' : mC} (e : mSet w s is = some w') : ∃ v', cBd v s (cnv is) = some v' ∧ cR w' v' := by
  have hv := (h s hs).1
  have c1 := cnv_sp (w.2 (rt w.1 s))
  have c2 := cnv_sp is
  unfold mSet at e
  split at e
  · next q =>
    split at e
    · next q2 =>
      cases e
      refine ⟨v, ?_, h⟩
      rw [cBd, if_neg (by rw [hv]; omega), if_pos (by rw [hv, q2])]
    · cases e
  · next q =>
    split at e
    · cases e
    · cases e
      refine ⟨_, by rw [cBd, if_pos (by rw [hv]; omega)], cR_set h hs (by omega) hi⟩
