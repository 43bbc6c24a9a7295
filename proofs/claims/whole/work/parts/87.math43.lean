theorem sim_set_no {w v : mC} (h : cR w v) (hw : mOK w) {s : Nat} (hs : s < 8) {is : Int} (hi : is = -1 ∨ (0 ≤ is ∧ is < 80)) (e : mSet w s is = none) : cBd v s (cnv is) = none ∨ ∃ v' A, cBd v s (cnv is) = some v' ∧ cyc v' A ∧ A s := by
  have hv := (h s hs).1
  have ht := hw.2.1 _ (rt_lt hw.1 hs)
  have c1 := cnv_sp (w.2 (rt w.1 s))
  have c2 := cnv_sp is
  unfold mSet at e
  split at e
  · next q =>
    split at e
    · cases e
    · next q2 =>
      left
      rw [cBd, if_neg (by rw [hv]; omega), if_neg (by rw [hv]; omega)]
  · next q =>
    split at e
    · next q2 =>
      right
      have hm : onA w (rt w.1 s) (is / 10).toNat := ⟨by omega, (metB_iff hw.1 hw.2 (by omega)).mp q2.2⟩
      have e2 : cnv is = is := by have := q2.1; omega
      refine ⟨_, onA w (rt w.1 s), by rw [cBd, if_pos (by rw [hv]; omega)], ?_, ⟨hs, 0, rfl⟩⟩
      rw [e2]
      exact cyc_set h hw hs (by omega) q2.1 hm
    · cases e
