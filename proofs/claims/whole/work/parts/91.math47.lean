theorem sim_lk_no {w v : mC} (h : cR w v) (hw : mOK w) {a b : Nat} (ha : a < 8) (hb : b < 8) (e : mLike w a b = none) : cLk v a b = none ∨ ∃ v' A, cLk v a b = some v' ∧ cyc v' A ∧ (A a ∨ A b) := by
  have va := (h a ha).1
  have vb := (h b hb).1
  have ta := hw.2.1 _ (rt_lt hw.1 ha)
  have tb := hw.2.1 _ (rt_lt hw.1 hb)
  have ca := cnv_sp (w.2 (rt w.1 a))
  have cb := cnv_sp (w.2 (rt w.1 b))
  unfold mLike at e
  split at e
  · cases e
  · next q =>
    split at e
    · next q2 =>
      split at e
      · cases e
      · next q3 =>
        left
        have g : v.1 a ≠ v.1 b := fun e2 => q3 (by rw [e2] at va; omega)
        rw [cLk, if_neg g, if_neg (by rw [vb]; omega), cBd, if_neg (by rw [va]; omega), if_neg (by rw [va, vb]; omega)]; rfl
    · next q2 =>
      split at e
      · next q3 =>
        have g : v.1 a ≠ v.1 b := fun e2 => q (((h a ha).2 b hb).2 q3 e2.symm).symm
        split at e
        · next q5 =>
          right
          obtain ⟨v', e3, hj⟩ := cLk_a g (by rw [va]; omega)
          exact ⟨v', onA w (rt w.1 a), e3, cyc_link h hw ha hb q3 q5.1 ⟨by omega, (metB_iff hw.1 hw.2 (by omega)).mp q5.2⟩ hj, Or.inl ⟨ha, 0, rfl⟩⟩
        · cases e
      · next q3 =>
        have q4 : w.2 (rt w.1 b) = -9 := by omega
        have g : v.1 a ≠ v.1 b := fun e2 => q (((h b hb).2 a ha).2 q4 e2)
        split at e
        · next q5 =>
          right
          obtain ⟨v', e3, hj⟩ := cLk_b g (by rw [vb]; omega)
          exact ⟨v', onA w (rt w.1 b), e3, cyc_link h hw hb ha q4 q5.1 ⟨by omega, (metB_iff hw.1 hw.2 (by omega)).mp q5.2⟩ hj, Or.inr ⟨hb, 0, rfl⟩⟩
        · cases e
