theorem jn_b {v : mC} (a b : Nat) : jnC v (cMg v (v.1 a) (v.1 b)) b a (v.1 a) := by
  refine ⟨Or.inr rfl, fun s _ => ?_, rfl, fun _ _ => rfl⟩
  show (if v.1 s = v.1 b then v.1 a else v.1 s) = _
  by_cases q : v.1 s = v.1 b
  · rw [if_pos q, if_pos (Or.inl q)]
  · rw [if_neg q]
    by_cases q2 : v.1 s = v.1 a
    · rw [if_pos (Or.inr q2), q2]
    · rw [if_neg (by omega)]
theorem jn_a {v v1 : mC} {a b : Nat} (h1 : v1.1 = v.1) (h2 : v1.2 (v.1 a) = v.2 (v.1 b)) (h3 : ∀ k, k ≠ v.1 a → v1.2 k = v.2 k) : jnC v (cMg v1 (v.1 a) (v.1 b)) a b (v.1 a) := by
  refine ⟨Or.inl rfl, fun s _ => ?_, h2, h3⟩
  show (if v1.1 s = v.1 b then v.1 a else v1.1 s) = _
  rw [h1]
  by_cases q : v.1 s = v.1 b
  · rw [if_pos q, if_pos (Or.inr q)]
  · rw [if_neg q]
    by_cases q2 : v.1 s = v.1 a
    · rw [if_pos (Or.inl q2), q2]
    · rw [if_neg (by omega)]
/-- what the class does where a has no clock yet -/
theorem cLk_a {v : mC} {a b : Nat} (hne : v.1 a ≠ v.1 b) (hf : v.2 (v.1 a) = -1) : ∃ v', cLk v a b = some v' ∧ jnC v v' a b (v.1 a) := by
  by_cases q : v.2 (v.1 b) = -1
  · exact ⟨_, by rw [cLk, if_neg hne, if_pos q], jn_a rfl (by rw [hf, q]) (fun _ _ => rfl)⟩
  · refine ⟨cMg (v.1, upn v.2 (v.1 a) (v.2 (v.1 b))) (v.1 a) (v.1 b), ?_, jn_a rfl (upn_eq _ _ _) (fun k hk => upn_ne _ _ hk)⟩
    rw [cLk, if_neg hne, if_neg q, cBd, if_pos hf]; rfl
theorem cLk_b {v : mC} {a b : Nat} (hne : v.1 a ≠ v.1 b) (hf : v.2 (v.1 b) = -1) : ∃ v', cLk v a b = some v' ∧ jnC v v' b a (v.1 a) := ⟨_, by rw [cLk, if_neg hne, if_pos hf], jn_b a b⟩
/-- groups with the same clock made one -/
theorem cR_same {w v : mC} (h : cR w v) {x y : Nat} (e : v.2 x = v.2 y) (hx : v.2 x ≠ -1) : cR w (cMg v x y) := by
  have val : ∀ s, v.2 (if v.1 s = y then x else v.1 s) = v.2 (v.1 s) := fun s => by
    by_cases q : v.1 s = y
    · rw [if_pos q, e, q]
    · rw [if_neg q]
  intro s hs
  refine ⟨(val s).trans (h s hs).1, fun r hr => ⟨fun e1 => ?_, fun hf e1 => ?_⟩⟩
  · show (if v.1 r = y then x else v.1 r) = (if v.1 s = y then x else v.1 s)
    rw [((h s hs).2 r hr).1 e1]
  · have e2 : (if v.1 r = y then x else v.1 r) = (if v.1 s = y then x else v.1 s) := e1
    have h1 := (h s hs).1
    rw [hf] at h1
    have h2 : v.2 (v.1 s) = -1 := h1
    have n1 : v.1 s ≠ y := fun q => hx (by rw [e, ← q]; exact h2)
    have n2 : v.1 s ≠ x := fun q => hx (by rw [← q]; exact h2)
    rw [if_neg n1] at e2
    by_cases q : v.1 r = y
    · rw [if_pos q] at e2; exact absurd e2.symm n2
    · rw [if_neg q] at e2; exact ((h s hs).2 r hr).2 hf e2
theorem sim_lk {w v : mC} (h : cR w v) (hw : mOK w) {a b : Nat} (ha : a < 8) (hb : b < 8) {w' : mC} (e : mLike w a b = some w') : ∃ v', cLk v a b = some v' ∧ cR w' v' := by
  have va := (h a ha).1
  have vb := (h b hb).1
  have ta := hw.2.1 _ (rt_lt hw.1 ha)
  have tb := hw.2.1 _ (rt_lt hw.1 hb)
  have ca := cnv_sp (w.2 (rt w.1 a))
  have cb := cnv_sp (w.2 (rt w.1 b))
  unfold mLike at e
  split at e
  · next q => cases e; exact ⟨v, by rw [cLk, if_pos (((h b hb).2 a ha).1 q)], h⟩
  · next q =>
    split at e
    · next q2 =>
      split at e
      · next q3 =>
        cases e
        by_cases g : v.1 a = v.1 b
        · exact ⟨v, by rw [cLk, if_pos g], h⟩
        · have e1 : v.2 (v.1 a) = v.2 (v.1 b) := by rw [va, vb, q3]
          refine ⟨cMg v (v.1 a) (v.1 b), ?_, cR_same h e1 (by rw [va]; omega)⟩
          rw [cLk, if_neg g, if_neg (by rw [vb]; omega), cBd, if_neg (by rw [va]; omega), if_pos e1]; rfl
      · cases e
    · next q2 =>
      split at e
      · next q3 =>
        have g : v.1 a ≠ v.1 b := fun e2 => q (((h a ha).2 b hb).2 q3 e2.symm).symm
        split at e
        · cases e
        · cases e
          obtain ⟨v', e3, hj⟩ := cLk_a g (by rw [va]; omega)
          exact ⟨v', e3, cR_link h ha hb q q3 (link_rt hw.1 (rt_lt hw.1 ha) (rt_lt hw.1 hb) (rt_fix hw.1 ha) (rt_fix hw.1 hb) q).2 hj⟩
      · next q3 =>
        have q4 : w.2 (rt w.1 b) = -9 := by omega
        have g : v.1 a ≠ v.1 b := fun e2 => q (((h b hb).2 a ha).2 q4 e2)
        split at e
        · cases e
        · cases e
          obtain ⟨v', e3, hj⟩ := cLk_b g (by rw [vb]; omega)
          exact ⟨v', e3, cR_link h hb ha (fun e4 => q e4.symm) q4 (link_rt hw.1 (rt_lt hw.1 hb) (rt_lt hw.1 ha) (rt_fix hw.1 hb) (rt_fix hw.1 ha) (fun e4 => q e4.symm)).2 hj⟩
