/-! what is settled, alike in both -/
theorem st_sp {w v : mC} (hw : mOK w) (h : cR w v) {s : Nat} (hs : s < 8) : (w.2 (rt w.1 s) < 0 ∧ stC v s = -2) ∨ (0 ≤ w.2 (rt w.1 s) ∧ w.2 (rt w.1 s) < 80 ∧ stC v s = w.2 (rt w.1 s)) := by
  have hv := (h s hs).1
  have hc := cnv_sp (w.2 (rt w.1 s))
  have hi := hw.2.1 _ (rt_lt hw.1 hs)
  unfold stC
  split <;> omega
theorem st_walk {w v : mC} (hw : mOK w) (h : cR w v) {s : Nat} (hs : s < 8) : ∀ j, itr (sN (stC v)) j s < 8 ∧ xs w s j = rt w.1 (itr (sN (stC v)) j s)
  | 0 => ⟨hs, rfl⟩
  | j + 1 => by
    obtain ⟨h1, h2⟩ := st_walk hw h hs j
    have hp := st_sp hw h h1
    show sN (stC v) (itr (sN (stC v)) j s) < 8 ∧ nx w.1 w.2 (xs w s j) = rt w.1 (sN (stC v) (itr (sN (stC v)) j s))
    rw [h2]
    rcases hp with ⟨p1, p2⟩ | ⟨p1, p3, p2⟩
    · rw [sN_end (by omega), nx_end p1]; exact ⟨h1, rfl⟩
    · rw [sN_pos (by omega), nx_pos p1, p2]; exact ⟨by omega, rfl⟩
theorem st_dr {w v : mC} (hw : mOK w) (h : cR w v) : ∀ f {y : Nat}, y < 8 → dNr w f (rt w.1 y) = dCr (stC v) f y
  | 0, _, _ => rfl
  | f + 1, y, hy => by
    rcases st_sp hw h hy with ⟨p1, p2⟩ | ⟨p1, p3, p2⟩
    · rw [dNr_neg p1, dCr_neg (by omega)]
    · rw [dNr_step p1, dCr_step (by omega), nx_pos p1, sN_pos (by omega), p2, st_dr hw h f (by omega)]
theorem st_dN {w v : mC} (hw : mOK w) (h : cR w v) {s : Nat} (hs : s < 8) : dN w s = dCr (stC v) 8 s := st_dr hw h 8 hs
/-- clocks of a stream -/
theorem st_at {w v : mC} (hw : mOK w) (h : cR w v) {s : Nat} (hs : s < 8) {j : Nat} (hj : j < dN w s) : w.2 (xs w s j) = stC v (itr (sN (stC v)) j s) := by
  obtain ⟨h1, h2⟩ := st_walk hw h hs j
  have h3 := dN_at hj
  rw [h2] at h3 ⊢
  rcases st_sp hw h h1 with ⟨p1, p2⟩ | ⟨p1, p3, p2⟩
  · omega
  · exact p2.symm
theorem dNr_mono (w : mC) : ∀ f x, dNr w f x ≤ dNr w (f + 1) x
  | 0, x => by show 0 ≤ _; omega
  | f + 1, x => by
    rcases Int.lt_or_le (w.2 x) 0 with q | q
    · rw [dNr_neg q, dNr_neg q]; exact Nat.le_refl 0
    · rw [dNr_step q, dNr_step q]; have := dNr_mono w f (nx w.1 w.2 x); omega
theorem dN_0 {w : mC} {s : Nat} (h : w.2 (rt w.1 s) < 0) : dN w s = 0 := dNr_neg h 8
theorem dN_s {w : mC} (hw : mOK w) {s : Nat} (hs : s < 8) (h : 0 ≤ w.2 (rt w.1 s)) : dN w s = dN w (w.2 (rt w.1 s) / 10).toNat + 1 := by
  have e : dN w s = dNr w 7 (rt w.1 (w.2 (rt w.1 s) / 10).toNat) + 1 := by
    show dNr w (7 + 1) (rt w.1 s) = _
    rw [dNr_step h, nx_pos h]
  have hi := hw.2.1 _ (rt_lt hw.1 hs)
  have hr : rt w.1 (w.2 (rt w.1 s) / 10).toNat < 8 := rt_lt hw.1 (by omega)
  -- a chain of nine would never end
  have hu : ∀ f x j, j < dNr w f x → 0 ≤ w.2 (itr (nx w.1 w.2) j x) := fun f => by
    induction f with
    | zero => intro x j hj; exact absurd hj (Nat.not_lt_zero _)
    | succ f ih =>
      intro x j hj
      rcases Int.lt_or_le (w.2 x) 0 with q | q
      · rw [dNr_neg q] at hj; exact absurd hj (Nat.not_lt_zero _)
      · cases j with
        | zero => exact q
        | succ j => rw [itr_in]; rw [dNr_step q] at hj; exact ih _ j (by omega)
  have le : dNr w 7 (rt w.1 (w.2 (rt w.1 s) / 10).toNat) ≤ dNr w 8 (rt w.1 (w.2 (rt w.1 s) / 10).toNat) := dNr_mono w 7 _
  have hmax := dNr_le w 8 (rt w.1 (w.2 (rt w.1 s) / 10).toNat)
  rw [e]
  show _ = dNr w 8 _ + 1
  rcases Nat.lt_or_ge (dNr w 7 (rt w.1 (w.2 (rt w.1 s) / 10).toNat)) (dNr w 8 (rt w.1 (w.2 (rt w.1 s) / 10).toNat)) with q | q
  · exfalso
    have key : ∀ f x, dNr w f x < dNr w (f + 1) x → dNr w (f + 1) x = f + 1 := fun f => by
      induction f with
      | zero =>
        intro x hx
        have h1 : dNr w (0 + 1) x ≤ 0 + 1 := dNr_le w 1 x
        have h0 : dNr w 0 x = 0 := rfl
        omega
      | succ f ih =>
        intro x hx
        rcases Int.lt_or_le (w.2 x) 0 with q2 | q2
        · rw [dNr_neg q2, dNr_neg q2] at hx; omega
        · rw [dNr_step q2, dNr_step q2] at hx
          rw [dNr_step q2, ih _ (by omega)]
    have h8 : dNr w 8 (rt w.1 (w.2 (rt w.1 s) / 10).toNat) = 8 := key 7 _ q
    have h9 := hu 8 (rt w.1 (w.2 (rt w.1 s) / 10).toNat) 7 (by omega)
    have hend := hw.2.2 _ (rt_lt hw.1 hs)
    have : itr (nx w.1 w.2) 8 (rt w.1 s) = itr (nx w.1 w.2) 7 (rt w.1 (w.2 (rt w.1 s) / 10).toNat) := by
      rw [itr_in, nx_pos h]
    rw [this] at hend
    omega
  · omega
theorem cd_0 {w : mC} {s : Nat} : cd w s 0 = (w.2 (rt w.1 s) / 10).toNat := rfl
theorem xs_s {w : mC} {s : Nat} (h : 0 ≤ w.2 (rt w.1 s)) (d : Nat) : xs w s (d + 1) = xs w (w.2 (rt w.1 s) / 10).toNat d := by
  unfold xs
  rw [itr_in, nx_pos h]
theorem cd_s {w : mC} {s : Nat} (h : 0 ≤ w.2 (rt w.1 s)) (d : Nat) : cd w s (d + 1) = cd w (w.2 (rt w.1 s) / 10).toNat d := by
  unfold cd; rw [xs_s h]
