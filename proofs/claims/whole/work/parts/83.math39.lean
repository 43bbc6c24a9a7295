/-! clocks that never end: a closed set of streams; the class's steps keep it -/
def cyc (w : mC) (A : Nat → Prop) : Prop := ∀ s, A s → s < 8 ∧ 0 ≤ w.2 (w.1 s) ∧ A (w.2 (w.1 s) / 10).toNat
theorem cyc_bd {w w' : mC} {A : Nat → Prop} (h : cyc w A) {s : Nat} {v : Int} (e : cBd w s v = some w') : cyc w' A := by
  unfold cBd at e
  split at e
  · next q =>
    cases e
    intro t ht
    obtain ⟨h1, h2, h3⟩ := h t ht
    have hne : w.1 t ≠ w.1 s := fun q2 => by rw [q2, q] at h2; omega
    show t < 8 ∧ 0 ≤ upn w.2 (w.1 s) v (w.1 t) ∧ A (upn w.2 (w.1 s) v (w.1 t) / 10).toNat
    rw [upn_ne _ _ hne]
    exact ⟨h1, h2, h3⟩
  · split at e
    · cases e; exact h
    · cases e
theorem cyc_mg {w : mC} {A : Nat → Prop} (h : cyc w A) {x y : Nat} (hxy : ∀ t, A t → w.1 t = y → w.2 x = w.2 y) : cyc (cMg w x y) A := by
  intro t ht
  obtain ⟨h1, h2, h3⟩ := h t ht
  have e : (cMg w x y).2 ((cMg w x y).1 t) = w.2 (w.1 t) := by
    show w.2 (if w.1 t = y then x else w.1 t) = _
    by_cases q : w.1 t = y
    · rw [if_pos q, hxy t ht q, q]
    · rw [if_neg q]
  rw [e]
  exact ⟨h1, h2, h3⟩
theorem cBd_at {w w' : mC} {s : Nat} {v : Int} (e : cBd w s v = some w') : w'.2 (w.1 s) = v := by
  unfold cBd at e
  split at e
  · cases e; exact upn_eq _ _ _
  · split at e
    · next q => cases e; exact q
    · cases e
theorem cBd_o {w w' : mC} {s : Nat} {v : Int} (e : cBd w s v = some w') {k : Nat} (hk : w.2 k ≠ -1) : w'.2 k = w.2 k := by
  unfold cBd at e
  split at e
  · next q =>
    cases e
    exact upn_ne _ _ (fun q2 => hk (by rw [q2]; exact q))
  · split at e
    · cases e; rfl
    · cases e
theorem cyc_lk {w w' : mC} {A : Nat → Prop} (h : cyc w A) {s t : Nat} (e : cLk w s t = some w') : cyc w' A := by
  unfold cLk at e
  split at e
  · cases e; exact h
  · split at e
    · next q =>
      cases e
      exact cyc_mg h (fun r hr q2 => by have := (h r hr).2.1; rw [q2, q] at this; omega)
    · next q =>
      obtain ⟨w1, e1, e2⟩ := mThen_some e
      cases e2
      exact cyc_mg (cyc_bd h e1) (fun r _ _ => by rw [cBd_at e1, cBd_o e1 q])
theorem cyc_end {w : mC} {A : Nat → Prop} (h : cyc w A) {s N : Nat} (hs : A s) (hN : s < N) : cEnd w N = false := by
  have key : ∀ k, ∃ t, A t ∧ itr (cnx w) k (w.1 s) = w.1 t := fun k => by
    induction k with
    | zero => exact ⟨s, hs, rfl⟩
    | succ k ih =>
      obtain ⟨t, ht, e⟩ := ih
      obtain ⟨h1, h2, h3⟩ := h t ht
      exact ⟨_, h3, by show cnx w (itr (cnx w) k (w.1 s)) = _; rw [e, cnx_pos h2]⟩
  refine decide_eq_false (fun q => ?_)
  obtain ⟨t, ht, e⟩ := key 8
  have h1 := q s hN
  have h2 := (h t ht).2.1
  rw [e] at h1
  omega
