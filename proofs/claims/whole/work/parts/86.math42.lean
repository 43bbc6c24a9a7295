theorem itr_in (f : Nat → Nat) : ∀ j s, itr f (j + 1) s = itr f j (f s)
  | 0, _ => rfl
  | j + 1, s => by show f (itr f (j + 1) s) = f (itr f j (f s)); rw [itr_in f j s]
/-- those whose clock stands on that of r -/
def onA (w : mC) (r : Nat) (a : Nat) : Prop := a < 8 ∧ ∃ j, itr (nx w.1 w.2) j (rt w.1 a) = r
theorem onA_next {w : mC} (hw : mOK w) {r a : Nat} (h : onA w r a) (hne : rt w.1 a ≠ r) : 0 ≤ w.2 (rt w.1 a) ∧ onA w r (w.2 (rt w.1 a) / 10).toNat := by
  obtain ⟨h8, j, hj⟩ := h
  have ht := hw.2.1 _ (rt_lt hw.1 h8)
  by_cases q : w.2 (rt w.1 a) < 0
  · have := itr_fix' (f := nx w.1 w.2) (j := 0) (k := j) (s := rt w.1 a) (nx_end q) (by omega)
    exact absurd (this.symm.trans hj) hne
  · refine ⟨by omega, by omega, ?_⟩
    cases j with
    | zero => exact absurd hj hne
    | succ j =>
      rw [itr_in, nx_pos (by omega)] at hj
      exact ⟨j, hj⟩
theorem cyc_set {w v : mC} (h : cR w v) (hw : mOK w) {s : Nat} (hs : s < 8) (hf : w.2 (rt w.1 s) = -9) {is : Int} (hi : 0 ≤ is) (hm : onA w (rt w.1 s) (is / 10).toNat) : cyc (v.1, upn v.2 (v.1 s) is) (onA w (rt w.1 s)) := by
  intro a ha
  show a < 8 ∧ 0 ≤ upn v.2 (v.1 s) is (v.1 a) ∧ onA w (rt w.1 s) (upn v.2 (v.1 s) is (v.1 a) / 10).toNat
  by_cases q : rt w.1 a = rt w.1 s
  · have e := ((h s hs).2 a ha.1).1 q
    rw [e, upn_eq]
    exact ⟨ha.1, hi, hm⟩
  · have e : v.1 a ≠ v.1 s := fun e2 => q (((h s hs).2 a ha.1).2 hf e2)
    obtain ⟨h1, h2⟩ := onA_next hw ha q
    have c1 := cnv_sp (w.2 (rt w.1 a))
    have e3 : v.2 (v.1 a) = w.2 (rt w.1 a) := by rw [(h a ha.1).1]; omega
    rw [upn_ne _ _ e, e3]
    exact ⟨ha.1, h1, h2⟩
