/-- the class follows the reference: like clocks, or the reference has a clash and the class too, or a cycle -/
def cS (N : Nat) (o c : Option mC) : Prop := (∃ w v, o = some w ∧ c = some v ∧ mOK w ∧ cR w v) ∨ (o = none ∧ (c = none ∨ ∃ v A s, c = some v ∧ cyc v A ∧ A s ∧ s < N))
def keC (g : mC → Option mC) : Prop := ∀ v v' A, cyc v A → g v = some v' → cyc v' A
theorem cS_then {N : Nat} {o c : Option mC} {f g : mC → Option mC} (h : cS N o c) (hf : ∀ w v, mOK w → cR w v → cS N (f w) (g v)) (hg : keC g) : cS N (mThen o f) (mThen c g) := by
  rcases h with ⟨w, v, rfl, rfl, hw, hR⟩ | ⟨rfl, rfl | ⟨v, A, s, rfl, hc, hs, hN⟩⟩
  · exact hf w v hw hR
  · exact Or.inr ⟨rfl, Or.inl rfl⟩
  · refine Or.inr ⟨rfl, ?_⟩
    cases e : g v with
    | none => exact Or.inl (by rw [mThen_s, e])
    | some v' => exact Or.inr ⟨v', A, s, by rw [mThen_s, e], hg v v' A hc e, hs, hN⟩
theorem cS_set {N : Nat} {w v : mC} (hw : mOK w) (h : cR w v) {s : Nat} (hs : s < 8) (hN : s < N) {is : Int} (hi : is = -1 ∨ (0 ≤ is ∧ is < 80)) : cS N (mSet w s is) (cBd v s (cnv is)) := by
  cases e : mSet w s is with
  | some w' =>
    obtain ⟨v', e2, h2⟩ := sim_set h hs (by omega) (by have := hw.2.1 _ (rt_lt hw.1 hs); omega) e
    exact Or.inl ⟨w', v', rfl, e2, mSet_ok hw hs hi e, h2⟩
  | none =>
    rcases sim_set_no h hw hs hi e with e2 | ⟨v', A, e2, h2, h3⟩
    · exact Or.inr ⟨rfl, Or.inl e2⟩
    · exact Or.inr ⟨rfl, Or.inr ⟨v', A, s, e2, h2, h3, hN⟩⟩
theorem cS_lk {N : Nat} {w v : mC} (hw : mOK w) (h : cR w v) {a b : Nat} (ha : a < 8) (hb : b < 8) (hN : a < N) (hM : b < N) : cS N (mLike w a b) (cLk v a b) := by
  cases e : mLike w a b with
  | some w' =>
    obtain ⟨v', e2, h2⟩ := sim_lk h hw ha hb e
    exact Or.inl ⟨w', v', rfl, e2, mLike_ok hw ha hb e, h2⟩
  | none =>
    rcases sim_lk_no h hw ha hb e with e2 | ⟨v', A, e2, h2, h3 | h3⟩
    · exact Or.inr ⟨rfl, Or.inl e2⟩
    · exact Or.inr ⟨rfl, Or.inr ⟨v', A, a, e2, h2, h3, hN⟩⟩
    · exact Or.inr ⟨rfl, Or.inr ⟨v', A, b, e2, h2, h3, hM⟩⟩
