/-- two groups made one: that of p, with no clock yet, and that of q -/
def jnC (v v' : mC) (p q x : Nat) : Prop := (x = v.1 p ∨ x = v.1 q) ∧ (∀ s, s < 8 → v'.1 s = if v.1 s = v.1 p ∨ v.1 s = v.1 q then x else v.1 s) ∧ v'.2 x = v.2 (v.1 q) ∧ ∀ k, k ≠ x → v'.2 k = v.2 k
theorem jnC_val {v v' : mC} {p q x s : Nat} (h : jnC v v' p q x) (hs : s < 8) (hp : v.1 s ≠ v.1 p) : v'.2 (v'.1 s) = v.2 (v.1 s) := by
  rw [h.2.1 s hs]
  by_cases e : v.1 s = v.1 q
  · rw [if_pos (Or.inr e), h.2.2.1, e]
  · rw [if_neg (by omega)]
    exact h.2.2.2 _ (fun e2 => by rcases h.1 with e3 | e3 <;> omega)
theorem cR_link {w v v' : mC} {u' : Nat → Nat} (h : cR w v) {p q x : Nat} (hp : p < 8) (hq : q < 8) (hne : rt w.1 p ≠ rt w.1 q) (hf : w.2 (rt w.1 p) = -9) (hu : ∀ s, s < 8 → rt u' s = if rt w.1 s = rt w.1 p then rt w.1 q else rt w.1 s) (hj : jnC v v' p q x) : cR (u', w.2) v' := by
  have fp_ : ∀ s, s < 8 → (v.1 s = v.1 p ↔ rt w.1 s = rt w.1 p) := fun s hs => ⟨fun e => ((h p hp).2 s hs).2 hf e, fun e => ((h p hp).2 s hs).1 e⟩
  have hpq : v.1 q ≠ v.1 p := fun e => hne ((fp_ q hq).mp e).symm
  have val : ∀ s, s < 8 → v'.2 (v'.1 s) = cnv (w.2 (rt u' s)) := fun s hs => by
    rw [hu s hs]
    by_cases e : rt w.1 s = rt w.1 p
    · rw [if_pos e, hj.2.1 s hs, if_pos (Or.inl ((fp_ s hs).mpr e)), hj.2.2.1]
      exact (h q hq).1
    · rw [if_neg e, jnC_val hj hs (fun e2 => e ((fp_ s hs).mp e2))]
      exact (h s hs).1
  intro s hs
  refine ⟨val s hs, fun r hr => ⟨fun e => ?_, fun hfr e => ?_⟩⟩
  · have e1 : rt u' r = rt u' s := e
    rw [hu r hr, hu s hs] at e1
    rw [hj.2.1 r hr, hj.2.1 s hs]
    have q1 : ∀ t, t < 8 → rt w.1 t = rt w.1 q → v.1 t = v.1 q := fun t ht e => ((h q hq).2 t ht).1 e
    by_cases a : rt w.1 r = rt w.1 p
    · rw [if_pos (Or.inl ((fp_ r hr).mpr a))]
      rw [if_pos a] at e1
      by_cases b : rt w.1 s = rt w.1 p
      · rw [if_pos (Or.inl ((fp_ s hs).mpr b))]
      · rw [if_neg b] at e1
        rw [if_pos (Or.inr (q1 s hs e1.symm))]
    · rw [if_neg a] at e1
      by_cases b : rt w.1 s = rt w.1 p
      · rw [if_pos b] at e1
        rw [if_pos (Or.inr (q1 r hr e1)), if_pos (Or.inl ((fp_ s hs).mpr b))]
      · rw [if_neg b] at e1
        rw [((h s hs).2 r hr).1 e1]
  · have hfr1 : w.2 (rt u' s) = -9 := hfr
    have vs := val s hs
    have vr := val r hr
    rw [e, vs] at vr
    have cs := cnv_sp (w.2 (rt u' s))
    have cr := cnv_sp (w.2 (rt u' r))
    show rt u' r = rt u' s
    rw [hj.2.1 r hr, hj.2.1 s hs] at e
    rw [hu r hr, hu s hs]
    rw [hu s hs] at hfr1
    -- a stream of q's group that has no clock is made like q
    have fq : ∀ t, t < 8 → v.1 t = v.1 q → w.2 (rt w.1 q) = -9 → rt w.1 t = rt w.1 q := fun t ht e2 e3 => ((h q hq).2 t ht).2 e3 e2
    by_cases a : rt w.1 s = rt w.1 p
    · rw [if_pos a] at hfr1 ⊢
      rw [if_pos (Or.inl ((fp_ s hs).mpr a))] at e
      by_cases b : rt w.1 r = rt w.1 p
      · rw [if_pos b]
      · rw [if_neg b]
        have b2 : v.1 r ≠ v.1 p := fun e2 => b ((fp_ r hr).mp e2)
        by_cases c : v.1 r = v.1 q
        · exact fq r hr c hfr1
        · rw [if_neg (by omega)] at e
          rcases hj.1 with e3 | e3 <;> omega
    · rw [if_neg a] at hfr1 ⊢
      have a2 : v.1 s ≠ v.1 p := fun e2 => a ((fp_ s hs).mp e2)
      by_cases c : v.1 s = v.1 q
      · have hqf : w.2 (rt w.1 q) = -9 := by
          have h1 := (h q hq).1
          have h2 := (h s hs).1
          rw [c] at h2
          have h3 := cnv_sp (w.2 (rt w.1 q))
          have h4 := cnv_sp (w.2 (rt w.1 s))
          omega
        rw [if_pos (Or.inr c)] at e
        rw [fq s hs c hqf]
        by_cases b : rt w.1 r = rt w.1 p
        · rw [if_pos b]
        · rw [if_neg b]
          have b2 : v.1 r ≠ v.1 p := fun e2 => b ((fp_ r hr).mp e2)
          by_cases d : v.1 r = v.1 q
          · exact fq r hr d hqf
          · rw [if_neg (by omega)] at e
            rcases hj.1 with e3 | e3 <;> omega
      · rw [if_neg (show ¬ (v.1 s = v.1 p ∨ v.1 s = v.1 q) by omega)] at e
        by_cases d : v.1 r = v.1 p ∨ v.1 r = v.1 q
        · rw [if_pos d] at e
          rcases hj.1 with e3 | e3 <;> omega
        · rw [if_neg d] at e
          rw [if_neg (fun b => d (Or.inl ((fp_ r hr).mpr b)))]
          exact ((h s hs).2 r hr).2 hfr1 e
