theorem cyc_link {w v v' : mC} (h : cR w v) (hw : mOK w) {p q x : Nat} (hp : p < 8) (hq : q < 8) (hf : w.2 (rt w.1 p) = -9) (ht : 0 ≤ w.2 (rt w.1 q)) (hm : onA w (rt w.1 p) (w.2 (rt w.1 q) / 10).toNat) (hj : jnC v v' p q x) : cyc v' (onA w (rt w.1 p)) := by
  intro a ha
  have fp_ : v.1 a = v.1 p ↔ rt w.1 a = rt w.1 p := ⟨fun e => ((h p hp).2 a ha.1).2 hf e, fun e => ((h p hp).2 a ha.1).1 e⟩
  by_cases e : rt w.1 a = rt w.1 p
  · have e2 : v'.2 (v'.1 a) = w.2 (rt w.1 q) := by
      rw [hj.2.1 a ha.1, if_pos (Or.inl (fp_.mpr e)), hj.2.2.1, (h q hq).1]
      have := cnv_sp (w.2 (rt w.1 q))
      omega
    rw [e2]
    exact ⟨ha.1, ht, hm⟩
  · obtain ⟨h1, h2⟩ := onA_next hw ha e
    have e2 : v'.2 (v'.1 a) = w.2 (rt w.1 a) := by
      rw [jnC_val hj ha.1 (fun e3 => e (fp_.mp e3)), (h a ha.1).1]
      have := cnv_sp (w.2 (rt w.1 a))
      omega
    rw [e2]
    exact ⟨ha.1, h1, h2⟩
