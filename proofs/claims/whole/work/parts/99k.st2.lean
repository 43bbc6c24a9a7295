theorem ex_eq {σ σ1 : gS} {n : Nat} (hG : iG σ n) (e1 : σ1 119 = σ 119) (e2 : σ1 120 = σ 120) (e3 : σ1 121 = σ 121) (e4 : σ1 122 = σ 122) {R R' : Nat → Nat → Int} (eR : ∀ t x, x < 8 → R (t + 1) (41 + x) = R' (t + 1) (41 + x)) : exK σ n (lsT (σ 94) n).toNat R = exB σ1 n R' := by
  have iff : (∀ t, t < (lsT (σ 94) n).toNat → ∀ i, i < n → (σ 94 i = ((t + 1 : Nat) : Int) → (vc (R (t + 1)) (σ 95 i) = σ 96 i ↔ σ 97 i = 1))) ↔ exP σ1 n R' := by
    constructor
    · intro h t ht i hi
      unfold exC
      obtain ⟨⟨g1, g2, g3, g4⟩, g5, g6, g7⟩ := hG.2 i hi
      rw [e1, e2, e3, e4, g1, g2, g3, g4]
      intro e
      have := lsT_ge (A := σ 94) hi
      have h1 := h t (by omega) i hi e
      rw [vc_in (by omega), eR t _ (by omega)] at h1
      exact h1
    · intro h t ht i hi e
      obtain ⟨⟨g1, g2, g3, g4⟩, g5, g6, g7⟩ := hG.2 i hi
      have h1 := h t (by omega) i hi
      unfold exC at h1
      rw [e1, e2, e3, e4, g1, g2, g3, g4] at h1
      rw [vc_in (by omega), eR t _ (by omega)]
      exact h1 e
  by_cases q : exP σ1 n R'
  · rw [exB_t q]; exact decide_eq_true (iff.mpr q)
  · rw [exB_f q]; exact decide_eq_false (fun h => q (iff.mp h))
theorem st_later {σ σ1 σ2 : gS} {z z1 z2 : gZ} {q1 q2 : Int} {x9 y a0 b0 : Int} {len N D o n : Nat} (hT : iT σ len) (hP : iP σ N) (hD : iD σ D o) (hG : iG σ n) (hK : iK σ) (hz : z 0 = z 111) (hc : ((¬ (0 ≤ x9 ∧ x9 < σ 3 0) ∧ q1 = -1) ∨ ∃ s0 : Nat, x9 = (s0 : Int) ∧ (s0 : Int) < σ 3 0 ∧ ((¬ ((1 ≤ y ∧ y ≤ 40) ∧ (0 ≤ a0 ∧ a0 ≤ 99) ∧ (0 ≤ b0 ∧ b0 ≤ 99)) ∧ q1 = -2) ∨ (((1 ≤ y ∧ y ≤ 40) ∧ (0 ≤ a0 ∧ a0 ≤ 99) ∧ (0 ≤ b0 ∧ b0 ≤ 99)) ∧ ¬ (σ 13 0 = -9 ∧ σ 13 1 = 0 ∧ σ 13 2 = -9) ∧ q1 = -3) ∨ (((1 ≤ y ∧ y ≤ 40) ∧ (0 ≤ a0 ∧ a0 ≤ 99) ∧ (0 ≤ b0 ∧ b0 ≤ 99)) ∧ (σ 13 0 = -9 ∧ σ 13 1 = 0 ∧ σ 13 2 = -9) ∧ q1 = (wkI (fp σ 3) (Tm (σ 114) N) (σ 16) N (cst a0 b0) y.toNat) (41 + s0)))) ∧ fr (wF 8) σ σ1 ∧ z1 = z) (hm : ((¬ (0 ≤ x9 ∧ x9 < σ1 114 0) ∧ q2 = -1) ∨ ∃ s0 : Nat, x9 = (s0 : Int) ∧ (s0 : Int) < σ1 114 0 ∧ ((¬ ((1 ≤ y ∧ y ≤ 40) ∧ (0 ≤ a0 ∧ a0 ≤ 99) ∧ (0 ≤ b0 ∧ b0 ≤ 99)) ∧ q2 = -2) ∨ (((1 ≤ y ∧ y ≤ 40) ∧ (0 ≤ a0 ∧ a0 ≤ 99) ∧ (0 ≤ b0 ∧ b0 ≤ 99)) ∧ ¬ sndG (σ1 114) N ∧ q2 = -3) ∨ (((1 ≤ y ∧ y ≤ 40) ∧ (0 ≤ a0 ∧ a0 ≤ 99) ∧ (0 ≤ b0 ∧ b0 ≤ 99)) ∧ sndG (σ1 114) N ∧ ∃ w, mClk (σ1 114) N = some w ∧ q2 = (tkC (cpr (σ1 114) (σ1 115) 50) w (tn (wtN (σ1 114) w) N) N a0 b0 y.toNat) (41 + s0)))) ∧ fr wSc σ1 σ2 ∧ z2 = z1) : q1 = q2 ∧ IV σ2 z2 := by
  obtain ⟨hc, hf1, rfl⟩ := hc
  obtain ⟨hm, hf2, rfl⟩ := hm
  rw [(hf1.row (fun k => rfl) : σ1 114 = σ 114)] at hm
  refine ⟨?_, IV.same hT hP hD hG hK hz (hf1.un hf2) (apI_u apI_8 apI_sc)⟩
  have a0' := hP.n0
  have b0' := hP.g0
  rcases hc with ⟨c1, c2⟩ | ⟨s0, c1, c2, c3⟩ <;> rcases hm with ⟨m1, m2⟩ | ⟨s, m1, m2, m3⟩
  · omega
  · clear m3; omega
  · clear c3; omega
  · have es : s = s0 := by clear c3 m3; omega
    subst es
    have hs : s < N := by clear c3 m3; omega
    have h8 := hP.sk.1.2.2
    rcases c3 with ⟨a, b⟩ | ⟨a, a2, b⟩ | ⟨a, a2, b⟩ <;> rcases m3 with ⟨a', b'⟩ | ⟨a', a2', b'⟩ | ⟨a', a2', w, hw, b'⟩
    · rw [b, b']
    · exact absurd a' a
    · exact absurd a' a
    · exact absurd a a'
    · rw [b, b']
    · exact absurd (hP.sn.mpr a2') a2
    · exact absurd a a'
    · exact absurd (hP.sn.mp a2) a2'
    · obtain ⟨v, v1, hq, v2, v3, v4, v5⟩ := hP.tq a2' hw
      rw [b, b', hP.wk a2' v4, ← Tm_eq hw, tkC_I]
      exact ((hq.cong (fun k hk => cpr_50 _ _ hk)).it (cst_in a.2.1 a.2.2) _).val hs
theorem st_first {σ σ1 σ2 : gS} {z z1 z2 : gZ} {q1 q2 : Int} {x9 y a0 b0 : Int} {len N D o n : Nat} (hT : iT σ len) (hP : iP σ N) (hD : iD σ D o) (hG : iG σ n) (hK : iK σ) (hz : z 0 = z 111) (hc : ((¬ (0 ≤ x9 ∧ x9 < σ 3 0) ∧ q1 = -1) ∨ ∃ s0 : Nat, x9 = (s0 : Int) ∧ (s0 : Int) < σ 3 0 ∧ ((¬ ((0 ≤ y ∧ y ≤ 99) ∧ (0 ≤ a0 ∧ a0 ≤ 99) ∧ (0 ≤ b0 ∧ b0 ≤ 99)) ∧ q1 = -2) ∨ (((0 ≤ y ∧ y ≤ 99) ∧ (0 ≤ a0 ∧ a0 ≤ 99) ∧ (0 ≤ b0 ∧ b0 ≤ 99)) ∧ ¬ (σ 13 0 = -9 ∧ σ 13 1 = 0 ∧ σ 13 2 = -9) ∧ q1 = -3) ∨ (((0 ≤ y ∧ y ≤ 99) ∧ (0 ≤ a0 ∧ a0 ≤ 99) ∧ (0 ≤ b0 ∧ b0 ≤ 99)) ∧ (σ 13 0 = -9 ∧ σ 13 1 = 0 ∧ σ 13 2 = -9) ∧ fiP (fun t => (wkI (fp σ 3) (Tm (σ 114) N) (σ 16) N (cst a0 b0) t)) s0 y 40 q1))) ∧ fr (wF 8) σ σ1 ∧ z1 = z) (hm : ((¬ (0 ≤ x9 ∧ x9 < σ1 114 0) ∧ q2 = -1) ∨ ∃ s0 : Nat, x9 = (s0 : Int) ∧ (s0 : Int) < σ1 114 0 ∧ ((¬ ((0 ≤ y ∧ y ≤ 99) ∧ (0 ≤ a0 ∧ a0 ≤ 99) ∧ (0 ≤ b0 ∧ b0 ≤ 99)) ∧ q2 = -2) ∨ (((0 ≤ y ∧ y ≤ 99) ∧ (0 ≤ a0 ∧ a0 ≤ 99) ∧ (0 ≤ b0 ∧ b0 ≤ 99)) ∧ ¬ sndG (σ1 114) N ∧ q2 = -3) ∨ (((0 ≤ y ∧ y ≤ 99) ∧ (0 ≤ a0 ∧ a0 ≤ 99) ∧ (0 ≤ b0 ∧ b0 ≤ 99)) ∧ sndG (σ1 114) N ∧ ∃ w, mClk (σ1 114) N = some w ∧ fiP (fun t => (tkC (cpr (σ1 114) (σ1 115) 50) w (tn (wtN (σ1 114) w) N) N a0 b0 t)) s0 y 40 q2))) ∧ fr wSc σ1 σ2 ∧ z2 = z1) : q1 = q2 ∧ IV σ2 z2 := by
  obtain ⟨hc, hf1, rfl⟩ := hc
  obtain ⟨hm, hf2, rfl⟩ := hm
  rw [(hf1.row (fun k => rfl) : σ1 114 = σ 114)] at hm
  refine ⟨?_, IV.same hT hP hD hG hK hz (hf1.un hf2) (apI_u apI_8 apI_sc)⟩
  have a0' := hP.n0
  have b0' := hP.g0
  rcases hc with ⟨c1, c2⟩ | ⟨s0, c1, c2, c3⟩ <;> rcases hm with ⟨m1, m2⟩ | ⟨s, m1, m2, m3⟩
  · omega
  · clear m3; omega
  · clear c3; omega
  · have es : s = s0 := by clear c3 m3; omega
    subst es
    have hs : s < N := by clear c3 m3; omega
    have h8 := hP.sk.1.2.2
    rcases c3 with ⟨a, b⟩ | ⟨a, a2, b⟩ | ⟨a, a2, b⟩ <;> rcases m3 with ⟨a', b'⟩ | ⟨a', a2', b'⟩ | ⟨a', a2', w, hw, b'⟩
    · rw [b, b']
    · exact absurd a' a
    · exact absurd a' a
    · exact absurd a a'
    · rw [b, b']
    · exact absurd (hP.sn.mpr a2') a2
    · exact absurd a a'
    · exact absurd (hP.sn.mp a2) a2'
    · obtain ⟨v, v1, hq, v2, v3, v4, v5⟩ := hP.tq a2' hw
      refine fiP_det (fun t ht => ?_) b b'
      show wkI (fp σ 3) (Tm (σ 114) N) (σ 16) N (cst a0 b0) (t + 1) (41 + s) = tkC _ w _ N a0 b0 (t + 1) (41 + s)
      rw [hP.wk a2' v4, ← Tm_eq hw, tkC_I]
      exact ((hq.cong (fun k hk => cpr_50 _ _ hk)).it (cst_in a.2.1 a.2.2) _).val hs
theorem st_round {σ σ1 σ2 : gS} {z z1 z2 : gZ} {q1 q2 : Int} {y a0 b0 : Int} {len N D o n : Nat} (hT : iT σ len) (hP : iP σ N) (hD : iD σ D o) (hG : iG σ n) (hK : iK σ) (hz : z 0 = z 111) (hc : ((¬ (((0 ≤ a0 ∧ a0 ≤ 99) ∧ (0 ≤ b0 ∧ b0 ≤ 99)) ∧ (0 ≤ y ∧ y ≤ 1)) ∧ q1 = -2) ∨ ((((0 ≤ a0 ∧ a0 ≤ 99) ∧ (0 ≤ b0 ∧ b0 ≤ 99)) ∧ (0 ≤ y ∧ y ≤ 1)) ∧ ¬ (σ 13 0 = -9 ∧ σ 13 1 = 0 ∧ σ 13 2 = -9) ∧ q1 = -3) ∨ ((((0 ≤ a0 ∧ a0 ≤ 99) ∧ (0 ≤ b0 ∧ b0 ≤ 99)) ∧ (0 ≤ y ∧ y ≤ 1)) ∧ (σ 13 0 = -9 ∧ σ 13 1 = 0 ∧ σ 13 2 = -9) ∧ rdP (fun t u : Nat => ∀ s, s < 8 → (wkI (fp σ 3) (Tm (σ 114) N) (σ 16) N (cst a0 b0)) t (33 + s) = (wkI (fp σ 3) (Tm (σ 114) N) (σ 16) N (cst a0 b0)) u (33 + s)) y q1)) ∧ fr wTr σ σ1 ∧ z1 = z) (hm : ((¬ (((0 ≤ a0 ∧ a0 ≤ 99) ∧ (0 ≤ b0 ∧ b0 ≤ 99)) ∧ (0 ≤ y ∧ y ≤ 1)) ∧ q2 = -2) ∨ ((((0 ≤ a0 ∧ a0 ≤ 99) ∧ (0 ≤ b0 ∧ b0 ≤ 99)) ∧ (0 ≤ y ∧ y ≤ 1)) ∧ ¬ sndG (σ1 114) N ∧ q2 = -3) ∨ ((((0 ≤ a0 ∧ a0 ≤ 99) ∧ (0 ≤ b0 ∧ b0 ≤ 99)) ∧ (0 ≤ y ∧ y ≤ 1)) ∧ sndG (σ1 114) N ∧ ∃ w, mClk (σ1 114) N = some w ∧ rdP (fun t u => ∀ s, s < 8 → stv (tkC (cpr (σ1 114) (σ1 115) 50) w (tn (wtN (σ1 114) w) N) N a0 b0 t) s = stv (tkC (cpr (σ1 114) (σ1 115) 50) w (tn (wtN (σ1 114) w) N) N a0 b0 u) s) y q2)) ∧ fr wSc σ1 σ2 ∧ z2 = z1) : q1 = q2 ∧ IV σ2 z2 := by
  obtain ⟨hc, hf1, rfl⟩ := hc
  obtain ⟨hm, hf2, rfl⟩ := hm
  rw [(hf1.row (fun k => rfl) : σ1 114 = σ 114)] at hm
  refine ⟨?_, IV.same hT hP hD hG hK hz (hf1.un hf2) (apI_u apI_tr apI_sc)⟩
  rcases hc with ⟨a, b⟩ | ⟨a, a2, b⟩ | ⟨a, a2, b⟩ <;> rcases hm with ⟨a', b'⟩ | ⟨a', a2', b'⟩ | ⟨a', a2', w, hw, b'⟩
  · rw [b, b']
  · exact absurd a' a
  · exact absurd a' a
  · exact absurd a a'
  · rw [b, b']
  · exact absurd (hP.sn.mpr a2') a2
  · exact absurd a a'
  · exact absurd (hP.sn.mp a2) a2'
  · obtain ⟨v, v1, hq, v2, v3, v4, v5⟩ := hP.tq a2' hw
    have e : ∀ t s, s < 8 → wkI (fp σ 3) (Tm (σ 114) N) (σ 16) N (cst a0 b0) t (33 + s) = stv (tkC (cpr (σ 114) (σ1 115) 50) w (tn (wtN (σ 114) w) N) N a0 b0 t) s := fun t s hs => by
      rw [hP.wk a2' v4, ← Tm_eq hw, tkC_I]
      exact stv_eq ((hq.cong (fun k hk => cpr_50 _ _ hk)).it (cst_in a.1.1 a.1.2) t) hs
    refine rdP_det (fun t u ht hu => ⟨fun h s hs => ?_, fun h s hs => ?_⟩) b b'
    · rw [← e t s hs, ← e u s hs]; exact h s hs
    · rw [e t s hs, e u s hs]; exact h s hs
theorem st_judge {σ σ1 σ2 : gS} {z z1 z2 : gZ} {q1 q2 : Int} {m9 r : Int} {len N D o n : Nat} (hT : iT σ len) (hP : iP σ N) (hD : iD σ D o) (hG : iG σ n) (hK : iK σ) (hz : z 0 = z 111) (hc : ((¬ ((1 ≤ m9 ∧ m9 ≤ 3) ∧ 0 ≤ r ∧ r < ((100000 ^ m9.toNat : Nat) : Int)) ∧ q1 = -2) ∨ (((1 ≤ m9 ∧ m9 ≤ 3) ∧ 0 ≤ r ∧ r < ((100000 ^ m9.toNat : Nat) : Int)) ∧ ¬ (σ 13 0 = -9 ∧ σ 13 1 = 0 ∧ σ 13 2 = -9) ∧ q1 = -3) ∨ (((1 ≤ m9 ∧ m9 ≤ 3) ∧ 0 ≤ r ∧ r < ((100000 ^ m9.toNat : Nat) : Int)) ∧ (σ 13 0 = -9 ∧ σ 13 1 = 0 ∧ σ 13 2 = -9) ∧ ∃ n0 r0 : Nat, m9 = (n0 : Int) ∧ r = (r0 : Int) ∧ jkP (fp σ 3) (Tm (σ 114) N) (σ 16) (σ 17) N r0 n0 q1)) ∧ fr (wF 8) σ σ1 ∧ z1 = z) (hm : ((¬ ((1 ≤ m9 ∧ m9 ≤ 3) ∧ 0 ≤ r ∧ r < ((100000 ^ m9.toNat : Nat) : Int)) ∧ q2 = -2) ∨ (((1 ≤ m9 ∧ m9 ≤ 3) ∧ 0 ≤ r ∧ r < ((100000 ^ m9.toNat : Nat) : Int)) ∧ ¬ sndG (σ1 114) N ∧ q2 = -3) ∨ (((1 ≤ m9 ∧ m9 ≤ 3) ∧ 0 ≤ r ∧ r < ((100000 ^ m9.toNat : Nat) : Int)) ∧ sndG (σ1 114) N ∧ ∃ w, mClk (σ1 114) N = some w ∧ ∃ n0 r0 : Nat, m9 = (n0 : Int) ∧ r = (r0 : Int) ∧ jgP (cpr (σ1 114) (σ1 115) 50) w (tn (wtN (σ1 114) w) N) N r0 n0 q2)) ∧ fr wSc σ1 σ2 ∧ z2 = z1) : q1 = q2 ∧ IV σ2 z2 := by
  obtain ⟨hc, hf1, rfl⟩ := hc
  obtain ⟨hm, hf2, rfl⟩ := hm
  rw [(hf1.row (fun k => rfl) : σ1 114 = σ 114)] at hm
  refine ⟨?_, IV.same hT hP hD hG hK hz (hf1.un hf2) (apI_u apI_8 apI_sc)⟩
  rcases hc with ⟨a, b⟩ | ⟨a, a2, b⟩ | ⟨a, a2, b⟩ <;> rcases hm with ⟨a', b'⟩ | ⟨a', a2', b'⟩ | ⟨a', a2', w, hw, b'⟩
  · rw [b, b']
  · exact absurd a' a
  · exact absurd a' a
  · exact absurd a a'
  · rw [b, b']
  · exact absurd (hP.sn.mpr a2') a2
  · exact absurd a a'
  · exact absurd (hP.sn.mp a2) a2'
  · obtain ⟨v, v1, hq, v2, v3, v4, v5⟩ := hP.tq a2' hw
    obtain ⟨n0, r0, e1, e2, b⟩ := b
    obtain ⟨n1, r1, e3, e4, b'⟩ := b'
    have e5 : n1 = n0 := by clear b b' a a'; omega
    have e6 : r1 = r0 := by clear b b' a a'; omega
    subst e5 e6
    rw [← Tm_eq hw] at b'
    exact jg_det (hq.cong (fun k hk => cpr_50 _ _ hk)) v2 v3 v4 v5 b b'
theorem st_inputs {σ σ1 σ2 : gS} {z z1 z2 : gZ} {q1 q2 : Int} {y : Int} {len N D o n : Nat} (hT : iT σ len) (hP : iP σ N) (hD : iD σ D o) (hG : iG σ n) (hK : iK σ) (hz : z 0 = z 111) (hc : ((¬ (0 ≤ y ∧ y ≤ 1) ∧ q1 = -2) ∨ ((0 ≤ y ∧ y ≤ 1) ∧ ¬ (σ 13 0 = -9 ∧ σ 13 1 = 0 ∧ σ 13 2 = -9) ∧ q1 = -3) ∨ ((0 ≤ y ∧ y ≤ 1) ∧ (σ 13 0 = -9 ∧ σ 13 1 = 0 ∧ σ 13 2 = -9) ∧ ((y = 0 ∧ q1 = ((cnB (fun k => exK σ n (lsT (σ 94) n).toNat (wkI (rsC (fp σ 3)) (Tm (σ 114) N) (σ 16) N (cst ((k / 10 : Nat) : Int) ((k % 10 : Nat) : Int)))) 100 : Nat) : Int)) ∨ (y ≠ 0 ∧ q1 = nO (fsR (fun k => exK σ n (lsT (σ 94) n).toNat (wkI (rsC (fp σ 3)) (Tm (σ 114) N) (σ 16) N (cst ((k / 10 : Nat) : Int) ((k % 10 : Nat) : Int)))) 100))))) ∧ fr (wF 8) σ σ1 ∧ z1 = z) (hm : ((¬ (0 ≤ y ∧ y ≤ 1) ∧ q2 = -2) ∨ ((0 ≤ y ∧ y ≤ 1) ∧ ¬ sndG (σ1 114) N ∧ q2 = -3) ∨ ((0 ≤ y ∧ y ≤ 1) ∧ sndG (σ1 114) N ∧ ∃ w, mClk (σ1 114) N = some w ∧ ((y = 0 ∧ q2 = ((cnB (fun k => (exB σ1 n (fun t => tkC (afM (σ1 114)) w (tn (wtN (σ1 114) w) N) N ((k / 10 : Nat) : Int) ((k % 10 : Nat) : Int) t))) 100 : Nat) : Int)) ∨ (y ≠ 0 ∧ q2 = nO (fsR (fun k => (exB σ1 n (fun t => tkC (afM (σ1 114)) w (tn (wtN (σ1 114) w) N) N ((k / 10 : Nat) : Int) ((k % 10 : Nat) : Int) t))) 100))))) ∧ fr wSc σ1 σ2 ∧ z2 = z1) : q1 = q2 ∧ IV σ2 z2 := by
  obtain ⟨hc, hf1, rfl⟩ := hc
  obtain ⟨hm, hf2, rfl⟩ := hm
  rw [(hf1.row (fun k => rfl) : σ1 114 = σ 114)] at hm
  refine ⟨?_, IV.same hT hP hD hG hK hz (hf1.un hf2) (apI_u apI_8 apI_sc)⟩
  rcases hc with ⟨a, b⟩ | ⟨a, a2, b⟩ | ⟨a, a2, b⟩ <;> rcases hm with ⟨a', b'⟩ | ⟨a', a2', b'⟩ | ⟨a', a2', w, hw, b'⟩
  · rw [b, b']
  · exact absurd a' a
  · exact absurd a' a
  · exact absurd a a'
  · rw [b, b']
  · exact absurd (hP.sn.mpr a2') a2
  · exact absurd a a'
  · exact absurd (hP.sn.mp a2) a2'
  · obtain ⟨v, v1, hq, v2, v3, v4, v5⟩ := hP.tq a2' hw
    have e : ∀ k : Nat, k < 100 → exK σ n (lsT (σ 94) n).toNat (wkI (rsC (fp σ 3)) (Tm (σ 114) N) (σ 16) N (cst ((k / 10 : Nat) : Int) ((k % 10 : Nat) : Int))) = exB σ1 n (fun t => tkC (afM (σ 114)) w (tn (wtN (σ 114) w) N) N ((k / 10 : Nat) : Int) ((k % 10 : Nat) : Int) t) := fun k hk => by
      refine ex_eq hG (hf1.row (fun k => rfl)) (hf1.row (fun k => rfl)) (hf1.row (fun k => rfl)) (hf1.row (fun k => rfl)) (fun t x hx => ?_)
      rw [hP.wk a2' v4, ← Tm_eq hw, tkC_I]
      exact (hq.rs.itv (cst_in (by omega) (by omega)) t hx).1
    rcases b with ⟨y1, b⟩ | ⟨y1, b⟩ <;> rcases b' with ⟨y2, b'⟩ | ⟨y2, b'⟩
    · rw [b, b', cnB_cong e]
    · exact absurd y1 y2
    · exact absurd y2 y1
    · rw [b, b', fsR_cong e]
theorem st_odds {σ σ1 σ2 : gS} {z z1 z2 : gZ} {q1 q2 : Int} {x9 y m9 k h : Int} {len N D o n : Nat} (hT : iT σ len) (hP : iP σ N) (hD : iD σ D o) (hG : iG σ n) (hK : iK σ) (hz : z 0 = z 111) (hc : ((¬ (0 ≤ x9 ∧ x9 < σ 3 0) ∧ q1 = -1) ∨ ∃ s0 : Nat, x9 = (s0 : Int) ∧ (s0 : Int) < σ 3 0 ∧ ((¬ ((0 ≤ y ∧ y ≤ 6) ∧ (1 ≤ m9 ∧ m9 ≤ 6) ∧ (0 ≤ k ∧ k ≤ 10)) ∧ q1 = -2) ∨ (((0 ≤ y ∧ y ≤ 6) ∧ (1 ≤ m9 ∧ m9 ≤ 6) ∧ (0 ≤ k ∧ k ≤ 10)) ∧ ¬ (σ 13 0 = -9 ∧ σ 13 1 = 0 ∧ σ 13 2 = -9) ∧ q1 = -3) ∨ (((0 ≤ y ∧ y ≤ 6) ∧ (1 ≤ m9 ∧ m9 ≤ 6) ∧ (0 ≤ k ∧ k ≤ 10)) ∧ (σ 13 0 = -9 ∧ σ 13 1 = 0 ∧ σ 13 2 = -9) ∧ ∃ y0 n0 k0 : Nat, y = (y0 : Int) ∧ m9 = (n0 : Int) ∧ k = (k0 : Int) ∧ odQ (odS (fun d => tcN (wkI (fp σ 3) (Tm (σ 114) N) (σ 16) N (bitI d)) s0 n0) y0 k0 n0 (2 ^ n0)) (10 ^ n0) h q1))) ∧ fr (wF 8) σ σ1 ∧ z1 = z) (hm : ((¬ (0 ≤ x9 ∧ x9 < σ1 114 0) ∧ q2 = -1) ∨ ∃ s0 : Nat, x9 = (s0 : Int) ∧ (s0 : Int) < σ1 114 0 ∧ ((¬ ((0 ≤ y ∧ y ≤ 6) ∧ (1 ≤ m9 ∧ m9 ≤ 6) ∧ (0 ≤ k ∧ k ≤ 10)) ∧ q2 = -2) ∨ (((0 ≤ y ∧ y ≤ 6) ∧ (1 ≤ m9 ∧ m9 ≤ 6) ∧ (0 ≤ k ∧ k ≤ 10)) ∧ ¬ sndG (σ1 114) N ∧ q2 = -3) ∨ (((0 ≤ y ∧ y ≤ 6) ∧ (1 ≤ m9 ∧ m9 ≤ 6) ∧ (0 ≤ k ∧ k ≤ 10)) ∧ sndG (σ1 114) N ∧ ∃ w, mClk (σ1 114) N = some w ∧ ∃ y0 n0 k0 : Nat, y = (y0 : Int) ∧ m9 = (n0 : Int) ∧ k = (k0 : Int) ∧ odQ (odS (odT (σ1 114) w (tn (wtN (σ1 114) w) N) N s0 n0) y0 k0 n0 (2 ^ n0)) (10 ^ n0) h q2))) ∧ fr wSc σ1 σ2 ∧ z2 = z1) : q1 = q2 ∧ IV σ2 z2 := by
  obtain ⟨hc, hf1, rfl⟩ := hc
  obtain ⟨hm, hf2, rfl⟩ := hm
  rw [(hf1.row (fun k => rfl) : σ1 114 = σ 114)] at hm
  refine ⟨?_, IV.same hT hP hD hG hK hz (hf1.un hf2) (apI_u apI_8 apI_sc)⟩
  have a0' := hP.n0
  have b0' := hP.g0
  rcases hc with ⟨c1, c2⟩ | ⟨s0, c1, c2, c3⟩ <;> rcases hm with ⟨m1, m2⟩ | ⟨s, m1, m2, m3⟩
  · omega
  · clear m3; omega
  · clear c3; omega
  · have es : s = s0 := by clear c3 m3; omega
    subst es
    have hs : s < N := by clear c3 m3; omega
    have h8 := hP.sk.1.2.2
    rcases c3 with ⟨a, b⟩ | ⟨a, a2, b⟩ | ⟨a, a2, b⟩ <;> rcases m3 with ⟨a', b'⟩ | ⟨a', a2', b'⟩ | ⟨a', a2', w, hw, b'⟩
    · rw [b, b']
    · exact absurd a' a
    · exact absurd a' a
    · exact absurd a a'
    · rw [b, b']
    · exact absurd (hP.sn.mpr a2') a2
    · exact absurd a a'
    · exact absurd (hP.sn.mp a2) a2'
    · obtain ⟨v, v1, hq, v2, v3, v4, v5⟩ := hP.tq a2' hw
      obtain ⟨y0, n0, k0, e1, e2, e3, b⟩ := b
      obtain ⟨y1, n1, k1, e4, e5, e6, b'⟩ := b'
      have e7 : y1 = y0 := by clear b b' a a'; omega
      have e8 : n1 = n0 := by clear b b' a a'; omega
      have e9 : k1 = k0 := by clear b b' a a'; omega
      subst e7 e8 e9
      have ef : (fun d => tcN (wkI (fp σ 3) (Tm (σ 114) N) (σ 16) N (bitI d)) s n1) = odT (σ 114) w (tn (wtN (σ 114) w) N) N s n1 := funext fun d => by
        show tcN (wkI (fp σ 3) (Tm (σ 114) N) (σ 16) N (bitI d)) s n1 = tcN (tkI (σ 114) w (tn (wtN (σ 114) w) N) N (bitI d)) s n1
        rw [show wkI (fp σ 3) (Tm (σ 114) N) (σ 16) N (bitI d) = wkI (fp σ 3) (Tm (σ 114) N) (stC v) N (bitI d) from funext fun m => hP.wk a2' v4 _ _ m, ← Tm_eq hw]
        exact tc_eq hq (bitI_in d) (by omega) n1
      rw [ef] at b
      exact odQ_det b b'
theorem st_runs {σ σ1 σ2 : gS} {z z1 z2 : gZ} {q1 q2 : Int} {x9 : Int} {len N D o n : Nat} (hT : iT σ len) (hP : iP σ N) (hD : iD σ D o) (hG : iG σ n) (hK : iK σ) (hz : z 0 = z 111) (hc : ((¬ (1 ≤ x9 ∧ x9 ≤ 30) ∧ q1 = -2 ∧ z1 = z) ∨ ((1 ≤ x9 ∧ x9 ≤ 30) ∧ ¬ (σ 13 0 = -9 ∧ σ 13 1 = 0 ∧ σ 13 2 = -9) ∧ q1 = -3 ∧ z1 = z) ∨ ((1 ≤ x9 ∧ x9 ≤ 30) ∧ (σ 13 0 = -9 ∧ σ 13 1 = 0 ∧ σ 13 2 = -9) ∧ ∃ m0 : Nat, x9 = (m0 : Int) ∧ q1 = rnK (wkI (fp σ 3) (Tm (σ 114) N) (σ 16) N (sdU (z 0))) m0 ∧ z1 = upr z 0 (sdI (z 0) m0))) ∧ fr (wF 8) σ σ1) (hm : ((¬ (1 ≤ x9 ∧ x9 ≤ 30) ∧ q2 = -2 ∧ z2 = z1) ∨ ((1 ≤ x9 ∧ x9 ≤ 30) ∧ ¬ sndG (σ1 114) N ∧ q2 = -3 ∧ z2 = z1) ∨ ((1 ≤ x9 ∧ x9 ≤ 30) ∧ sndG (σ1 114) N ∧ ∃ w, mClk (σ1 114) N = some w ∧ ∃ m0 : Nat, x9 = (m0 : Int) ∧ q2 = rnS (tkI (cpr (σ1 114) (σ1 115) 50) w (tn (wtN (σ1 114) w) N) N (sdU (z1 111))) (rnC (cpr (σ1 114) (σ1 115) 50) w (tn (wtN (σ1 114) w) N) N (sdU (z1 111))) m0 ∧ z2 = upr z1 111 (sdI (z1 111) m0))) ∧ fr wSc σ1 σ2) : q1 = q2 ∧ IV σ2 z2 := by
  obtain ⟨hc, hf1⟩ := hc
  obtain ⟨hm, hf2⟩ := hm
  rw [(hf1.row (fun k => rfl) : σ1 114 = σ 114)] at hm
  have fin : z2 0 = z2 111 → IV σ2 z2 := fun h => IV.same hT hP hD hG hK h (hf1.un hf2) (apI_u apI_8 apI_sc)
  rcases hc with ⟨a, b, rfl⟩ | ⟨a, a2, b, rfl⟩ | ⟨a, a2, m0, e, b, c⟩ <;> rcases hm with ⟨a', b', rfl⟩ | ⟨a', a2', b', rfl⟩ | ⟨a', a2', w, hw, m1, e', b', c'⟩
  · exact ⟨by rw [b, b'], fin hz⟩
  · exact absurd a' a
  · exact absurd a' a
  · exact absurd a a'
  · exact ⟨by rw [b, b'], fin hz⟩
  · exact absurd (hP.sn.mpr a2') a2
  · exact absurd a a'
  · exact absurd (hP.sn.mp a2) a2'
  · obtain ⟨v, v1, hq, v2, v3, v4, v5⟩ := hP.tq a2' hw
    have em : m1 = m0 := by clear b b'; omega
    subst em
    have ez : z1 111 = z 0 := by rw [c, upr_c _ _ (by decide), hz]
    refine ⟨?_, fin ?_⟩
    · rw [b, b', ez, ← Tm_eq hw, show wkI (fp σ 3) (Tm (σ 114) N) (σ 16) N (sdU (z 0)) = wkI (fp σ 3) (Tm (σ 114) N) (stC v) N (sdU (z 0)) from funext fun m => hP.wk a2' v4 _ _ m]
      exact rn_eq (hq.cong (fun k hk => cpr_50 _ _ hk)) (sdU_in (z 0)) m1
    · rw [c', upr_c _ _ (by decide), upr_eq, c, upr_eq, upr_c _ _ (by decide), hz]
theorem st_see {σ σ1 σ2 : gS} {z z1 z2 : gZ} {q1 q2 : Int} {a0 b0 c0 y : Int} {len N D o n : Nat} (hT : iT σ len) (hP : iP σ N) (hD : iD σ D o) (hG : iG σ n) (hK : iK σ) (hz : z 0 = z 111) (hc : ((¬ ((1 ≤ a0 ∧ a0 ≤ 12) ∧ (0 ≤ b0 ∧ b0 ≤ 7) ∧ (0 ≤ c0 ∧ c0 ≤ 99) ∧ (0 ≤ y ∧ y ≤ 1)) ∧ q1 = -2 ∧ σ1 = σ) ∨ (((1 ≤ a0 ∧ a0 ≤ 12) ∧ (0 ≤ b0 ∧ b0 ≤ 7) ∧ (0 ≤ c0 ∧ c0 ≤ 99) ∧ (0 ≤ y ∧ y ≤ 1)) ∧ ((n = 6 ∧ q1 = -4 ∧ σ1 = σ) ∨ (n < 6 ∧ q1 = ((n + 1 : Nat) : Int) ∧ σ1 93 0 = ((n + 1 : Nat) : Int) ∧ σ1 94 = upn (σ 94) n a0 ∧ σ1 95 = upn (σ 95) n b0 ∧ σ1 96 = upn (σ 96) n c0 ∧ σ1 97 = upn (σ 97) n (if y = 1 then 1 else 0))))) ∧ fr wSg σ σ1 ∧ z1 = z) (hm : ((¬ ((1 ≤ a0 ∧ a0 ≤ 12) ∧ (0 ≤ b0 ∧ b0 ≤ 7) ∧ (0 ≤ c0 ∧ c0 ≤ 99) ∧ (0 ≤ y ∧ y ≤ 1)) ∧ q2 = -2 ∧ fr wSc σ1 σ2) ∨ (((1 ≤ a0 ∧ a0 ≤ 12) ∧ (0 ≤ b0 ∧ b0 ≤ 7) ∧ (0 ≤ c0 ∧ c0 ≤ 99) ∧ (0 ≤ y ∧ y ≤ 1)) ∧ n = 6 ∧ q2 = -4 ∧ fr wSc σ1 σ2) ∨ (((1 ≤ a0 ∧ a0 ≤ 12) ∧ (0 ≤ b0 ∧ b0 ≤ 7) ∧ (0 ≤ c0 ∧ c0 ≤ 99) ∧ (0 ≤ y ∧ y ≤ 1)) ∧ n < 6 ∧ q2 = (n : Int) + 1 ∧ σ2 111 11 = (n : Int) + 1 ∧ σ2 119 = upn (σ1 119) n a0 ∧ σ2 120 = upn (σ1 120) n b0 ∧ σ2 121 = upn (σ1 121) n c0 ∧ σ2 122 = upn (σ1 122) n y)) ∧ fr wSn σ1 σ2 ∧ z2 = z1) : q1 = q2 ∧ IV σ2 z2 := by
  obtain ⟨hc, hf1, rfl⟩ := hc
  obtain ⟨hm, hf2, rfl⟩ := hm
  have hf := hf1.un hf2
  have kT := hT.keep hf (fun i k h => by simp [wU, wSg, wSn, wSc]; omega)
  have kP := hP.keep hf (fun i k h => by simp [wU, wSg, wSn, wSc]; omega)
  have kD := hD.keep hf (fun i k h => by simp [wU, wSg, wSn, wSc]; omega)
  have kK := hK.keep hf (fun i k h => by simp [wU, wSg, wSn, wSc]; omega)
  have fin : ∀ n', iG σ2 n' → IV σ2 z2 := fun n' h => ⟨len, N, D, o, n', kT, kP, kD, h, kK, hz⟩
  have n6 := hG.1.2.2
  rcases hc with ⟨c1, c2, rfl⟩ | ⟨c1, ⟨c2, c3, rfl⟩ | ⟨c2, c3, c4, c5, c6, c7, c8⟩⟩ <;> rcases hm with ⟨m1, m2, m3⟩ | ⟨m1, m2, m3, m4⟩ | ⟨m1, m2, m3, m4, m5, m6, m7, m8⟩
  · exact ⟨by omega, fin n (hG.keep m3 (fun i k h => apI_sc i k (by omega)))⟩
  · exact absurd m1 c1
  · exact absurd m1 c1
  · exact absurd c1 m1
  · exact ⟨by omega, fin n (hG.keep m4 (fun i k h => apI_sc i k (by omega)))⟩
  · exfalso; omega
  · exact absurd c1 m1
  · exfalso; omega
  · refine ⟨by omega, fin (n + 1) ⟨⟨by rw [hf2 93 0 rfl]; exact c4, by rw [m4]; omega, by omega⟩, fun i hi => ?_⟩⟩
    rw [m5, m6, m7, m8, hf2.row (fun k => rfl : ∀ k, wSn 94 k = false), hf2.row (fun k => rfl : ∀ k, wSn 95 k = false), hf2.row (fun k => rfl : ∀ k, wSn 96 k = false), hf2.row (fun k => rfl : ∀ k, wSn 97 k = false), c5, c6, c7, c8, hf1.row (fun k => rfl : ∀ k, wSg 119 k = false), hf1.row (fun k => rfl : ∀ k, wSg 120 k = false), hf1.row (fun k => rfl : ∀ k, wSg 121 k = false), hf1.row (fun k => rfl : ∀ k, wSg 122 k = false)]
    by_cases e : i = n
    · rw [e]
      simp only [upn_eq]
      refine ⟨⟨trivial, trivial, trivial, ?_⟩, c1.1, c1.2.1, ?_⟩
      · split <;> omega
      · split <;> omega
    · simp only [upn_ne _ _ e]
      exact hG.2 i (by omega)
theorem st_unsee {σ σ1 σ2 : gS} {z z1 z2 : gZ} {q1 q2 : Int} {len N D o n : Nat} (hT : iT σ len) (hP : iP σ N) (hD : iD σ D o) (hG : iG σ n) (hK : iK σ) (hz : z 0 = z 111) (hc : (q1 = σ 93 0 ∧ σ1 = up2 σ 93 0 0) ∧ z1 = z) (hm : (q2 = (n : Int) ∧ σ2 111 11 = 0) ∧ fr wSn σ1 σ2 ∧ z2 = z1) : q1 = q2 ∧ IV σ2 z2 := by
  obtain ⟨⟨hc, rfl⟩, rfl⟩ := hc
  obtain ⟨⟨m1, m2⟩, hf2, rfl⟩ := hm
  have hf := (fr.up (w := wSg) (σ := σ) (i := 93) (k := 0) (v := 0) rfl).un hf2
  refine ⟨by rw [hc, m1]; exact hG.1.1, len, N, D, o, 0, hT.keep hf (fun i k h => by simp [wU, wSg, wSn, wSc]; omega), hP.keep hf (fun i k h => by simp [wU, wSg, wSn, wSc]; omega), hD.keep hf (fun i k h => by simp [wU, wSg, wSn, wSc]; omega), ⟨⟨by rw [hf2 93 0 rfl, up2_eq]; rfl, by rw [m2]; rfl, by omega⟩, fun i hi => absurd hi (Nat.not_lt_zero _)⟩, hK.keep hf (fun i k h => by simp [wU, wSg, wSn, wSc]; omega), hz⟩
theorem st_seed {σ σ1 σ2 : gS} {z z1 z2 : gZ} {q1 q2 : Int64} {len N D o n : Nat} {x9 : Int64} (hT : iT σ len) (hP : iP σ N) (hD : iD σ D o) (hG : iG σ n) (hK : iK σ) (hz : z 0 = z 111) (hc : (q1 = z 0 ∧ z1 = upr z 0 x9) ∧ σ1 = σ) (hm : (q2 = z1 111 ∧ z2 = upr z1 111 x9) ∧ fr wSc σ1 σ2) : q1 = q2 ∧ IV σ2 z2 := by
  obtain ⟨⟨hc, c1⟩, rfl⟩ := hc
  obtain ⟨⟨hm, m1⟩, hf2⟩ := hm
  refine ⟨by rw [hc, hm, c1, upr_c _ _ (by decide), hz], IV.same hT hP hD hG hK ?_ hf2 apI_sc⟩
  rw [m1, upr_c _ _ (by decide), upr_eq, c1, upr_eq]
theorem st_keep {σ σ1 σ2 : gS} {z z1 z2 : gZ} {q1 q2 : Int} {x9 : Int} {len N D o n : Nat} (hT : iT σ len) (hP : iP σ N) (hD : iD σ D o) (hG : iG σ n) (hK : iK σ) (hz : z 0 = z 111) (hc : ((¬ (0 ≤ x9 ∧ x9 ≤ 1) ∧ q1 = -1 ∧ σ1 = σ) ∨ ∃ s0 : Nat, x9 = (s0 : Int) ∧ s0 < 2 ∧ q1 = fp σ 3 49 ∧ fp σ1 (101 + 5 * s0) = fp σ 3 ∧ σ1 99 = upn (σ 99) s0 1 ∧ ∀ j, j < 2 → j ≠ s0 → fp σ1 (101 + 5 * j) = fp σ (101 + 5 * j)) ∧ fr wKp σ σ1 ∧ z1 = z) (hm : ((¬ (0 ≤ x9 ∧ x9 ≤ 1) ∧ q2 = -1 ∧ fr wSc σ1 σ2) ∨ ∃ s0 : Nat, x9 = (s0 : Int) ∧ s0 < 2 ∧ q2 = σ1 114 49 ∧ σ2 118 = upn (σ1 118) s0 1 ∧ (∀ k, k < 50 → σ2 117 (50 * s0 + k) = σ1 114 k) ∧ ∀ y, (y < 50 * s0 ∨ 50 * s0 + 50 ≤ y) → σ2 117 y = σ1 117 y) ∧ fr wSl σ1 σ2 ∧ z2 = z1) : q1 = q2 ∧ IV σ2 z2 := by
  obtain ⟨hc, hf1, rfl⟩ := hc
  obtain ⟨hm, hf2, rfl⟩ := hm
  have hf := hf1.un hf2
  have kT := hT.keep hf (fun i k h => by simp [wU, wKp, wSl, wSc]; omega)
  have kP := hP.keep hf (fun i k h => by simp [wU, wKp, wSl, wSc]; omega)
  have kD := hD.keep hf (fun i k h => by simp [wU, wKp, wSl, wSc]; omega)
  have kG := hG.keep hf (fun i k h => by simp [wU, wKp, wSl, wSc]; omega)
  have fin : iK σ2 → IV σ2 z2 := fun h => ⟨len, N, D, o, n, kT, kP, kD, kG, h, hz⟩
  rcases hc with ⟨c1, c2, rfl⟩ | ⟨s, c1, c2, c3, c4, c5, c6⟩ <;> rcases hm with ⟨m1, m2, m3⟩ | ⟨s', m1, m2, m3, m4, m5, m6⟩
  · exact ⟨by omega, fin (hK.keep m3 (fun i k h => apI_sc i k (by omega)))⟩
  · clear m3 m4 m5 m6; exfalso; omega
  · clear c3 c4 c5 c6; exfalso; omega
  · have es : s' = s := by clear c3 c4 c5 c6 m3 m4 m5 m6; omega
    subst es
    have e4 : σ1 114 = σ 114 := hf1.row (fun k => by simp [wKp])
    have e8 : σ1 118 = σ 118 := hf1.row (fun k => by simp [wKp])
    have e7 : σ1 117 = σ 117 := hf1.row (fun k => by simp [wKp])
    have e9 : σ2 99 = σ1 99 := hf2.row (fun k => by simp [wSl, wSc])
    refine ⟨by rw [c3, m3, e4]; exact hP.1.1.2.2.1, fin (fun j hj => ?_)⟩
    have ef : fp σ2 (101 + 5 * j) = fp σ1 (101 + 5 * j) := fp_fr hf2 ⟨by simp [wSl, wSc]; omega, by simp [wSl, wSc]; omega, fun i k h1 h2 => by simp [wSl, wSc]; omega⟩
    rw [ef, e9, c5, m4, e8]
    by_cases e : j = s'
    · subst e
      rw [upn_eq, upn_eq, c4]
      refine ⟨Or.inr rfl, rfl, fun _ => ⟨N, hP.1.cong (fun k hk => by rw [m5 k hk, e4])⟩⟩
    · rw [upn_ne _ _ e, upn_ne _ _ e, c6 j hj e]
      obtain ⟨k1, k2, k3⟩ := hK j hj
      refine ⟨k1, k2, fun h => ?_⟩
      obtain ⟨M, hM⟩ := k3 h
      exact ⟨M, hM.cong (fun k hk => by rw [m6 _ (by omega), e7])⟩
