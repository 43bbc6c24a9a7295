theorem iP.val {σ : gS} {N : Nat} (h : iP σ N) {s : Nat} (hs : s < N) : fp σ 3 (41 + s) = σ 114 (41 + s) := by
  have h8 := h.sk.1.2.2
  rcases h.1.1.2.2.2 s (by omega) with e | e
  · exact e
  · omega
theorem iP.n0 {σ : gS} {N : Nat} (h : iP σ N) : σ 3 0 = (N : Int) := h.sk.1.1
theorem iP.g0 {σ : gS} {N : Nat} (h : iP σ N) : σ 114 0 = (N : Int) := h.sk.1.2.1
theorem iP.t9 {σ : gS} {N : Nat} (h : iP σ N) : σ 3 1 = σ 114 49 := h.1.1.2.2.1
theorem st_write {σ σ1 σ2 : gS} {z z1 z2 : gZ} {q1 q2 : Int} {v : Int} {len N D o n : Nat} (hT : iT σ len) (hP : iP σ N) (hD : iD σ D o) (hG : iG σ n) (hK : iK σ) (hz : z 0 = z 111) (hc : ((¬ (0 ≤ v ∧ v ≤ 255) ∧ q1 = -2 ∧ σ1 = σ) ∨ ((0 ≤ v ∧ v ≤ 255) ∧ ((len = 40 ∧ q1 = -4 ∧ σ1 = σ) ∨ (len < 40 ∧ q1 = ((len + 1 : Nat) : Int) ∧ σ1 1 1 = ((len + 1 : Nat) : Int) ∧ σ1 2 = upn (σ 2) len v)))) ∧ fr wTc σ σ1 ∧ z1 = z) (hm : ((¬ (0 ≤ v ∧ v ≤ 255) ∧ q2 = -2 ∧ fr wSc σ1 σ2) ∨ ((0 ≤ v ∧ v ≤ 255) ∧ len = 40 ∧ q2 = -4 ∧ fr wSc σ1 σ2) ∨ ((0 ≤ v ∧ v ≤ 255) ∧ len < 40 ∧ q2 = (len : Int) + 1 ∧ σ2 111 2 = (len : Int) + 1 ∧ σ2 112 = upn (σ1 112) len v)) ∧ fr wTx σ1 σ2 ∧ z2 = z1) : q1 = q2 ∧ IV σ2 z2 := by
  obtain ⟨hc, hf1, rfl⟩ := hc
  obtain ⟨hm, hf2, rfl⟩ := hm
  have hf := hf1.un hf2
  have kP := hP.keep hf (fun i k h => by simp [wU, wTc, wTx, wSc]; omega)
  have kD := hD.keep hf (fun i k h => by simp [wU, wTc, wTx, wSc]; omega)
  have kG := hG.keep hf (fun i k h => by simp [wU, wTc, wTx, wSc]; omega)
  have kK := hK.keep hf (fun i k h => by simp [wU, wTc, wTx, wSc]; omega)
  have fin : ∀ len', iT σ2 len' → IV σ2 z2 := fun len' h => ⟨len', N, D, o, n, h, kP, kD, kG, kK, hz⟩
  rcases hc with ⟨c1, c2, rfl⟩ | ⟨c1, ⟨c2, c3, rfl⟩ | ⟨c2, c3, c4, c5⟩⟩ <;> rcases hm with ⟨m1, m2, m3⟩ | ⟨m1, m2, m3, m4⟩ | ⟨m1, m2, m3, m4, m5⟩
  · exact ⟨by omega, fin len (hT.keep m3 (fun i k h => apI_sc i k (Or.inl h)))⟩
  · exact absurd m1 c1
  · exact absurd m1 c1
  · exact absurd c1 m1
  · exact ⟨by omega, fin len (hT.keep m4 (fun i k h => apI_sc i k (Or.inl h)))⟩
  · exfalso; omega
  · exact absurd c1 m1
  · exfalso; omega
  · refine ⟨by omega, fin (len + 1) ⟨?_, by rw [m4]; omega, ⟨by omega, fun k hk => ?_⟩, fun k hk => ?_⟩⟩
    · rw [hf2 1 1 rfl]; exact c4
    · rw [m5, hf1.row (fun k => rfl)]
      by_cases e : k = len
      · rw [e, upn_eq]; exact c1
      · rw [upn_ne _ _ e]; exact hT.2.2.1.2 k (by omega)
    · rw [m5, hf1.row (fun k => rfl), hf2.row (fun k => rfl), c5]
      by_cases e : k = len
      · rw [e, upn_eq, upn_eq]
      · rw [upn_ne _ _ e, upn_ne _ _ e]; exact hT.2.2.2 k (by omega)
theorem st_wipe {σ σ1 σ2 : gS} {z z1 z2 : gZ} {q1 q2 : Int} {len N D o n : Nat} (hT : iT σ len) (hP : iP σ N) (hD : iD σ D o) (hG : iG σ n) (hK : iK σ) (hz : z 0 = z 111) (hc : (q1 = σ 1 1 ∧ σ1 = up2 σ 1 1 0) ∧ z1 = z) (hm : (q2 = (len : Int) ∧ σ2 111 2 = 0 ∧ σ2 112 = σ1 112) ∧ fr wTx σ1 σ2 ∧ z2 = z1) : q1 = q2 ∧ IV σ2 z2 := by
  obtain ⟨⟨hc, rfl⟩, rfl⟩ := hc
  obtain ⟨⟨m1, m2, m3⟩, hf2, rfl⟩ := hm
  have hf := (fr.up (w := wTc) (σ := σ) (i := 1) (k := 1) (v := 0) rfl).un hf2
  refine ⟨by rw [hc, m1]; exact hT.1, 0, N, D, o, n, ⟨?_, by rw [m2]; rfl, ⟨by omega, fun k hk => absurd hk (Nat.not_lt_zero _)⟩, fun k hk => absurd hk (Nat.not_lt_zero _)⟩, hP.keep hf (fun i k h => by simp [wU, wTc, wTx, wSc]; omega), hD.keep hf (fun i k h => by simp [wU, wTc, wTx, wSc]; omega), hG.keep hf (fun i k h => by simp [wU, wTc, wTx, wSc]; omega), hK.keep hf (fun i k h => by simp [wU, wTc, wTx, wSc]; omega), hz⟩
  rw [hf2 1 1 rfl, up2_eq]; rfl
theorem st_fault {σ σ1 σ2 : gS} {z z1 z2 : gZ} {q1 q2 : Int} {len N D o n : Nat} (hT : iT σ len) (hP : iP σ N) (hD : iD σ D o) (hG : iG σ n) (hK : iK σ) (hz : z 0 = z 111) (hc : (q1 = fltT (σ 2) len) ∧ fr (wF 8) σ σ1 ∧ z1 = z) (hm : (q2 = fltT (σ1 112) len ∧ (q2 = -9 → σ2 113 = rowT (σ1 112) len (zr (σ1 113) 50))) ∧ fr wPub σ1 σ2 ∧ z2 = z1) : q1 = q2 ∧ IV σ2 z2 := by
  obtain ⟨hc, hf1, rfl⟩ := hc
  obtain ⟨⟨m1, -⟩, hf2, rfl⟩ := hm
  refine ⟨?_, IV.same hT hP hD hG hK hz (hf1.un (hf2.mono sc_pub)) (apI_u apI_8 apI_sc)⟩
  rw [hc, m1, hf1.row (fun k => rfl), fltT_tx hT.2.2.2]
theorem st_about {σ σ1 σ2 : gS} {z z1 z2 : gZ} {q1 q2 : Int} {y : Int} {len N D o n : Nat} (hT : iT σ len) (hP : iP σ N) (hD : iD σ D o) (hG : iG σ n) (hK : iK σ) (hz : z 0 = z 111) (hc : ((y = 0 ∧ q1 = σ 3 0) ∨ (y = 1 ∧ q1 = σ 13 0) ∨ (y = 2 ∧ q1 = σ 13 1) ∨ (y = 3 ∧ q1 = σ 13 2) ∨ (y = 4 ∧ (((σ 13 0 = -9 ∧ σ 13 1 = 0 ∧ σ 13 2 = -9) ∧ q1 = 1) ∨ (¬ (σ 13 0 = -9 ∧ σ 13 1 = 0 ∧ σ 13 2 = -9) ∧ q1 = 0))) ∨ (y = 5 ∧ q1 = σ 3 1) ∨ (y = 6 ∧ q1 = ((tbC (fp σ 3) 8 : Nat) : Int)) ∨ (y = 7 ∧ q1 = σ 21 0) ∨ (y = 8 ∧ q1 = σ 93 0) ∨ (y = 9 ∧ q1 = σ 1 1) ∨ ((y < 0 ∨ 9 < y) ∧ q1 = -2)) ∧ σ1 = σ ∧ z1 = z) (hm : abP (σ1 114) N (σ1 111 8) (σ1 111 11) (σ1 111 2) y q2 ∧ fr wSc σ1 σ2 ∧ z2 = z1) : q1 = q2 ∧ IV σ2 z2 := by
  obtain ⟨hc, rfl, rfl⟩ := hc
  obtain ⟨⟨cl, kn, rw_, hv, hm⟩, hf2, rfl⟩ := hm
  refine ⟨?_, IV.same hT hP hD hG hK hz hf2 apI_sc⟩
  obtain ⟨e1, e2, e3⟩ := hP.an hv
  have sn := hP.sn
  have a0 := hP.n0
  have b0 := hP.g0
  have t9 := hP.t9
  have tb := thb_tb hP.sk.1.2.2 (fun s hs => hP.val hs) hP.1.2.2.2.2.1.2
  have d1 := hD.1
  have g1 := hG.1
  have t1 := hT.1
  have t2 := hT.2.1
  by_cases h4 : y = 4
  · have c4 : (SNc σ1 ∧ q1 = 1) ∨ (¬ SNc σ1 ∧ q1 = 0) := by
      rcases hc with ⟨a, b⟩ | ⟨a, b⟩ | ⟨a, b⟩ | ⟨a, b⟩ | ⟨a, b⟩ | ⟨a, b⟩ | ⟨a, b⟩ | ⟨a, b⟩ | ⟨a, b⟩ | ⟨a, b⟩ | ⟨a, b⟩
      all_goals first | exact b | (exfalso; omega)
    have m4 : (q2 = 1 ∧ sndG (σ1 114) N) ∨ (q2 = 0 ∧ ¬ sndG (σ1 114) N) := by
      rcases hm with ⟨a, b⟩ | ⟨a, b⟩ | ⟨a, b⟩ | ⟨a, b⟩ | ⟨a, b⟩ | ⟨a, b⟩ | ⟨a, b⟩ | ⟨a, b⟩ | ⟨a, b⟩ | ⟨a, b⟩ | ⟨a, b⟩
      all_goals first | exact b | (exfalso; omega)
    rcases c4 with ⟨a, b⟩ | ⟨a, b⟩ <;> rcases m4 with ⟨a', b'⟩ | ⟨a', b'⟩
    · omega
    · exact absurd (sn.mp a) b'
    · exact absurd (sn.mpr b') a
    · omega
  · rcases hc with ⟨a, b⟩ | ⟨a, b⟩ | ⟨a, b⟩ | ⟨a, b⟩ | ⟨a, b⟩ | ⟨a, b⟩ | ⟨a, b⟩ | ⟨a, b⟩ | ⟨a, b⟩ | ⟨a, b⟩ | ⟨a, b⟩
    all_goals first | (exfalso; omega) | skip
    all_goals rcases hm with ⟨a', b'⟩ | ⟨a', b'⟩ | ⟨a', b'⟩ | ⟨a', b'⟩ | ⟨a', b'⟩ | ⟨a', b'⟩ | ⟨a', b'⟩ | ⟨a', b'⟩ | ⟨a', b'⟩ | ⟨a', b'⟩ | ⟨a', b'⟩
    all_goals first | (exfalso; omega) | (rw [b, b', tb]) | omega
theorem st_stream {σ σ1 σ2 : gS} {z z1 z2 : gZ} {q1 q2 : Int} {x9 y : Int} {len N D o n : Nat} (hT : iT σ len) (hP : iP σ N) (hD : iD σ D o) (hG : iG σ n) (hK : iK σ) (hz : z 0 = z 111) (hc : ((¬ (0 ≤ x9 ∧ x9 < σ 3 0) ∧ q1 = -1) ∨ ∃ s0 : Nat, x9 = (s0 : Int) ∧ (s0 : Int) < σ 3 0 ∧ ((y = 0 ∧ q1 = fp σ 3 (1 + s0)) ∨ (y = 1 ∧ ((σ 13 0 = -9 ∧ q1 = σ 17 s0) ∨ (σ 13 0 ≠ -9 ∧ q1 = -9))) ∨ (y = 2 ∧ ((σ 13 0 = -9 ∧ q1 = σ 18 s0) ∨ (σ 13 0 ≠ -9 ∧ q1 = -9))) ∨ (y = 3 ∧ ((σ 13 0 = -9 ∧ q1 = σ 20 s0) ∨ (σ 13 0 ≠ -9 ∧ q1 = -9))) ∨ (y = 4 ∧ q1 = fp σ 3 (41 + s0)) ∨ ((y < 0 ∨ 4 < y) ∧ q1 = -2))) ∧ σ1 = σ ∧ z1 = z) (hm : stP (σ1 114) N x9 y q2 ∧ fr wSc σ1 σ2 ∧ z2 = z1) : q1 = q2 ∧ IV σ2 z2 := by
  obtain ⟨hc, rfl, rfl⟩ := hc
  obtain ⟨hm, hf2, rfl⟩ := hm
  refine ⟨?_, IV.same hT hP hD hG hK hz hf2 apI_sc⟩
  have a0 := hP.n0
  have b0 := hP.g0
  rcases hc with ⟨c1, c2⟩ | ⟨s0, c1, c2, c3⟩ <;> rcases hm with ⟨m1, m2⟩ | ⟨s, m1, m2, m3⟩
  · omega
  · clear m3; omega
  · clear c3; omega
  · have es : s = s0 := by clear c3 m3; omega
    subst es
    have hs : s < N := by clear c3 m3; omega
    have h8 := hP.sk.1.2.2
    have eK := (hP.sk.2.1 s hs).1
    have eV := hP.val hs
    rcases hP.ck with ⟨k1, k2⟩ | ⟨k1, w, v, k2, k3, k4, k5, k6, k7, k8, k9, k10⟩
    · rcases m3 with ⟨a, b⟩ | ⟨a, b⟩ | ⟨a, b⟩ | ⟨a, a', b⟩ | ⟨w, e, -⟩
      · rcases c3 with ⟨a', b'⟩ | ⟨a', ⟨-, b'⟩ | ⟨-, b'⟩⟩ | ⟨a', ⟨-, b'⟩ | ⟨-, b'⟩⟩ | ⟨a', ⟨-, b'⟩ | ⟨-, b'⟩⟩ | ⟨a', b'⟩ | ⟨a', b'⟩
        all_goals first | (exfalso; omega) | (rw [b, b', eK])
      · rcases c3 with ⟨a', b'⟩ | ⟨a', ⟨-, b'⟩ | ⟨-, b'⟩⟩ | ⟨a', ⟨-, b'⟩ | ⟨-, b'⟩⟩ | ⟨a', ⟨-, b'⟩ | ⟨-, b'⟩⟩ | ⟨a', b'⟩ | ⟨a', b'⟩
        all_goals first | (exfalso; omega) | (rw [b, b', eV])
      · rcases c3 with ⟨a', b'⟩ | ⟨a', ⟨-, b'⟩ | ⟨-, b'⟩⟩ | ⟨a', ⟨-, b'⟩ | ⟨-, b'⟩⟩ | ⟨a', ⟨-, b'⟩ | ⟨-, b'⟩⟩ | ⟨a', b'⟩ | ⟨a', b'⟩
        all_goals omega
      · rcases c3 with ⟨a', b'⟩ | ⟨a', ⟨c', b'⟩ | ⟨-, b'⟩⟩ | ⟨a', ⟨c', b'⟩ | ⟨-, b'⟩⟩ | ⟨a', ⟨c', b'⟩ | ⟨-, b'⟩⟩ | ⟨a', b'⟩ | ⟨a', b'⟩
        all_goals first | (exfalso; omega) | omega
      · rw [k2] at e; cases e
    · rcases m3 with ⟨a, b⟩ | ⟨a, b⟩ | ⟨a, b⟩ | ⟨a, a', b⟩ | ⟨w', e, m3⟩
      · rcases c3 with ⟨a', b'⟩ | ⟨a', ⟨-, b'⟩ | ⟨-, b'⟩⟩ | ⟨a', ⟨-, b'⟩ | ⟨-, b'⟩⟩ | ⟨a', ⟨-, b'⟩ | ⟨-, b'⟩⟩ | ⟨a', b'⟩ | ⟨a', b'⟩
        all_goals first | (exfalso; omega) | (rw [b, b', eK])
      · rcases c3 with ⟨a', b'⟩ | ⟨a', ⟨-, b'⟩ | ⟨-, b'⟩⟩ | ⟨a', ⟨-, b'⟩ | ⟨-, b'⟩⟩ | ⟨a', ⟨-, b'⟩ | ⟨-, b'⟩⟩ | ⟨a', b'⟩ | ⟨a', b'⟩
        all_goals first | (exfalso; omega) | (rw [b, b', eV])
      · rcases c3 with ⟨a', b'⟩ | ⟨a', ⟨-, b'⟩ | ⟨-, b'⟩⟩ | ⟨a', ⟨-, b'⟩ | ⟨-, b'⟩⟩ | ⟨a', ⟨-, b'⟩ | ⟨-, b'⟩⟩ | ⟨a', b'⟩ | ⟨a', b'⟩
        all_goals omega
      · rw [k2] at a'; cases a'
      · rw [k2] at e
        cases e
        have e1 := k8 s hs
        have e2 := k9 s hs
        have e3 := k10 s hs
        have e4 := st_dN k4 k5 (show s < 8 by omega)
        rcases c3 with ⟨a', b'⟩ | ⟨a', ⟨c', b'⟩ | ⟨c', b'⟩⟩ | ⟨a', ⟨c', b'⟩ | ⟨c', b'⟩⟩ | ⟨a', ⟨c', b'⟩ | ⟨c', b'⟩⟩ | ⟨a', b'⟩ | ⟨a', b'⟩
        all_goals rcases m3 with ⟨a, b⟩ | ⟨a, b⟩ | ⟨a, b⟩
        all_goals first | (exfalso; omega) | (rw [b, b', e1, e4]) | (rw [b, b', e2]) | (rw [b, b', e3])
theorem st_figure {σ σ1 σ2 : gS} {z z1 z2 : gZ} {q1 q2 : Int} {x9 y : Int} {len N D o n : Nat} (hT : iT σ len) (hP : iP σ N) (hD : iD σ D o) (hG : iG σ n) (hK : iK σ) (hz : z 0 = z 111) (hc : ((¬ (0 ≤ x9 ∧ x9 < σ 3 0) ∧ q1 = -1) ∨ ∃ s0 : Nat, x9 = (s0 : Int) ∧ (s0 : Int) < σ 3 0 ∧ ((¬ (0 ≤ y ∧ y < ((fgz (fp σ 3 (1 + s0)) : Nat) : Int)) ∧ q1 = -1) ∨ ((0 ≤ y ∧ y < ((fgz (fp σ 3 (1 + s0)) : Nat) : Int)) ∧ q1 = fp σ 3 (9 + 3 * s0 + y.toNat)))) ∧ σ1 = σ ∧ z1 = z) (hm : ((¬ (0 ≤ x9 ∧ x9 < σ1 114 0) ∧ q2 = -1) ∨ ∃ s : Nat, x9 = (s : Int) ∧ (s : Int) < σ1 114 0 ∧ ((¬ (0 ≤ y ∧ y < (fgz (σ1 114 (1 + s)) : Int)) ∧ q2 = -1) ∨ ∃ i : Nat, y = (i : Int) ∧ i < fgz (σ1 114 (1 + s)) ∧ q2 = σ1 114 (9 + 3 * s + i))) ∧ fr wSc σ1 σ2 ∧ z2 = z1) : q1 = q2 ∧ IV σ2 z2 := by
  obtain ⟨hc, rfl, rfl⟩ := hc
  obtain ⟨hm, hf2, rfl⟩ := hm
  refine ⟨?_, IV.same hT hP hD hG hK hz hf2 apI_sc⟩
  have a0 := hP.n0
  have b0 := hP.g0
  rcases hc with ⟨c1, c2⟩ | ⟨s0, c1, c2, c3⟩ <;> rcases hm with ⟨m1, m2⟩ | ⟨s, m1, m2, m3⟩
  · omega
  · clear m3; omega
  · clear c3; omega
  · have es : s = s0 := by clear c3 m3; omega
    subst es
    have hs : s < N := by clear c3 m3; omega
    obtain ⟨eK, eF⟩ := hP.sk.2.1 s hs
    rw [eK] at c3
    have fz := fgz_in (σ1 114 (1 + s))
    rcases c3 with ⟨a, b⟩ | ⟨a, b⟩ <;> rcases m3 with ⟨a', b'⟩ | ⟨i, e, a', b'⟩
    · omega
    · omega
    · omega
    · rw [b, b', show y.toNat = i by omega]; exact eF i (by omega)
theorem st_clock {σ σ1 σ2 : gS} {z z1 z2 : gZ} {q1 q2 : Int} {x9 y : Int} {len N D o n : Nat} (hT : iT σ len) (hP : iP σ N) (hD : iD σ D o) (hG : iG σ n) (hK : iK σ) (hz : z 0 = z 111) (hc : ((¬ (0 ≤ x9 ∧ x9 < σ 3 0) ∧ q1 = -1) ∨ ∃ s0 : Nat, x9 = (s0 : Int) ∧ (s0 : Int) < σ 3 0 ∧ ((¬ ((0 ≤ y ∧ y < ((dCr (Sv (fp σ 3) N) 8 s0 : Nat) : Int)) ∧ σ 13 0 = -9) ∧ q1 = -1) ∨ (((0 ≤ y ∧ y < ((dCr (Sv (fp σ 3) N) 8 s0 : Nat) : Int)) ∧ σ 13 0 = -9) ∧ q1 = (Sv (fp σ 3) N) (itr (sN (Sv (fp σ 3) N)) (dCr (Sv (fp σ 3) N) 8 s0 - 1 - y.toNat) s0)))) ∧ σ1 = σ ∧ z1 = z) (hm : ckP (σ1 114) N x9 y q2 ∧ fr wSc σ1 σ2 ∧ z2 = z1) : q1 = q2 ∧ IV σ2 z2 := by
  obtain ⟨hc, rfl, rfl⟩ := hc
  obtain ⟨hm, hf2, rfl⟩ := hm
  refine ⟨?_, IV.same hT hP hD hG hK hz hf2 apI_sc⟩
  have a0 := hP.n0
  have b0 := hP.g0
  rcases hc with ⟨c1, c2⟩ | ⟨s0, c1, c2, c3⟩ <;> rcases hm with ⟨m1, m2⟩ | ⟨s, m1, m2, m3⟩
  · omega
  · clear m3; omega
  · clear c3; omega
  · have es : s = s0 := by clear c3 m3; omega
    subst es
    have hs : s < N := by clear c3 m3; omega
    have h8 := hP.sk.1.2.2
    rcases hP.ck with ⟨k1, k2⟩ | ⟨k1, w, v, k2, k3, k4, k5, k6, k7, k8, -, -⟩
    · rcases c3 with ⟨a, b⟩ | ⟨a, b⟩
      · rcases m3 with ⟨a', b'⟩ | ⟨w, e, -⟩
        · omega
        · rw [k2] at e; cases e
      · exact absurd a.2 k1
    · have eS0 : Sv (fp σ1 3) N = stC v := by unfold Sv; rw [k3]; rfl
      rw [eS0] at c3
      have e4 := st_dN k4 k5 (show s < 8 by omega)
      rw [← e4] at c3
      rcases m3 with ⟨a', b'⟩ | ⟨w', e, m3⟩
      · rw [k2] at a'; cases a'
      · rw [k2] at e
        cases e
        rcases c3 with ⟨a, b⟩ | ⟨a, b⟩ <;> rcases m3 with ⟨a', b'⟩ | ⟨d, e, a', b'⟩
        · omega
        · exact absurd ⟨by omega, k1⟩ a
        · omega
        · rw [b, b', st_at k4 k5 (show s < 8 by omega) (show dN w s - 1 - d < dN w s by omega), show y.toNat = d by omega]
