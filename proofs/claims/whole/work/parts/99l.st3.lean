/-- one doing more -/
theorem iD.note {σ σ1 σ2 : gS} {D o N : Nat} (h : iD σ D o) (hp : Pg (fp σ 3) (σ 114) N) (hr : rmC (fp σ 3) D o σ σ1) (e4 : σ1 114 = σ 114) (e6 : σ1 116 = σ 116) (hn : ∃ D' : Nat, σ2 111 8 = (D' : Int) ∧ D' ≤ 14 ∧ 0 < D' ∧ noteR D D' σ1 σ2 ∧ noteP D' σ1 σ2) (hs : ∀ i k, 21 ≤ i → i ≤ 92 → σ2 i k = σ1 i k) : ∃ D' o', iD σ2 D' o' := by
  obtain ⟨D', n1, n2, n3, n4, n5⟩ := hn
  obtain ⟨r1, r2, r3⟩ := hr
  obtain ⟨⟨d1, d2, d3⟩, ⟨d4, d5⟩, d6⟩ := h
  have ef : ∀ j, j < 14 → fp σ2 (23 + 5 * j) = fp σ1 (23 + 5 * j) := fun j hj => fp_cong (hs _ _ (by omega) (by omega)) (fun _ _ => hs _ _ (by omega) (by omega)) (fun _ _ => hs _ _ (by omega) (by omega)) (fun _ _ => hs _ _ (by omega) (by omega)) (fun _ _ => hs _ _ (by omega) (by omega)) (hs _ _ (by omega) (by omega))
  rcases n4 with ⟨a1, a2, a3⟩ | ⟨a1, a2, a3⟩
  · have r4 : σ1 21 0 = (D : Int) + 1 ∧ σ1 21 1 = (o : Int) := by
      rcases r2 with q | q
      · exact q.2
      · omega
    refine ⟨D + 1, o, ⟨by rw [hs 21 0 (by omega) (by omega), r4.1]; omega, by rw [hs 21 1 (by omega) (by omega)]; exact r4.2, by rw [n1, a2]⟩, ⟨by omega, d5⟩, fun i hi => ?_⟩
    rw [ef _ (by omega)]
    by_cases q : i = D
    · subst q
      refine ⟨N, ?_⟩
      rw [r1]
      refine hp.cong (fun k hk => ?_)
      have := n5 k hk
      rw [a2, show i + 1 - 1 = i by omega, e4] at this
      exact this
    · obtain ⟨M, hM⟩ := d6 i (by omega)
      refine ⟨M, ?_⟩
      rw [r3 _ (by omega) (by omega)]
      exact hM.cong (fun k hk => by rw [a3 _ (by omega), e6])
  · have r4 : σ1 21 0 = 14 ∧ σ1 21 1 = (((o + 1) % 14 : Nat) : Int) := by
      rcases r2 with q | q
      · omega
      · exact q.2
    refine ⟨14, (o + 1) % 14, ⟨by rw [hs 21 0 (by omega) (by omega), r4.1]; rfl, by rw [hs 21 1 (by omega) (by omega)]; exact r4.2, by rw [n1, a2]⟩, ⟨by omega, by omega⟩, fun i hi => ?_⟩
    rw [ef _ (by omega)]
    by_cases q : i = 13
    · subst q
      refine ⟨N, ?_⟩
      rw [show ((o + 1) % 14 + 13) % 14 = (o + D) % 14 by omega, r1]
      refine hp.cong (fun k hk => ?_)
      have := n5 k hk
      rw [a2, e4] at this
      exact this
    · obtain ⟨M, hM⟩ := d6 (i + 1) (by omega)
      refine ⟨M, ?_⟩
      rw [show ((o + 1) % 14 + i) % 14 = (o + (i + 1)) % 14 by omega, r3 _ (by omega) (by omega)]
      exact hM.cong (fun k hk => by rw [a3 _ (by omega), e6, show 50 * i + k + 50 = 50 * (i + 1) + k by omega])
def Nk (σ : gS) (j : Nat) : Nat := (fp σ (101 + 5 * j) 0).toNat
theorem iK.cw {σ : gS} (h : iK σ) : ∀ j, j < 2 → σ 99 j ≠ 0 → cW (fp σ (101 + 5 * j)) (Nk σ j) := fun j hj hn => by
  obtain ⟨M, hM⟩ := (h j hj).2.2 hn
  have e : Nk σ j = M := by unfold Nk; rw [hM.1.1.1.1]; omega
  rw [e]; exact cW_of hM.1.1 hM.2.1
def Nu (σ : gS) (D o : Nat) : Nat := (fp σ (23 + 5 * ((o + (D - 1)) % 14)) 0).toNat
theorem iD.cw {σ : gS} {D o : Nat} (h : iD σ D o) : 0 < D → cW (fp σ (23 + 5 * ((o + (D - 1)) % 14))) (Nu σ D o) := fun hn => by
  obtain ⟨M, hM⟩ := h.2.2 (D - 1) (by omega)
  have e : Nu σ D o = M := by unfold Nu; rw [hM.1.1.1.1]; omega
  rw [e]; exact cW_of hM.1.1 hM.2.1
theorem cAw_fr {c : Nat → Int} {N : Nat} {σ σ' : gS} {w : Nat → Nat → Bool} (h : cAw c N σ) (hf : fr w σ σ') (hw : ∀ i k, 13 ≤ i → i ≤ 20 → w i k = false) : cAw c N σ' := h.keep (fun i k a b => hf i k (hw i k a b))
theorem st_tick {σ σ1 σ2 : gS} {z z1 z2 : gZ} {q1 q2 : Int} {a0 b0 : Int} {len N D o n : Nat} (hT : iT σ len) (hP : iP σ N) (hD : iD σ D o) (hG : iG σ n) (hK : iK σ) (hz : z 0 = z 111) (hc : ((¬ ((0 ≤ a0 ∧ a0 ≤ 99) ∧ (0 ≤ b0 ∧ b0 ≤ 99)) ∧ q1 = -2 ∧ σ1 = σ) ∨ (((0 ≤ a0 ∧ a0 ≤ 99) ∧ (0 ≤ b0 ∧ b0 ≤ 99)) ∧ ¬ (σ 13 0 = -9 ∧ σ 13 1 = 0 ∧ σ 13 2 = -9) ∧ q1 = -3 ∧ σ1 = σ) ∨ (((0 ≤ a0 ∧ a0 ≤ 99) ∧ (0 ≤ b0 ∧ b0 ≤ 99)) ∧ (σ 13 0 = -9 ∧ σ 13 1 = 0 ∧ σ 13 2 = -9) ∧ fp σ1 3 = (wkC (fp σ 3) (Tm (σ 114) N) (σ 16) N a0 b0) ∧ rmC (fp σ 3) D o σ σ1 ∧ q1 = ((pcN (tbC (wkC (fp σ 3) (Tm (σ 114) N) (σ 16) N a0 b0) 8) 8 : Nat) : Int))) ∧ fr wNd σ σ1 ∧ z1 = z) (hm : ((¬ ((0 ≤ a0 ∧ a0 ≤ 99) ∧ (0 ≤ b0 ∧ b0 ≤ 99)) ∧ q2 = -2 ∧ fr wSc σ1 σ2) ∨ (((0 ≤ a0 ∧ a0 ≤ 99) ∧ (0 ≤ b0 ∧ b0 ≤ 99)) ∧ ¬ sndG (σ1 114) N ∧ q2 = -3 ∧ fr wSc σ1 σ2) ∨ (((0 ≤ a0 ∧ a0 ≤ 99) ∧ (0 ≤ b0 ∧ b0 ≤ 99)) ∧ sndG (σ1 114) N ∧ (∃ w, mClk (σ1 114) N = some w ∧ σ2 114 = tkM (σ1 114) w (tn (wtN (σ1 114) w) N) N a0 b0 ∧ q2 = ((mN (σ1 114) w (tn (wtN (σ1 114) w) N) a0 b0 N : Nat) : Int)) ∧ (∃ D' : Nat, σ2 111 8 = (D' : Int) ∧ D' ≤ 14 ∧ 0 < D' ∧ noteR D D' σ1 σ2 ∧ noteP D' σ1 σ2))) ∧ fr wPg σ1 σ2 ∧ z2 = z1) : q1 = q2 ∧ IV σ2 z2 := by
  obtain ⟨hc, hf1, rfl⟩ := hc
  obtain ⟨hm, hf2, rfl⟩ := hm
  have e4 : σ1 114 = σ 114 := hf1.row (fun k => by simp [wNd, wF])
  have e6 : σ1 116 = σ 116 := hf1.row (fun k => by simp [wNd, wF])
  rw [e4] at hm
  have hf := hf1.un hf2
  have kT := hT.keep hf (fun i k h => by simp [wU, wNd, wF, wPg, wSc]; omega)
  have kG := hG.keep hf (fun i k h => by simp [wU, wNd, wF, wPg, wSc]; omega)
  have kK := hK.keep hf (fun i k h => by simp [wU, wNd, wF, wPg, wSc]; omega)
  rcases hc with ⟨a, b, rfl⟩ | ⟨a, a2, b, rfl⟩ | ⟨a, a2, b1, b2, b3⟩ <;> rcases hm with ⟨a', b', m⟩ | ⟨a', a2', b', m⟩ | ⟨a', a2', ⟨w, hw, b1', b3'⟩, b2'⟩
  · exact ⟨by rw [b, b'], IV.same hT hP hD hG hK hz m apI_sc⟩
  · exact absurd a' a
  · exact absurd a' a
  · exact absurd a a'
  · exact ⟨by rw [b, b'], IV.same hT hP hD hG hK hz m apI_sc⟩
  · exact absurd (hP.sn.mpr a2') a2
  · exact absurd a a'
  · exact absurd (hP.sn.mp a2) a2'
  · obtain ⟨v, v1, hX, v2, v3, v4, v5, v6⟩ := hP.go a2' hw
    have hT' : ∀ j, j < N → Tm (σ 114) N j < N := fun j hj => (hP.tt a2 j hj).2.2
    rw [wkC_S hT' v4, Tm_eq hw] at b1 b3
    have hk := hP.1.tk v1 hX a.1 a.2
    obtain ⟨D', o', hD'⟩ := hD.note hP.1 b2 e4 e6 b2' (fun i k h1 h2 => hf2 i k (by simp [wPg, wSc]; omega))
    have e3 : fp σ2 3 = fp σ1 3 := fp_fr hf2 ⟨by simp [wPg, wSc], by simp [wPg, wSc], fun i k h1 h2 => by simp [wPg, wSc]; omega⟩
    have low : ∀ k, k < 33 → fp σ2 3 k = fp σ 3 k := fun k hk2 => by
      rw [e3, b1]
      unfold wkC
      rw [upn_ne _ _ (by omega), kpC_out _ N (by omega), wkV_low _ _ _ _ _ (by omega) N (fun i hi => (v6 i hi).2.1)]
    obtain ⟨c0, p2, p3⟩ := hP.2
    refine ⟨?_, len, N, D', o', n, kT, ⟨?_, c0, fun k hk2 => by rw [low k hk2]; exact p2 k hk2, cAw_fr p3 hf (fun i k h1 h2 => by simp [wU, wNd, wF, wPg, wSc]; omega)⟩, hD', kG, kK, hz⟩
    · rw [b3, b3', hk.2, pcN_ct _ 8 8 (Nat.le_refl 8)]
    · rw [e3, b1, b1']; exact hk.1
theorem st_afresh {σ σ1 σ2 : gS} {z z1 z2 : gZ} {q1 q2 : Int} {len N D o n : Nat} (hT : iT σ len) (hP : iP σ N) (hD : iD σ D o) (hG : iG σ n) (hK : iK σ) (hz : z 0 = z 111) (hc : (q1 = fp σ 3 49 ∧ fp σ1 3 = rsC (fp σ 3) ∧ rmC (fp σ 3) D o σ σ1) ∧ fr wNd σ σ1 ∧ z1 = z) (hm : (q2 = σ1 114 49 ∧ σ2 114 = afM (σ1 114) ∧ (∃ D' : Nat, σ2 111 8 = (D' : Int) ∧ D' ≤ 14 ∧ 0 < D' ∧ noteR D D' σ1 σ2 ∧ noteP D' σ1 σ2)) ∧ fr wPg σ1 σ2 ∧ z2 = z1) : q1 = q2 ∧ IV σ2 z2 := by
  obtain ⟨⟨c1, c2, c3⟩, hf1, rfl⟩ := hc
  obtain ⟨⟨m1, m2, m3⟩, hf2, rfl⟩ := hm
  have e4 : σ1 114 = σ 114 := hf1.row (fun k => by simp [wNd, wF])
  have e6 : σ1 116 = σ 116 := hf1.row (fun k => by simp [wNd, wF])
  have hf := hf1.un hf2
  obtain ⟨D', o', hD'⟩ := hD.note hP.1 c3 e4 e6 m3 (fun i k h1 h2 => hf2 i k (by simp [wPg, wSc]; omega))
  have e3 : fp σ2 3 = fp σ1 3 := fp_fr hf2 ⟨by simp [wPg, wSc], by simp [wPg, wSc], fun i k h1 h2 => by simp [wPg, wSc]; omega⟩
  obtain ⟨c0, p2, p3⟩ := hP.2
  refine ⟨by rw [c1, m1, e4]; exact hP.1.1.2.2.1, len, N, D', o', n, hT.keep hf (fun i k h => by simp [wU, wNd, wF, wPg, wSc]; omega), ⟨?_, c0, fun k hk => by rw [e3, c2, rsC_low _ hk]; exact p2 k hk, cAw_fr p3 hf (fun i k h1 h2 => by simp [wU, wNd, wF, wPg, wSc]; omega)⟩, hD', hG.keep hf (fun i k h => by simp [wU, wNd, wF, wPg, wSc]; omega), hK.keep hf (fun i k h => by simp [wU, wNd, wF, wPg, wSc]; omega), hz⟩
  rw [e3, c2, m2, e4]; exact Pg_rs hP.sk hP.wf
theorem fig_iff {K a b c : Int} {N : Nat} : ((0 ≤ K ∧ K ≤ 11) ∧ (0 ≤ a ∧ a ≤ fgL K 0 (N : Int)) ∧ (0 ≤ b ∧ b ≤ fgL K 1 (N : Int)) ∧ (0 ≤ c ∧ c ≤ fgL K 2 (N : Int))) ↔ figOK K a b c (N : Int) := by
  have h0 : fgL K 0 (N : Int) = mst K 0 (N : Int) := fgL_mst (by have := fgz_in K; omega)
  unfold figOK
  rw [h0]
  exact Iff.rfl
theorem tl_sk {c g : Nat → Int} {N s : Nat} (h : Sk c g N) (hs : s < N) (K a b d : Int) : Sk (eqC c s K a b d) (tlR g s K a b d) N := by
  have h8 := h.1.2.2
  have up : ∀ {c g : Nat → Int} (i : Nat) (v : Int) (x : Nat), (c x = g x) → upn c i v x = upn g i v x := fun i v x e => by
    by_cases q : x = i
    · rw [q, upn_eq, upn_eq]
    · rw [upn_ne _ _ q, upn_ne _ _ q]; exact e
  refine ⟨⟨by rw [eqC_ne (by omega) (by omega)]; exact h.1.1, ?_, h8⟩, fun t ht => ?_, fun t h1 h2 => ?_⟩
  · show eqC g s K a b d 0 = _
    rw [eqC_ne (by omega) (by omega)]; exact h.1.2.1
  · obtain ⟨e1, e2⟩ := h.2.1 t ht
    exact ⟨up _ _ _ (up _ _ _ (up _ _ _ (up _ _ _ e1))), fun i hi => up _ _ _ (up _ _ _ (up _ _ _ (up _ _ _ (e2 i hi))))⟩
  · show eqC g s K a b d (1 + t) = 0
    rw [eqC_ne (by omega) (by omega)]; exact h.2.2 t h1 h2
theorem st_tell {σ σ1 σ2 : gS} {z z1 z2 : gZ} {q1 q2 : Int} {x9 K a0 b0 c0 : Int} {len N D o n : Nat} (hT : iT σ len) (hP : iP σ N) (hD : iD σ D o) (hG : iG σ n) (hK : iK σ) (hz : z 0 = z 111) (hc : ((¬ (0 ≤ x9 ∧ x9 < σ 3 0) ∧ q1 = -1 ∧ σ1 = σ) ∨ ∃ s0 : Nat, x9 = (s0 : Int) ∧ (s0 : Int) < σ 3 0 ∧ ((¬ ((0 ≤ K ∧ K ≤ 11) ∧ (0 ≤ a0 ∧ a0 ≤ fgL K 0 (σ 3 0)) ∧ (0 ≤ b0 ∧ b0 ≤ fgL K 1 (σ 3 0)) ∧ (0 ≤ c0 ∧ c0 ≤ fgL K 2 (σ 3 0))) ∧ q1 = -2 ∧ σ1 = σ) ∨ (((0 ≤ K ∧ K ≤ 11) ∧ (0 ≤ a0 ∧ a0 ≤ fgL K 0 (σ 3 0)) ∧ (0 ≤ b0 ∧ b0 ≤ fgL K 1 (σ 3 0)) ∧ (0 ≤ c0 ∧ c0 ≤ fgL K 2 (σ 3 0))) ∧ fp σ1 3 = rsC (eqC (fp σ 3) s0 K a0 b0 c0) ∧ cAn (rsC (eqC (fp σ 3) s0 K a0 b0 c0)) N σ1 ∧ rmC (fp σ 3) D o σ σ1 ∧ (((σ1 13 0 = -9 ∧ σ1 13 1 = 0 ∧ σ1 13 2 = -9) ∧ q1 = 1) ∨ (¬ (σ1 13 0 = -9 ∧ σ1 13 1 = 0 ∧ σ1 13 2 = -9) ∧ q1 = 0))))) ∧ fr wNw σ σ1 ∧ z1 = z) (hm : ((¬ (0 ≤ x9 ∧ x9 < σ1 114 0) ∧ q2 = -1 ∧ fr wSc σ1 σ2) ∨ ∃ s0 : Nat, x9 = (s0 : Int) ∧ (s0 : Int) < σ1 114 0 ∧ ((¬ figOK K a0 b0 c0 (σ1 114 0) ∧ q2 = -2 ∧ fr wSc σ1 σ2) ∨ (figOK K a0 b0 c0 (σ1 114 0) ∧ σ2 114 = afM (tlR (σ1 114) s0 K a0 b0 c0) ∧ ((q2 = 1 ∧ sndG (afM (tlR (σ1 114) s0 K a0 b0 c0)) N) ∨ (q2 = 0 ∧ ¬ sndG (afM (tlR (σ1 114) s0 K a0 b0 c0)) N)) ∧ (∃ D' : Nat, σ2 111 8 = (D' : Int) ∧ D' ≤ 14 ∧ 0 < D' ∧ noteR D D' σ1 σ2 ∧ noteP D' σ1 σ2)))) ∧ fr wPg σ1 σ2 ∧ z2 = z1) : q1 = q2 ∧ IV σ2 z2 := by
  obtain ⟨hc, hf1, rfl⟩ := hc
  obtain ⟨hm, hf2, rfl⟩ := hm
  have e4 : σ1 114 = σ 114 := hf1.row (fun k => by simp [wNw, wF, wSe])
  have e6 : σ1 116 = σ 116 := hf1.row (fun k => by simp [wNw, wF, wSe])
  rw [e4, hP.g0] at hm
  rw [hP.n0] at hc
  have hf := hf1.un hf2
  have kT := hT.keep hf (fun i k h => by simp [wU, wNw, wF, wSe, wPg, wSc]; omega)
  have kG := hG.keep hf (fun i k h => by simp [wU, wNw, wF, wSe, wPg, wSc]; omega)
  have kK := hK.keep hf (fun i k h => by simp [wU, wNw, wF, wSe, wPg, wSc]; omega)
  rcases hc with ⟨c1, c2, rfl⟩ | ⟨s0, c1, c2, c3⟩ <;> rcases hm with ⟨m1, m2, m⟩ | ⟨s, m1, m2, m3⟩
  · exact ⟨by rw [c2, m2], IV.same hT hP hD hG hK hz m apI_sc⟩
  · clear m3; exfalso; omega
  · clear c3; exfalso; omega
  · have es : s = s0 := by clear c3 m3; omega
    subst es
    have hs : s < N := by clear c3 m3; omega
    rw [fig_iff] at c3
    rcases c3 with ⟨a, b, rfl⟩ | ⟨a, b1, b2, b3, b4⟩ <;> rcases m3 with ⟨a', b', m⟩ | ⟨a', b1', b2', b3'⟩
    · exact ⟨by rw [b, b'], IV.same hT hP hD hG hK hz m apI_sc⟩
    · exact absurd a' a
    · exact absurd a a'
    · obtain ⟨D', o', hD'⟩ := hD.note hP.1 b3 e4 e6 b3' (fun i k h1 h2 => hf2 i k (by simp [wPg, wSc]; omega))
      have e3 : fp σ2 3 = fp σ1 3 := fp_fr hf2 ⟨by simp [wPg, wSc], by simp [wPg, wSc], fun i k h1 h2 => by simp [wPg, wSc]; omega⟩
      have h8 := hP.sk.1.2.2
      have sk := tl_sk hP.sk hs K a0 b0 c0
      have wf : Wf (tlR (σ 114) s K a0 b0 c0) := tlR_wf hP.wf (by omega) (by rw [hP.g0]; omega) (by rw [hP.g0]; exact a)
      have pg := Pg_rs sk wf
      have aw := b2.w h8
      have sn := snd_eq pg.1.1 pg.2.1 aw
      refine ⟨?_, len, N, D', o', n, kT, ⟨by rw [e3, b1, b1']; exact pg, fp σ2 3, fun _ _ => rfl, ?_⟩, hD', kG, kK, hz⟩
      · rcases b4 with ⟨p, q⟩ | ⟨p, q⟩ <;> rcases b2' with ⟨p', q'⟩ | ⟨p', q'⟩
        · rw [q, p']
        · exact absurd (sn.mp p) q'
        · exact absurd (sn.mpr q') p
        · rw [q, p']
      · rw [e3, b1]
        exact cAw_fr aw hf2 (fun i k h1 h2 => by simp [wPg, wSc]; omega)
theorem st_undo {σ σ1 σ2 : gS} {z z1 z2 : gZ} {q1 q2 : Int} {len N D o n : Nat} (hT : iT σ len) (hP : iP σ N) (hD : iD σ D o) (hG : iG σ n) (hK : iK σ) (hz : z 0 = z 111) (hc : ((D = 0 ∧ q1 = -3 ∧ σ1 = σ) ∨ (0 < D ∧ q1 = ((D - 1 : Nat) : Int) ∧ fp σ1 3 = fp σ (23 + 5 * ((o + (D - 1)) % 14)) ∧ σ1 21 0 = ((D - 1 : Nat) : Int) ∧ σ1 21 1 = (o : Int) ∧ cAn (fp σ (23 + 5 * ((o + (D - 1)) % 14))) (Nu σ D o) σ1 ∧ ∀ j, j < 14 → fp σ1 (23 + 5 * j) = fp σ (23 + 5 * j))) ∧ fr wNw σ σ1 ∧ z1 = z) (hm : ((D = 0 ∧ q2 = -3 ∧ fr wSc σ1 σ2) ∨ (0 < D ∧ q2 = ((D - 1 : Nat) : Int) ∧ σ2 111 8 = ((D - 1 : Nat) : Int) ∧ σ2 116 = σ1 116 ∧ ∀ k, k < 50 → σ2 114 k = σ1 116 (50 * (D - 1) + k))) ∧ fr wPg σ1 σ2 ∧ z2 = z1) : q1 = q2 ∧ IV σ2 z2 := by
  obtain ⟨hc, hf1, rfl⟩ := hc
  obtain ⟨hm, hf2, rfl⟩ := hm
  have e6 : σ1 116 = σ 116 := hf1.row (fun k => by simp [wNw, wF, wSe])
  rw [e6] at hm
  have hf := hf1.un hf2
  have kT := hT.keep hf (fun i k h => by simp [wU, wNw, wF, wSe, wPg, wSc]; omega)
  have kG := hG.keep hf (fun i k h => by simp [wU, wNw, wF, wSe, wPg, wSc]; omega)
  have kK := hK.keep hf (fun i k h => by simp [wU, wNw, wF, wSe, wPg, wSc]; omega)
  rcases hc with ⟨c1, c2, rfl⟩ | ⟨c1, c2, c3, c4, c5, c6, c7⟩ <;> rcases hm with ⟨m1, m2, m⟩ | ⟨m1, m2, m3, m4, m5⟩
  · exact ⟨by rw [c2, m2], IV.same hT hP hD hG hK hz m apI_sc⟩
  · exfalso; omega
  · exfalso; omega
  · obtain ⟨⟨d1, d2, d3⟩, ⟨d4, d5⟩, d6⟩ := hD
    obtain ⟨M, hM⟩ := d6 (D - 1) (by omega)
    have eM : Nu σ D o = M := by unfold Nu; rw [hM.1.1.1.1]; omega
    rw [eM] at c6
    have e3 : fp σ2 3 = fp σ1 3 := fp_fr hf2 ⟨by simp [wPg, wSc], by simp [wPg, wSc], fun i k h1 h2 => by simp [wPg, wSc]; omega⟩
    refine ⟨by rw [c2, m2], len, M, D - 1, o, n, kT, ⟨by rw [e3, c3]; exact hM.cong (fun k hk => m5 k hk), fp σ2 3, fun _ _ => rfl, ?_⟩, ⟨⟨by rw [hf2 21 0 (by simp [wPg, wSc])]; exact c4, by rw [hf2 21 1 (by simp [wPg, wSc])]; exact c5, m3⟩, ⟨by omega, d5⟩, fun i hi => ?_⟩, kG, kK, hz⟩
    · rw [e3, c3]
      exact cAw_fr (c6.w hM.1.1.1.2.2) hf2 (fun i k h1 h2 => by simp [wPg, wSc]; omega)
    · have ef : ∀ j, j < 14 → fp σ2 (23 + 5 * j) = fp σ1 (23 + 5 * j) := fun j hj => fp_fr hf2 ⟨by simp [wPg, wSc]; omega, by simp [wPg, wSc]; omega, fun i k h1 h2 => by simp [wPg, wSc]; omega⟩
      obtain ⟨M', hM'⟩ := d6 i (by omega)
      refine ⟨M', ?_⟩
      rw [ef _ (by omega), c7 _ (by omega), m4]; exact hM'
theorem st_again {σ σ1 σ2 : gS} {z z1 z2 : gZ} {q1 q2 : Int} {x9 : Int} {len N D o n : Nat} (hT : iT σ len) (hP : iP σ N) (hD : iD σ D o) (hG : iG σ n) (hK : iK σ) (hz : z 0 = z 111) (hc : ((¬ (0 ≤ x9 ∧ x9 ≤ 1) ∧ q1 = -1 ∧ σ1 = σ) ∨ ∃ s0 : Nat, x9 = (s0 : Int) ∧ s0 < 2 ∧ ((σ 99 s0 = 0 ∧ q1 = -3 ∧ σ1 = σ) ∨ (σ 99 s0 ≠ 0 ∧ q1 = fp σ (101 + 5 * s0) 49 ∧ fp σ1 3 = fp σ (101 + 5 * s0) ∧ σ1 21 0 = 0 ∧ σ1 21 1 = σ 21 1 ∧ cAn (fp σ (101 + 5 * s0)) ((Nk σ) s0) σ1))) ∧ fr wNw σ σ1 ∧ z1 = z) (hm : ((¬ (0 ≤ x9 ∧ x9 ≤ 1) ∧ q2 = -1 ∧ fr wSc σ1 σ2) ∨ ∃ s0 : Nat, x9 = (s0 : Int) ∧ s0 < 2 ∧ ((σ1 118 s0 = 0 ∧ q2 = -3 ∧ fr wSc σ1 σ2) ∨ (σ1 118 s0 ≠ 0 ∧ q2 = σ1 117 (50 * s0 + 49) ∧ σ2 111 8 = 0 ∧ ∀ k, k < 50 → σ2 114 k = σ1 117 (50 * s0 + k)))) ∧ fr wPg σ1 σ2 ∧ z2 = z1) : q1 = q2 ∧ IV σ2 z2 := by
  obtain ⟨hc, hf1, rfl⟩ := hc
  obtain ⟨hm, hf2, rfl⟩ := hm
  have e7 : σ1 117 = σ 117 := hf1.row (fun k => by simp [wNw, wF, wSe])
  have e8 : σ1 118 = σ 118 := hf1.row (fun k => by simp [wNw, wF, wSe])
  rw [e7, e8] at hm
  have hf := hf1.un hf2
  have kT := hT.keep hf (fun i k h => by simp [wU, wNw, wF, wSe, wPg, wSc]; omega)
  have kG := hG.keep hf (fun i k h => by simp [wU, wNw, wF, wSe, wPg, wSc]; omega)
  have kK := hK.keep hf (fun i k h => by simp [wU, wNw, wF, wSe, wPg, wSc]; omega)
  rcases hc with ⟨c1, c2, rfl⟩ | ⟨s, c1, c2, c3⟩ <;> rcases hm with ⟨m1, m2, m⟩ | ⟨s', m1, m2, m3⟩
  · exact ⟨by rw [c2, m2], IV.same hT hP hD hG hK hz m apI_sc⟩
  · clear m3; exfalso; omega
  · clear c3; exfalso; omega
  · have es : s' = s := by clear c3 m3; omega
    subst es
    obtain ⟨k1, k2, k3⟩ := hK s' c2
    rcases c3 with ⟨a, b, rfl⟩ | ⟨a, b1, b2, b3, b4, b5⟩ <;> rcases m3 with ⟨a', b', m⟩ | ⟨a', b1', b2', b3'⟩
    · exact ⟨by rw [b, b'], IV.same hT hP hD hG hK hz m apI_sc⟩
    · rw [k2] at a'; exact absurd a a'
    · rw [k2] at a'; exact absurd a' a
    · obtain ⟨M, hM⟩ := k3 a
      have eM : Nk σ s' = M := by unfold Nk; rw [hM.1.1.1.1]; omega
      rw [eM] at b5
      have e3 : fp σ2 3 = fp σ1 3 := fp_fr hf2 ⟨by simp [wPg, wSc], by simp [wPg, wSc], fun i k h1 h2 => by simp [wPg, wSc]; omega⟩
      refine ⟨by rw [b1, b1']; exact hM.1.2.2.1, len, M, 0, o, n, kT, ⟨by rw [e3, b2]; exact hM.cong (fun k hk => b3' k hk), fp σ2 3, fun _ _ => rfl, ?_⟩, ⟨⟨by rw [hf2 21 0 (by simp [wPg, wSc])]; exact b3, by rw [hf2 21 1 (by simp [wPg, wSc]), b4]; exact hD.1.2.1, b2'⟩, ⟨by omega, hD.2.1.2⟩, fun i hi => absurd hi (Nat.not_lt_zero _)⟩, kG, kK, hz⟩
      rw [e3, b2]
      exact cAw_fr (b5.w hM.1.1.1.2.2) hf2 (fun i k h1 h2 => by simp [wPg, wSc]; omega)
theorem st_program {σ σ1 σ2 : gS} {z z1 z2 : gZ} {q1 q2 : Int} {len N D o n : Nat} (hT : iT σ len) (hP : iP σ N) (hD : iD σ D o) (hG : iG σ n) (hK : iK σ) (hz : z 0 = z 111) (hc : ((fltT (σ 2) len ≠ -9 ∧ q1 = -3 ∧ fr (wF 8) σ σ1) ∨ (fltT (σ 2) len = -9 ∧ fp σ1 3 = (rsC (rdC (σ 2) len (fp σ 8))) ∧ cAn (rsC (rdC (σ 2) len (fp σ 8))) (nOf (σ 2) len).toNat σ1 ∧ σ1 21 0 = 0 ∧ σ1 21 1 = σ 21 1 ∧ σ1 99 0 = 0 ∧ σ1 99 1 = 0 ∧ (((σ1 13 0 = -9 ∧ σ1 13 1 = 0 ∧ σ1 13 2 = -9) ∧ q1 = 1) ∨ (¬ (σ1 13 0 = -9 ∧ σ1 13 1 = 0 ∧ σ1 13 2 = -9) ∧ q1 = 0)))) ∧ fr wPg3 σ σ1 ∧ z1 = z) (hm : ((fltT (σ1 112) len ≠ -9 ∧ q2 = -3 ∧ fr wSc σ1 σ2) ∨ (fltT (σ1 112) len = -9 ∧ σ2 114 = (afM (cpr (rowT (σ1 112) len (zr (σ1 113) 50)) (σ1 114) 50)) ∧ σ2 111 8 = 0 ∧ σ2 118 0 = 0 ∧ σ2 118 1 = 0 ∧ ((q2 = 1 ∧ sndG (afM (cpr (rowT (σ1 112) len (zr (σ1 113) 50)) (σ1 114) 50)) (nOf (σ1 112) len).toNat) ∨ (q2 = 0 ∧ ¬ sndG (afM (cpr (rowT (σ1 112) len (zr (σ1 113) 50)) (σ1 114) 50)) (nOf (σ1 112) len).toNat)))) ∧ fr wPr σ1 σ2 ∧ z2 = z1) : q1 = q2 ∧ IV σ2 z2 := by
  obtain ⟨hc, hf1, rfl⟩ := hc
  obtain ⟨hm, hf2, rfl⟩ := hm
  have e2 : σ1 112 = σ 112 := hf1.row (fun k => by simp [wPg3, wNw, wF, wSe])
  rw [e2, ← fltT_tx hT.2.2.2, ← nOf_tx hT.2.2.2] at hm
  have hf := hf1.un hf2
  have kT := hT.keep hf (fun i k h => by simp [wU, wPg3, wNw, wF, wSe, wPr, wSc]; omega)
  have kG := hG.keep hf (fun i k h => by simp [wU, wPg3, wNw, wF, wSe, wPr, wSc]; omega)
  rcases hc with ⟨c1, c2, c3⟩ | ⟨c1, c2, c3, c4, c5, c6, c7, c8⟩ <;> rcases hm with ⟨m1, m2, m3⟩ | ⟨m1, m2, m3, m4, m5, m6⟩
  · exact ⟨by rw [c2, m2], IV.same hT hP hD hG hK hz (c3.un m3) (apI_u apI_8 apI_sc)⟩
  · exact absurd m1 c1
  · exact absurd c1 m1
  · have hz0 : ∀ k, k < 50 → zr (σ1 113) 50 k = 0 := fun k hk => if_pos hk
    obtain ⟨sk0, wf0⟩ := rdC_sk hT.tx c1 (fp σ 8) hz0
    rw [rowT_tx hT.2.2.2] at sk0 wf0
    have sk : Sk (rdC (σ 2) len (fp σ 8)) (cpr (rowT (σ 112) len (zr (σ1 113) 50)) (σ1 114) 50) (nOf (σ 2) len).toNat := sk0.low (fun _ _ => rfl) (fun k hk => cpr_50 _ _ (by omega))
    have wf : Wf (cpr (rowT (σ 112) len (zr (σ1 113) 50)) (σ1 114) 50) := wf0.cong (fun k hk => cpr_50 _ _ (by omega))
    have pg := Pg_rs sk wf
    have aw := c3.w sk.1.2.2
    have sn := snd_eq pg.1.1 pg.2.1 aw
    have e3 : fp σ2 3 = fp σ1 3 := fp_fr hf2 ⟨by simp [wPr, wSc], by simp [wPr, wSc], fun i k h1 h2 => by simp [wPr, wSc]; omega⟩
    have e9 : σ2 99 = σ1 99 := hf2.row (fun k => by simp [wPr, wSc])
    refine ⟨?_, len, (nOf (σ 2) len).toNat, 0, o, n, kT, ⟨by rw [e3, c2, m2]; exact pg, fp σ2 3, fun _ _ => rfl, ?_⟩, ⟨⟨by rw [hf2 21 0 (by simp [wPr, wSc])]; exact c4, by rw [hf2 21 1 (by simp [wPr, wSc]), c5]; exact hD.1.2.1, m3⟩, ⟨by omega, hD.2.1.2⟩, fun i hi => absurd hi (Nat.not_lt_zero _)⟩, kG, fun j hj => ?_, hz⟩
    · rcases c8 with ⟨p, q⟩ | ⟨p, q⟩ <;> rcases m6 with ⟨p', q'⟩ | ⟨p', q'⟩
      · rw [q, p']
      · exact absurd (sn.mp p) q'
      · exact absurd (sn.mpr q') p
      · rw [q, p']
    · rw [e3, c2]
      exact cAw_fr aw hf2 (fun i k h1 h2 => by simp [wPr, wSc]; omega)
    · rw [e9]
      rcases (show j = 0 ∨ j = 1 by omega) with e | e
      · subst e; rw [c6, m4]; exact ⟨Or.inl rfl, rfl, fun h => absurd rfl h⟩
      · subst e; rw [c7, m5]; exact ⟨Or.inl rfl, rfl, fun h => absurd rfl h⟩
