/-! the invariant between the class's cells and the reference's -/
def wU (a b : Nat → Nat → Bool) (i k : Nat) : Bool := a i k || b i k
def nf0 (_i _k : Nat) : Bool := false
theorem fr.un {a b : Nat → Nat → Bool} {σ σ1 σ2 : gS} (h1 : fr a σ σ1) (h2 : fr b σ1 σ2) : fr (wU a b) σ σ2 := (h1.mono (fun i k h => by simp [wU, h])).tr (h2.mono (fun i k h => by simp [wU, h]))
def iT (σ : gS) (len : Nat) : Prop := σ 1 1 = (len : Int) ∧ σ 111 2 = (len : Int) ∧ txOK (σ 112) len ∧ ∀ k, k < len → σ 2 k = σ 112 k
def iP (σ : gS) (N : Nat) : Prop := Pg (fp σ 3) (σ 114) N ∧ ∃ c0, (∀ k, k < 33 → c0 k = fp σ 3 k) ∧ cAw c0 N σ
def iD (σ : gS) (D o : Nat) : Prop := (σ 21 0 = (D : Int) ∧ σ 21 1 = (o : Int) ∧ σ 111 8 = (D : Int)) ∧ (D ≤ 14 ∧ o < 14) ∧ ∀ i, i < D → ∃ M, Pg (fp σ (23 + 5 * ((o + i) % 14))) (fun k => σ 116 (50 * i + k)) M
def iG (σ : gS) (n : Nat) : Prop := (σ 93 0 = (n : Int) ∧ σ 111 11 = (n : Int) ∧ n ≤ 6) ∧ ∀ i, i < n → (σ 119 i = σ 94 i ∧ σ 120 i = σ 95 i ∧ σ 121 i = σ 96 i ∧ σ 122 i = σ 97 i) ∧ (1 ≤ σ 94 i ∧ σ 94 i ≤ 12) ∧ (0 ≤ σ 95 i ∧ σ 95 i ≤ 7) ∧ (σ 97 i = 0 ∨ σ 97 i = 1)
def iK (σ : gS) : Prop := ∀ j, j < 2 → (σ 99 j = 0 ∨ σ 99 j = 1) ∧ σ 118 j = σ 99 j ∧ (σ 99 j ≠ 0 → ∃ M, Pg (fp σ (101 + 5 * j)) (fun k => σ 117 (50 * j + k)) M)
theorem iT.keep {σ σ' : gS} {len : Nat} {w : Nat → Nat → Bool} (h : iT σ len) (hf : fr w σ σ') (hw : ∀ i k, ((i = 1 ∧ k = 1) ∨ i = 2 ∨ (i = 111 ∧ k = 2) ∨ i = 112) → w i k = false) : iT σ' len := by
  unfold iT
  rw [hf 1 1 (hw 1 1 (by omega)), hf 111 2 (hw 111 2 (by omega)), hf.row (fun k => hw 112 k (by omega)), hf.row (fun k => hw 2 k (by omega))]
  exact h
theorem iP.keep {σ σ' : gS} {N : Nat} {w : Nat → Nat → Bool} (h : iP σ N) (hf : fr w σ σ') (hw : ∀ i k, ((i = 3 ∧ (k = 0 ∨ k = 1)) ∨ (4 ≤ i ∧ i ≤ 7) ∨ (13 ≤ i ∧ i ≤ 20) ∨ i = 114) → w i k = false) : iP σ' N := by
  unfold iP
  rw [fp_fr hf ⟨hw 3 0 (by omega), hw 3 1 (by omega), fun j k h1 h2 => hw j k (by omega)⟩, hf.row (fun k => hw 114 k (by omega))]
  obtain ⟨h1, c0, h2, h3⟩ := h
  exact ⟨h1, c0, h2, h3.keep (fun i k a b => hf i k (hw i k (by omega)))⟩
theorem iD.keep {σ σ' : gS} {D o : Nat} {w : Nat → Nat → Bool} (h : iD σ D o) (hf : fr w σ σ') (hw : ∀ i k, ((21 ≤ i ∧ i ≤ 92) ∨ i = 116 ∨ (i = 111 ∧ k = 8)) → w i k = false) : iD σ' D o := by
  unfold iD
  rw [hf 21 0 (hw _ _ (by omega)), hf 21 1 (hw _ _ (by omega)), hf 111 8 (hw _ _ (by omega)), hf.row (fun k => hw 116 k (by omega))]
  refine ⟨h.1, h.2.1, fun i hi => ?_⟩
  rw [fp_fr hf ⟨hw _ _ (by omega), hw _ _ (by omega), fun j k h1 h2 => hw j k (by omega)⟩]
  exact h.2.2 i hi
theorem iG.keep {σ σ' : gS} {n : Nat} {w : Nat → Nat → Bool} (h : iG σ n) (hf : fr w σ σ') (hw : ∀ i k, ((i = 93 ∧ k = 0) ∨ (94 ≤ i ∧ i ≤ 97) ∨ (119 ≤ i ∧ i ≤ 122) ∨ (i = 111 ∧ k = 11)) → w i k = false) : iG σ' n := by
  unfold iG
  rw [hf 93 0 (hw _ _ (by omega)), hf 111 11 (hw _ _ (by omega)), hf.row (fun k => hw 94 k (by omega)), hf.row (fun k => hw 95 k (by omega)), hf.row (fun k => hw 96 k (by omega)), hf.row (fun k => hw 97 k (by omega)), hf.row (fun k => hw 119 k (by omega)), hf.row (fun k => hw 120 k (by omega)), hf.row (fun k => hw 121 k (by omega)), hf.row (fun k => hw 122 k (by omega))]
  exact h
theorem iK.keep {σ σ' : gS} {w : Nat → Nat → Bool} (h : iK σ) (hf : fr w σ σ') (hw : ∀ i k, (i = 99 ∨ i = 118 ∨ (101 ≤ i ∧ i ≤ 110) ∨ i = 117) → w i k = false) : iK σ' := by
  unfold iK
  rw [hf.row (fun k => hw 99 k (by omega)), hf.row (fun k => hw 118 k (by omega)), hf.row (fun k => hw 117 k (by omega))]
  intro j hj
  rw [fp_fr hf ⟨hw _ _ (by omega), hw _ _ (by omega), fun i k h1 h2 => hw i k (by omega)⟩]
  exact h j hj
def IV (σ : gS) (z : gZ) : Prop := ∃ len N D o n, iT σ len ∧ iP σ N ∧ iD σ D o ∧ iG σ n ∧ iK σ ∧ z 0 = z 111
/-- a set of places apart from all that the invariant looks at -/
def apI (w : Nat → Nat → Bool) : Prop := ∀ i k, (((i = 1 ∧ k = 1) ∨ i = 2 ∨ (i = 111 ∧ k = 2) ∨ i = 112) ∨ ((i = 3 ∧ (k = 0 ∨ k = 1)) ∨ (4 ≤ i ∧ i ≤ 7) ∨ (13 ≤ i ∧ i ≤ 20) ∨ i = 114) ∨ ((21 ≤ i ∧ i ≤ 92) ∨ i = 116 ∨ (i = 111 ∧ k = 8)) ∨ ((i = 93 ∧ k = 0) ∨ (94 ≤ i ∧ i ≤ 97) ∨ (119 ≤ i ∧ i ≤ 122) ∨ (i = 111 ∧ k = 11)) ∨ (i = 99 ∨ i = 118 ∨ (101 ≤ i ∧ i ≤ 110) ∨ i = 117)) → w i k = false
theorem IV.same {σ σ' : gS} {z' : gZ} {len N D o n : Nat} (h1 : iT σ len) (h2 : iP σ N) (h3 : iD σ D o) (h4 : iG σ n) (h5 : iK σ) (hz : z' 0 = z' 111) {w : Nat → Nat → Bool} (hf : fr w σ σ') (hw : apI w) : IV σ' z' :=
  ⟨len, N, D, o, n, h1.keep hf (fun i k h => hw i k (Or.inl h)), h2.keep hf (fun i k h => hw i k (Or.inr (Or.inl h))), h3.keep hf (fun i k h => hw i k (Or.inr (Or.inr (Or.inl h)))), h4.keep hf (fun i k h => hw i k (Or.inr (Or.inr (Or.inr (Or.inl h))))), h5.keep hf (fun i k h => hw i k (Or.inr (Or.inr (Or.inr (Or.inr h))))), hz⟩
theorem apI_sc : apI wSc := fun i k h => by simp [wSc]; omega
theorem apI_8 : apI (wF 8) := fun i k h => by simp [wF]; omega
theorem apI_tr : apI wTr := fun i k h => by simp [wTr, wF]; omega
theorem apI_u {a b : Nat → Nat → Bool} (h1 : apI a) (h2 : apI b) : apI (wU a b) := fun i k h => by unfold wU; rw [h1 i k h, h2 i k h]; rfl
theorem apI_0 : apI nf0 := fun _ _ _ => rfl
/-- the class's sound -/
abbrev SNc (σ : gS) : Prop := σ 13 0 = -9 ∧ σ 13 1 = 0 ∧ σ 13 2 = -9
theorem iP.sk {σ : gS} {N : Nat} (h : iP σ N) : Sk (fp σ 3) (σ 114) N := h.1.1.1
theorem iP.wf {σ : gS} {N : Nat} (h : iP σ N) : Wf (σ 114) := h.1.2.1
theorem iP.cw {σ : gS} {N : Nat} (h : iP σ N) : cW (fp σ 3) N := cW_of h.sk h.wf
theorem iP.sn {σ : gS} {N : Nat} (h : iP σ N) : SNc σ ↔ sndG (σ 114) N := by
  obtain ⟨c0, h2, h3⟩ := h.2
  exact snd_eq (h.sk.low h2 (fun _ _ => rfl)) h.wf h3
theorem iP.an {σ : gS} {N : Nat} (h : iP σ N) {cl kn rw : Int} (hv : mAnV (σ 114) N cl kn rw) : cl = σ 13 0 ∧ kn = σ 13 1 ∧ rw = σ 13 2 := by
  obtain ⟨c0, h2, h3⟩ := h.2
  exact an_eq (h.sk.low h2 (fun _ _ => rfl)) h.wf h3 hv
theorem iP.go {σ : gS} {N : Nat} (h : iP σ N) (hs : sndG (σ 114) N) {w : mC} (hw : mClk (σ 114) N = some w) : ∃ v, cClk (fp σ 3) N N = some v ∧ tX (fp σ 3) (σ 114) (stC v) (lvP (σ 114) N 8) (tn (wtN (σ 114) w) N) N w ∧ mOK w ∧ cR w v ∧ (∀ k, k < N → σ 16 k = stC v k) ∧ (∀ k, k < N → σ 17 k = ((dCr (stC v) 8 k : Nat) : Int)) ∧ ∀ j, j < N → σ 19 j = ((tn (wtN (σ 114) w) N j : Nat) : Int) ∧ (tn (wtN (σ 114) w) N j < 8 ∧ tn (wtN (σ 114) w) N j < N) := by
  obtain ⟨c0, h2, h3⟩ := h.2
  obtain ⟨v, a1, a2, a3, a4, a5, a6, a7⟩ := snd_tX (h.sk.low h2 (fun _ _ => rfl)) h.wf h3 hs hw
  exact ⟨v, by rw [← cClk_low h.sk.1.2.2 h2 N (Nat.le_refl N)]; exact a1, a2.low (fun k hk => (h2 k hk).symm) (fun _ _ => rfl), a3, a4, a5, a6, a7⟩
def Tm (g : Nat → Int) (N : Nat) : Nat → Nat := tn (wtN g ((mClk g N).getD (id, fun _ => -9))) N
theorem Tm_eq {g : Nat → Int} {N : Nat} {w : mC} (h : mClk g N = some w) : Tm g N = tn (wtN g w) N := by unfold Tm; rw [h]; rfl
theorem iP.tt {σ : gS} {N : Nat} (h : iP σ N) : SNc σ → ∀ j, j < N → σ 19 j = ((Tm (σ 114) N j : Nat) : Int) ∧ (Tm (σ 114) N j < 8 ∧ Tm (σ 114) N j < N) := fun hs => by
  have hs2 := h.sn.mp hs
  have hs3 := hs2
  obtain ⟨w, hw, -⟩ := hs3
  obtain ⟨v, -, -, -, -, -, -, a7⟩ := h.go hs2 hw
  rw [Tm_eq hw]; exact a7
/-- a sound page, ready for ticks in both -/
theorem iP.tq {σ : gS} {N : Nat} (h : iP σ N) (hs : sndG (σ 114) N) {w : mC} (hw : mClk (σ 114) N = some w) : ∃ v, cClk (fp σ 3) N N = some v ∧ TQ (fp σ 3) (σ 114) (stC v) (lvP (σ 114) N 8) (Tm (σ 114) N) N w ∧ mOK w ∧ cR w v ∧ (∀ k, k < N → σ 16 k = stC v k) ∧ (∀ k, k < N → σ 17 k = ((dCr (stC v) 8 k : Nat) : Int)) := by
  obtain ⟨v, a1, a2, a3, a4, a5, a6, a7⟩ := h.go hs hw
  rw [← Tm_eq hw] at a2
  exact ⟨v, a1, h.1.TQ (S := stC v) a1 a2, a3, a4, a5, a6⟩
theorem iP.wk {σ : gS} {N : Nat} (h : iP σ N) (hs : sndG (σ 114) N) {v : mC} (e : ∀ k, k < N → σ 16 k = stC v k) (u : Nat → Int × Int) (G : Nat → Int) (n : Nat) : wkI G (Tm (σ 114) N) (σ 16) N u n = wkI G (Tm (σ 114) N) (stC v) N u n :=
  wkI_S (fun j hj => (h.tt (h.sn.mpr hs) j hj).2.2) e n
/-- clocks of both -/
theorem iP.ck {σ : gS} {N : Nat} (h : iP σ N) : (σ 13 0 ≠ -9 ∧ mClk (σ 114) N = none) ∨ (σ 13 0 = -9 ∧ ∃ w v, mClk (σ 114) N = some w ∧ cClk (fp σ 3) N N = some v ∧ mOK w ∧ cR w v ∧ sOK (stC v) N ∧ (∀ k, k < N → σ 16 k = stC v k) ∧ (∀ k, k < N → σ 17 k = ((dCr (stC v) 8 k : Nat) : Int)) ∧ (∀ k, k < N → σ 18 k = (oS (wtN (σ 114) w) N N).2 k) ∧ ∀ k, k < N → σ 20 k = lvP (σ 114) N 8 k) := by
  obtain ⟨c0, h2, h3⟩ := h.2
  have hS := h.sk.low h2 (fun _ _ => rfl : ∀ k, k < 33 → σ 114 k = σ 114 k)
  have hG := cW_of hS h.wf
  have h8 := hS.1.2.2
  rcases h3 with ⟨j, a1, a2, -, a4, -⟩ | ⟨a1, v, a2, a3, a4, a5, a6, a7, a8, a9⟩
  · refine Or.inl ⟨by omega, ?_⟩
    rcases clk_sim hS hG (k := N) (Nat.le_refl N) with ⟨w, v, b1, b2, -⟩ | ⟨b1, -⟩
    · have := cClk_none a4 (N - (j + 1))
      rw [show j + 1 + (N - (j + 1)) = N by omega, b2] at this; cases this
    · exact b1
  · refine Or.inr ⟨a1, ?_⟩
    rcases clk_sim hS hG (k := N) (Nat.le_refl N) with ⟨w, v', b1, b2, b3, b4⟩ | ⟨-, b2⟩
    · rw [a2] at b2
      cases b2
      have hv := stC_ok (cClk_ok hG (Nat.le_refl N) a2) h8 (cClk_on hG (Nat.le_refl N) a2)
      refine ⟨w, v, b1, by rw [← cClk_low h8 h2 N (Nat.le_refl N)]; exact a2, b3, b4, hv, a3, a4, fun k hk => ?_, fun k hk => ?_⟩
      · rw [a6 k hk, (oS_eq hS hG h.wf b3 b4 hv N).1]
      · rw [a8 k hk, (lp_eq hS hG h.wf 8).1]
    · rw [a2] at b2; cases b2
def Sv (c : Nat → Int) (N : Nat) : Nat → Int := stC ((cClk c N N).getD (id, fun _ => -1))
theorem iP.sv {σ : gS} {N : Nat} (h : iP σ N) : σ 13 0 = -9 → sOK (Sv (fp σ 3) N) N ∧ (∀ k, k < N → σ 16 k = Sv (fp σ 3) N k) ∧ ∀ k, k < N → σ 17 k = ((dCr (Sv (fp σ 3) N) 8 k : Nat) : Int) := fun hc => by
  rcases h.ck with ⟨q, -⟩ | ⟨-, w, v, -, b2, -, -, b5, b6, b7, -⟩
  · exact absurd hc q
  · have e : Sv (fp σ 3) N = stC v := by unfold Sv; rw [b2]; rfl
    rw [e]; exact ⟨b5, b6, b7⟩
/-- texts that are alike are read alike -/
theorem ltr_tx {t u : Nat → Int} {len : Nat} (h : ∀ k, k < len → t k = u k) (p : Nat) : ltr t len p = ltr u len p := by
  unfold ltr
  split
  · next q => exact h p q
  · rfl
theorem eS_tx {t u : Nat → Int} {len n s : Nat} {k : Int} {p0 : Nat} {g0 : Nat → Int} (h : ∀ k, k < len → t k = u k) : ∀ i, eS t len n s k p0 g0 i = eS u len n s k p0 g0 i
  | 0 => rfl
  | i + 1 => by rw [eS, eS, eS_tx h i, ltr_tx h]
theorem eQ_tx {t u : Nat → Int} {len n s p : Nat} {g : Nat → Int} (h : ∀ k, k < len → t k = u k) : eQ t len n s p g = eQ u len n s p g := by
  unfold eQ; rw [ltr_tx h, eS_tx h]
theorem pS_tx {t u : Nat → Int} {len n : Nat} {g0 : Nat → Int} (h : ∀ k, k < len → t k = u k) : ∀ s, pS t len n g0 s = pS u len n g0 s
  | 0 => rfl
  | s + 1 => by rw [pS, pS, pS_tx h s, eQ_tx h]
theorem nOf_tx {t u : Nat → Int} {len : Nat} (h : ∀ k, k < len → t k = u k) : nOf t len = nOf u len := by unfold nOf; rw [ltr_tx h]
theorem fltT_tx {t u : Nat → Int} {len : Nat} (h : ∀ k, k < len → t k = u k) : fltT t len = fltT u len := by
  unfold fltT; rw [ltr_tx h, nOf_tx h, pS_tx h]
theorem rowT_tx {t u : Nat → Int} {len : Nat} {g0 : Nat → Int} (h : ∀ k, k < len → t k = u k) : rowT t len g0 = rowT u len g0 := by
  unfold rowT; rw [nOf_tx h, pS_tx h]
theorem iT.tx {σ : gS} {len : Nat} (h : iT σ len) : txOK (σ 2) len := ⟨h.2.2.1.1, fun k hk => by rw [h.2.2.2 k hk]; exact h.2.2.1.2 k hk⟩
