/-! what is found looks at the equations alone -/
theorem cAll_low {c c' : Nat → Int} {k : Nat} (hk : k < 8) (e : ∀ k, k < 33 → c' k = c k) : ∀ i, i ≤ 3 → ∀ w, cAll c' k i w = cAll c k i w
  | 0, _, _ => rfl
  | i + 1, hi, w => by
    have ih := cAll_low hk e i (by omega) w
    rw [cAll, cAll, ih, e (1 + k) (by omega), show fa c' k i = fa c k i from by unfold fa; rw [e _ (by omega)]]
theorem cAsk_low {c c' : Nat → Int} {k : Nat} (hk : k < 8) (e : ∀ k, k < 33 → c' k = c k) (w : mC) : cAsk c' k w = cAsk c k w := by
  have ef : ∀ i, i < 3 → fa c' k i = fa c k i := fun i hi => by unfold fa; rw [e _ (by omega)]
  unfold cAsk
  rw [e (1 + k) (by omega), ef 0 (by omega), ef 1 (by omega), ef 2 (by omega), cAll_low hk e 3 (Nat.le_refl 3)]
theorem cClk_low {c c' : Nat → Int} {N : Nat} (hN : N ≤ 8) (e : ∀ k, k < 33 → c' k = c k) : ∀ k, k ≤ N → cClk c' N k = cClk c N k
  | 0, _ => rfl
  | k + 1, hk => by
    rw [cClk, cClk, cClk_low hN e k (by omega)]
    congr 1
    funext w
    rw [cAsk_low (by omega) e]
theorem cClk_none {G : Nat → Int} {N j : Nat} (h : cClk G N j = none) : ∀ d, cClk G N (j + d) = none
  | 0 => h
  | d + 1 => by
    show mThen (cClk G N (j + d)) _ = none
    rw [cClk_none h d]; rfl
/-- what the class has found, of told streams -/
def cAw (c : Nat → Int) (N : Nat) (σ : gS) : Prop :=
  (∃ j : Nat, j < N ∧ σ 13 0 = (j : Int) ∧ (∃ w, cClk c N j = some w) ∧ cClk c N (j + 1) = none ∧ σ 13 1 = 0 ∧ σ 13 2 = -9) ∨
  (σ 13 0 = -9 ∧ ∃ v, cClk c N N = some v ∧ (∀ k, k < N → σ 16 k = stC v k) ∧ (∀ k, k < N → σ 17 k = ((dCr (stC v) 8 k : Nat) : Int)) ∧ σ 13 1 = (((2 ^ N - 1) &&& ((oS (wtC c (stC v)) N N).1 ^^^ 255) : Nat) : Int) ∧ (∀ k, k < N → σ 18 k = (oS (wtC c (stC v)) N N).2 k) ∧ (∀ i, i < N → σ 19 i = nO (fsR (rdy (wtC c (stC v)) (oS (wtC c (stC v)) N i).1) N)) ∧ (∀ k, k < N → σ 20 k = lpC c N 8 k) ∧ σ 13 2 = nO (fsR (rwC c (lpC c N 8)) N))
theorem cAn.w {c : Nat → Int} {N : Nat} (hN : N ≤ 8) {σ : gS} (h : cAn c N σ) : cAw c N σ := by
  obtain ⟨-, h | ⟨h1, w, h2, h3, h4, h5, h6, h7, h8, h9⟩⟩ := h
  · exact Or.inl h
  · exact Or.inr ⟨h1, w, h2, h3, h4, h5, fun k hk => h6 k (by omega), h7, fun k hk => h8 k (by omega), h9⟩
theorem cAw.keep {c : Nat → Int} {N : Nat} {σ σ' : gS} (h : cAw c N σ) (e : ∀ i k, 13 ≤ i → i ≤ 20 → σ' i k = σ i k) : cAw c N σ' := by
  unfold cAw at h ⊢
  rw [e 13 0 (by omega) (by omega), e 13 1 (by omega) (by omega), e 13 2 (by omega) (by omega)]
  rcases h with h | ⟨h1, w, h2, h3, h4, h5, h6, h7, h8, h9⟩
  · exact Or.inl h
  · exact Or.inr ⟨h1, w, h2, fun k hk => by rw [e 16 k (by omega) (by omega)]; exact h3 k hk, fun k hk => by rw [e 17 k (by omega) (by omega)]; exact h4 k hk, h5, fun k hk => by rw [e 18 k (by omega) (by omega)]; exact h6 k hk, fun k hk => by rw [e 19 k (by omega) (by omega)]; exact h7 k hk, fun k hk => by rw [e 20 k (by omega) (by omega)]; exact h8 k hk, h9⟩
/-- clash, knot and raw are alike -/
theorem an_eq {c g : Nat → Int} {N : Nat} {σ : gS} (hS : Sk c g N) (hW : Wf g) (hA : cAw c N σ) {cl kn rw : Int} (h : mAnV g N cl kn rw) : cl = σ 13 0 ∧ kn = σ 13 1 ∧ rw = σ 13 2 := by
  have hG := cW_of hS hW
  rcases h with ⟨j, h1, h2, ⟨w, h3⟩, h4, h5, h6⟩ | ⟨h1, w, h2, h3, h4⟩
  · rcases hA with ⟨i, a1, a2, ⟨v, a3⟩, a4, a5, a6⟩ | ⟨a1, v, a2, -⟩
    · have key : j = i := by
        rcases Nat.lt_trichotomy j i with q | q | q
        · exfalso
          rcases clk_sim hS hG (k := j + 1) (by omega) with ⟨w', v', b1, -⟩ | ⟨-, b2⟩
          · rw [h4] at b1; cases b1
          · have := cClk_none b2 (i - (j + 1))
            rw [show j + 1 + (i - (j + 1)) = i by omega, a3] at this; cases this
        · exact q
        · exfalso
          rcases clk_sim hS hG (k := i + 1) (by omega) with ⟨w', v', -, b1, -⟩ | ⟨b2, -⟩
          · rw [a4] at b1; cases b1
          · have := mClk_none b2 (j - (i + 1))
            rw [show i + 1 + (j - (i + 1)) = j by omega, h3] at this; cases this
      subst key
      exact ⟨by rw [h2, a2], by rw [h5, a5], by rw [h6, a6]⟩
    · exfalso
      rcases clk_sim hS hG (k := N) (Nat.le_refl N) with ⟨w', v', b1, -⟩ | ⟨-, b2⟩
      · have := mClk_none h4 (N - (j + 1))
        rw [show j + 1 + (N - (j + 1)) = N by omega, b1] at this; cases this
      · rw [a2] at b2; cases b2
  · rcases clk_sim hS hG (k := N) (Nat.le_refl N) with ⟨w', v', b1, b2, b3, b4⟩ | ⟨b1, -⟩
    · rw [h2] at b1
      cases b1
      rcases hA with ⟨i, a1, a2, ⟨v, a3⟩, a4, a5, a6⟩ | ⟨a1, v, a2, a3, a4, a5, a6, a7, a8, a9⟩
      · exfalso
        have := cClk_none a4 (N - (i + 1))
        rw [show i + 1 + (N - (i + 1)) = N by omega, b2] at this; cases this
      · rw [b2] at a2
        cases a2
        have hv := stC_ok (cClk_ok hG (Nat.le_refl N) b2) hS.1.2.2 (cClk_on hG (Nat.le_refl N) b2)
        refine ⟨by rw [h1, a1], ?_, ?_⟩
        · rw [h3, a5, (oS_eq hS hG hW b3 b4 hv N).1]
        · rw [h4, a9, raw_eq hS hG hW]
    · rw [h2] at b1; cases b1
/-- all that a sound page gives, in both -/
theorem snd_eq {c g : Nat → Int} {N : Nat} {σ : gS} (hS : Sk c g N) (hW : Wf g) (hA : cAw c N σ) : (σ 13 0 = -9 ∧ σ 13 1 = 0 ∧ σ 13 2 = -9) ↔ sndG g N := by
  have hG := cW_of hS hW
  rcases clk_sim hS hG (k := N) (Nat.le_refl N) with ⟨w, v, b1, b2, b3, b4⟩ | ⟨b1, b2⟩
  · have hv := stC_ok (cClk_ok hG (Nat.le_refl N) b2) hS.1.2.2 (cClk_on hG (Nat.le_refl N) b2)
    have e := an_eq hS hW hA (cl := -9) (Or.inr ⟨rfl, w, b1, rfl, rfl⟩)
    rw [← e.1, ← e.2.1, ← e.2.2]
    constructor
    · rintro ⟨-, q1, q2⟩
      refine ⟨w, b1, by omega, ?_⟩
      rcases nO_in (R := fun k => r1 g (lvP g N 8) k 3 == 1) (N := N) with ⟨-, q⟩ | ⟨j, e1, e2, -⟩
      · exact q
      · omega
    · rintro ⟨w', q0, q1, q2⟩
      rw [b1] at q0
      cases q0
      rw [q1, q2]; exact ⟨rfl, rfl, rfl⟩
  · constructor
    · rintro ⟨q, -⟩
      rcases hA with ⟨i, a1, a2, -⟩ | ⟨a1, v, a2, -⟩
      · omega
      · rw [b2] at a2; cases a2
    · rintro ⟨w, q, -⟩
      rw [b1] at q; cases q
theorem snd_tX {c g : Nat → Int} {N : Nat} {σ : gS} (hS : Sk c g N) (hW : Wf g) (hA : cAw c N σ) (hs : sndG g N) {w : mC} (hw : mClk g N = some w) : ∃ v, cClk c N N = some v ∧ tX c g (stC v) (lvP g N 8) (tn (wtN g w) N) N w ∧ mOK w ∧ cR w v ∧ (∀ k, k < N → σ 16 k = stC v k) ∧ (∀ k, k < N → σ 17 k = ((dCr (stC v) 8 k : Nat) : Int)) ∧ ∀ j, j < N → σ 19 j = ((tn (wtN g w) N j : Nat) : Int) ∧ (tn (wtN g w) N j < 8 ∧ tn (wtN g w) N j < N) := by
  have hG := cW_of hS hW
  have h8 := hS.1.2.2
  have hsn := (snd_eq hS hW hA).mpr hs
  obtain ⟨w', q0, q1, q2⟩ := hs
  rw [hw] at q0
  cases q0
  have hr : ∀ k, k < N → r1 g (lvP g N 8) k 3 = 0 := fun k hk => by
    have := fsR_none.mp q2 k hk
    have h01 := r1_01 g (lvP g N 8) k 3
    rcases h01 with e | e
    · exact e
    · rw [e] at this; cases this
  rcases hA with ⟨i, a1, a2, -⟩ | ⟨a1, v, a2, a3, a4, a5, a6, a7, a8, a9⟩
  · omega
  · rcases clk_sim hS hG (k := N) (Nat.le_refl N) with ⟨w', v', b1, b2, b3, b4⟩ | ⟨b1, -⟩
    · rw [hw] at b1
      cases b1
      rw [a2] at b2
      cases b2
      have hv := stC_ok (cClk_ok hG (Nat.le_refl N) a2) h8 (cClk_on hG (Nat.le_refl N) a2)
      have hf : fnd (wtN g w) N N := fnd_all h8 q1
      have hF := lvF_of hS hG hW hr
      refine ⟨v, a2, ⟨⟨hS, hG, hW⟩, ⟨hv, AS_of (AK_all hG (Nat.le_refl N) a2), hF, fun s hs h0 => ?_⟩, ⟨fun j hj => ?_, fun i j hi hj => hf.inj hi hj, fun s hs => ?_⟩, fun s hs H => thB_top b3 b4 (by omega) H⟩, b3, b4, a3, a4, fun j hj => ?_⟩
      · have hb : 0 ≤ v.2 (v.1 s) ∧ stC v s = v.2 (v.1 s) := by unfold stC at h0 ⊢; split at h0 <;> omega
        rw [hb.2]
        exact cnd_lv hF (bcn_all (Nat.le_refl N) a2 _ hb.1)
      · have lt := hf.lt hj
        have sp := st_sp b3 b4 (show tn (wtN g w) N j < 8 by omega)
        refine ⟨lt, fun h0 => ?_, fun n6 n7 i hi sp' => ?_⟩
        · have hvj := hv _ lt
          rcases sp with ⟨p1, p2⟩ | ⟨p1, p3, p2⟩
          · omega
          · refine hf.wait hj h8 (by omega) ((wtN_bit hS hW lt).mpr (Or.inl ⟨0, by rw [dN_s b3 (by omega) p1]; omega, by rw [cd_0, p2]⟩))
        · have l := hG.st lt hi sp'
          exact hf.wait hj h8 (by omega) ((wtN_bit hS hW lt).mpr (Or.inr ⟨by omega, i, hi, nm_of hi sp', rfl⟩))
      · have := ((knot_bits h8).mp q1) s hs
        obtain ⟨i, hi, e⟩ := (hf.bit (Nat.le_refl N) s).mp this
        exact ⟨i, hi, e⟩
      · have lt := hf.lt hj
        refine ⟨?_, by omega, lt⟩
        rw [a7 j hj, tn_eq hS hG hW b3 b4 hv j, hf.at hj]; rfl
    · rw [hw] at b1; cases b1
