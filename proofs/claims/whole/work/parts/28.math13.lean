/-! what the reference's calls may change: wSc is scratch -/
def wSc (i k : Nat) : Bool := i == 113 || i == 115 || i == 128 || (decide (123 ≤ i) && decide (i ≤ 127)) || (i == 111 && (k == 0 || k == 3 || k == 19 || k == 20 || k == 21 || k == 26 || k == 27))
def wTx (i k : Nat) : Bool := wSc i k || i == 112 || (i == 111 && k == 2)
def wPg (i k : Nat) : Bool := wSc i k || i == 114 || i == 116 || (i == 111 && k == 8)
def wPr (i k : Nat) : Bool := wSc i k || i == 114 || i == 118 || (i == 111 && k == 8)
def wSl (i k : Nat) : Bool := wSc i k || i == 117 || i == 118
def wSn (i k : Nat) : Bool := wSc i k || (decide (119 ≤ i) && decide (i ≤ 122)) || (i == 111 && k == 11)
def wNo (i k : Nat) : Bool := i == 116 || (i == 111 && k == 8)
theorem sc_0 (i k : Nat) (h : (i == 111 && k == 0) = true) : wSc i k = true := by simp at h; simp [wSc]; omega
theorem sc_an (i k : Nat) (h : wAn i k = true) : wSc i k = true := by simp [wAn] at h; simp [wSc]; omega
theorem sc_rd (i k : Nat) (h : wRd i k = true) : wSc i k = true := by simp [wRd] at h; simp [wSc]; omega
theorem sc_pub (i k : Nat) (h : wPub i k = true) : wSc i k = true := by simp [wPub] at h; simp [wSc]; omega
theorem sc_127 (i k : Nat) (h : w127 i k = true) : wSc i k = true := by simp [w127] at h; simp [wSc]; omega
theorem sc_tr (i k : Nat) (h : wTk 115 i k = true) : wSc i k = true := by simp [wTk] at h; simp [wSc]; omega
theorem pg_sc (i k : Nat) (h : wSc i k = true) : wPg i k = true := by simp [wPg, h]
theorem pg_tk (i k : Nat) (h : wTk 114 i k = true) : wPg i k = true := by simp [wTk] at h; simp [wPg, wSc]; omega
theorem pg_no (i k : Nat) (h : wNo i k = true) : wPg i k = true := by simp [wNo] at h; simp [wPg, wSc]; omega
theorem pr_sc (i k : Nat) (h : wSc i k = true) : wPr i k = true := by simp [wPr, h]
theorem pr_tk (i k : Nat) (h : wTk 114 i k = true) : wPr i k = true := by simp [wTk] at h; simp [wPr, wSc]; omega
theorem tx_sc (i k : Nat) (h : wSc i k = true) : wTx i k = true := by simp [wTx, h]
theorem sl_sc (i k : Nat) (h : wSc i k = true) : wSl i k = true := by simp [wSl, h]
theorem sn_sc (i k : Nat) (h : wSc i k = true) : wSn i k = true := by simp [wSn, h]
def sndG (g : Nat → Int) (N : Nat) : Prop := ∃ w, mClk g N = some w ∧ ((2 ^ N - 1) &&& ((oS (wtN g w) N N).1 ^^^ 255) = 0) ∧ fsR (fun k => r1 g (lvP g N 8) k 3 == 1) N = none
theorem mClk_none {g : Nat → Int} {j : Nat} (h : mClk g j = none) : ∀ d, mClk g (j + d) = none
  | 0 => h
  | d + 1 => by
    show mThen (mClk g (j + d)) _ = none
    rw [mClk_none h d]; rfl
theorem mAn_iff {g : Nat → Int} {N : Nat} {σ' : gS} (h : mAn g N σ') : (σ' 111 19 = -9 ∧ σ' 111 20 = 0 ∧ σ' 111 21 = -9) ↔ sndG g N := by
  rcases h with ⟨j, h1, h2, h3, h4, h5, h6⟩ | ⟨h1, w, h2, h3, h4, h5, h6, h7⟩
  · constructor
    · intro q; omega
    · rintro ⟨w, q, -⟩
      have := mClk_none h4 (N - (j + 1))
      rw [show j + 1 + (N - (j + 1)) = N by omega, q] at this
      cases this
  · constructor
    · rintro ⟨-, q2, q3⟩
      refine ⟨w, h2, by omega, ?_⟩
      rcases nO_in (R := fun k => r1 g (lvP g N 8) k 3 == 1) (N := N) with ⟨-, q⟩ | ⟨j, e1, e2, -⟩
      · exact q
      · omega
    · rintro ⟨w2, q1, q2, q3⟩
      rw [h2] at q1
      cases q1
      refine ⟨h1, by rw [h4, q2]; rfl, by rw [h7, q3]; rfl⟩
/-- the pages that were noted -/
def noteR (D D' : Nat) (σ σ' : gS) : Prop := (D < 14 ∧ D' = D + 1 ∧ ∀ x, x < 50 * D → σ' 116 x = σ 116 x) ∨ (D = 14 ∧ D' = 14 ∧ ∀ x, x < 650 → σ' 116 x = σ 116 (x + 50))
def noteP (D' : Nat) (σ σ' : gS) : Prop := ∀ k, k < 50 → σ' 116 (50 * (D' - 1) + k) = σ 114 k
/-- the bits of those that are there -/
def thb (g : Nat → Int) : Nat → Nat
  | 0 => 0
  | s + 1 => thb g s ||| (if g (41 + s) = -9 then 0 else 2 ^ s)
theorem thb_lt (g : Nat → Int) : ∀ {s : Nat}, s ≤ 8 → thb g s < 256
  | 0, _ => by show (0 : Nat) < 256; decide
  | s + 1, h => by
    unfold thb
    refine or_256 (thb_lt g (by omega)) ?_
    split
    · decide
    · exact pow_256 (by omega)
/-- rows that are told anew -/
def tlR (g : Nat → Int) (s : Nat) (K a b c : Int) : Nat → Int := upn (upn (upn (upn g (1 + s) K) (9 + 3 * s) a) (9 + 3 * s + 1) b) (9 + 3 * s + 2) c
def figOK (K a b c n : Int) : Prop := (0 ≤ K ∧ K ≤ 11) ∧ (0 ≤ a ∧ a ≤ mst K 0 n) ∧ (0 ≤ b ∧ b ≤ (if 1 < fgz K then mst K 1 n else 0)) ∧ (0 ≤ c ∧ c ≤ (if 2 < fgz K then mst K 2 n else 0))
theorem tlR_wf {g : Nat → Int} (hW : Wf g) {s : Nat} (hs : s < 8) (hn : (s : Int) < g 0) {K a b c : Int} (h : figOK K a b c (g 0)) : Wf (tlR g s K a b c) := by
  have hg := hW.1
  have hlow : ∀ x, x ≠ 1 + s → ¬ (9 + 3 * s ≤ x ∧ x ≤ 9 + 3 * s + 2) → tlR g s K a b c x = g x := fun x h1 h2 => by
    unfold tlR; rw [upn_ne _ _ (by omega), upn_ne _ _ (by omega), upn_ne _ _ (by omega), upn_ne _ _ h1]
  have hm : ∀ i n : Int, n ≤ 8 → mst K i n ≤ 9 := fun i n hn => by unfold mst; split; omega; split <;> omega
  obtain ⟨hK, ha, hb, hc⟩ := h
  have e1 : tlR g s K a b c (1 + s) = K := by unfold tlR; rw [upn_ne _ _ (by omega), upn_ne _ _ (by omega), upn_ne _ _ (by omega), upn_eq]
  have ea : tlR g s K a b c (9 + 3 * s) = a := by unfold tlR; rw [upn_ne _ _ (by omega), upn_ne _ _ (by omega), upn_eq]
  have eb : tlR g s K a b c (9 + 3 * s + 1) = b := by unfold tlR; rw [upn_ne _ _ (by omega), upn_eq]
  have ec : tlR g s K a b c (9 + 3 * s + 2) = c := by unfold tlR; rw [upn_eq]
  refine ⟨by rw [hlow 0 (by omega) (by omega)]; exact hg, fun t ht => ?_⟩
  rw [hlow 0 (by omega) (by omega)]
  by_cases q : t = s
  · subst q
    rw [e1]
    refine ⟨hK, fun i hi => ?_⟩
    have h0 := hm 0 (g 0) hg.2
    have h1 := hm 1 (g 0) hg.2
    have h2 := hm 2 (g 0) hg.2
    have hfz := fgz_in K
    have hst : ∀ j : Nat, j < 3 → sPl K j → j < fgz K ∧ mst K (j : Int) (g 0) = g 0 - 1 := fun j hj hp => by
      unfold sPl at hp
      refine ⟨?_, ?_⟩
      · unfold fgz; split
        · omega
        · split <;> omega
      · unfold mst; rw [if_neg (by omega), if_neg (by omega)]
    rcases (show i = 0 ∨ i = 1 ∨ i = 2 by omega) with rfl | rfl | rfl
    · rw [Nat.add_zero, ea]
      refine ⟨by omega, fun _ hp => ?_⟩
      have := (hst 0 (by omega) hp).2
      have e : mst K ((0 : Nat) : Int) (g 0) = mst K 0 (g 0) := rfl
      omega
    · rw [eb]
      refine ⟨⟨by omega, by split at hb <;> omega⟩, fun _ hp => ?_⟩
      have h3 := hst 1 (by omega) hp
      have e : mst K ((1 : Nat) : Int) (g 0) = mst K 1 (g 0) := rfl
      rw [if_pos h3.1] at hb
      omega
    · rw [ec]
      refine ⟨⟨by omega, by split at hc <;> omega⟩, fun _ hp => ?_⟩
      have h3 := hst 2 (by omega) hp
      have e : mst K ((2 : Nat) : Int) (g 0) = mst K 2 (g 0) := rfl
      rw [if_pos h3.1] at hc
      omega
  · rw [hlow (1 + t) (by omega) (by omega)]
    refine ⟨(hW.2 t ht).1, fun i hi => ?_⟩
    rw [hlow (9 + 3 * t + i) (by omega) (by omega)]
    exact (hW.2 t ht).2 i hi
