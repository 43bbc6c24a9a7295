/-- clash, knot and raw of a page -/
def mAnV (g : Nat → Int) (N : Nat) (cl kn rw : Int) : Prop :=
  (∃ j : Nat, j < N ∧ cl = (j : Int) ∧ (∃ w, mClk g j = some w) ∧ mClk g (j + 1) = none ∧ kn = 0 ∧ rw = -9) ∨
  (cl = -9 ∧ ∃ w, mClk g N = some w ∧ kn = (((2 ^ N - 1) &&& ((oS (wtN g w) N N).1 ^^^ 255) : Nat) : Int) ∧ rw = nO (fsR (fun k => r1 g (lvP g N 8) k 3 == 1) N))
theorem mAn.v {g : Nat → Int} {N : Nat} {σ' : gS} (h : mAn g N σ') : mAnV g N (σ' 111 19) (σ' 111 20) (σ' 111 21) := by
  rcases h with ⟨j, h1, h2, h3, h4, h5, h6⟩ | ⟨h1, w, h2, h3, h4, h5, h6, h7⟩
  · exact Or.inl ⟨j, h1, h2, h3, h4, h5, h6⟩
  · exact Or.inr ⟨h1, w, h2, h4, h7⟩
theorem mAn.w {g : Nat → Int} {N : Nat} {σ' : gS} (h : mAn g N σ') (hc : σ' 111 19 = -9) : ∃ w, mClk g N = some w ∧ mA σ' w ∧ (∀ k, k < 8 → σ' 125 k = (oS (wtN g w) N N).2 k) ∧ (∀ k, k < 8 → σ' 126 k = lvP g N 8 k) := by
  rcases h with ⟨j, h1, h2, -⟩ | ⟨h1, w, h2, h3, h4, h5, h6, h7⟩
  · omega
  · exact ⟨w, h2, h3, h5, h6⟩
/-- the answers of about, of a stream, of a clock -/
def abP (g : Nat → Int) (N : Nat) (d s t what q : Int) : Prop := ∃ cl kn rw, mAnV g N cl kn rw ∧ ((what = 0 ∧ q = g 0) ∨ (what = 1 ∧ q = cl) ∨ (what = 2 ∧ q = kn) ∨ (what = 3 ∧ q = rw) ∨ (what = 4 ∧ ((q = 1 ∧ sndG g N) ∨ (q = 0 ∧ ¬ sndG g N))) ∨ (what = 5 ∧ q = g 49) ∨ (what = 6 ∧ q = ((thb g N : Nat) : Int)) ∨ (what = 7 ∧ q = d) ∨ (what = 8 ∧ q = s) ∨ (what = 9 ∧ q = t) ∨ ((what < 0 ∨ 9 < what) ∧ q = -2))
def stP (g : Nat → Int) (N : Nat) (x what q : Int) : Prop := (¬ (0 ≤ x ∧ x < g 0) ∧ q = -1) ∨ ∃ s : Nat, x = (s : Int) ∧ (s : Int) < g 0 ∧ ((what = 0 ∧ q = g (1 + s)) ∨ (what = 4 ∧ q = g (41 + s)) ∨ ((what < 0 ∨ 4 < what) ∧ q = -2) ∨ ((what = 1 ∨ what = 2 ∨ what = 3) ∧ mClk g N = none ∧ q = -9) ∨ ∃ w, mClk g N = some w ∧ ((what = 1 ∧ q = ((dN w s : Nat) : Int)) ∨ (what = 2 ∧ q = (oS (wtN g w) N N).2 s) ∨ (what = 3 ∧ q = lvP g N 8 s)))
def ckP (g : Nat → Int) (N : Nat) (x d q : Int) : Prop := (¬ (0 ≤ x ∧ x < g 0) ∧ q = -1) ∨ ∃ s : Nat, x = (s : Int) ∧ (s : Int) < g 0 ∧ ((mClk g N = none ∧ q = -1) ∨ ∃ w, mClk g N = some w ∧ ((¬ (0 ≤ d ∧ d < (dN w s : Int)) ∧ q = -1) ∨ ∃ e : Nat, d = (e : Int) ∧ e < dN w s ∧ q = w.2 (xs w s (dN w s - 1 - e))))
theorem mAn.no {g : Nat → Int} {N : Nat} {σ' : gS} (h : mAn g N σ') (hc : ¬ σ' 111 19 = -9) : mClk g N = none := by
  rcases h with ⟨j, h1, h2, h3, h4, -⟩ | ⟨h1, -⟩
  · have := mClk_none h4 (N - (j + 1))
    rw [show j + 1 + (N - (j + 1)) = N by omega] at this
    exact this
  · exact absurd h1 hc
