/-- what an asking does to the clocks: it can be, or it can not -/
def oP (o : Option mC) (q : Int) (σ' : gS) : Prop := (∃ w', o = some w' ∧ q = 1 ∧ mA σ' w') ∨ (o = none ∧ q = 0)
theorem mA_set {σ : gS} {w : mC} (h : mA σ w) (r : Nat) (v : Int) : mA (up2 σ 124 r v) (w.1, upn w.2 r v) := by
  refine ⟨fun k hk => ?_, fun k hk => ?_⟩
  · rw [up2_c σ v (by decide)]; exact h.1 k hk
  · by_cases q : k = r
    · subst q; rw [up2_eq]; exact (upn_eq w.2 k v).symm
    · rw [up2_k σ v q, h.2 k hk]; exact (upn_ne w.2 v q).symm
theorem mA_link {σ : gS} {w : mC} (h : mA σ w) (f o : Nat) (ho : o < 8) : mA (up2 σ 123 f ((o : Nat) : Int)) (upn w.1 f o, w.2) := by
  refine ⟨fun k hk => ?_, fun k hk => ?_⟩
  · by_cases q : k = f
    · subst q
      rw [up2_eq]
      exact ⟨by show _ = ((upn w.1 k o k : Nat) : Int); rw [upn_eq], by show upn w.1 k o k < 8; rw [upn_eq]; exact ho⟩
    · rw [up2_k σ _ q]
      have := h.1 k hk
      exact ⟨by show _ = ((upn w.1 f o k : Nat) : Int); rw [upn_ne w.1 o q]; exact this.1, by show upn w.1 f o k < 8; rw [upn_ne w.1 o q]; exact this.2⟩
  · rw [up2_c σ _ (by decide)]; exact h.2 k hk
/-- a figure's place names a stream -/
def sPl (K : Int) (i : Nat) : Prop := 1 < K ∧ ((i : Int) < 1 ∨ ((i : Int) < 2 ∧ K ≠ 7) ∨ K = 5 ∨ K = 11) ∧ (K ≠ 6 ∨ 0 < i)
/-- a page that can be: streams, kinds, figures -/
def Wf (g : Nat → Int) : Prop := (0 ≤ g 0 ∧ g 0 ≤ 8) ∧ ∀ s, s < 8 → (0 ≤ g (1 + s) ∧ g (1 + s) ≤ 11) ∧ ∀ i, i < 3 → (0 ≤ g (9 + 3 * s + i) ∧ g (9 + 3 * s + i) ≤ 9) ∧ ((s : Int) < g 0 → sPl (g (1 + s)) i → g (9 + 3 * s + i) < g 0)
def fa (g : Nat → Int) (k i : Nat) : Nat := (g (9 + 3 * k + i)).toNat
theorem Wf.fg {g : Nat → Int} (h : Wf g) {k i : Nat} (hk : k < 8) (hi : i < 3) : g (9 + 3 * k + i) = ((fa g k i : Nat) : Int) := by
  have := ((h.2 k hk).2 i hi).1
  unfold fa; omega
theorem Wf.st {g : Nat → Int} (h : Wf g) {k i : Nat} (hk : k < 8) (hn : (k : Int) < g 0) (hi : i < 3) (hp : sPl (g (1 + k)) i) : fa g k i < 8 := by
  have h1 := ((h.2 k hk).2 i hi).2 hn hp
  have h2 := ((h.2 k hk).2 i hi).1
  have h3 := h.1
  unfold fa; omega
def mThen (o : Option mC) (f : mC → Option mC) : Option mC := match o with
  | some w => f w
  | none => none
def mAsk (g : Nat → Int) (k : Nat) (w : mC) : Option mC :=
  if g (1 + k) = 0 then mSet w k (-1)
  else if g (1 + k) = 1 then some w
  else if g (1 + k) = 5 then mThen (mLike w k (fa g k 0)) fun w => mThen (mLike w k (fa g k 1)) fun w => mLike w k (fa g k 2)
  else if g (1 + k) = 6 then mLike w k (fa g k 1)
  else if g (1 + k) = 7 then mLike w k (fa g k 0)
  else if g (1 + k) = 9 then mThen (mLike w (fa g k 0) (fa g k 1)) fun w => mSet w k (10 * (fa g k 1 : Nat) + 1)
  else if g (1 + k) = 10 then mThen (mLike w (fa g k 0) (fa g k 1)) fun w => mSet w k (10 * (fa g k 1 : Nat))
  else if g (1 + k) = 11 then mThen (mLike w k (fa g k 0)) fun w => mThen (mSet w (fa g k 1) (10 * (fa g k 0 : Nat) + 1)) fun w => mSet w (fa g k 2) (10 * (fa g k 0 : Nat))
  else mThen (mLike w k (fa g k 0)) fun w => mLike w k (fa g k 1)
theorem mThen_ok {o : Option mC} {f : mC → Option mC} {w' : mC} (e : mThen o f = some w') : ∃ w, o = some w ∧ f w = some w' := by
  cases o with
  | none => cases e
  | some w => exact ⟨w, rfl, e⟩
theorem mAsk_ok {g : Nat → Int} (hW : Wf g) {k : Nat} (hk : k < 8) (hn : (k : Int) < g 0) {w w' : mC} (h : mOK w) (e : mAsk g k w = some w') : mOK w' := by
  have hst : ∀ i, i < 3 → sPl (g (1 + k)) i → fa g k i < 8 := fun i hi hp => hW.st hk hn hi hp
  unfold mAsk at e
  split at e
  · exact mSet_ok h hk (Or.inl rfl) e
  split at e
  · cases e; exact h
  split at e
  · next q => obtain ⟨w1, e1, e⟩ := mThen_ok e; obtain ⟨w2, e2, e⟩ := mThen_ok e
              exact mLike_ok (mLike_ok (mLike_ok h hk (hst 0 (by omega) (by unfold sPl; omega)) e1) hk (hst 1 (by omega) (by unfold sPl; omega)) e2) hk (hst 2 (by omega) (by unfold sPl; omega)) e
  split at e
  · exact mLike_ok h hk (hst 1 (by omega) (by unfold sPl; omega)) e
  split at e
  · exact mLike_ok h hk (hst 0 (by omega) (by unfold sPl; omega)) e
  split at e
  · obtain ⟨w1, e1, e⟩ := mThen_ok e
    have l1 := hst 1 (by omega) (by unfold sPl; omega)
    exact mSet_ok (mLike_ok h (hst 0 (by omega) (by unfold sPl; omega)) l1 e1) hk (by omega) e
  split at e
  · obtain ⟨w1, e1, e⟩ := mThen_ok e
    have l1 := hst 1 (by omega) (by unfold sPl; omega)
    exact mSet_ok (mLike_ok h (hst 0 (by omega) (by unfold sPl; omega)) l1 e1) hk (by omega) e
  split at e
  · obtain ⟨w1, e1, e⟩ := mThen_ok e
    obtain ⟨w2, e2, e⟩ := mThen_ok e
    have l0 := hst 0 (by omega) (by unfold sPl; omega)
    exact mSet_ok (mSet_ok (mLike_ok h hk l0 e1) (hst 1 (by omega) (by unfold sPl; omega)) (by omega) e2) (hst 2 (by omega) (by unfold sPl; omega)) (by omega) e
  · obtain ⟨w1, e1, e⟩ := mThen_ok e
    have hK := (hW.2 k hk).1
    exact mLike_ok (mLike_ok h hk (hst 0 (by omega) (by unfold sPl; omega)) e1) hk (hst 1 (by omega) (by unfold sPl; omega)) e
def mClk (g : Nat → Int) : Nat → Option mC
  | 0 => some (fun s => s, fun _ => -9)
  | k + 1 => mThen (mClk g k) (mAsk g k)
theorem m0_ok : mOK (fun s => s, fun _ => -9) := by
  have h1 : ∀ j k, itr (fun s => s) j k = k := fun j k => by induction j with
    | zero => rfl
    | succ j ih => exact ih
  exact ⟨fun k hk => ⟨hk, by rw [h1]⟩, fun k _ => Or.inl rfl, fun k _ => by show (-9 : Int) < 0; omega⟩
theorem mClk_ok {g : Nat → Int} (hW : Wf g) : ∀ {k : Nat}, (k : Int) ≤ g 0 → ∀ {w : mC}, mClk g k = some w → mOK w
  | 0, _, w, e => by cases e; exact m0_ok
  | k + 1, hk, w, e => by
    obtain ⟨w1, e1, e2⟩ := mThen_ok e
    have := hW.1
    exact mAsk_ok hW (by omega) (by omega) (mClk_ok hW (by omega) e1) e2
