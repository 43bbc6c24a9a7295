/-! pages alike in their fifty places work alike -/
def e50 (g h : Nat → Int) : Prop := ∀ k, k < 50 → g k = h k
theorem e50.rf {g : Nat → Int} : e50 g g := fun _ _ => rfl
theorem e50.up {g h : Nat → Int} (e : e50 g h) {i : Nat} {x y : Int} (hx : x = y) : e50 (upn g i x) (upn h i y) := fun k hk => by
  by_cases q : k = i
  · subst q; rw [upn_eq, upn_eq, hx]
  · rw [upn_ne _ _ q, upn_ne _ _ q]; exact e k hk
theorem sO_e {g h : Nat → Int} (e : e50 g h) {s i : Nat} (hs : s < 8) (hi : i < 3) : sO g s i = sO h s i := by
  unfold sO; rw [e (1 + s) (by omega), e (9 + 3 * s + i) (by omega)]
theorem fa_e {g h : Nat → Int} (e : e50 g h) {s i : Nat} (hs : s < 8) (hi : i < 3) : fa g s i = fa h s i := by
  unfold fa; rw [e (9 + 3 * s + i) (by omega)]
theorem xv_e {g h : Nat → Int} (e : e50 g h) (hW : Wf g) {s i : Nat} (hs : s < 8) (hn : (s : Int) < g 0) (hi : i < 3) : xv g s i = xv h s i := by
  unfold xv
  rw [← sO_e e hs hi, ← fa_e e hs hi]
  split
  · rfl
  · next q => exact e _ (by have := (sO_fa hW hs hn hi q).1; omega)
theorem vlM_e {g h : Nat → Int} (e : e50 g h) (hW : Wf g) {s : Nat} (hs : s < 8) (hn : (s : Int) < g 0) (a b : Int) : vlM g s a b = vlM h s a b := by
  unfold vlM
  rw [← xv_e e hW hs hn (show 0 < 3 by omega), ← xv_e e hW hs hn (show 1 < 3 by omega), ← xv_e e hW hs hn (show 2 < 3 by omega), ← e (1 + s) (by omega), ← e (9 + 3 * s) (by omega), ← e (33 + s) (by omega)]
theorem thB_e {g h : Nat → Int} (e : e50 g h) {w : mC} (hw : mOK w) {s : Nat} (hs : s < 8) : thB w g s = thB w h s := by
  cases q : thB w h s with
  | true =>
    have := of_decide_eq_true q
    exact thB_yes (fun d hd => by rw [e _ (by have := cd_lt hw hs hd; omega)]; exact this d hd)
  | false =>
    have := of_decide_eq_false q
    refine decide_eq_false (fun q2 => this (fun d hd => ?_))
    rw [← e _ (by have := cd_lt hw hs hd; omega)]; exact q2 d hd
theorem mV_e {g h : Nat → Int} (e : e50 g h) (hW : Wf g) {w : mC} (hw : mOK w) {T : Nat → Nat} {a b : Int} : ∀ {j : Nat}, (∀ i, i < j → T i < 8 ∧ (T i : Int) < g 0) → e50 (mV g w T a b j) (mV h w T a b j)
  | 0, _ => fun k hk => by show rs g 8 k = rs h 8 k; unfold rs; rw [e k hk]
  | j + 1, hT => by
    have ih := mV_e e hW hw (T := T) (a := a) (b := b) (j := j) (fun i hi => hT i (by omega))
    have hw2 := mV_wf hW w a b (j := j) (fun i hi => (hT i (by omega)).1)
    have hTj := hT j (by omega)
    have h0 := mV_low g w T a b (k := 0) (by omega) j (fun i hi => (hT i (by omega)).1)
    rw [mV, mV]
    refine ih.up ?_
    rw [thB_e ih hw hTj.1, vlM_e ih hw2 hTj.1 (by rw [h0]; exact hTj.2)]
theorem kv_e {g h : Nat → Int} (e : e50 g h) (hW : Wf g) {s : Nat} (hs : s < 8) (hn : (s : Int) < g 0) : kv g s = kv h s := by
  unfold kv
  rw [← e (1 + s) (by omega), ← fa_e e hs (show 1 < 3 by omega), ← fa_e e hs (show 0 < 3 by omega)]
  split
  · exact e _ (by have := hW.st hs hn (i := 1) (by omega) (by unfold sPl; omega); omega)
  · split
    · exact e _ (by have := hW.st hs hn (i := 0) (by omega) (by unfold sPl; omega); omega)
    · rfl
theorem kpM_e {g h : Nat → Int} (e : e50 g h) (hW : Wf g) : ∀ {s : Nat}, (s : Int) ≤ g 0 → e50 (kpM g s) (kpM h s)
  | 0, _ => e
  | s + 1, hs => by
    have h0 := hW.1
    have ih := kpM_e e hW (s := s) (by omega)
    have hw : Wf (kpM g s) := hW.cong (fun k hk => kpM_out g s (by omega) (by omega))
    rw [kpM, kpM, ← ih (41 + s) (by omega)]
    split
    · exact ih
    · exact ih.up (kv_e ih hw (by omega) (by rw [kpM_out g s (by omega) (by omega)]; omega))
theorem tkM_e {g h : Nat → Int} (e : e50 g h) {N : Nat} (hg : tOk g N) {w : mC} (hw : mOK w) {T : Nat → Nat} (hT : ∀ i, i < N → T i < N) (a b : Int) : e50 (tkM g w T N a b) (tkM h w T N a b) := by
  obtain ⟨hW, hV, hN⟩ := hg
  have hN8 := hW.1
  have hT2 : ∀ i, i < N → T i < 8 ∧ (T i : Int) < g 0 := fun i hi => by have := hT i hi; omega
  have h1 := mV_e e hW hw (a := a) (b := b) hT2
  have h2 := kpM_e h1 (mV_wf hW w a b (fun i hi => (hT2 i hi).1)) (s := N) (by rw [mV_low g w T a b (by omega) N (fun i hi => (hT2 i hi).1)]; omega)
  exact h2.up (by rw [h2 49 (by omega)])
theorem mN_e {g h : Nat → Int} (e : e50 g h) (hW : Wf g) {w : mC} (hw : mOK w) {T : Nat → Nat} {a b : Int} : ∀ {j : Nat}, (∀ i, i < j → T i < 8 ∧ (T i : Int) < g 0) → mN g w T a b j = mN h w T a b j
  | 0, _ => rfl
  | j + 1, hT => by
    have ih := mN_e e hW hw (T := T) (a := a) (b := b) (j := j) (fun i hi => hT i (by omega))
    have h1 := mV_e e hW hw (T := T) (a := a) (b := b) (j := j) (fun i hi => hT i (by omega))
    rw [mN, mN, ih, thB_e h1 hw (hT j (by omega)).1]
theorem tkC_e {g h : Nat → Int} (e : e50 g h) {N : Nat} (hg : tOk g N) {w : mC} (hw : mOK w) {T : Nat → Nat} (hT : ∀ i, i < N → T i < N) {a b : Int} (ha : 0 ≤ a ∧ a ≤ 99) (hb : 0 ≤ b ∧ b ≤ 99) : ∀ n, e50 (tkC g w T N a b n) (tkC h w T N a b n)
  | 0 => e
  | n + 1 => tkM_e (tkC_e e hg hw hT ha hb n) (tkC_ok hg hT ha hb n) hw hT a b
theorem afM_e {g h : Nat → Int} (e : e50 g h) : e50 (afM g) (afM h) := by
  unfold afM
  refine e50.up (fun k hk => ?_) rfl
  unfold af
  split
  · unfold kf; rw [e (1 + (k - 33)) (by omega), e (9 + 3 * (k - 33)) (by omega)]
  · split
    · rfl
    · exact e k hk
theorem cpr_e (h g : Nat → Int) : e50 (cpr h g 50) h := fun _ hk => cpr_50 h g hk
theorem exP_e {σ : gS} {n : Nat} (hs : seenOK σ n) {R Q : Nat → Nat → Int} (e : ∀ t, e50 (R t) (Q t)) : exP σ n R ↔ exP σ n Q := by
  have key : ∀ t i, i < n → (exC σ R i t ↔ exC σ Q i t) := fun t i hi => by
    unfold exC
    rw [e (t + 1) _ (by have := hs.2 i hi; omega)]
  exact ⟨fun h t ht i hi => (key t i hi).mp (h t ht i hi), fun h t ht i hi => (key t i hi).mpr (h t ht i hi)⟩
