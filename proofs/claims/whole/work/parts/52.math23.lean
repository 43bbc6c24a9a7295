/-! the class's clocks: groups and what they are bound to (-1 free, -2 BASE) -/
theorem isF_3 : isF 3 := by unfold isF; decide
theorem isF_8 : isF 8 := by unfold isF; decide
theorem isF_101 : isF 101 := by unfold isF; decide
theorem isF_106 : isF 106 := by unfold isF; decide
def cA (σ : gS) (w : mC) : Prop := ∀ k, k < 8 → (σ 14 k = ((w.1 k : Nat) : Int) ∧ w.1 k < 8) ∧ σ 15 k = w.2 k
def cOK (w : mC) : Prop := ∀ k, k < 8 → w.1 k < 8 ∧ (w.2 k = -2 ∨ w.2 k = -1 ∨ (0 ≤ w.2 k ∧ w.2 k < 80))
def cBd (w : mC) (s : Nat) (v : Int) : Option mC := if w.2 (w.1 s) = -1 then some (w.1, upn w.2 (w.1 s) v) else if w.2 (w.1 s) = v then some w else none
def cMg (w : mC) (x y : Nat) : mC := (fun i => if w.1 i = y then x else w.1 i, w.2)
def cLk (w : mC) (s t : Nat) : Option mC := if w.1 s = w.1 t then some w else if w.2 (w.1 t) = -1 then some (cMg w (w.1 s) (w.1 t)) else mThen (cBd w s (w.2 (w.1 t))) fun w' => some (cMg w' (w.1 s) (w.1 t))
theorem cBd_fst {w w' : mC} {s : Nat} {v : Int} (h : cBd w s v = some w') : w'.1 = w.1 := by
  unfold cBd at h
  split at h
  · cases h; rfl
  · split at h
    · cases h; rfl
    · cases h
theorem cBd_ok {w w' : mC} (ho : cOK w) {s : Nat} {v : Int} (hv : v = -2 ∨ v = -1 ∨ (0 ≤ v ∧ v < 80)) (h : cBd w s v = some w') : cOK w' := by
  unfold cBd at h
  split at h
  · cases h
    intro k hk
    refine ⟨(ho k hk).1, ?_⟩
    by_cases q : k = w.1 s
    · show upn w.2 (w.1 s) v k = _ ∨ upn w.2 (w.1 s) v k = _ ∨ (_ ≤ upn w.2 (w.1 s) v k ∧ upn w.2 (w.1 s) v k < _)
      rw [q, upn_eq]; exact hv
    · show upn w.2 (w.1 s) v k = _ ∨ upn w.2 (w.1 s) v k = _ ∨ (_ ≤ upn w.2 (w.1 s) v k ∧ upn w.2 (w.1 s) v k < _)
      rw [upn_ne _ _ q]; exact (ho k hk).2
  · split at h
    · cases h; exact ho
    · cases h
theorem cMg_ok {w : mC} (ho : cOK w) {x y : Nat} (hx : x < 8) : cOK (cMg w x y) := fun k hk => by
  refine ⟨?_, (ho k hk).2⟩
  show (if w.1 k = y then x else w.1 k) < 8
  split
  · exact hx
  · exact (ho k hk).1
theorem cLk_ok {w w' : mC} (ho : cOK w) {s t : Nat} (hs : s < 8) (ht : t < 8) (h : cLk w s t = some w') : cOK w' := by
  have hx := (ho s hs).1
  unfold cLk at h
  split at h
  · cases h; exact ho
  · split at h
    · cases h; exact cMg_ok ho hx
    · cases e : cBd w s (w.2 (w.1 t)) with
      | none => rw [e] at h; cases h
      | some w1 =>
        rw [e] at h
        cases h
        exact cMg_ok (cBd_ok ho (ho _ (ho t ht).1).2 e) hx
theorem cA_set {σ : gS} {w : mC} (h : cA σ w) (r : Nat) (v : Int) : cA (up2 σ 15 r v) (w.1, upn w.2 r v) := fun k hk => by
  refine ⟨by rw [up2_c _ _ (by decide)]; exact (h k hk).1, ?_⟩
  by_cases q : k = r
  · subst q; rw [up2_eq]; show v = upn w.2 k v k; rw [upn_eq]
  · rw [up2_k _ _ q, (h k hk).2]; show _ = upn w.2 r v k; rw [upn_ne _ _ q]
def wGB (i _k : Nat) : Bool := i == 14 || i == 15
def oC (o : Option mC) (q : Int) (σ' : gS) : Prop := (∃ w', o = some w' ∧ q = 1 ∧ cA σ' w') ∨ (o = none ∧ q = 0)
def nmS (K : Int) (i : Nat) : Bool := decide (1 < K ∧ i < fgz K ∧ (K ≠ 6 ∨ 0 < i))
theorem nmS_t {K : Int} {i : Nat} (hi : i < 3) (h : sPl K i) : nmS K i = true := decide_eq_true ((sPl_sp K hi).mp h)
theorem nmS_f {K : Int} {i : Nat} (hi : i < 3) (h : ¬ sPl K i) : nmS K i = false := decide_eq_false (fun q => h ((sPl_sp K hi).mpr q))
def cAll (G : Nat → Int) (k : Nat) : Nat → mC → Option mC
  | 0, w => some w
  | i + 1, w => mThen (cAll G k i w) fun w' => if nmS (G (1 + k)) i = true then cLk w' k (fa G k i) else some w'
def cAsk (G : Nat → Int) (k : Nat) (w : mC) : Option mC :=
  if G (1 + k) = 0 then cBd w k (-2)
  else if G (1 + k) = 9 then mThen (cLk w (fa G k 0) (fa G k 1)) fun w => cBd w k (10 * (fa G k 1 : Nat) + 1)
  else if G (1 + k) = 10 then mThen (cLk w (fa G k 0) (fa G k 1)) fun w => cBd w k (10 * (fa G k 1 : Nat))
  else if G (1 + k) = 11 then mThen (cLk w k (fa G k 0)) fun w => mThen (cBd w (fa G k 1) (10 * (fa G k 0 : Nat) + 1)) fun w => cBd w (fa G k 2) (10 * (fa G k 0 : Nat))
  else cAll G k 3 w
/-- streams, kinds, figures of the class's flow: those told -/
def cW (G : Nat → Int) (N : Nat) : Prop := G 0 = (N : Int) ∧ N ≤ 8 ∧ ∀ s, s < N → (0 ≤ G (1 + s) ∧ G (1 + s) ≤ 11) ∧ ∀ i, i < 3 → (0 ≤ G (9 + 3 * s + i) ∧ G (9 + 3 * s + i) ≤ 9) ∧ (sPl (G (1 + s)) i → G (9 + 3 * s + i) < (N : Int))
theorem cW.fg {G : Nat → Int} {N : Nat} (h : cW G N) {k i : Nat} (hk : k < N) (hi : i < 3) : G (9 + 3 * k + i) = ((fa G k i : Nat) : Int) := by
  have := ((h.2.2 k hk).2 i hi).1
  unfold fa; omega
theorem cW.st {G : Nat → Int} {N : Nat} (h : cW G N) {k i : Nat} (hk : k < N) (hi : i < 3) (hp : sPl (G (1 + k)) i) : fa G k i < N := by
  have h1 := ((h.2.2 k hk).2 i hi).2 hp
  have h2 := ((h.2.2 k hk).2 i hi).1
  unfold fa; omega
theorem cW.l9 {G : Nat → Int} {N : Nat} (h : cW G N) {k i : Nat} (hk : k < N) (hi : i < 3) : fa G k i ≤ 9 := by
  have h2 := ((h.2.2 k hk).2 i hi).1
  unfold fa; omega
def cnx (w : mC) (r : Nat) : Nat := if 0 ≤ w.2 r then w.1 (w.2 r / 10).toNat else r
def cEnd (w : mC) (N : Nat) : Bool := decide (∀ s, s < N → w.2 (itr (cnx w) 8 (w.1 s)) < 0)
def cClk (G : Nat → Int) (N : Nat) : Nat → Option mC
  | 0 => some (fun s => s, fun _ => -1)
  | k + 1 => mThen (cClk G N k) fun w => mThen (cAsk G k w) fun w' => if cEnd w' N = true then some w' else none
theorem cnx_lt {w : mC} (ho : cOK w) {r : Nat} (hr : r < 8) : cnx w r < 8 := by
  have := (ho r hr).2
  unfold cnx
  split
  · exact (ho _ (by omega)).1
  · exact hr
theorem cAll_ok {G : Nat → Int} {N : Nat} (hG : cW G N) {k : Nat} (hk : k < N) : ∀ {i : Nat} {w w' : mC}, i ≤ 3 → cOK w → cAll G k i w = some w' → cOK w'
  | 0, w, w', _, ho, h => by cases h; exact ho
  | i + 1, w, w', hi, ho, h => by
    rw [cAll] at h
    cases e : cAll G k i w with
    | none => rw [e] at h; cases h
    | some w1 =>
      rw [e] at h
      have h1 := cAll_ok hG hk (i := i) (by omega) ho e
      have hN := hG.2.1
      have h2 : (if nmS (G (1 + k)) i = true then cLk w1 k (fa G k i) else some w1) = some w' := h
      by_cases q : nmS (G (1 + k)) i = true
      · rw [if_pos q] at h2
        have := hG.st hk (i := i) (by omega) ((sPl_sp _ (by omega)).mpr (of_decide_eq_true q))
        exact cLk_ok h1 (by omega) (by omega) h2
      · rw [if_neg q] at h2; cases h2; exact h1
theorem mThen_some {o : Option mC} {f : mC → Option mC} {w : mC} (h : mThen o f = some w) : ∃ w1, o = some w1 ∧ f w1 = some w := by
  cases o with
  | none => cases h
  | some w1 => exact ⟨w1, rfl, h⟩
theorem cAsk_ok {G : Nat → Int} {N : Nat} (hG : cW G N) {k : Nat} (hk : k < N) {w w' : mC} (ho : cOK w) (h : cAsk G k w = some w') : cOK w' := by
  have hN := hG.2.1
  unfold cAsk at h
  split at h
  · exact cBd_ok ho (by omega) h
  · split at h
    · next q =>
      have l0 := hG.st hk (i := 0) (by omega) (by unfold sPl; omega)
      have l1 := hG.st hk (i := 1) (by omega) (by unfold sPl; omega)
      obtain ⟨w1, e1, e2⟩ := mThen_some h
      exact cBd_ok (cLk_ok ho (by omega) (by omega) e1) (by omega) e2
    · split at h
      · next q =>
        have l0 := hG.st hk (i := 0) (by omega) (by unfold sPl; omega)
        have l1 := hG.st hk (i := 1) (by omega) (by unfold sPl; omega)
        obtain ⟨w1, e1, e2⟩ := mThen_some h
        exact cBd_ok (cLk_ok ho (by omega) (by omega) e1) (by omega) e2
      · split at h
        · next q =>
          have l0 := hG.st hk (i := 0) (by omega) (by unfold sPl; omega)
          obtain ⟨w1, e1, e2⟩ := mThen_some h
          obtain ⟨w2, e3, e4⟩ := mThen_some e2
          exact cBd_ok (cBd_ok (cLk_ok ho (by omega) (by omega) e1) (by omega) e3) (by omega) e4
        · exact cAll_ok hG hk (Nat.le_refl 3) ho h
theorem cClk_ok {G : Nat → Int} {N : Nat} (hG : cW G N) : ∀ {k : Nat} {w : mC}, k ≤ N → cClk G N k = some w → cOK w
  | 0, w, _, h => by cases h; exact fun k hk => ⟨hk, Or.inr (Or.inl rfl)⟩
  | k + 1, w, hk, h => by
    obtain ⟨w1, e1, e2⟩ := mThen_some h
    obtain ⟨w2, e3, e4⟩ := mThen_some e2
    split at e4
    · cases e4; exact cAsk_ok hG (by omega) (cClk_ok hG (by omega) e1) e3
    · cases e4
