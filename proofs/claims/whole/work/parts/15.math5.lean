/-! streams of an equation, clocks of a stream, waits, orders, levels -/
def sO (g : Nat → Int) (k i : Nat) : Int := if 1 < g (1 + k) ∧ ((i : Int) < 1 ∨ ((i : Int) < 2 ∧ g (1 + k) ≠ 7) ∨ g (1 + k) = 5 ∨ g (1 + k) = 11) ∧ (g (1 + k) ≠ 6 ∨ 0 < i) then g (9 + 3 * k + i) else -9
theorem sO_of {g : Nat → Int} {k i : Nat} {q : Int} (h : ((1 < g (1 + k) ∧ ((i : Int) < 1 ∨ ((i : Int) < 2 ∧ g (1 + k) ≠ 7) ∨ g (1 + k) = 5 ∨ g (1 + k) = 11) ∧ (g (1 + k) ≠ 6 ∨ 0 < i)) ∧ q = g (9 + 3 * k + i)) ∨ (¬ (1 < g (1 + k) ∧ ((i : Int) < 1 ∨ ((i : Int) < 2 ∧ g (1 + k) ≠ 7) ∨ g (1 + k) = 5 ∨ g (1 + k) = 11) ∧ (g (1 + k) ≠ 6 ∨ 0 < i)) ∧ q = -9)) : q = sO g k i := by
  unfold sO
  rcases h with ⟨h, rfl⟩ | ⟨h, rfl⟩
  · rw [if_pos h]
  · rw [if_neg h]
theorem sO_in {g : Nat → Int} (hW : Wf g) {k i : Nat} (hk : k < 8) (hn : (k : Int) < g 0) (hi : i < 3) : sO g k i = -9 ∨ (0 ≤ sO g k i ∧ sO g k i < g 0 ∧ sO g k i < 8) := by
  unfold sO
  split
  · next h =>
    have h1 := ((hW.2 k hk).2 i hi).2 hn h
    have h2 := ((hW.2 k hk).2 i hi).1
    have h3 := hW.1
    omega
  · exact Or.inl rfl
def fb (g : Nat → Int) (k i : Nat) : Nat := if sO g k i = -9 then 0 else 2 ^ (sO g k i).toNat
def fbA (g : Nat → Int) (k : Nat) : Nat → Nat
  | 0 => 0
  | i + 1 => fbA g k i ||| fb g k i
def figS (g : Nat → Int) (k : Nat) : Nat := if g (1 + k) = 6 ∨ g (1 + k) = 7 then 0 else fbA g k 3
theorem or_256 {a b : Nat} (ha : a < 256) (hb : b < 256) : a ||| b < 256 := Nat.or_lt_two_pow (n := 8) ha hb
theorem pow_256 {j : Nat} (hj : j < 8) : 2 ^ j < 256 := by
  have : ∀ j, j < 8 → 2 ^ j < 256 := by decide
  exact this j hj
theorem fb_lt {g : Nat → Int} (hW : Wf g) {k i : Nat} (hk : k < 8) (hn : (k : Int) < g 0) (hi : i < 3) : fb g k i < 256 := by
  unfold fb
  have := sO_in hW hk hn hi
  split
  · decide
  · exact pow_256 (by omega)
theorem fbA_lt {g : Nat → Int} (hW : Wf g) {k : Nat} (hk : k < 8) (hn : (k : Int) < g 0) : ∀ {i : Nat}, i ≤ 3 → fbA g k i < 256
  | 0, _ => by show (0 : Nat) < 256; decide
  | i + 1, hi => or_256 (fbA_lt hW hk hn (by omega)) (fb_lt hW hk hn (by omega))
theorem figS_lt {g : Nat → Int} (hW : Wf g) {k : Nat} (hk : k < 8) (hn : (k : Int) < g 0) : figS g k < 256 := by
  unfold figS; split
  · decide
  · exact fbA_lt hW hk hn (Nat.le_refl 3)
/-- the clocks of a stream, the outermost first -/
def xs (w : mC) (s j : Nat) : Nat := itr (nx w.1 w.2) j (rt w.1 s)
theorem xs_lt {w : mC} (h : mOK w) {s : Nat} (hs : s < 8) (j : Nat) : xs w s j < 8 := itr_nx_lt h.1 h.2.1 (rt_lt h.1 hs) j
def dNr (w : mC) : Nat → Nat → Nat
  | 0, _ => 0
  | f + 1, x => if 0 ≤ w.2 x then dNr w f (nx w.1 w.2 x) + 1 else 0
def dN (w : mC) (s : Nat) : Nat := dNr w 8 (rt w.1 s)
theorem dNr_neg {w : mC} {x : Nat} (h : w.2 x < 0) : ∀ f, dNr w f x = 0
  | 0 => rfl
  | f + 1 => by show (if _ then _ else _) = 0; rw [if_neg (by omega)]
theorem dNr_le (w : mC) : ∀ f x, dNr w f x ≤ f
  | 0, _ => Nat.le_refl 0
  | f + 1, x => by
    show (if 0 ≤ w.2 x then dNr w f (nx w.1 w.2 x) + 1 else 0) ≤ f + 1
    have := dNr_le w f (nx w.1 w.2 x)
    split <;> omega
theorem dN_le (w : mC) (s : Nat) : dN w s ≤ 8 := dNr_le w 8 _
theorem dNr_step {w : mC} {f x : Nat} (h : 0 ≤ w.2 x) : dNr w (f + 1) x = dNr w f (nx w.1 w.2 x) + 1 := if_pos h
theorem dN_at {w : mC} {s : Nat} : ∀ {j : Nat}, j < dN w s → 0 ≤ w.2 (xs w s j) := by
  have key : ∀ j f x, j < dNr w f x → 0 ≤ w.2 (itr (nx w.1 w.2) j x) := by
    intro j
    induction j with
    | zero =>
      intro f x h
      cases f with
      | zero => exact absurd h (Nat.not_lt_zero _)
      | succ f =>
        rcases Int.lt_or_le (w.2 x) 0 with q | q
        · rw [dNr_neg q] at h; exact absurd h (Nat.not_lt_zero _)
        · exact q
    | succ j ih =>
      intro f x h
      cases f with
      | zero => exact absurd h (Nat.not_lt_zero _)
      | succ f =>
        rcases Int.lt_or_le (w.2 x) 0 with q | q
        · rw [dNr_neg q] at h; exact absurd h (Nat.not_lt_zero _)
        · rw [dNr_step q] at h
          rw [itr_add (nx w.1 w.2) x j 1]
          exact ih f (nx w.1 w.2 x) (by omega)
  intro j h
  exact key j 8 _ h
def wtA (a : Nat) (w : mC) (s : Nat) : Nat → Nat
  | 0 => a
  | d + 1 => wtA a w s d ||| 2 ^ (w.2 (xs w s d) / 10).toNat
def wtN (g : Nat → Int) (w : mC) (k : Nat) : Nat := wtA (figS g k) w k (dN w k)
theorem wtA_lt {a : Nat} (ha : a < 256) {w : mC} (h : mOK w) {s : Nat} (hs : s < 8) : ∀ {d : Nat}, d ≤ dN w s → wtA a w s d < 256
  | 0, _ => ha
  | d + 1, hd => by
    have h1 := h.2.1 _ (xs_lt h hs d)
    have h2 := dN_at (w := w) (s := s) (j := d) (by omega)
    exact or_256 (wtA_lt ha h hs (by omega)) (pow_256 (by omega))
def w127 (i _k : Nat) : Bool := i == 127
theorem mA.keep {σ σ' : gS} {w : mC} (h : mA σ w) (h1 : σ' 123 = σ 123) (h2 : σ' 124 = σ 124) : mA σ' w := ⟨fun k hk => by rw [h1]; exact h.1 k hk, fun k hk => by rw [h2]; exact h.2 k hk⟩
/-- the least of those that R tells -/
def fsR (R : Nat → Bool) : Nat → Option Nat
  | 0 => none
  | n + 1 => match fsR R n with
    | some k => some k
    | none => if R n = true then some n else none
theorem fsR_none {R : Nat → Bool} : ∀ {n : Nat}, fsR R n = none ↔ ∀ k, k < n → R k = false
  | 0 => ⟨fun _ k h => absurd h (Nat.not_lt_zero _), fun _ => rfl⟩
  | n + 1 => by
    have ih := fsR_none (R := R) (n := n)
    unfold fsR
    cases e : fsR R n with
    | some k =>
      refine ⟨fun h => (by cases h), fun h => ?_⟩
      rw [ih.mpr (fun k hk => h k (by omega))] at e
      cases e
    | none =>
      have h1 := ih.mp e
      cases hr : R n with
      | true => exact ⟨fun h => (by simp at h), fun h => (by have := h n (by omega); rw [hr] at this; cases this)⟩
      | false => exact ⟨fun _ k hk => by
          rcases Nat.lt_or_ge k n with q | q
          · exact h1 k q
          · rw [show k = n by omega]; exact hr, fun _ => by simp⟩
theorem fsR_some {R : Nat → Bool} : ∀ {n k : Nat}, fsR R n = some k ↔ (k < n ∧ R k = true ∧ ∀ i, i < k → R i = false)
  | 0, k => ⟨fun h => (by cases h), fun h => absurd h.1 (Nat.not_lt_zero _)⟩
  | n + 1, k => by
    have ih := fun j => fsR_some (R := R) (n := n) (k := j)
    unfold fsR
    cases e : fsR R n with
    | some j =>
      have h1 := (ih j).mp e
      refine ⟨fun h => ?_, fun h => ?_⟩
      · cases h; exact ⟨by omega, h1.2⟩
      · rcases Nat.lt_trichotomy j k with q | q | q
        · have := h.2.2 j q; rw [h1.2.1] at this; cases this
        · rw [q]
        · have := h1.2.2 k q; rw [h.2.1] at this; cases this
    | none =>
      have h1 := fsR_none.mp e
      cases hr : R n with
      | true =>
        refine ⟨fun h => ?_, fun h => ?_⟩
        · simp at h; subst h; exact ⟨by omega, hr, h1⟩
        · rcases Nat.lt_or_ge k n with q | q
          · have := h1 k q; rw [h.2.1] at this; cases this
          · simp; omega
      | false =>
        refine ⟨fun h => (by simp at h), fun h => ?_⟩
        rcases Nat.lt_or_ge k n with q | q
        · have := h1 k q; rw [h.2.1] at this; cases this
        · have e2 : k = n := by omega
          have := h.2.1; rw [e2, hr] at this; cases this
/-- its number, -9 if there is none -/
def nO (o : Option Nat) : Int := match o with
  | some k => (k : Int)
  | none => -9
/-- ready: it has no order, and waits for none that has none -/
def rdy (W : Nat → Nat) (d k : Nat) : Bool := !(d.testBit k) && (W k &&& (d ^^^ 255) == 0)
def oS (W : Nat → Nat) (N : Nat) : Nat → Nat × (Nat → Int)
  | 0 => (0, fun _ => -9)
  | j + 1 => match fsR (rdy W (oS W N j).1) N with
    | some k => ((oS W N j).1 ||| 2 ^ k, upn (oS W N j).2 k (j : Int))
    | none => oS W N j
theorem oS_stop {W : Nat → Nat} {N j : Nat} (h : fsR (rdy W (oS W N j).1) N = none) : ∀ d, oS W N (j + d) = oS W N j
  | 0 => rfl
  | d + 1 => by
    have ih := oS_stop h d
    show (match fsR (rdy W (oS W N (j + d)).1) N with | some k => _ | none => oS W N (j + d)) = _
    rw [ih, h]
/-- how many of the first N have no order -/
def cz (d : Nat) : Nat → Nat
  | 0 => 0
  | N + 1 => cz d N + (if d.testBit N then 0 else 1)
theorem bit_or (d k i : Nat) : (d ||| 2 ^ k).testBit i = (d.testBit i || decide (i = k)) := by
  rw [Nat.testBit_or, Nat.testBit_two_pow]
  congr 1
  by_cases h : k = i
  · subst h; simp
  · rw [decide_eq_false h, decide_eq_false (fun q => h q.symm)]
theorem cz_out {d k : Nat} : ∀ {N : Nat}, N ≤ k → cz (d ||| 2 ^ k) N = cz d N
  | 0, _ => rfl
  | N + 1, h => by
    unfold cz
    rw [cz_out (by omega), bit_or, decide_eq_false (by omega), Bool.or_false]
theorem cz_in {d k : Nat} (hd : d.testBit k = false) : ∀ {N : Nat}, k < N → cz (d ||| 2 ^ k) N + 1 = cz d N
  | 0, h => absurd h (Nat.not_lt_zero _)
  | N + 1, h => by
    unfold cz
    rcases Nat.lt_or_ge k N with q | q
    · have := cz_in hd q
      rw [bit_or, decide_eq_false (by omega), Bool.or_false]
      omega
    · have e : k = N := by omega
      subst e
      rw [cz_out (Nat.le_refl _), bit_or, decide_eq_true rfl, Bool.or_true, hd]
      simp
theorem cz_0 : ∀ N, cz 0 N = N
  | 0 => rfl
  | N + 1 => by unfold cz; rw [cz_0 N, Nat.zero_testBit]; simp
/-- what an order has found so far: so many fewer are left -/
theorem oS_cz {W : Nat → Nat} {N : Nat} : ∀ {j : Nat}, (∀ i, i < j → fsR (rdy W (oS W N i).1) N ≠ none) → cz (oS W N j).1 N + j = N
  | 0, _ => cz_0 N
  | j + 1, h => by
    have ih := oS_cz (W := W) (N := N) (j := j) (fun i hi => h i (by omega))
    have h2 := h j (by omega)
    cases e : fsR (rdy W (oS W N j).1) N with
    | none => exact absurd e h2
    | some k =>
      have e1 : oS W N (j + 1) = ((oS W N j).1 ||| 2 ^ k, upn (oS W N j).2 k (j : Int)) := by
        show (match fsR (rdy W (oS W N j).1) N with | some k => _ | none => _) = _
        rw [e]
      obtain ⟨f1, f2, -⟩ := fsR_some.mp e
      have hb : (oS W N j).1.testBit k = false := by
        unfold rdy at f2
        cases q : (oS W N j).1.testBit k with
        | false => rfl
        | true => rw [q] at f2; simp at f2
      rw [e1]
      have := cz_in hb f1
      show cz ((oS W N j).1 ||| 2 ^ k) N + (j + 1) = N
      omega
theorem oS_lt {W : Nat → Nat} {N : Nat} (hN : N ≤ 8) : ∀ j, (oS W N j).1 < 256
  | 0 => by show (0 : Nat) < 256; decide
  | j + 1 => by
    have ih := oS_lt (W := W) hN j
    show (match fsR (rdy W (oS W N j).1) N with | some k => ((oS W N j).1 ||| 2 ^ k, upn (oS W N j).2 k (j : Int)) | none => oS W N j).1 < 256
    cases e : fsR (rdy W (oS W N j).1) N with
    | none => exact ih
    | some k =>
      have := (fsR_some.mp e).1
      exact or_256 ih (pow_256 (by omega))
