/-! what is settled -/
def stC (w : mC) (s : Nat) : Int := if w.2 (w.1 s) = -1 then -2 else w.2 (w.1 s)
def sN (S : Nat → Int) (r : Nat) : Nat := if 0 ≤ S r then (S r / 10).toNat else r
def dCr (S : Nat → Int) : Nat → Nat → Nat
  | 0, _ => 0
  | f + 1, x => if 0 ≤ S x then dCr S f (sN S x) + 1 else 0
def sOK (S : Nat → Int) (N : Nat) : Prop := ∀ s, s < N → S s = -2 ∨ (0 ≤ S s ∧ S s < 10 * (N : Int))
theorem sN_lt {S : Nat → Int} {N : Nat} (h : sOK S N) {r : Nat} (hr : r < N) : sN S r < N := by
  have := h r hr
  unfold sN
  split <;> omega
theorem sN_pos {S : Nat → Int} {r : Nat} (h : 0 ≤ S r) : sN S r = (S r / 10).toNat := if_pos h
theorem sN_end {S : Nat → Int} {r : Nat} (h : S r < 0) : sN S r = r := if_neg (by omega)
theorem dCr_neg {S : Nat → Int} {x : Nat} (h : S x < 0) : ∀ f, dCr S f x = 0
  | 0 => rfl
  | f + 1 => by rw [dCr, if_neg (by omega)]
theorem dCr_step {S : Nat → Int} {f x : Nat} (h : 0 ≤ S x) : dCr S (f + 1) x = dCr S f (sN S x) + 1 := by rw [dCr, if_pos h]
theorem dCr_le (S : Nat → Int) : ∀ f x, dCr S f x ≤ f
  | 0, _ => Nat.le_refl 0
  | f + 1, x => by
    have := dCr_le S f (sN S x)
    rw [dCr]
    split <;> omega
def sRow (σ : gS) (i : Nat) : Nat → Int := σ i
def cON (w : mC) (N : Nat) : Prop := ∀ k, k < 8 → w.2 k < 10 * (N : Int)
theorem stC_ok {w : mC} (ho : cOK w) {N : Nat} (hN : N ≤ 8) (hn : cON w N) : sOK (stC w) N := fun s hs => by
  have h1 := ho s (by omega)
  have h2 := ho (w.1 s) h1.1
  have h3 := hn (w.1 s) h1.1
  unfold stC
  split <;> omega
theorem cBd_on {w w' : mC} {N : Nat} (hn : cON w N) {s : Nat} {v : Int} (hv : v < 10 * (N : Int)) (h : cBd w s v = some w') : cON w' N := by
  unfold cBd at h
  split at h
  · cases h
    intro k hk
    show upn w.2 (w.1 s) v k < _
    by_cases q : k = w.1 s
    · rw [q, upn_eq]; exact hv
    · rw [upn_ne _ _ q]; exact hn k hk
  · split at h
    · cases h; exact hn
    · cases h
theorem cLk_on {w w' : mC} (ho : cOK w) {N : Nat} (hn : cON w N) {s t : Nat} (ht : t < 8) (h : cLk w s t = some w') : cON w' N := by
  unfold cLk at h
  split at h
  · cases h; exact hn
  · split at h
    · cases h; exact hn
    · obtain ⟨w1, e1, e2⟩ := mThen_some h
      cases e2
      have h9 : cON w1 N := cBd_on hn (hn _ (ho t ht).1) e1
      exact fun k hk => h9 k hk
theorem cAll_on {G : Nat → Int} {N : Nat} (hG : cW G N) {k : Nat} (hk : k < N) : ∀ {i : Nat} {w w' : mC}, i ≤ 3 → cOK w → cON w N → cAll G k i w = some w' → cON w' N
  | 0, w, w', _, _, hn, h => by cases h; exact hn
  | i + 1, w, w', hi, ho, hn, h => by
    have hN := hG.2.1
    obtain ⟨w1, e1, e2⟩ := mThen_some h
    have h1 := cAll_on hG hk (i := i) (by omega) ho hn e1
    have o1 := cAll_ok hG hk (i := i) (by omega) ho e1
    by_cases q : nmS (G (1 + k)) i = true
    · rw [if_pos q] at e2
      have := hG.st hk (i := i) (by omega) ((sPl_sp _ (by omega)).mpr (of_decide_eq_true q))
      exact cLk_on o1 h1 (by omega) e2
    · rw [if_neg q] at e2; cases e2; exact h1
theorem cAsk_on {G : Nat → Int} {N : Nat} (hG : cW G N) {k : Nat} (hk : k < N) {w w' : mC} (ho : cOK w) (hn : cON w N) (h : cAsk G k w = some w') : cON w' N := by
  have hN := hG.2.1
  unfold cAsk at h
  split at h
  · exact cBd_on hn (by omega) h
  · split at h
    · next q =>
      have l1 := hG.st hk (i := 1) (by omega) (by unfold sPl; omega)
      obtain ⟨w1, e1, e2⟩ := mThen_some h
      exact cBd_on (cLk_on ho hn (by omega) e1) (by omega) e2
    · split at h
      · next q =>
        have l1 := hG.st hk (i := 1) (by omega) (by unfold sPl; omega)
        obtain ⟨w1, e1, e2⟩ := mThen_some h
        exact cBd_on (cLk_on ho hn (by omega) e1) (by omega) e2
      · split at h
        · next q =>
          have l0 := hG.st hk (i := 0) (by omega) (by unfold sPl; omega)
          obtain ⟨w1, e1, e2⟩ := mThen_some h
          obtain ⟨w2, e3, e4⟩ := mThen_some e2
          exact cBd_on (cBd_on (cLk_on ho hn (by omega) e1) (by omega) e3) (by omega) e4
        · exact cAll_on hG hk (Nat.le_refl 3) ho hn h
theorem cClk_on {G : Nat → Int} {N : Nat} (hG : cW G N) : ∀ {k : Nat} {w : mC}, k ≤ N → cClk G N k = some w → cON w N
  | 0, w, _, h => by cases h; intro k hk; show (-1 : Int) < _; omega
  | k + 1, w, hk, h => by
    obtain ⟨w1, e1, e2⟩ := mThen_some h
    obtain ⟨w2, e3, e4⟩ := mThen_some e2
    split at e4
    · cases e4; exact cAsk_on hG (by omega) (cClk_ok hG (by omega) e1) (cClk_on hG (by omega) e1) e3
    · cases e4
/-- what a stream waits for -/
def wtR (G : Nat → Int) (s : Nat) (b : Nat) : Nat → Nat
  | 0 => b
  | i + 1 => if nmS (G (1 + s)) i = true then wtR G s b i ||| 2 ^ fa G s i else wtR G s b i
def wt0 (S : Nat → Int) (s : Nat) : Nat := if S s < 0 then 0 else 2 ^ (S s / 10).toNat
def wtC (G : Nat → Int) (S : Nat → Int) (s : Nat) : Nat := if G (1 + s) = 6 ∨ G (1 + s) = 7 then wt0 S s else wtR G s (wt0 S s) 3
theorem wt0_lt {S : Nat → Int} {N : Nat} (hN : N ≤ 8) (h : sOK S N) {s : Nat} (hs : s < N) : wt0 S s < 256 := by
  have := h s hs
  unfold wt0
  split
  · decide
  · have h2 : (S s / 10).toNat < 8 := by omega
    exact Nat.lt_of_lt_of_le (Nat.pow_lt_pow_right (by decide) h2) (by decide)
theorem wtR_lt {G : Nat → Int} {N : Nat} (hG : cW G N) {s b : Nat} (hs : s < N) (hb : b < 256) : ∀ i, i ≤ 3 → wtR G s b i < 256
  | 0, _ => hb
  | i + 1, hi => by
    have ih := wtR_lt hG hs hb i (by omega)
    have hN := hG.2.1
    rw [wtR]
    split
    · next q =>
      have h2 := hG.st hs (i := i) (by omega) ((sPl_sp _ (by omega)).mpr (of_decide_eq_true q))
      have h3 : 2 ^ fa G s i < 2 ^ 8 := Nat.pow_lt_pow_right (by decide) (by omega)
      exact Nat.or_lt_two_pow (n := 8) ih h3
    · exact ih
theorem wtC_lt {G : Nat → Int} {N : Nat} (hG : cW G N) {S : Nat → Int} (h : sOK S N) {s : Nat} (hs : s < N) : wtC G S s < 256 := by
  have h0 := wt0_lt hG.2.1 h hs
  unfold wtC
  split
  · exact h0
  · exact wtR_lt hG hs h0 3 (Nat.le_refl 3)
def wSt (i _k : Nat) : Bool := i == 16 || i == 17
def wOC (i k : Nat) : Bool := i == 18 || i == 19 || (i == 13 && k == 1)
