/-! a tick on a page, as the reference works it -/
def cd (w : mC) (s d : Nat) : Nat := (w.2 (xs w s d) / 10).toNat
def thB (w : mC) (g : Nat → Int) (s : Nat) : Bool := decide (∀ d, d < dN w s → g (41 + cd w s d) ≠ -9 ∧ (w.2 (xs w s d) % 10 = 1 ↔ g (41 + cd w s d) ≠ 0))
theorem thB_yes {w : mC} {g : Nat → Int} {s : Nat} (h : ∀ d, d < dN w s → g (41 + cd w s d) ≠ -9 ∧ (w.2 (xs w s d) % 10 = 1 ↔ g (41 + cd w s d) ≠ 0)) : thB w g s = true := decide_eq_true h
theorem thB_no {w : mC} {g : Nat → Int} {s d : Nat} (hd : d < dN w s) (h : ¬ (g (41 + cd w s d) ≠ -9 ∧ (w.2 (xs w s d) % 10 = 1 ↔ g (41 + cd w s d) ≠ 0))) : thB w g s = false := decide_eq_false (fun q => h (q d hd))
theorem cd_lt {w : mC} (h : mOK w) {s d : Nat} (hs : s < 8) (hd : d < dN w s) : cd w s d < 8 := by
  have h1 := h.2.1 _ (xs_lt h hs d)
  have h2 := dN_at hd
  unfold cd; omega
/-- what is there and of memory lies between -9 and 99 -/
def Vb (g : Nat → Int) : Prop := ∀ s, s < 8 → (-9 ≤ g (33 + s) ∧ g (33 + s) ≤ 99) ∧ (-9 ≤ g (41 + s) ∧ g (41 + s) ≤ 99)
def xv (g : Nat → Int) (s i : Nat) : Int := if sO g s i = -9 then 0 else g (41 + fa g s i)
def mkd (K x y : Int) : Int := if x < 0 ∨ y < 0 then -8 else if K = 2 then (x + y) % 100 else if K = 3 then (x - y + 100) % 100 else if x < y then 1 else 0
def vlM (g : Nat → Int) (s : Nat) (a b : Int) : Int :=
  if g (1 + s) = 0 then (if g (9 + 3 * s) = 0 then a else b)
  else if g (1 + s) = 1 then g (9 + 3 * s)
  else if g (1 + s) = 5 then (if xv g s 0 < 0 then -8 else if xv g s 0 = 0 then xv g s 2 else xv g s 1)
  else if g (1 + s) = 6 ∨ g (1 + s) = 7 then g (33 + s)
  else if g (1 + s) = 8 then (if g (33 + s) = 0 then xv g s 0 else xv g s 1)
  else if g (1 + s) = 9 ∨ g (1 + s) = 10 then xv g s 0
  else if g (1 + s) = 11 then (if xv g s 0 = 0 then xv g s 2 else xv g s 1)
  else mkd (g (1 + s)) (xv g s 0) (xv g s 1)
theorem sO_fa {g : Nat → Int} (hW : Wf g) {k i : Nat} (hk : k < 8) (hn : (k : Int) < g 0) (hi : i < 3) (h : sO g k i ≠ -9) : fa g k i < 8 ∧ (fa g k i : Int) < g 0 := by
  have h1 := sO_in hW hk hn hi
  have h2 := hW.fg hk hi
  have h3 : sO g k i = g (9 + 3 * k + i) := by
    unfold sO at h ⊢
    split
    · rfl
    · next q => rw [if_neg q] at h; exact absurd rfl h
  omega
theorem xv_in {g : Nat → Int} (hW : Wf g) (hV : Vb g) {k i : Nat} (hk : k < 8) (hn : (k : Int) < g 0) (hi : i < 3) : -9 ≤ xv g k i ∧ xv g k i ≤ 99 := by
  unfold xv
  split
  · omega
  · next q => exact (hV _ (sO_fa hW hk hn hi q).1).2
theorem mkd_in {K x y : Int} : -8 ≤ mkd K x y ∧ mkd K x y ≤ 99 := by
  unfold mkd
  split
  · omega
  split
  · omega
  split
  · omega
  split <;> omega
theorem vlM_in {g : Nat → Int} (hW : Wf g) (hV : Vb g) {s : Nat} (hk : s < 8) (hn : (s : Int) < g 0) {a b : Int} (ha : 0 ≤ a ∧ a ≤ 99) (hb : 0 ≤ b ∧ b ≤ 99) : -9 ≤ vlM g s a b ∧ vlM g s a b ≤ 99 := by
  have h0 := xv_in hW hV hk hn (show 0 < 3 by omega)
  have h1 := xv_in hW hV hk hn (show 1 < 3 by omega)
  have h2 := xv_in hW hV hk hn (show 2 < 3 by omega)
  have h3 := ((hW.2 s hk).2 0 (by omega)).1
  rw [Nat.add_zero] at h3
  have h4 := (hV s hk).1
  have h5 := mkd_in (K := g (1 + s)) (x := xv g s 0) (y := xv g s 1)
  unfold vlM
  repeat' split
  all_goals omega
def rs (g : Nat → Int) (i : Nat) : Nat → Int := fun k => if 41 ≤ k ∧ k < 41 + i then -9 else g k
theorem rs_step (g : Nat → Int) (i : Nat) : upn (rs g i) (41 + i) (-9) = rs g (i + 1) := by
  funext k
  unfold upn rs
  by_cases h : k = 41 + i
  · rw [if_pos h, if_pos (by omega)]
  · rw [if_neg h]
    by_cases q : 41 ≤ k ∧ k < 41 + i
    · rw [if_pos q, if_pos (by omega)]
    · rw [if_neg q, if_neg (by omega)]
theorem rs_0 (g : Nat → Int) : rs g 0 = g := by
  funext k; unfold rs; rw [if_neg (by omega)]
def mV (g : Nat → Int) (w : mC) (T : Nat → Nat) (a b : Int) : Nat → Nat → Int
  | 0 => rs g 8
  | j + 1 => upn (mV g w T a b j) (41 + T j) (if thB w (mV g w T a b j) (T j) = true then vlM (mV g w T a b j) (T j) a b else -9)
def mN (g : Nat → Int) (w : mC) (T : Nat → Nat) (a b : Int) : Nat → Nat
  | 0 => 0
  | j + 1 => mN g w T a b j + (if thB w (mV g w T a b j) (T j) = true then 1 else 0)
theorem mN_le (g : Nat → Int) (w : mC) (T : Nat → Nat) (a b : Int) : ∀ j, mN g w T a b j ≤ j
  | 0 => Nat.le_refl 0
  | j + 1 => by
    have := mN_le g w T a b j
    unfold mN; split <;> omega
theorem mV_low (g : Nat → Int) (w : mC) (T : Nat → Nat) (a b : Int) {k : Nat} (hk : k < 41 ∨ 49 ≤ k) : ∀ j, (∀ i, i < j → T i < 8) → mV g w T a b j k = g k
  | 0, _ => by unfold mV rs; rw [if_neg (by omega)]
  | j + 1, h => by
    unfold mV
    have := h j (by omega)
    rw [upn_ne _ _ (by omega)]
    exact mV_low g w T a b hk j (fun i hi => h i (by omega))
theorem Wf.cong {g h : Nat → Int} (hW : Wf g) (e : ∀ k, k < 33 → h k = g k) : Wf h := by
  refine ⟨by rw [e 0 (by omega)]; exact hW.1, fun s hs => ?_⟩
  rw [e (1 + s) (by omega), e 0 (by omega)]
  refine ⟨(hW.2 s hs).1, fun i hi => ?_⟩
  rw [e (9 + 3 * s + i) (by omega)]
  exact (hW.2 s hs).2 i hi
theorem mV_wf {g : Nat → Int} (hW : Wf g) (w : mC) {T : Nat → Nat} (a b : Int) {j : Nat} (h : ∀ i, i < j → T i < 8) : Wf (mV g w T a b j) := hW.cong (fun k hk => mV_low g w T a b (by omega) j h)
theorem mV_vb {g : Nat → Int} (hW : Wf g) (hV : Vb g) (w : mC) {T : Nat → Nat} {a b : Int} (ha : 0 ≤ a ∧ a ≤ 99) (hb : 0 ≤ b ∧ b ≤ 99) : ∀ {j : Nat}, (∀ i, i < j → T i < 8 ∧ (T i : Int) < g 0) → Vb (mV g w T a b j)
  | 0, _ => fun s hs => by
    refine ⟨?_, ?_⟩
    · show -9 ≤ rs g 8 (33 + s) ∧ rs g 8 (33 + s) ≤ 99
      unfold rs; rw [if_neg (by omega)]; exact (hV s hs).1
    · show -9 ≤ rs g 8 (41 + s) ∧ rs g 8 (41 + s) ≤ 99
      unfold rs; rw [if_pos (by omega)]; omega
  | j + 1, h => fun s hs => by
    have ih := mV_vb hW hV w ha hb (j := j) (fun i hi => h i (by omega))
    have hw := mV_wf hW w a b (j := j) (fun i hi => (h i (by omega)).1)
    have hT := h j (by omega)
    have h0 := mV_low g w T a b (k := 0) (by omega) j (fun i hi => (h i (by omega)).1)
    have hv := vlM_in hw ih hT.1 (by rw [h0]; exact hT.2) ha hb
    unfold mV
    refine ⟨?_, ?_⟩
    · rw [upn_ne _ _ (by omega)]; exact (ih s hs).1
    · by_cases q : 41 + s = 41 + T j
      · rw [q, upn_eq]; split <;> omega
      · rw [upn_ne _ _ q]; exact (ih s hs).2
def kv (h : Nat → Int) (s : Nat) : Int := if h (1 + s) = 6 then h (41 + fa h s 1) else if h (1 + s) = 7 then h (41 + fa h s 0) else if h (1 + s) = 8 then 1 else 0
def kpM (g : Nat → Int) : Nat → Nat → Int
  | 0 => g
  | s + 1 => if kpM g s (41 + s) = -9 then kpM g s else upn (kpM g s) (33 + s) (kv (kpM g s) s)
theorem kpM_out (g : Nat → Int) {k : Nat} : ∀ s, s ≤ 8 → (k < 33 ∨ 33 + s ≤ k) → kpM g s k = g k
  | 0, _, _ => rfl
  | s + 1, hs, hk => by
    have ih := kpM_out g (k := k) s (by omega) (by omega)
    unfold kpM
    split
    · exact ih
    · rw [upn_ne _ _ (by omega)]; exact ih
def tkM (g : Nat → Int) (w : mC) (T : Nat → Nat) (N : Nat) (a b : Int) : Nat → Int := upn (kpM (mV g w T a b N) N) 49 (wr (kpM (mV g w T a b N) N 49 + 1))
theorem up2_row_eq (σ : gS) (i k : Nat) (v : Int) : up2 σ i k v i = upn (σ i) k v := by
  funext j
  by_cases h : j = k
  · subst h; rw [up2_eq, upn_eq]
  · rw [up2_k _ _ h, upn_ne _ _ h]
def wTk (P : Nat) (i _k : Nat) : Bool := i == P || i == 127
