/-! THE TEXT, read -/
def kOf (c : Int) : Int := if c = 73 then 0 else if c = 75 then 1 else if c = 43 then 2 else if c = 45 then 3 else if c = 60 then 4 else if c = 63 then 5 else if c = 70 then 6 else if c = 80 then 7 else if c = 65 then 8 else if c = 87 then 9 else if c = 78 then 10 else if c = 77 then 11 else -9
theorem kOf_in (c : Int) : kOf c = -9 ∨ (0 ≤ kOf c ∧ kOf c ≤ 11) := by
  unfold kOf
  repeat' split
  all_goals omega
def fgz (k : Int) : Nat := if k < 2 ∨ k = 7 then 1 else if k = 5 ∨ k = 11 then 3 else 2
theorem fgz_in (k : Int) : 1 ≤ fgz k ∧ fgz k ≤ 3 := by
  unfold fgz
  split
  · omega
  · split <;> omega
theorem fgz_of {k q : Int} (h : ((k < 2 ∨ k = 7) ∧ q = 1) ∨ ((k = 5 ∨ k = 11) ∧ q = 3) ∨ (¬ (k < 2 ∨ k = 7 ∨ k = 5 ∨ k = 11) ∧ q = 2)) : q = ((fgz k : Nat) : Int) := by
  unfold fgz
  rcases h with ⟨h, rfl⟩ | ⟨h, rfl⟩ | ⟨h, rfl⟩
  · rw [if_pos h]; rfl
  · rw [if_neg (by omega), if_pos h]; rfl
  · rw [if_neg (by omega), if_neg (by omega)]; rfl
def mst (k i n : Int) : Int := if k = 0 then 1 else if k = 1 ∨ (k = 6 ∧ i = 0) then 9 else n - 1
theorem mst_of {k i n q : Int} (h : (k = 0 ∧ q = 1) ∨ (k ≠ 0 ∧ (k = 1 ∨ k = 6 ∧ i = 0) ∧ q = 9) ∨ (k ≠ 0 ∧ ¬ (k = 1 ∨ k = 6 ∧ i = 0) ∧ q = n - 1)) : q = mst k i n := by
  unfold mst
  rcases h with ⟨h, rfl⟩ | ⟨h, h2, rfl⟩ | ⟨h, h2, rfl⟩
  · rw [if_pos h]
  · rw [if_neg h, if_pos h2]
  · rw [if_neg h, if_neg h2]
def ltr (txt : Nat → Int) (len p : Nat) : Int := if p < len then txt p else -9
/-- an equation's figures: the fault (-9: none), the place, the page -/
def eS (txt : Nat → Int) (len n s : Nat) (k : Int) (p0 : Nat) (g0 : Nat → Int) : Nat → Int × Nat × (Nat → Int)
  | 0 => (-9, p0, g0)
  | i + 1 =>
    if (eS txt len n s k p0 g0 i).1 = -9 then
      (if 0 ≤ ltr txt len (eS txt len n s k p0 g0 i).2.1 - 48 ∧ ltr txt len (eS txt len n s k p0 g0 i).2.1 - 48 ≤ mst k (i : Int) (n : Int) then (-9, (eS txt len n s k p0 g0 i).2.1 + 1, upn (eS txt len n s k p0 g0 i).2.2 (9 + 3 * s + i) (ltr txt len (eS txt len n s k p0 g0 i).2.1 - 48))
       else (((eS txt len n s k p0 g0 i).2.1 : Int), (eS txt len n s k p0 g0 i).2))
    else eS txt len n s k p0 g0 i
/-- an equation -/
def eQ (txt : Nat → Int) (len n s p : Nat) (g : Nat → Int) : Int × Nat × (Nat → Int) :=
  if kOf (ltr txt len p) = -9 then ((p : Int), p, g) else eS txt len n s (kOf (ltr txt len p)) (p + 1) (upn g (1 + s) (kOf (ltr txt len p))) (fgz (kOf (ltr txt len p)))
def pS (txt : Nat → Int) (len n : Nat) (g0 : Nat → Int) : Nat → Int × Nat × (Nat → Int)
  | 0 => (-9, 2, g0)
  | s + 1 => if (pS txt len n g0 s).1 = -9 then eQ txt len n s (pS txt len n g0 s).2.1 (pS txt len n g0 s).2.2 else pS txt len n g0 s
def nOf (txt : Nat → Int) (len : Nat) : Int := ltr txt len 1 - 48
def z0 : Nat → Int := fun _ => 0
def fltT (txt : Nat → Int) (len : Nat) : Int :=
  if ltr txt len 0 = 83 then (if 1 ≤ nOf txt len ∧ nOf txt len ≤ 8 then
    (if (pS txt len (nOf txt len).toNat z0 (nOf txt len).toNat).1 = -9 then (if (pS txt len (nOf txt len).toNat z0 (nOf txt len).toNat).2.1 = len then -9 else ((pS txt len (nOf txt len).toNat z0 (nOf txt len).toNat).2.1 : Int))
     else (pS txt len (nOf txt len).toNat z0 (nOf txt len).toNat).1) else 1) else 0
def rowT (txt : Nat → Int) (len : Nat) (g0 : Nat → Int) : Nat → Int := upn (pS txt len (nOf txt len).toNat g0 (nOf txt len).toNat).2.2 0 (nOf txt len)
theorem eS_stop {txt : Nat → Int} {len n s : Nat} {k : Int} {p0 : Nat} {g0 : Nat → Int} {i : Nat} (h : (eS txt len n s k p0 g0 i).1 ≠ -9) : ∀ d, eS txt len n s k p0 g0 (i + d) = eS txt len n s k p0 g0 i
  | 0 => rfl
  | d + 1 => by
    have ih := eS_stop h d
    rw [show i + (d + 1) = (i + d) + 1 by omega, eS, ih, if_neg h]
theorem pS_stop {txt : Nat → Int} {len n s : Nat} {g0 : Nat → Int} (h : (pS txt len n g0 s).1 ≠ -9) : ∀ d, pS txt len n g0 (s + d) = pS txt len n g0 s
  | 0 => rfl
  | d + 1 => by
    have ih := pS_stop h d
    rw [show s + (d + 1) = (s + d) + 1 by omega, pS, ih, if_neg h]
/-- fault and place do not look at the page -/
theorem eS_ind {txt : Nat → Int} {len n s : Nat} {k : Int} {p0 : Nat} (g h : Nat → Int) : ∀ i, (eS txt len n s k p0 g i).1 = (eS txt len n s k p0 h i).1 ∧ (eS txt len n s k p0 g i).2.1 = (eS txt len n s k p0 h i).2.1
  | 0 => ⟨rfl, rfl⟩
  | i + 1 => by
    have ih := eS_ind (txt := txt) (len := len) (n := n) (s := s) (k := k) (p0 := p0) g h i
    rw [eS, eS, ih.1, ih.2]
    split
    · split
      · exact ⟨rfl, rfl⟩
      · exact ⟨rfl, ih.2⟩
    · exact ih
theorem eQ_ind {txt : Nat → Int} {len n s p : Nat} (g h : Nat → Int) : (eQ txt len n s p g).1 = (eQ txt len n s p h).1 ∧ (eQ txt len n s p g).2.1 = (eQ txt len n s p h).2.1 := by
  unfold eQ
  split
  · exact ⟨rfl, rfl⟩
  · exact eS_ind _ _ _
theorem pS_ind {txt : Nat → Int} {len n : Nat} (g h : Nat → Int) : ∀ s, (pS txt len n g s).1 = (pS txt len n h s).1 ∧ (pS txt len n g s).2.1 = (pS txt len n h s).2.1
  | 0 => ⟨rfl, rfl⟩
  | s + 1 => by
    have ih := pS_ind (txt := txt) (len := len) (n := n) g h s
    rw [pS, pS, ih.1]
    split
    · rw [ih.2]; exact eQ_ind _ _
    · exact ih
/-- the text is what it is: so many letters -/
def txOK (txt : Nat → Int) (len : Nat) : Prop := len ≤ 40 ∧ ∀ k, k < len → 0 ≤ txt k ∧ txt k ≤ 255
theorem ltr_in {txt : Nat → Int} {len : Nat} (h : txOK txt len) (p : Nat) : -9 ≤ ltr txt len p ∧ ltr txt len p ≤ 255 := by
  unfold ltr
  split
  · next q => have := h.2 p q; omega
  · omega
theorem eS_pl {txt : Nat → Int} {len n s : Nat} {k : Int} {p0 : Nat} {g0 : Nat → Int} : ∀ i, (eS txt len n s k p0 g0 i).2.1 ≤ p0 + i ∧ ((eS txt len n s k p0 g0 i).1 = -9 → (eS txt len n s k p0 g0 i).2.1 = p0 + i) ∧ ((eS txt len n s k p0 g0 i).1 ≠ -9 → (eS txt len n s k p0 g0 i).1 = ((eS txt len n s k p0 g0 i).2.1 : Int))
  | 0 => ⟨Nat.le_refl _, fun _ => rfl, fun h => absurd rfl h⟩
  | i + 1 => by
    have ih := eS_pl (txt := txt) (len := len) (n := n) (s := s) (k := k) (p0 := p0) (g0 := g0) i
    unfold eS
    by_cases h : (eS txt len n s k p0 g0 i).1 = -9
    · rw [if_pos h]
      have e := ih.2.1 h
      split
      · refine ⟨by show (eS txt len n s k p0 g0 i).2.1 + 1 ≤ _; omega, fun _ => by show (eS txt len n s k p0 g0 i).2.1 + 1 = _; omega, fun q => absurd rfl q⟩
      · refine ⟨by show (eS txt len n s k p0 g0 i).2.1 ≤ _; omega, fun q => ?_, fun _ => rfl⟩
        exfalso
        have q2 : ((eS txt len n s k p0 g0 i).2.1 : Int) = -9 := q
        omega
    · rw [if_neg h]
      exact ⟨by omega, fun q => absurd q h, ih.2.2⟩
def wRd (i k : Nat) : Bool := i == 113 || (i == 111 && k == 3)
def zr (g : Nat → Int) (i : Nat) : Nat → Int := fun k => if k < i then 0 else g k
theorem zr_0 (g : Nat → Int) : zr g 0 = g := by funext k; unfold zr; rw [if_neg (by omega)]
theorem zr_step (g : Nat → Int) (i : Nat) : upn (zr g i) i 0 = zr g (i + 1) := by
  funext k
  unfold upn zr
  by_cases h : k = i
  · rw [if_pos h, if_pos (by omega)]
  · rw [if_neg h]
    by_cases q : k < i
    · rw [if_pos q, if_pos (by omega)]
    · rw [if_neg q, if_neg (by omega)]
theorem pS_pl {txt : Nat → Int} {len n : Nat} {g0 : Nat → Int} : ∀ s, (pS txt len n g0 s).2.1 ≤ 2 + 4 * s ∧ ((pS txt len n g0 s).1 ≠ -9 → (pS txt len n g0 s).1 = ((pS txt len n g0 s).2.1 : Int))
  | 0 => ⟨Nat.le_refl _, fun h => absurd rfl h⟩
  | s + 1 => by
    have ih := pS_pl (txt := txt) (len := len) (n := n) (g0 := g0) s
    rw [pS]
    split
    · unfold eQ
      split
      · exact ⟨by show (pS txt len n g0 s).2.1 ≤ _; omega, fun _ => rfl⟩
      · have h1 := eS_pl (txt := txt) (len := len) (n := n) (s := s) (k := kOf (ltr txt len (pS txt len n g0 s).2.1)) (p0 := (pS txt len n g0 s).2.1 + 1) (g0 := upn (pS txt len n g0 s).2.2 (1 + s) (kOf (ltr txt len (pS txt len n g0 s).2.1))) (fgz (kOf (ltr txt len (pS txt len n g0 s).2.1)))
        have h2 := fgz_in (kOf (ltr txt len (pS txt len n g0 s).2.1))
        exact ⟨by omega, h1.2.2⟩
    · exact ⟨by omega, ih.2⟩
