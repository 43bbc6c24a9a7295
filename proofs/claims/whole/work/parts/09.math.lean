/-! plain mathematics -/
def itr (f : Nat → Nat) : Nat → Nat → Nat
  | 0, s => s
  | n + 1, s => f (itr f n s)
theorem itr_fix {f : Nat → Nat} {j s : Nat} (h : f (itr f j s) = itr f j s) : ∀ k, itr f (j + k) s = itr f j s
  | 0 => rfl
  | k + 1 => by
    show f (itr f (j + k) s) = _
    rw [itr_fix h k, h]
theorem itr_fix' {f : Nat → Nat} {j k s : Nat} (h : f (itr f j s) = itr f j s) (hk : j ≤ k) : itr f k s = itr f j s := by
  obtain ⟨d, rfl⟩ := Nat.le.dest hk
  exact itr_fix h d
theorem itr_lt {f : Nat → Nat} {n : Nat} (h : ∀ k, k < n → f k < n) {s : Nat} (hs : s < n) : ∀ j, itr f j s < n
  | 0 => hs
  | j + 1 => h _ (itr_lt h hs j)
theorem itr_add (f : Nat → Nat) (s : Nat) : ∀ a b, itr f (a + b) s = itr f a (itr f b s)
  | 0, b => by rw [Nat.zero_add]; rfl
  | a + 1, b => by
    rw [show a + 1 + b = (a + b) + 1 by omega]
    show f (itr f (a + b) s) = f (itr f a (itr f b s))
    rw [itr_add f s a b]
/-- the reference's clocks: up and term -/
def mU (σ : gS) (u : Nat → Nat) : Prop := ∀ k, k < 8 → σ 123 k = ((u k : Nat) : Int) ∧ u k < 8
def uOK (u : Nat → Nat) : Prop := ∀ k, k < 8 → u k < 8 ∧ u (itr u 8 k) = itr u 8 k
def rt (u : Nat → Nat) (s : Nat) : Nat := itr u 8 s
theorem rt_lt {u : Nat → Nat} (h : uOK u) {s : Nat} (hs : s < 8) : rt u s < 8 := itr_lt (fun k hk => (h k hk).1) hs 8
theorem rt_fix {u : Nat → Nat} (h : uOK u) {s : Nat} (hs : s < 8) : u (rt u s) = rt u s := (h s hs).2
theorem rt_rt {u : Nat → Nat} (h : uOK u) {s : Nat} (hs : s < 8) : rt u (rt u s) = rt u s := by
  have := itr_fix' (f := u) (j := 0) (k := 8) (s := rt u s) (rt_fix h hs) (by omega)
  exact this
theorem rt_of {u : Nat → Nat} {s j : Nat} (hj : j ≤ 8) (h : u (itr u j s) = itr u j s) : rt u s = itr u j s := itr_fix' h hj
/-- terms: -9 none, -1 BASE, 10 c and by -/
def tIn (t : Nat → Int) : Prop := ∀ k, k < 8 → t k = -9 ∨ t k = -1 ∨ (0 ≤ t k ∧ t k < 80)
def mT (σ : gS) (t : Nat → Int) : Prop := ∀ k, k < 8 → σ 124 k = t k
def nx (u : Nat → Nat) (t : Nat → Int) (r : Nat) : Nat := if 0 ≤ t r then rt u (t r / 10).toNat else r
def tOK (u : Nat → Nat) (t : Nat → Int) : Prop := tIn t ∧ ∀ k, k < 8 → t (itr (nx u t) 8 k) < 0
theorem nx_lt {u : Nat → Nat} {t : Nat → Int} (hu : uOK u) (ht : tIn t) {r : Nat} (hr : r < 8) : nx u t r < 8 := by
  unfold nx
  have := ht r hr
  split
  · exact rt_lt hu (by omega)
  · exact hr
theorem nx_end {u : Nat → Nat} {t : Nat → Int} {r : Nat} (h : t r < 0) : nx u t r = r := if_neg (by omega)
def met (u : Nat → Nat) (t : Nat → Int) (r s : Nat) : Prop := ∃ j, itr (nx u t) j (rt u s) = r
/-- one place anew -/
def upn {α : Type} (f : Nat → α) (i : Nat) (x : α) : Nat → α := fun k => if k = i then x else f k
theorem upn_eq {α : Type} (f : Nat → α) (i : Nat) (x : α) : upn f i x i = x := if_pos rfl
theorem upn_ne {α : Type} (f : Nat → α) {i k : Nat} (x : α) (h : k ≠ i) : upn f i x k = f k := if_neg h
