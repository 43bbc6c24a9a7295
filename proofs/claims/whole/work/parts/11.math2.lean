/-! nine places, eight holes: what ends, ends within eight steps -/
theorem holes : ∀ (m n : Nat) (f : Nat → Nat), (∀ i, i < n → f i < m) → (∀ i j, i < j → j < n → f i ≠ f j) → n ≤ m
  | 0, 0, _, _, _ => Nat.le_refl 0
  | 0, n + 1, f, h, _ => absurd (h 0 (by omega)) (Nat.not_lt_zero _)
  | m + 1, 0, _, _, _ => Nat.zero_le _
  | m + 1, n + 1, f, h, hd => by
    have ih := holes m n (fun i => if f i = m then f n else f i) (fun i hi => by
      show (if f i = m then f n else f i) < m
      have h1 := h i (by omega)
      have h2 := h n (by omega)
      have h3 := hd i n hi (by omega)
      split <;> omega) (fun i j hij hj => by
      show (if f i = m then f n else f i) ≠ (if f j = m then f n else f j)
      have h3 := hd i n (by omega) (by omega)
      have h4 := hd j n (by omega) (by omega)
      have h5 := hd i j hij (by omega)
      split <;> split <;> omega)
    omega
theorem pig {f : Nat → Nat} {P : Nat → Prop} (hf : ∀ k, k < 8 → f k < 8) (hP : ∀ x, P x → f x = x) {s : Nat} (hs : s < 8) (h : ∃ j, P (itr f j s)) : P (itr f 8 s) := by
  obtain ⟨j, hj, hm⟩ := pk_least (fun j => P (itr f j s)) h
  rcases Nat.lt_or_ge 8 j with h8 | h8
  · exfalso
    have hr : ¬ ∀ a b, a < b → b < 9 → itr f a s ≠ itr f b s := fun q => by
      have := holes 8 9 (fun i => itr f i s) (fun i _ => itr_lt hf hs i) q
      omega
    apply hr
    intro a b hab hb e
    refine hm (a + (j - b)) (by omega) ?_
    have e2 : itr f (j - b + a) s = itr f j s := by
      rw [itr_add, e, ← itr_add, show j - b + b = j by omega]
    show P (itr f (a + (j - b)) s)
    rw [Nat.add_comm, e2]
    exact hj
  · rw [itr_fix' (hP _ hj) h8]
    exact hj
theorem itr_end {f : Nat → Nat} {P : Nat → Prop} (hP : ∀ x, P x → f x = x) {s j : Nat} (h : P (itr f j s)) {k : Nat} (hk : j ≤ k) : P (itr f k s) := by
  rw [itr_fix' (hP _ h) hk]; exact h
/-! frames of the numbers -/
def fr (w : Nat → Nat → Bool) (σ σ' : gS) : Prop := ∀ i k, w i k = false → σ' i k = σ i k
theorem fr.rf {w : Nat → Nat → Bool} {σ : gS} : fr w σ σ := fun _ _ _ => rfl
theorem fr.tr {w : Nat → Nat → Bool} {a b c : gS} (h : fr w a b) (h2 : fr w b c) : fr w a c := fun i k q => (h2 i k q).trans (h i k q)
theorem fr.up {w : Nat → Nat → Bool} {σ : gS} {i k : Nat} {v : Int} (h : w i k = true) : fr w σ (up2 σ i k v) := fun a b q => by
  refine if_neg (fun e => ?_)
  obtain ⟨rfl, rfl⟩ := e
  rw [h] at q; cases q
theorem fr.mono {w w2 : Nat → Nat → Bool} {σ σ' : gS} (h : fr w σ σ') (hw : ∀ i k, w i k = true → w2 i k = true) : fr w2 σ σ' := fun i k q => h i k (by
  cases e : w i k with
  | false => rfl
  | true => rw [hw i k e] at q; cases q)
theorem fr.row {w : Nat → Nat → Bool} {σ σ' : gS} (h : fr w σ σ') {i : Nat} (hw : ∀ k, w i k = false) : σ' i = σ i := funext fun k => h i k (hw k)
def wClk (i _k : Nat) : Bool := i == 123 || i == 124
/-! the reference's clocks -/
abbrev mC : Type := (Nat → Nat) × (Nat → Int)
def mOK (m : mC) : Prop := uOK m.1 ∧ tOK m.1 m.2
def mA (σ : gS) (m : mC) : Prop := mU σ m.1 ∧ mT σ m.2
def metB (u : Nat → Nat) (t : Nat → Int) (r s : Nat) : Bool := (List.range 9).any fun j => itr (nx u t) j (rt u s) == r
theorem itr_nx_lt {u : Nat → Nat} {t : Nat → Int} (hu : uOK u) (ht : tIn t) {r : Nat} (hr : r < 8) (j : Nat) : itr (nx u t) j r < 8 := itr_lt (fun _ hk => nx_lt hu ht hk) hr j
theorem nx_stop {u : Nat → Nat} {t : Nat → Int} : ∀ x, t x < 0 → nx u t x = x := fun _ h => nx_end h
theorem met_8 {u : Nat → Nat} {t : Nat → Int} (hu : uOK u) (ht : tOK u t) {s : Nat} (hs : s < 8) (j : Nat) : ∃ i, i < 9 ∧ itr (nx u t) i (rt u s) = itr (nx u t) j (rt u s) := by
  rcases Nat.lt_or_ge j 9 with h | h
  · exact ⟨j, h, rfl⟩
  · exact ⟨8, by omega, (itr_fix' (nx_stop _ (ht.2 _ (rt_lt hu hs))) (by omega)).symm⟩
theorem metB_iff {u : Nat → Nat} {t : Nat → Int} (hu : uOK u) (ht : tOK u t) {r s : Nat} (hs : s < 8) : metB u t r s = true ↔ ∃ j, itr (nx u t) j (rt u s) = r := by
  unfold metB
  rw [List.any_eq_true]
  constructor
  · rintro ⟨j, -, h⟩
    exact ⟨j, by simpa using h⟩
  · rintro ⟨j, h⟩
    obtain ⟨i, hi, e⟩ := met_8 hu ht hs j
    exact ⟨i, List.mem_range.mpr hi, by simp [e, h]⟩
def mSet (m : mC) (s : Nat) (is : Int) : Option mC :=
  if m.2 (rt m.1 s) ≠ -9 then (if m.2 (rt m.1 s) = is then some m else none)
  else if 0 ≤ is ∧ metB m.1 m.2 (rt m.1 s) (is / 10).toNat = true then none else some (m.1, upn m.2 (rt m.1 s) is)
def mLike (m : mC) (a b : Nat) : Option mC :=
  if rt m.1 a = rt m.1 b then some m
  else if m.2 (rt m.1 a) ≠ -9 ∧ m.2 (rt m.1 b) ≠ -9 then (if m.2 (rt m.1 a) = m.2 (rt m.1 b) then some m else none)
  else if m.2 (rt m.1 a) = -9 then
    (if 0 ≤ m.2 (rt m.1 b) ∧ metB m.1 m.2 (rt m.1 a) (m.2 (rt m.1 b) / 10).toNat = true then none else some (upn m.1 (rt m.1 a) (rt m.1 b), m.2))
  else (if 0 ≤ m.2 (rt m.1 a) ∧ metB m.1 m.2 (rt m.1 b) (m.2 (rt m.1 a) / 10).toNat = true then none else some (upn m.1 (rt m.1 b) (rt m.1 a), m.2))
/-- a row that other steps leave at one place, and that goes on as another row does, ends where that ends -/
theorem two_ends {f g : Nat → Nat} {P : Nat → Prop} (hP : ∀ x, P x → f x = x) (hPg : ∀ x, P x → g x = x) {k o : Nat} (hk : P (itr f 8 k)) (ho : P (itr f 8 o))
    (h : ∀ j, itr g j k = itr f j k ∨ ∃ i, ∀ d, itr g (j + d) k = itr f (i + d) o) : ∃ j, P (itr g j k) := by
  rcases h 8 with e | ⟨i, e⟩
  · exact ⟨8, by rw [e]; exact hk⟩
  · refine ⟨8 + 8, ?_⟩
    rw [e 8]
    exact itr_end hP ho (by omega)
theorem link_rt {u : Nat → Nat} (hu : uOK u) {f o : Nat} (hf : f < 8) (ho : o < 8) (hff : u f = f) (hoo : u o = o) (hne : f ≠ o) : uOK (upn u f o) ∧ ∀ s, s < 8 → rt (upn u f o) s = if rt u s = f then o else rt u s := by
  have hlt : ∀ k, k < 8 → upn u f o k < 8 := fun k hk => by
    unfold upn; split
    · exact ho
    · exact (hu k hk).1
  have huo : upn u f o o = o := by rw [upn_ne u o (fun e => hne e.symm), hoo]
  have huf : upn u f o f = o := upn_eq u f o
  have step : ∀ s, s < 8 → ∀ j, itr (upn u f o) j s = itr u j s ∨ itr (upn u f o) j s = o := fun s hs j => by
    induction j with
    | zero => exact Or.inl rfl
    | succ j ih =>
      show upn u f o (itr (upn u f o) j s) = u (itr u j s) ∨ upn u f o (itr (upn u f o) j s) = o
      rcases ih with e | e
      · rw [e]
        by_cases h : itr u j s = f
        · rw [h, huf]; exact Or.inr rfl
        · rw [upn_ne u o h]; exact Or.inl rfl
      · rw [e, huo]; exact Or.inr rfl
  have fixes : ∀ s, s < 8 → ∃ j, upn u f o (itr (upn u f o) j s) = itr (upn u f o) j s := fun s hs => by
    rcases step s hs 8 with e | e
    · by_cases h : itr u 8 s = f
      · refine ⟨9, ?_⟩
        show upn u f o (upn u f o (itr (upn u f o) 8 s)) = upn u f o (itr (upn u f o) 8 s)
        rw [e, h, huf, huo]
      · exact ⟨8, by rw [e, upn_ne u o h]; exact (hu s hs).2⟩
    · exact ⟨8, by rw [e, huo]⟩
  have hok : uOK (upn u f o) := fun s hs => ⟨hlt s hs, pig (P := fun x => upn u f o x = x) hlt (fun _ h => h) hs (fixes s hs)⟩
  refine ⟨hok, fun s hs => ?_⟩
  by_cases h : rt u s = f
  · rw [if_pos h]
    rcases step s hs 8 with e | e
    · exfalso
      have h1 := (hok s hs).2
      rw [e, show itr u 8 s = f from h, huf] at h1
      exact hne h1.symm
    · exact e
  · rw [if_neg h]
    have never : ∀ j, itr u j s ≠ f := fun j e => by
      apply h
      rcases Nat.lt_or_ge j 9 with q | q
      · exact (itr_fix' (f := u) (j := j) (k := 8) (by rw [e, hff]) (by omega)).trans e
      · rw [← e]; exact (itr_fix' (f := u) (j := 8) (k := j) (hu s hs).2 (by omega)).symm
    have all : ∀ j, itr (upn u f o) j s = itr u j s := fun j => by
      induction j with
      | zero => rfl
      | succ j ih =>
        show upn u f o (itr (upn u f o) j s) = u (itr u j s)
        rw [ih, upn_ne u o (never j)]
    exact all 8
