/-! chances and runs, by rows alike -/
theorem tkI_e {g h : Nat → Int} (e : e50 g h) {N : Nat} (hg : tOk g N) {w : mC} (hw : mOK w) {T : Nat → Nat} (hT : ∀ i, i < N → T i < N) {u : Nat → Int × Int} (hu : ∀ i, (0 ≤ (u i).1 ∧ (u i).1 ≤ 99) ∧ (0 ≤ (u i).2 ∧ (u i).2 ≤ 99)) : ∀ n, e50 (tkI g w T N u n) (tkI h w T N u n)
  | 0 => e
  | n + 1 => tkM_e (tkI_e e hg hw hT hu n) (tkI_ok hg hT n (fun i _ => hu i)) hw hT _ _
theorem tcN_e {R Q : Nat → Nat → Int} (e : ∀ t, e50 (R t) (Q t)) {s : Nat} (hs : s < 8) : ∀ t, tcN R s t = tcN Q s t
  | 0 => rfl
  | t + 1 => by rw [tcN, tcN, tcN_e e hs t, e (t + 1) (41 + s) (by omega)]
theorem bitI_in (x i : Nat) : (0 ≤ (bitI x i).1 ∧ (bitI x i).1 ≤ 99) ∧ (0 ≤ (bitI x i).2 ∧ (bitI x i).2 ≤ 99) := by
  unfold bitI
  have := Nat.mod_lt (x / 2 ^ i) (show 0 < 2 by omega)
  refine ⟨⟨?_, ?_⟩, ⟨?_, ?_⟩⟩ <;> dsimp only <;> omega
theorem sdU_in (x : Int64) (i : Nat) : (0 ≤ (sdU x i).1 ∧ (sdU x i).1 ≤ 99) ∧ (0 ≤ (sdU x i).2 ∧ (sdU x i).2 ≤ 99) := by
  unfold sdU
  refine ⟨⟨?_, ?_⟩, ⟨?_, ?_⟩⟩ <;> dsimp only <;> omega
theorem pow_10 {n : Nat} (h : n ≤ 6) : 1 ≤ 10 ^ n ∧ 10 ^ n ≤ 1000000 := by
  have : ∀ n, n ≤ 6 → 1 ≤ 10 ^ n ∧ 10 ^ n ≤ 1000000 := by decide
  exact this n h
/-- a fraction's upper or lower part -/
def odQ (A B : Nat) (h q : Int) : Prop := (h ≠ 0 ∧ q = ((A / Nat.gcd A B : Nat) : Int)) ∨ (h = 0 ∧ q = ((B / Nat.gcd A B : Nat) : Int))
/-- how often a stream is there, for each set of inputs -/
def odT (g : Nat → Int) (w : mC) (T : Nat → Nat) (N k n : Nat) : Nat → Nat := fun d => tcN (tkI g w T N (bitI d)) k n
def rnC (g : Nat → Int) (w : mC) (T : Nat → Nat) (N : Nat) (u : Nat → Int × Int) : Nat → Int := fun k => ((mN (tkI g w T N u k) w T (u k).1 (u k).2 N : Nat) : Int)
theorem rnS_in {R : Nat → Nat → Int} {C : Nat → Int} (hC : ∀ k, 0 ≤ C k ∧ C k ≤ 8) (hV : ∀ k, Vb (R k)) : ∀ k, 0 ≤ rnS R C k ∧ rnS R C k ≤ 800 * k
  | 0 => by show (0 : Int) ≤ 0 ∧ (0 : Int) ≤ 800 * ((0 : Nat) : Int); omega
  | k + 1 => by
    have ih := rnS_in hC hV k
    have h1 := hC k
    have h2 := smV_in (hV (k + 1)) (s := 8) (by omega)
    rw [rnS]
    omega
theorem upr_self {α : Type} (z : Nat → α) (i : Nat) : z = upr z i (z i) := by
  funext a
  by_cases h : a = i
  · subst h; rw [upr_eq]
  · rw [upr_c _ _ h]
theorem upr_upr {α : Type} (z : Nat → α) (i : Nat) (x y : α) : upr (upr z i x) i y = upr z i y := by
  funext a
  by_cases h : a = i
  · subst h; rw [upr_eq, upr_eq]
  · rw [upr_c _ _ h, upr_c _ _ h, upr_c _ _ h]
