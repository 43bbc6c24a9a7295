/-! orders, alike in both: of a clock's streams the topmost is enough -/
theorem h255 : ∀ j, j < 8 → Nat.testBit 255 j = true := by decide
theorem hi256 {a i : Nat} (h : a < 256) (hi : 8 ≤ i) : a.testBit i = false := Nat.testBit_lt_two_pow (Nat.lt_of_lt_of_le h (Nat.pow_le_pow_right (n := 2) (i := 8) (by omega) hi))
theorem sub_iff {W d : Nat} (hW : W < 256) : W &&& (d ^^^ 255) = 0 ↔ ∀ i, i < 8 → W.testBit i = true → d.testBit i = true := by
  constructor
  · intro h i hi hb
    have h2 : (W &&& (d ^^^ 255)).testBit i = false := by rw [h, Nat.zero_testBit]
    rw [Nat.testBit_and, hb, Bool.true_and, Nat.testBit_xor, h255 i hi] at h2
    cases e : d.testBit i with
    | true => rfl
    | false => rw [e] at h2; cases h2
  · intro h
    apply Nat.eq_of_testBit_eq
    intro i
    rw [Nat.zero_testBit, Nat.testBit_and, Nat.testBit_xor]
    by_cases hi : i < 8
    · rw [h255 i hi]
      cases e : W.testBit i with
      | true => rw [h i hi e]; rfl
      | false => rfl
    · rw [hi256 hW (by omega)]; rfl
theorem fsR_cong {R R' : Nat → Bool} : ∀ {n : Nat}, (∀ k, k < n → R k = R' k) → fsR R n = fsR R' n
  | 0, _ => rfl
  | n + 1, h => by unfold fsR; rw [fsR_cong (fun k hk => h k (by omega)), h n (by omega)]
theorem or_bit (a k i : Nat) : (a ||| 2 ^ k).testBit i = true ↔ a.testBit i = true ∨ i = k := by
  rw [bit_or, Bool.or_eq_true, decide_eq_true_iff]
theorem wtR_bit {c : Nat → Int} {s b i : Nat} : ∀ n, (wtR c s b n).testBit i = true ↔ b.testBit i = true ∨ ∃ j, j < n ∧ nmS (c (1 + s)) j = true ∧ fa c s j = i
  | 0 => ⟨fun h => Or.inl h, fun h => h.elim id (fun ⟨j, hj, _⟩ => absurd hj (Nat.not_lt_zero _))⟩
  | n + 1 => by
    have ih := wtR_bit (c := c) (s := s) (b := b) (i := i) n
    rw [wtR]
    by_cases q : nmS (c (1 + s)) n = true
    · rw [if_pos q, or_bit, ih]
      constructor
      · rintro ((h | ⟨j, h1, h2⟩) | h)
        · exact Or.inl h
        · exact Or.inr ⟨j, by omega, h2⟩
        · exact Or.inr ⟨n, by omega, q, h.symm⟩
      · rintro (h | ⟨j, h1, h2, h3⟩)
        · exact Or.inl (Or.inl h)
        · rcases Nat.lt_or_ge j n with e | e
          · exact Or.inl (Or.inr ⟨j, e, h2, h3⟩)
          · rw [show j = n by omega] at h3; exact Or.inr h3.symm
    · rw [if_neg q, ih]
      constructor
      · rintro (h | ⟨j, h1, h2⟩)
        · exact Or.inl h
        · exact Or.inr ⟨j, by omega, h2⟩
      · rintro (h | ⟨j, h1, h2, h3⟩)
        · exact Or.inl h
        · refine Or.inr ⟨j, ?_, h2, h3⟩
          rcases Nat.lt_or_ge j n with e | e
          · exact e
          · rw [show j = n by omega] at h2; exact absurd h2 q
theorem sO_nm {g : Nat → Int} (hW : Wf g) {k i : Nat} (hk : k < 8) (hi : i < 3) : sO g k i = if nmS (g (1 + k)) i = true then ((fa g k i : Nat) : Int) else -9 := by
  unfold sO
  by_cases q : sPl (g (1 + k)) i
  · rw [if_pos (nmS_t hi q), ← hW.fg hk hi]; exact if_pos q
  · rw [if_neg (show ¬ nmS (g (1 + k)) i = true by rw [nmS_f hi q]; decide)]; exact if_neg q
theorem fbA_bit {g : Nat → Int} (hW : Wf g) {k i : Nat} (hk : k < 8) : ∀ n, n ≤ 3 → ((fbA g k n).testBit i = true ↔ ∃ j, j < n ∧ nmS (g (1 + k)) j = true ∧ fa g k j = i)
  | 0, _ => by
    show Nat.testBit 0 i = true ↔ _
    rw [Nat.zero_testBit]
    exact ⟨fun h => (by cases h), fun ⟨j, hj, _⟩ => absurd hj (Nat.not_lt_zero _)⟩
  | n + 1, hn => by
    have ih := fbA_bit hW (i := i) hk n (by omega)
    have hs := sO_nm hW hk (show n < 3 by omega)
    rw [fbA, Nat.testBit_or, Bool.or_eq_true, ih]
    unfold fb
    rw [hs]
    by_cases q : nmS (g (1 + k)) n = true
    · rw [if_pos q, if_neg (by omega), Nat.testBit_two_pow, decide_eq_true_iff]
      constructor
      · rintro (⟨j, h1, h2⟩ | h)
        · exact ⟨j, by omega, h2⟩
        · exact ⟨n, by omega, q, by omega⟩
      · rintro ⟨j, h1, h2, h3⟩
        rcases Nat.lt_or_ge j n with e | e
        · exact Or.inl ⟨j, e, h2, h3⟩
        · rw [show j = n by omega] at h3; exact Or.inr (by omega)
    · rw [if_neg q, if_pos rfl, Nat.zero_testBit]
      constructor
      · rintro (⟨j, h1, h2⟩ | h)
        · exact ⟨j, by omega, h2⟩
        · cases h
      · rintro ⟨j, h1, h2, h3⟩
        rcases Nat.lt_or_ge j n with e | e
        · exact Or.inl ⟨j, e, h2, h3⟩
        · rw [show j = n by omega] at h2; exact absurd h2 q
theorem wtA_bit {a : Nat} {w : mC} {s i : Nat} : ∀ d, (wtA a w s d).testBit i = true ↔ a.testBit i = true ∨ ∃ e, e < d ∧ cd w s e = i
  | 0 => ⟨fun h => Or.inl h, fun h => h.elim id (fun ⟨j, hj, _⟩ => absurd hj (Nat.not_lt_zero _))⟩
  | d + 1 => by
    have ih := wtA_bit (a := a) (w := w) (s := s) (i := i) d
    rw [wtA, or_bit, ih]
    constructor
    · rintro ((h | ⟨j, h1, h2⟩) | h)
      · exact Or.inl h
      · exact Or.inr ⟨j, by omega, h2⟩
      · exact Or.inr ⟨d, by omega, h.symm⟩
    · rintro (h | ⟨j, h1, h2⟩)
      · exact Or.inl (Or.inl h)
      · rcases Nat.lt_or_ge j d with e | e
        · exact Or.inl (Or.inr ⟨j, e, h2⟩)
        · rw [show j = d by omega] at h2; exact Or.inr h2.symm
theorem wt0_bit {S : Nat → Int} {s i : Nat} : (wt0 S s).testBit i = true ↔ 0 ≤ S s ∧ (S s / 10).toNat = i := by
  unfold wt0
  split
  · rw [Nat.zero_testBit]; exact ⟨fun h => (by cases h), fun h => by omega⟩
  · rw [Nat.testBit_two_pow, decide_eq_true_iff]; exact ⟨fun h => ⟨by omega, h⟩, fun h => h.2⟩
/-- the figures' part of both waits -/
def figB (c : Nat → Int) (s i : Nat) : Prop := ¬ (c (1 + s) = 6 ∨ c (1 + s) = 7) ∧ ∃ j, j < 3 ∧ nmS (c (1 + s)) j = true ∧ fa c s j = i
theorem wtC_bit {c S : Nat → Int} {s i : Nat} : (wtC c S s).testBit i = true ↔ (0 ≤ S s ∧ (S s / 10).toNat = i) ∨ figB c s i := by
  unfold wtC figB
  split
  · next q => rw [wt0_bit]; exact ⟨fun h => Or.inl h, fun h => h.elim id (fun h => absurd q h.1)⟩
  · next q => rw [wtR_bit, wt0_bit]; exact ⟨fun h => h.elim Or.inl (fun h => Or.inr ⟨q, h⟩), fun h => h.elim Or.inl (fun h => Or.inr h.2)⟩
theorem wtN_bit {c g : Nat → Int} {N : Nat} (hS : Sk c g N) (hW : Wf g) {w : mC} {s i : Nat} (hs : s < N) : (wtN g w s).testBit i = true ↔ (∃ e, e < dN w s ∧ cd w s e = i) ∨ figB c s i := by
  have h8 := hS.1.2.2
  obtain ⟨eK, eF⟩ := hS.2.1 s hs
  have ef : ∀ j, j < 3 → fa c s j = fa g s j := fun j hj => by unfold fa; rw [eF j hj]
  unfold wtN
  rw [wtA_bit]
  unfold figS figB
  rw [eK]
  by_cases q : g (1 + s) = 6 ∨ g (1 + s) = 7
  · rw [if_pos q, Nat.zero_testBit]
    constructor
    · rintro (h | h)
      · cases h
      · exact Or.inl h
    · rintro (h | h)
      · exact Or.inr h
      · exact absurd q h.1
  · rw [if_neg q, fbA_bit hW (by omega) 3 (Nat.le_refl 3)]
    constructor
    · rintro (⟨j, h1, h2, h3⟩ | h)
      · exact Or.inr ⟨q, j, h1, h2, by rw [ef j h1]; exact h3⟩
      · exact Or.inl h
    · rintro (h | ⟨_, j, h1, h2, h3⟩)
      · exact Or.inr h
      · exact Or.inl ⟨j, h1, h2, by rw [← ef j h1]; exact h3⟩
/-- both see the same ones ready, where what is done is closed -/
theorem rdy_eq {c g : Nat → Int} {N : Nat} (hS : Sk c g N) (hG : cW c N) (hW : Wf g) {w v : mC} (hw : mOK w) (h : cR w v) (hv : sOK (stC v) N) {d : Nat} (hd : ∀ x, x < N → d.testBit x = true → ∀ i, i < 8 → (wtN g w x).testBit i = true → d.testBit i = true) {k : Nat} (hk : k < N) : rdy (wtC c (stC v)) d k = rdy (wtN g w) d k := by
  have h8 := hS.1.2.2
  have l1 := wtC_lt hG hv hk
  have l2 := wtN_lt hW hw (show k < 8 by omega) (by rw [hS.1.2.1]; omega)
  have key : (wtC c (stC v) k &&& (d ^^^ 255) = 0) ↔ (wtN g w k &&& (d ^^^ 255) = 0) := by
    rw [sub_iff l1, sub_iff l2]
    have sp := st_sp hw h (show k < 8 by omega)
    have hvk := hv k hk
    constructor
    · intro q i hi hb
      rcases (wtN_bit hS hW hk).mp hb with ⟨e, he, hc⟩ | hf
      · rcases sp with ⟨p1, p2⟩ | ⟨p1, p3, p2⟩
        · rw [dN_0 p1] at he; exact absurd he (Nat.not_lt_zero _)
        · have top : d.testBit (w.2 (rt w.1 k) / 10).toNat = true := q _ (by omega) (wtC_bit.mpr (Or.inl ⟨by omega, by rw [p2]⟩))
          cases e with
          | zero => rw [← hc, cd_0]; exact top
          | succ e =>
            refine hd (w.2 (rt w.1 k) / 10).toNat (by omega) top i hi ((wtN_bit hS hW (by omega)).mpr (Or.inl ⟨e, ?_, ?_⟩))
            · rw [dN_s hw (by omega) p1] at he; omega
            · rw [← cd_s p1]; exact hc
      · exact q i hi (wtC_bit.mpr (Or.inr hf))
    · intro q i hi hb
      rcases wtC_bit.mp hb with ⟨p0, hc⟩ | hf
      · rcases sp with ⟨p1, p2⟩ | ⟨p1, p3, p2⟩
        · omega
        · refine q i hi ((wtN_bit hS hW hk).mpr (Or.inl ⟨0, by rw [dN_s hw (by omega) p1]; omega, ?_⟩))
          rw [cd_0, ← p2]; exact hc
      · exact q i hi ((wtN_bit hS hW hk).mpr (Or.inr hf))
  unfold rdy
  congr 1
  by_cases q : wtC c (stC v) k &&& (d ^^^ 255) = 0
  · rw [q, key.mp q]
  · have q2 : ¬ wtN g w k &&& (d ^^^ 255) = 0 := fun e => q (key.mpr e)
    rw [beq_eq_false_iff_ne.mpr q, beq_eq_false_iff_ne.mpr q2]
theorem oS_eq {c g : Nat → Int} {N : Nat} (hS : Sk c g N) (hG : cW c N) (hW : Wf g) {w v : mC} (hw : mOK w) (h : cR w v) (hv : sOK (stC v) N) : ∀ j, oS (wtC c (stC v)) N j = oS (wtN g w) N j ∧ (∀ x, x < N → (oS (wtN g w) N j).1.testBit x = true → ∀ i, i < 8 → (wtN g w x).testBit i = true → (oS (wtN g w) N j).1.testBit i = true)
  | 0 => ⟨rfl, fun x _ hx => by
      have : Nat.testBit 0 x = true := hx
      rw [Nat.zero_testBit] at this; cases this⟩
  | j + 1 => by
    obtain ⟨e, hc⟩ := oS_eq hS hG hW hw h hv j
    have h8 := hS.1.2.2
    have ef : fsR (rdy (wtC c (stC v)) (oS (wtC c (stC v)) N j).1) N = fsR (rdy (wtN g w) (oS (wtN g w) N j).1) N := by
      rw [e]
      exact fsR_cong (fun k hk => rdy_eq hS hG hW hw h hv hc hk)
    cases q : fsR (rdy (wtN g w) (oS (wtN g w) N j).1) N with
    | none =>
      have e1 := oS_stop (W := wtC c (stC v)) (ef.trans q) 1
      have e2 := oS_stop (W := wtN g w) q 1
      rw [e1, e2]; exact ⟨e, hc⟩
    | some k =>
      rw [oS_succ (ef.trans q), oS_succ q, e]
      refine ⟨rfl, fun x hx hb i hi hw' => ?_⟩
      obtain ⟨f1, f2, -⟩ := fsR_some.mp q
      have hb2 := (or_bit _ _ _).mp hb
      refine (or_bit _ _ _).mpr (Or.inl ?_)
      rcases hb2 with hb2 | hb2
      · exact hc x hx hb2 i hi hw'
      · subst hb2
        unfold rdy at f2
        simp only [Bool.and_eq_true, Bool.not_eq_true', beq_iff_eq] at f2
        exact (sub_iff (wtN_lt hW hw (show x < 8 by omega) (by rw [hS.1.2.1]; omega))).mp f2.2 i hi hw'
theorem tn_eq {c g : Nat → Int} {N : Nat} (hS : Sk c g N) (hG : cW c N) (hW : Wf g) {w v : mC} (hw : mOK w) (h : cR w v) (hv : sOK (stC v) N) (j : Nat) : fsR (rdy (wtC c (stC v)) (oS (wtC c (stC v)) N j).1) N = fsR (rdy (wtN g w) (oS (wtN g w) N j).1) N := by
  obtain ⟨e, hc⟩ := oS_eq hS hG hW hw h hv j
  rw [e]
  exact fsR_cong (fun k hk => rdy_eq hS hG hW hw h hv hc hk)
