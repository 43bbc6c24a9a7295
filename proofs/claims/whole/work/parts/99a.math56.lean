theorem thB_top {w v : mC} (hw : mOK w) (h : cR w v) {s : Nat} (hs : s < 8) (H : Nat → Int) : thB w H s = true ↔ (stC v s < 0 ∨ (0 ≤ stC v s ∧ H (41 + (stC v s / 10).toNat) ≠ -9 ∧ (stC v s % 10 = 1 ↔ H (41 + (stC v s / 10).toNat) ≠ 0) ∧ thB w H (stC v s / 10).toNat = true)) := by
  unfold thB
  rw [decide_eq_true_iff, decide_eq_true_iff]
  rcases st_sp hw h hs with ⟨p1, p2⟩ | ⟨p1, p3, p2⟩
  · rw [dN_0 p1]
    exact ⟨fun _ => Or.inl (by omega), fun _ d hd => absurd hd (Nat.not_lt_zero _)⟩
  · have e0 : cd w s 0 = (stC v s / 10).toNat := by rw [cd_0, p2]
    have x0 : w.2 (xs w s 0) = stC v s := p2.symm
    rw [dN_s hw hs p1]
    constructor
    · intro q
      refine Or.inr ⟨by omega, ?_⟩
      have q0 := q 0 (by omega)
      rw [e0, x0] at q0
      refine ⟨q0.1, q0.2, fun d hd => ?_⟩
      have q1 := q (d + 1) (by rw [← p2]; omega)
      rw [cd_s p1, xs_s p1, ← p2] at q1
      exact q1
    · rintro (q | ⟨_, q1, q2, q3⟩)
      · omega
      · intro d hd
        cases d with
        | zero => rw [e0, x0]; exact ⟨q1, q2⟩
        | succ d =>
          rw [cd_s p1, xs_s p1, ← p2]
          exact q3 d (by rw [← p2] at hd; omega)
/-- all that a tick of both needs, of the equations alone -/
def tX (c g S L : Nat → Int) (T : Nat → Nat) (N : Nat) (w : mC) : Prop := (Sk c g N ∧ cW c N ∧ Wf g) ∧ (sOK S N ∧ AS c N S ∧ lvF c N L ∧ ∀ s, s < N → 0 ≤ S s → L (S s / 10).toNat ≠ 1) ∧ ((∀ j, j < N → T j < N ∧ (0 ≤ S (T j) → ∃ i, i < j ∧ T i = (S (T j) / 10).toNat) ∧ (c (1 + T j) ≠ 6 → c (1 + T j) ≠ 7 → ∀ i, i < 3 → sPl (c (1 + T j)) i → ∃ i', i' < j ∧ T i' = fa c (T j) i)) ∧ (∀ i j, i < j → j < N → T i ≠ T j) ∧ ∀ s, s < N → ∃ j, j < N ∧ T j = s) ∧ ∀ s, s < N → ∀ H : Nat → Int, (thB w H s = true ↔ (S s < 0 ∨ (0 ≤ S s ∧ H (41 + (S s / 10).toNat) ≠ -9 ∧ (S s % 10 = 1 ↔ H (41 + (S s / 10).toNat) ≠ 0) ∧ thB w H (S s / 10).toNat = true)))
theorem AS_low {c c' S : Nat → Int} {N : Nat} (hN : N ≤ 8) (h : AS c N S) (e : ∀ k, k < 33 → c' k = c k) : AS c' N S := fun k hk => by
  have eK : c' (1 + k) = c (1 + k) := e _ (by omega)
  have ef : ∀ i, i < 3 → fa c' k i = fa c k i := fun i hi => by unfold fa; rw [e _ (by omega)]
  rw [eK, ef 0 (by omega), ef 1 (by omega), ef 2 (by omega)]
  exact ⟨fun q i hi sp => by rw [ef i hi]; exact (h k hk).1 q i hi sp, (h k hk).2⟩
theorem lvF_low {c c' L : Nat → Int} {N : Nat} (hN : N ≤ 8) (h : lvF c N L) (e : ∀ k, k < 33 → c' k = c k) : lvF c' N L := fun k hk => by
  have eK : c' (1 + k) = c (1 + k) := e _ (by omega)
  have ef : ∀ i, i < 3 → fa c' k i = fa c k i := fun i hi => by unfold fa; rw [e _ (by omega)]
  obtain ⟨h1, h2, h3, h4, h5, h6⟩ := h k hk
  rw [eK, ef 0 (by omega), ef 1 (by omega)]
  exact ⟨fun a b i hi sp => by rw [ef i hi]; exact h1 a b i hi sp, h2, h3, h4, h5, fun a i hi => by rw [ef i hi]; exact h6 a i hi⟩
theorem tX.low {c g S L c' g' : Nat → Int} {T : Nat → Nat} {N : Nat} {w : mC} (h : tX c g S L T N w) (e1 : ∀ k, k < 33 → c' k = c k) (e2 : ∀ k, k < 33 → g' k = g k) : tX c' g' S L T N w := by
  obtain ⟨⟨a1, a2, a3⟩, ⟨b1, b2, b3, b4⟩, ⟨c1, c2, c3⟩, d⟩ := h
  have hN := a2.2.1
  refine ⟨⟨a1.low e1 e2, cW_cong a2 e1, a3.cong e2⟩, ⟨b1, AS_low hN b2 e1, lvF_low hN b3 e1, b4⟩, ⟨fun j hj => ?_, c2, c3⟩, d⟩
  have lt := (c1 j hj).1
  have eK : c' (1 + T j) = c (1 + T j) := e1 _ (by omega)
  rw [eK]
  refine ⟨lt, (c1 j hj).2.1, fun a b i hi sp => ?_⟩
  rw [show fa c' (T j) i = fa c (T j) i from by unfold fa; rw [e1 _ (by omega)]]
  exact (c1 j hj).2.2 a b i hi sp
theorem thC_gen {G : Nat → Int} {y : Int} (h0 : 0 ≤ y) (h8 : y < 80) : thC G y = true ↔ (G (41 + (y / 10).toNat) ≠ -9 ∧ G (41 + (y / 10).toNat) ≠ -8 ∧ (G (41 + (y / 10).toNat) ≠ 0 ↔ y % 10 = 1)) := by
  unfold thC
  rw [decide_eq_true_iff, spZ_in (show 0 ≤ y / 10 ∧ y / 10 < 8 by omega), vc_in (show 0 ≤ y / 10 ∧ y / 10 < 8 by omega)]
  constructor
  · rintro (h | h)
    · omega
    · exact h
  · exact fun h => Or.inr h
theorem thC_neg {G : Nat → Int} {y : Int} (h : y < 0) : thC G y = true := decide_eq_true (Or.inl h)
theorem thC_cong {G G' : Nat → Int} {y : Int} (h8 : y < 80) (h : 0 ≤ y → G' (41 + (y / 10).toNat) = G (41 + (y / 10).toNat)) : thC G' y = true ↔ thC G y = true := by
  rcases Int.lt_or_le y 0 with q | q
  · rw [thC_neg q, thC_neg q]
  · rw [thC_gen q h8, thC_gen q h8, h q]
/-- who is there, alike in both -/
theorem th_eq {c g S L : Nat → Int} {T : Nat → Nat} {N : Nat} {w : mC} (hX : tX c g S L T N w) {bn : Nat → Prop} {G H : Nat → Int} (e : ∀ x, x < 8 → G (41 + x) = H (41 + x)) {j : Nat} (hp : ∀ i, i < j → PV S L bn G (T i)) : ∀ n i, i < n → i ≤ j → i < N → (thC G (S (T i)) = true ↔ thB w H (T i) = true)
  | 0, i, hi, _, _ => absurd hi (Nat.not_lt_zero _)
  | n + 1, i, hi, hj, hN => by
    obtain ⟨⟨a1, a2, a3⟩, ⟨b1, b2, b3, b4⟩, ⟨c1, c2, c3⟩, d⟩ := hX
    have h8 := a2.2.1
    have lt := (c1 i hN).1
    have hS := b1 (T i) lt
    rw [d (T i) lt H]
    rcases Int.lt_or_le (S (T i)) 0 with q | q
    · rw [thC_neg q]; exact ⟨fun _ => Or.inl q, fun _ => rfl⟩
    · obtain ⟨i', h1, h2⟩ := (c1 i hN).2.1 q
      have ih := th_eq ⟨⟨a1, a2, a3⟩, ⟨b1, b2, b3, b4⟩, ⟨c1, c2, c3⟩, d⟩ e hp n i' (by omega) (by omega) (by omega)
      have pv := hp i' (by omega)
      have lv := b4 (T i) lt q
      rw [← h2] at lv
      rw [thC_gen q (by omega), ← e _ (by omega), ← h2, ← ih]
      constructor
      · rintro ⟨p1, p2, p3⟩
        exact Or.inr ⟨q, p1, p3.symm, pv.1.mp p1⟩
      · rintro (p | ⟨_, p1, p2, p3⟩)
        · omega
        · have := (pv.2 p1).2 (Or.inl lv)
          exact ⟨p1, by omega, p2.symm⟩
/-- a tick, as far as j streams have had their turns -/
def tJ (c g S L : Nat → Int) (T : Nat → Nat) (w : mC) (bn : Nat → Prop) (a b : Int) (j : Nat) : Prop := (∀ x, x < 8 → wkV c T S a b j (41 + x) = mV g w T a b j (41 + x)) ∧ (∀ x, x < 8 → (∀ i, i < j → T i ≠ x) → wkV c T S a b j (41 + x) = -9) ∧ (∀ i, i < j → PV S L bn (wkV c T S a b j) (T i)) ∧ mN g w T a b j = ctC (wkV c T S a b j) 8
theorem ctC_up {G : Nat → Int} {s : Nat} {x : Int} (h : G (41 + s) = -9) (hx : x ≠ -9) : ∀ n, ctC (upn G (41 + s) x) n = ctC G n + if s < n then 1 else 0
  | 0 => by rw [if_neg (Nat.not_lt_zero _)]; rfl
  | n + 1 => by
    have ih := ctC_up h hx n
    rw [ctC, ctC, ih]
    by_cases q : n = s
    · subst q
      rw [upn_eq, if_neg hx, h, if_pos rfl, if_neg (by omega), if_pos (by omega)]
    · rw [upn_ne _ _ (by omega)]
      by_cases q2 : s < n
      · rw [if_pos q2, if_pos (show s < n + 1 by omega)]; omega
      · rw [if_neg q2, if_neg (show ¬ s < n + 1 by omega)]; omega
theorem ctC_no {G : Nat → Int} (h : ∀ x, x < 8 → G (41 + x) = -9) : ∀ n, n ≤ 8 → ctC G n = 0
  | 0, _ => rfl
  | n + 1, hn => by rw [ctC, ctC_no h n (by omega), h n (by omega)]; rfl
theorem tJ_all {c g S L : Nat → Int} {T : Nat → Nat} {N : Nat} {w : mC} (hX : tX c g S L T N w) {bn : Nat → Prop} (hL : Li c S N bn) (hk : ∀ s, s < 8 → c (33 + s) = g (33 + s)) {a b : Int} (ha : 0 ≤ a ∧ a ≤ 99) (hb : 0 ≤ b ∧ b ≤ 99) : ∀ j, j ≤ N → tJ c g S L T w bn a b j
  | 0, _ => by
    have r : ∀ h : Nat → Int, ∀ x, x < 8 → rs h 8 (41 + x) = -9 := fun h x hx => by unfold rs; rw [if_pos (by omega)]
    refine ⟨fun x hx => ?_, fun x hx _ => r c x hx, fun i hi => absurd hi (Nat.not_lt_zero _), ?_⟩
    · show rs c 8 (41 + x) = rs g 8 (41 + x)
      rw [r c x hx, r g x hx]
    · exact (ctC_no (r c) 8 (Nat.le_refl 8)).symm
  | j + 1, hj => by
    obtain ⟨i1, i2, i3, i4⟩ := tJ_all hX hL hk ha hb j (by omega)
    have hX2 := hX
    obtain ⟨⟨a1, a2, a3⟩, ⟨b1, b2, b3, b4⟩, ⟨c1, c2, c3⟩, d⟩ := hX2
    have h8 := a2.2.1
    have T8 : ∀ i, i < j → T i < 8 := fun i hi => by have := (c1 i (by omega)).1; omega
    have lt := (c1 j (by omega)).1
    have thc := th_eq hX i1 i3 (j + 1) j (by omega) (Nat.le_refl j) (by omega)
    have un := i2 (T j) (by omega) (fun i hi => c2 i j hi (by omega))
    have lowG : ∀ k, k < 41 → wkV c T S a b j k = c k := fun k hk => wkV_low c T S a b (Or.inl hk) j T8
    have lowH : ∀ k, k < 41 → mV g w T a b j k = g k := fun k hk => mV_low g w T a b (Or.inl hk) j T8
    have eG : wkV c T S a b (j + 1) = if thC (wkV c T S a b j) (S (T j)) = true then upn (wkV c T S a b j) (41 + T j) (rkC (wkV c T S a b j) (T j) a b) else wkV c T S a b j := rfl
    have eH : mV g w T a b (j + 1) = upn (mV g w T a b j) (41 + T j) (if thB w (mV g w T a b j) (T j) = true then vlM (mV g w T a b j) (T j) a b else -9) := rfl
    have eN : mN g w T a b (j + 1) = mN g w T a b j + (if thB w (mV g w T a b j) (T j) = true then 1 else 0) := rfl
    unfold tJ
    rw [eG, eH, eN]
    generalize wkV c T S a b j = G at *
    generalize mV g w T a b j = H at *
    -- those that had their turns stay as they are
    have keep : ∀ G' : Nat → Int, (∀ x, x < 8 → x ≠ T j → G' (41 + x) = G (41 + x)) → ∀ i, i < j → PV S L bn G' (T i) := fun G' hg i hi => by
      have l := (c1 i (by omega)).1
      have ne := c2 i j hi (by omega)
      have th : thC G' (S (T i)) = true ↔ thC G (S (T i)) = true := by
        refine thC_cong (by have := b1 (T i) l; omega) (fun q => ?_)
        obtain ⟨i', h1, h2⟩ := (c1 i (by omega)).2.1 q
        rw [← h2]
        exact hg _ (by have := (c1 i' (by omega)).1; omega) (c2 i' j (by omega) (by omega))
      unfold PV
      rw [hg _ (by omega) ne, th]
      exact i3 i hi
    by_cases q : thC G (S (T j)) = true
    · have hp : c (1 + T j) ≠ 6 → c (1 + T j) ≠ 7 → ∀ i, i < 3 → sPl (c (1 + T j)) i → PV S L bn G (fa c (T j) i) := fun n6 n7 i hi sp => by
        obtain ⟨i', h1, h2⟩ := (c1 j (by omega)).2.2 n6 n7 i hi sp
        rw [← h2]; exact i3 i' h1
      obtain ⟨v1, v2, v3⟩ := val_eq a1 a2 a3 b2 b3 hL lowG lowH hk i1 lt q hp ha hb
      rw [if_pos q, if_pos (thc.mp q), if_pos (thc.mp q), ← v1]
      have v9 : rkC G (T j) a b ≠ -9 := by unfold vk at v2; omega
      generalize rkC G (T j) a b = v at *
      refine ⟨fun x hx => ?_, fun x hx hn => ?_, fun i hi => ?_, ?_⟩
      · by_cases e : x = T j
        · rw [e, upn_eq, upn_eq]
        · rw [upn_ne _ _ (by omega), upn_ne _ _ (by omega)]; exact i1 x hx
      · rw [upn_ne _ _ (by have := hn j (by omega); omega)]
        exact i2 x hx (fun i hi => hn i (by omega))
      · rcases Nat.lt_or_ge i j with e | e
        · exact keep _ (fun x _ hx => upn_ne _ _ (by omega)) i e
        · have e2 : i = j := by omega
          subst e2
          have th : thC (upn G (41 + T i) v) (S (T i)) = true := (thC_cong (by have := b1 (T i) lt; omega) (fun q0 => by
            obtain ⟨i', h1, h2⟩ := (c1 i (by omega)).2.1 q0
            rw [← h2]
            exact upn_ne _ _ (by have := c2 i' i h1 (by omega); omega))).mpr q
          unfold PV
          rw [upn_eq, th]
          exact ⟨⟨fun _ => rfl, fun _ => v9⟩, fun _ => ⟨v2, v3⟩⟩
      · rw [ctC_up un v9, if_pos (by omega), i4]
    · have q2 : ¬ thB w H (T j) = true := fun e => q (thc.mpr e)
      rw [if_neg q, if_neg q2, if_neg q2]
      refine ⟨fun x hx => ?_, fun x hx hn => i2 x hx (fun i hi => hn i (by omega)), fun i hi => ?_, by rw [i4]; rfl⟩
      · by_cases e : x = T j
        · rw [e, upn_eq, un]
        · rw [upn_ne _ _ (by omega)]; exact i1 x hx
      · rcases Nat.lt_or_ge i j with e | e
        · exact i3 i e
        · have e2 : i = j := by omega
          subst e2
          exact ⟨⟨fun h => absurd un h, fun h => absurd h q⟩, fun h => absurd un h⟩
