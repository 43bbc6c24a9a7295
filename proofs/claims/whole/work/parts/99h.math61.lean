/-! answers, alike in both -/
theorem fiP_det {R R' : Nat → Nat → Int} {s n : Nat} {v q q' : Int} (e : ∀ t, t < n → R (t + 1) (41 + s) = R' (t + 1) (41 + s)) (h : fiP R s v n q) (h' : fiP R' s v n q') : q = q' := by
  rcases h with ⟨h1, h2⟩ | ⟨t, h1, h2, h3, h4⟩ <;> rcases h' with ⟨k1, k2⟩ | ⟨u, k1, k2, k3, k4⟩
  · omega
  · exact absurd (by rw [e u k1]; exact k3) (h2 u k1)
  · exact absurd (by rw [← e t h1]; exact h3) (k2 t h1)
  · rcases Nat.lt_trichotomy t u with a | a | a
    · exact absurd (by rw [← e t h1]; exact h3) (k4 t a)
    · subst a; omega
    · exact absurd (by rw [e u k1]; exact k3) (h4 u a)
theorem rdP_det {A A' : Nat → Nat → Prop} {y q q' : Int} (e : ∀ t u, t ≤ 40 → u ≤ 40 → (A t u ↔ A' t u)) (h : rdP A y q) (h' : rdP A' y q') : q = q' := by
  rcases h with ⟨l, t, h1, h2, h3, h4, h5, h6⟩ | ⟨h1, h2⟩ <;> rcases h' with ⟨l', t', k1, k2, k3, k4, k5, k6⟩ | ⟨k1, k2⟩
  · have a3 : A' t (t + l) := (e _ _ (by omega) (by omega)).mp h3
    have b3 : A t' (t' + l') := (e _ _ (by omega) (by omega)).mpr k3
    have el : l = l' := by
      rcases Nat.lt_trichotomy l l' with a | a | a
      · exact absurd a3 (k4 l t h1 a h2)
      · exact a
      · exact absurd b3 (h4 l' t' k1 a k2)
    subst el
    have et : t = t' := by
      rcases Nat.lt_trichotomy t t' with a | a | a
      · exact absurd a3 (k5 t a)
      · exact a
      · exact absurd b3 (h5 t' a)
    subst et
    omega
  · exact absurd ((e _ _ (by omega) (by omega)).mp h3) (k1 l t h1 h2)
  · exact absurd ((e _ _ (by omega) (by omega)).mpr k3) (h1 l' t' k1 k2)
  · omega
theorem odQ_det {A B : Nat} {h q q' : Int} (a : odQ A B h q) (b : odQ A B h q') : q = q' := by
  rcases a with ⟨a1, a2⟩ | ⟨a1, a2⟩ <;> rcases b with ⟨b1, b2⟩ | ⟨b1, b2⟩
  · rw [a2, b2]
  · exact absurd b1 a1
  · exact absurd a1 b1
  · rw [a2, b2]
theorem thb_tb {c g : Nat → Int} {N : Nat} (h8 : N ≤ 8) (e : ∀ s, s < N → c (41 + s) = g (41 + s)) (hv : vz c N) : tbC c 8 = thb g N := by
  have h1 : ∀ n, n ≤ N → tbC c n = thb g n := fun n => by
    induction n with
    | zero => intro _; rfl
    | succ n ih =>
      intro hn
      rw [tbC, thb, ih (by omega), e n (by omega)]
      split
      · rw [Nat.or_zero]
      · rfl
  have h2 : ∀ d, N + d ≤ 8 → tbC c (N + d) = tbC c N := fun d => by
    induction d with
    | zero => intro _; rfl
    | succ d ih =>
      intro hd
      rw [show N + (d + 1) = (N + d) + 1 by omega, tbC, hv (N + d) (by omega) (by omega), if_pos rfl, ih (by omega)]
  have h3 := h2 (8 - N) (by omega)
  rw [show N + (8 - N) = 8 by omega] at h3
  rw [h3, h1 N (Nat.le_refl N)]
theorem sm_eq {c g : Nat → Int} (e : ∀ x, x < 8 → c (41 + x) = g (41 + x) ∧ (c (41 + x) = -9 ∨ vk (c (41 + x)))) : ∀ n, n ≤ 8 → smC c n = ((ctC c n : Nat) : Int) + smV g n
  | 0, _ => rfl
  | n + 1, hn => by
    have ih := sm_eq e n (by omega)
    obtain ⟨h1, h2⟩ := e n (by omega)
    rw [smC, ctC, smV, ih, ← h1]
    unfold vk at h2
    by_cases a : c (41 + n) = -9
    · rw [if_pos a, if_pos a, if_pos (by omega)]; omega
    · rw [if_neg a, if_neg a]
      by_cases b : c (41 + n) = -8
      · rw [if_pos b, if_pos (by omega)]; omega
      · rw [if_neg b]
        split <;> omega
theorem rn_eq {c g S L : Nat → Int} {T : Nat → Nat} {N : Nat} {w : mC} (h : TQ c g S L T N w) {u : Nat → Int × Int} (hu : ∀ i, (0 ≤ (u i).1 ∧ (u i).1 ≤ 99) ∧ (0 ≤ (u i).2 ∧ (u i).2 ≤ 99)) : ∀ m, rnK (wkI c T S N u) m = rnS (tkI g w T N u) (rnC g w T N u) m
  | 0 => rfl
  | m + 1 => by
    have q := (h.it hu m).tk (hu m).1 (hu m).2
    rw [rnK, rnS, rn_eq h hu m]
    congr 1
    show smC (wkC (wkI c T S N u m) T S N (u m).1 (u m).2) 8 = ((mN (tkI g w T N u m) w T (u m).1 (u m).2 N : Nat) : Int) + smV (tkM (tkI g w T N u m) w T N (u m).1 (u m).2) 8
    rw [sm_eq q.2.1 8 (Nat.le_refl 8), q.2.2]
theorem tc_eq {c g S L : Nat → Int} {T : Nat → Nat} {N : Nat} {w : mC} (h : TQ c g S L T N w) {u : Nat → Int × Int} (hu : ∀ i, (0 ≤ (u i).1 ∧ (u i).1 ≤ 99) ∧ (0 ≤ (u i).2 ∧ (u i).2 ≤ 99)) {s : Nat} (hs : s < 8) : ∀ m, tcN (wkI c T S N u) s m = tcN (tkI g w T N u) s m
  | 0 => rfl
  | m + 1 => by rw [tcN, tcN, tc_eq h hu hs m, (h.itv hu m hs).1]
/-- what is kept, for the round -/
theorem stv_eq {c g S L : Nat → Int} {T : Nat → Nat} {N : Nat} {w : mC} (h : TQ c g S L T N w) {s : Nat} (hs : s < 8) : c (33 + s) = stv g s := by
  obtain ⟨hX, hm, -, hz, -⟩ := h
  have g0 := hX.1.1.1.2.1
  unfold stv
  split
  · exact hm.2.1 s hs
  · next q =>
    rcases Nat.lt_or_ge s N with e | e
    · have eK := (hX.1.1.2.1 s e).1
      exact hz s hs (Or.inr (by rw [eK]; omega))
    · exact hz s hs (Or.inl e)
/-- judging -/
theorem lk_iff {w v : mC} (hw : mOK w) (h : cR w v) {a b : Nat} (ha : a < 8) (hb : b < 8) : stC v a = stC v b ↔ lkP w a b := by
  have xa : w.2 (xs w a 0) = w.2 (rt w.1 a) := rfl
  have xb : w.2 (xs w b 0) = w.2 (rt w.1 b) := rfl
  unfold lkP
  rw [xa, xb]
  rcases st_sp hw h ha with ⟨a1, a2⟩ | ⟨a1, a3, a2⟩ <;> rcases st_sp hw h hb with ⟨b1, b2⟩ | ⟨b1, b3, b2⟩
  · rw [dN_0 a1, dN_0 b1]; exact ⟨fun _ => ⟨rfl, Or.inl rfl⟩, fun _ => by rw [a2, b2]⟩
  · rw [dN_0 a1, dN_s hw hb b1]
    exact ⟨fun e => by omega, fun e => by omega⟩
  · rw [dN_s hw ha a1, dN_0 b1]
    exact ⟨fun e => by omega, fun e => by omega⟩
  · constructor
    · intro e
      have e2 : w.2 (rt w.1 a) = w.2 (rt w.1 b) := by omega
      exact ⟨by rw [dN_s hw ha a1, dN_s hw hb b1, e2], Or.inr e2.symm⟩
    · rintro ⟨e1, e2⟩
      rw [dN_s hw ha a1] at e2
      omega
theorem jc_eq {c g S L : Nat → Int} {T : Nat → Nat} {N : Nat} {w : mC} (h : TQ c g S L T N w) (r n : Nat) : ∀ k, TQ (jcR c T S N r n k) (jdR g w T N r n k) S L T N w
  | 0 => h
  | k + 1 => by
    have ih := jc_eq h r n k
    rw [jcR, jdR]
    unfold jcG jdG
    split
    · exact (ih.tk (by omega) (by omega)).1
    · split
      · exact ih.rs
      · exact ih
theorem jb_iff {c g L : Nat → Int} {T : Nat → Nat} {N : Nat} {w v : mC} (h : TQ c g (stC v) L T N w) (hw : mOK w) (hR : cR w v) {S D : Nat → Int} (eS' : ∀ k, k < N → S k = stC v k) (eD : ∀ k, k < N → D k = ((dCr (stC v) 8 k : Nat) : Int)) (f : Nat) : jcB c S D N f ↔ jdB g w N f := by
  have h8 := h.1.1.1.1.2.2
  unfold jcB jdB
  refine or_congr Iff.rfl (or_congr Iff.rfl ?_)
  unfold soC soP
  generalize f / 10000 = k
  generalize f / 1000 % 10 = a
  generalize f / 100 % 10 = b
  generalize f % 100 = t
  refine and_congr_right (fun ha => ?_)
  have e3 := h.val ha
  refine or_congr (by rw [e3]) (or_congr (by rw [e3]) (or_congr ?_ ?_))
  · rw [eD a ha, ← st_dN hw hR (by omega)]
    constructor
    · rintro ⟨q1, q2, q3⟩; exact ⟨q1, q2, by omega⟩
    · rintro ⟨q1, q2, q3⟩; exact ⟨q1, q2, by omega⟩
  · constructor
    · rintro ⟨q1, q2, q3, q4⟩
      rw [eS' a ha, eS' b q3] at q4
      exact ⟨q1, q2, q3, (lk_iff hw hR (by omega) (by omega)).mp q4⟩
    · rintro ⟨q1, q2, q3, q4⟩
      refine ⟨q1, q2, q3, ?_⟩
      rw [eS' a ha, eS' b q3]
      exact (lk_iff hw hR (by omega) (by omega)).mpr q4
theorem jg_det {c g L : Nat → Int} {T : Nat → Nat} {N : Nat} {w v : mC} (h : TQ c g (stC v) L T N w) (hw : mOK w) (hR : cR w v) {S D : Nat → Int} (eS' : ∀ k, k < N → S k = stC v k) (eD : ∀ k, k < N → D k = ((dCr (stC v) 8 k : Nat) : Int)) {r n : Nat} {q q' : Int} (a : jkP c T S D N r n q) (b : jgP g w T N r n q') : q = q' := by
  have hT : ∀ j, j < N → T j < N := fun j hj => (h.1.2.2.1.1 j hj).1
  have e : ∀ k, jcB (jcR c T S N r n k) S D N (jdF r n k) ↔ jdB (jdR g w T N r n k) w N (jdF r n k) := fun k => by
    rw [jcR_S hT eS' k]
    exact jb_iff (jc_eq h r n k) hw hR eS' eD _
  rcases a with ⟨a1, a2⟩ | ⟨k, a1, a2, a3, a4⟩ <;> rcases b with ⟨b1, b2⟩ | ⟨j, b1, b2, b3, b4⟩
  · omega
  · exact absurd ((e j).mp (a2 j b1)) b3
  · exact absurd ((e k).mpr (b2 k a1)) a3
  · rcases Nat.lt_trichotomy k j with q | q | q
    · exact absurd ((e k).mpr (b4 k q)) a3
    · subst q; omega
    · exact absurd ((e j).mp (a4 j q)) b3
theorem lsT_ge {A : Nat → Int} : ∀ {n i : Nat}, i < n → A i ≤ lsT A n
  | 0, _, h => absurd h (Nat.not_lt_zero _)
  | n + 1, i, h => by
    rw [lsT]
    by_cases q : i = n
    · subst q; split <;> omega
    · have := lsT_ge (A := A) (n := n) (i := i) (by omega)
      split <;> omega
theorem cnB_cong {e e' : Nat → Bool} : ∀ {n : Nat}, (∀ k, k < n → e k = e' k) → cnB e n = cnB e' n
  | 0, _ => rfl
  | n + 1, h => by rw [cnB, cnB, cnB_cong (fun k hk => h k (by omega)), h n (by omega)]
