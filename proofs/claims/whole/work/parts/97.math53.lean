/-! what the class's clocks keep, and what every equation has got -/
def prs (v v' : mC) : Prop := (∀ a b, v.1 a = v.1 b → v'.1 a = v'.1 b) ∧ ∀ a, v.2 (v.1 a) ≠ -1 → v'.2 (v'.1 a) = v.2 (v.1 a)
theorem prs.rf (v : mC) : prs v v := ⟨fun _ _ h => h, fun _ _ => rfl⟩
theorem prs.tr {u v w : mC} (h : prs u v) (h2 : prs v w) : prs u w := ⟨fun a b e => h2.1 a b (h.1 a b e), fun a e => by
  have e1 := h.2 a e
  rw [h2.2 a (by rw [e1]; exact e), e1]⟩
theorem prs_bd {v v' : mC} {s : Nat} {x : Int} (e : cBd v s x = some v') : prs v v' ∧ v'.2 (v'.1 s) = x := by
  have e1 := cBd_fst e
  refine ⟨⟨fun a b h => by rw [e1]; exact h, fun a h => by rw [e1]; exact cBd_o e h⟩, by rw [e1]; exact cBd_at e⟩
theorem prs_lk {v v' : mC} {s t : Nat} (e : cLk v s t = some v') : prs v v' ∧ v'.1 s = v'.1 t := by
  have mg : ∀ (u : mC) (x y a b : Nat), u.1 a = u.1 b → (cMg u x y).1 a = (cMg u x y).1 b := fun u x y a b h => by
    show (if u.1 a = y then x else u.1 a) = (if u.1 b = y then x else u.1 b)
    rw [h]
  unfold cLk at e
  split at e
  · next q => cases e; exact ⟨prs.rf v, q⟩
  · next q =>
    have fin : ∀ u : mC, u.1 = v.1 → (cMg u (v.1 s) (v.1 t)).1 s = (cMg u (v.1 s) (v.1 t)).1 t := fun u hu => by
      show (if u.1 s = v.1 t then v.1 s else u.1 s) = (if u.1 t = v.1 t then v.1 s else u.1 t)
      rw [hu, if_neg q, if_pos rfl]
    split at e
    · next q2 =>
      cases e
      refine ⟨⟨fun a b h => mg v _ _ a b h, fun a h => ?_⟩, fin v rfl⟩
      show v.2 (if v.1 a = v.1 t then v.1 s else v.1 a) = _
      rw [if_neg (fun h2 => h (by rw [h2]; exact q2))]
    · next q2 =>
      obtain ⟨v1, e1, e2⟩ := mThen_some e
      cases e2
      have f1 := cBd_fst e1
      refine ⟨⟨fun a b h => mg v1 _ _ a b (by rw [f1]; exact h), fun a h => ?_⟩, fin v1 f1⟩
      show v1.2 (if v1.1 a = v.1 t then v.1 s else v1.1 a) = _
      rw [f1]
      by_cases q3 : v.1 a = v.1 t
      · rw [if_pos q3, cBd_at e1, q3]
      · rw [if_neg q3]; exact cBd_o e1 h
theorem prs_F {c : Nat → Int} {k i : Nat} {v v' : mC} (e : cF c k i v = some v') : prs v v' ∧ (nmS (c (1 + k)) i = true → v'.1 k = v'.1 (fa c k i)) := by
  unfold cF at e
  split at e
  · have := prs_lk e; exact ⟨this.1, fun _ => this.2⟩
  · next q => cases e; exact ⟨prs.rf v, fun h => absurd h q⟩
/-- an equation has what it asks -/
def AK (c : Nat → Int) (v : mC) (k : Nat) : Prop :=
  (c (1 + k) = 0 → v.2 (v.1 k) = -2) ∧
  ((2 ≤ c (1 + k) ∧ c (1 + k) ≤ 8) → ∀ i, i < 3 → sPl (c (1 + k)) i → v.1 k = v.1 (fa c k i)) ∧
  (c (1 + k) = 9 → v.1 (fa c k 0) = v.1 (fa c k 1) ∧ v.2 (v.1 k) = 10 * (fa c k 1 : Nat) + 1) ∧
  (c (1 + k) = 10 → v.1 (fa c k 0) = v.1 (fa c k 1) ∧ v.2 (v.1 k) = 10 * (fa c k 1 : Nat)) ∧
  (c (1 + k) = 11 → v.1 k = v.1 (fa c k 0) ∧ v.2 (v.1 (fa c k 1)) = 10 * (fa c k 0 : Nat) + 1 ∧ v.2 (v.1 (fa c k 2)) = 10 * (fa c k 0 : Nat))
theorem AK.to {c : Nat → Int} {v v' : mC} {k : Nat} (h : AK c v k) (hp : prs v v') : AK c v' k := by
  refine ⟨fun q => ?_, fun q i hi sp => hp.1 _ _ (h.2.1 q i hi sp), fun q => ?_, fun q => ?_, fun q => ?_⟩
  · have := h.1 q; rw [hp.2 _ (by omega)]; exact this
  · have := h.2.2.1 q; exact ⟨hp.1 _ _ this.1, by rw [hp.2 _ (by omega)]; exact this.2⟩
  · have := h.2.2.2.1 q; exact ⟨hp.1 _ _ this.1, by rw [hp.2 _ (by omega)]; exact this.2⟩
  · have := h.2.2.2.2 q; exact ⟨hp.1 _ _ this.1, by rw [hp.2 _ (by omega)]; exact this.2.1, by rw [hp.2 _ (by omega)]; exact this.2.2⟩
theorem AK_ask {c : Nat → Int} {N : Nat} (hG : cW c N) {k : Nat} (hk : k < N) {v v' : mC} (e : cAsk c k v = some v') : AK c v' k ∧ prs v v' := by
  have hK := (hG.2.2 k hk).1
  by_cases q8 : c (1 + k) ≠ 0 ∧ c (1 + k) < 9
  · rw [cAsk_all q8.1 q8.2] at e
    obtain ⟨v2, e2, e3⟩ := mThen_some e
    obtain ⟨v1, e1, e4⟩ := mThen_some e2
    have p0 := prs_F e1
    have p1 := prs_F e4
    have p2 := prs_F e3
    refine ⟨⟨fun q => absurd q q8.1, fun _ i hi sp => ?_, fun q => by omega, fun q => by omega, fun q => by omega⟩, p0.1.tr (p1.1.tr p2.1)⟩
    have nm := nm_of hi sp
    rcases (show i = 0 ∨ i = 1 ∨ i = 2 by omega) with rfl | rfl | rfl
    · exact p2.1.1 _ _ (p1.1.1 _ _ (p0.2 nm))
    · exact p2.1.1 _ _ (p1.2 nm)
    · exact p2.2 nm
  · unfold cAsk at e
    split at e
    · next q =>
      have := prs_bd e
      exact ⟨⟨fun _ => this.2, fun q => by omega, fun q => by omega, fun q => by omega, fun q => by omega⟩, this.1⟩
    · split at e
      · obtain ⟨v1, e1, e2⟩ := mThen_some e
        have p1 := prs_lk e1
        have p2 := prs_bd e2
        exact ⟨⟨fun q => by omega, fun q => by omega, fun _ => ⟨p2.1.1 _ _ p1.2, p2.2⟩, fun q => by omega, fun q => by omega⟩, p1.1.tr p2.1⟩
      · split at e
        · obtain ⟨v1, e1, e2⟩ := mThen_some e
          have p1 := prs_lk e1
          have p2 := prs_bd e2
          exact ⟨⟨fun q => by omega, fun q => by omega, fun q => by omega, fun _ => ⟨p2.1.1 _ _ p1.2, p2.2⟩, fun q => by omega⟩, p1.1.tr p2.1⟩
        · split at e
          · obtain ⟨v1, e1, e2⟩ := mThen_some e
            obtain ⟨v2, e3, e4⟩ := mThen_some e2
            have p1 := prs_lk e1
            have p2 := prs_bd e3
            have p3 := prs_bd e4
            exact ⟨⟨fun q => by omega, fun q => by omega, fun q => by omega, fun q => by omega, fun _ => ⟨p3.1.1 _ _ (p2.1.1 _ _ p1.2), by rw [p3.1.2 _ (by rw [p2.2]; omega)]; exact p2.2, p3.2⟩⟩, p1.1.tr (p2.1.tr p3.1)⟩
          · omega
theorem AK_all {c : Nat → Int} {N : Nat} (hG : cW c N) : ∀ {k : Nat} {v : mC}, k ≤ N → cClk c N k = some v → ∀ i, i < k → AK c v i
  | 0, _, _, _, i, hi => absurd hi (Nat.not_lt_zero _)
  | k + 1, v, hk, e, i, hi => by
    obtain ⟨v1, e1, e2⟩ := mThen_some e
    obtain ⟨v2, e3, e4⟩ := mThen_some e2
    split at e4
    · cases e4
      have := AK_ask hG (show k < N by omega) e3
      rcases Nat.lt_or_ge i k with q | q
      · exact (AK_all hG (by omega) e1 i q).to this.2
      · rw [show i = k by omega]; exact this.1
    · cases e4
/-- a stream by which others are sampled or merged -/
def cnd (c : Nat → Int) (N x : Nat) : Prop := ∃ k, k < N ∧ (((c (1 + k) = 9 ∨ c (1 + k) = 10) ∧ fa c k 1 = x) ∨ (c (1 + k) = 11 ∧ fa c k 0 = x))
def bcn (c : Nat → Int) (N : Nat) (v : mC) : Prop := ∀ k, 0 ≤ v.2 k → cnd c N (v.2 k / 10).toNat
theorem bcn_bd {c : Nat → Int} {N : Nat} {v v' : mC} (h : bcn c N v) {s : Nat} {x : Int} (hx : 0 ≤ x → cnd c N (x / 10).toNat) (e : cBd v s x = some v') : bcn c N v' := by
  unfold cBd at e
  split at e
  · cases e
    intro k hk
    have hk2 : 0 ≤ upn v.2 (v.1 s) x k := hk
    show cnd c N (upn v.2 (v.1 s) x k / 10).toNat
    by_cases q : k = v.1 s
    · rw [q, upn_eq] at hk2 ⊢; exact hx hk2
    · rw [upn_ne _ _ q] at hk2 ⊢; exact h k hk2
  · split at e
    · cases e; exact h
    · cases e
theorem bcn_lk {c : Nat → Int} {N : Nat} {v v' : mC} (h : bcn c N v) {s t : Nat} (e : cLk v s t = some v') : bcn c N v' := by
  unfold cLk at e
  split at e
  · cases e; exact h
  · split at e
    · cases e; exact h
    · obtain ⟨v1, e1, e2⟩ := mThen_some e
      cases e2
      have h9 : bcn c N v1 := bcn_bd h (fun hx => h _ hx) e1
      exact h9
theorem bcn_F {c : Nat → Int} {N : Nat} {v v' : mC} (h : bcn c N v) {k i : Nat} (e : cF c k i v = some v') : bcn c N v' := by
  unfold cF at e
  split at e
  · exact bcn_lk h e
  · cases e; exact h
theorem bcn_ask {c : Nat → Int} {N : Nat} {v v' : mC} (h : bcn c N v) {k : Nat} (hk : k < N) (e : cAsk c k v = some v') : bcn c N v' := by
  by_cases q8 : c (1 + k) ≠ 0 ∧ c (1 + k) < 9
  · rw [cAsk_all q8.1 q8.2] at e
    obtain ⟨v2, e2, e3⟩ := mThen_some e
    obtain ⟨v1, e1, e4⟩ := mThen_some e2
    exact bcn_F (bcn_F (bcn_F h e1) e4) e3
  · have d1 : ∀ n : Nat, ((10 * (n : Int) + 1) / 10).toNat = n := fun n => by omega
    have d0 : ∀ n : Nat, ((10 * (n : Int)) / 10).toNat = n := fun n => by omega
    unfold cAsk at e
    split at e
    · exact bcn_bd h (fun q => by omega) e
    · split at e
      · next q =>
        obtain ⟨v1, e1, e2⟩ := mThen_some e
        exact bcn_bd (bcn_lk h e1) (fun _ => by rw [d1]; exact ⟨k, hk, Or.inl ⟨Or.inl q, rfl⟩⟩) e2
      · split at e
        · next q =>
          obtain ⟨v1, e1, e2⟩ := mThen_some e
          exact bcn_bd (bcn_lk h e1) (fun _ => by rw [d0]; exact ⟨k, hk, Or.inl ⟨Or.inr q, rfl⟩⟩) e2
        · split at e
          · next q =>
            obtain ⟨v1, e1, e2⟩ := mThen_some e
            obtain ⟨v2, e3, e4⟩ := mThen_some e2
            exact bcn_bd (bcn_bd (bcn_lk h e1) (fun _ => by rw [d1]; exact ⟨k, hk, Or.inr ⟨q, rfl⟩⟩) e3) (fun _ => by rw [d0]; exact ⟨k, hk, Or.inr ⟨q, rfl⟩⟩) e4
          · have : ∀ {i : Nat} {v v' : mC}, bcn c N v → cAll c k i v = some v' → bcn c N v' := fun {i} => by
              induction i with
              | zero => intro v v' h e; cases e; exact h
              | succ i ih =>
                intro v v' h e
                obtain ⟨v1, e1, e2⟩ := mThen_some e
                exact bcn_F (c := c) (k := k) (i := i) (ih h e1) e2
            exact this h e
theorem bcn_all {c : Nat → Int} {N : Nat} : ∀ {k : Nat} {v : mC}, k ≤ N → cClk c N k = some v → bcn c N v
  | 0, v, _, e => by
    cases e
    intro k hk
    have : (0 : Int) ≤ -1 := hk
    omega
  | k + 1, v, hk, e => by
    obtain ⟨v1, e1, e2⟩ := mThen_some e
    obtain ⟨v2, e3, e4⟩ := mThen_some e2
    split at e4
    · cases e4; exact bcn_ask (bcn_all (by omega) e1) (by omega) e3
    · cases e4
