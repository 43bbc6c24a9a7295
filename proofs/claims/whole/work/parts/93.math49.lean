theorem mThen_as (o : Option mC) (f g : mC → Option mC) : mThen (mThen o f) g = mThen o fun w => mThen (f w) g := by cases o <;> rfl
theorem mThen_id (o : Option mC) : mThen o (fun w => some w) = o := by cases o <;> rfl
def mF (g : Nat → Int) (k i : Nat) (w : mC) : Option mC := if nmS (g (1 + k)) i = true then mLike w k (fa g k i) else some w
def cF (c : Nat → Int) (k i : Nat) (v : mC) : Option mC := if nmS (c (1 + k)) i = true then cLk v k (fa c k i) else some v
theorem mF_y {g : Nat → Int} {k i : Nat} {w : mC} (h : nmS (g (1 + k)) i = true) : mF g k i w = mLike w k (fa g k i) := if_pos h
theorem mF_n {g : Nat → Int} {k i : Nat} {w : mC} (h : nmS (g (1 + k)) i = false) : mF g k i w = some w := if_neg (by rw [h]; decide)
theorem nm_tab : ∀ K : Fin 12, 1 ≤ K.val → K.val ≤ 8 → ∀ i : Fin 3, nmS (K.val : Int) i.val = (decide (K.val ≠ 1) && decide (K.val ≠ 6 ∨ i.val = 1) && decide (i.val = 0 ∨ (i.val = 1 ∧ K.val ≠ 7) ∨ (i.val = 2 ∧ K.val = 5))) := by decide
theorem mAsk_all {g : Nat → Int} {k : Nat} {w : mC} (hK : 1 ≤ g (1 + k) ∧ g (1 + k) ≤ 8) : mAsk g k w = mThen (mThen (mF g k 0 w) fun w => mF g k 1 w) fun w => mF g k 2 w := by
  have t : ∀ i, i < 3 → ∀ K : Nat, g (1 + k) = (K : Int) → nmS (g (1 + k)) i = (decide (K ≠ 1) && decide (K ≠ 6 ∨ i = 1) && decide (i = 0 ∨ (i = 1 ∧ K ≠ 7) ∨ (i = 2 ∧ K = 5))) := fun i hi K e => by
    rw [e]
    exact nm_tab ⟨K, by omega⟩ (by show 1 ≤ K; omega) (by show K ≤ 8; omega) ⟨i, hi⟩
  have t0 := t 0 (by omega)
  have t1 := t 1 (by omega)
  have t2 := t 2 (by omega)
  unfold mAsk
  rw [if_neg (by omega)]
  rcases (show g (1 + k) = ((1 : Nat) : Int) ∨ g (1 + k) = ((5 : Nat) : Int) ∨ g (1 + k) = ((6 : Nat) : Int) ∨ g (1 + k) = ((7 : Nat) : Int) ∨ g (1 + k) = ((2 : Nat) : Int) ∨ g (1 + k) = ((3 : Nat) : Int) ∨ g (1 + k) = ((4 : Nat) : Int) ∨ g (1 + k) = ((8 : Nat) : Int) by omega) with e | e | e | e | e
  · rw [if_pos (by omega), mF_n (t0 _ e), mThen_s, mF_n (t1 _ e), mThen_s, mF_n (t2 _ e)]
  · rw [if_neg (by omega), if_pos (by omega), mF_y (t0 _ e), mThen_as]
    congr 1; funext w
    rw [mF_y (t1 _ e)]
    congr 1; funext w
    rw [mF_y (t2 _ e)]
  · rw [if_neg (by omega), if_neg (by omega), if_pos (by omega), mF_n (t0 _ e), mThen_s, mF_y (t1 _ e)]
    rw [show (fun w => mF g k 2 w) = fun w => some w from funext fun w => mF_n (t2 _ e), mThen_id]
  · rw [if_neg (by omega), if_neg (by omega), if_neg (by omega), if_pos (by omega), mF_y (t0 _ e)]
    rw [show (fun w => mF g k 2 w) = fun w => some w from funext fun w => mF_n (t2 _ e), mThen_id]
    rw [show (fun w => mF g k 1 w) = fun w => some w from funext fun w => mF_n (t1 _ e), mThen_id]
  · have key : ∀ K : Nat, g (1 + k) = (K : Int) → (K = 2 ∨ K = 3 ∨ K = 4 ∨ K = 8) → mThen (mLike w k (fa g k 0)) (fun w => mLike w k (fa g k 1)) = mThen (mThen (mF g k 0 w) fun w => mF g k 1 w) fun w => mF g k 2 w := fun K e h => by
      have d0 : nmS (g (1 + k)) 0 = true := by rw [t0 K e]; rcases h with rfl | rfl | rfl | rfl <;> rfl
      have d1 : nmS (g (1 + k)) 1 = true := by rw [t1 K e]; rcases h with rfl | rfl | rfl | rfl <;> rfl
      have d2 : nmS (g (1 + k)) 2 = false := by rw [t2 K e]; rcases h with rfl | rfl | rfl | rfl <;> rfl
      rw [mF_y d0, show (fun w => mF g k 2 w) = fun w => some w from funext fun w => mF_n d2, mThen_id]
      congr 1; funext w
      rw [mF_y d1]
    rw [if_neg (by omega), if_neg (by omega), if_neg (by omega), if_neg (by omega), if_neg (by omega), if_neg (by omega), if_neg (by omega)]
    rcases e with e | e | e | e
    · exact key _ e (by omega)
    · exact key _ e (by omega)
    · exact key _ e (by omega)
    · exact key _ e (by omega)
theorem ke_bd (s : Nat) (x : Int) : keC (fun v => cBd v s x) := fun _ _ _ h e => cyc_bd h e
theorem ke_lk (a b : Nat) : keC (fun v => cLk v a b) := fun _ _ _ h e => cyc_lk h e
theorem ke_F (c : Nat → Int) (k i : Nat) : keC (fun v => cF c k i v) := fun v v' A h e => by
  have e2 : cF c k i v = some v' := e
  unfold cF at e2
  split at e2
  · exact cyc_lk h e2
  · cases e2; exact h
theorem ke_then {f g : mC → Option mC} (hf : keC f) (hg : keC g) : keC (fun v => mThen (f v) g) := fun v v' A h e => by
  obtain ⟨v1, e1, e2⟩ := mThen_some e
  exact hg _ _ _ (hf _ _ _ h e1) e2
theorem cAsk_all {c : Nat → Int} {k : Nat} {v : mC} (h0 : c (1 + k) ≠ 0) (h9 : c (1 + k) < 9) : cAsk c k v = mThen (mThen (cF c k 0 v) fun w => cF c k 1 w) fun w => cF c k 2 w := by
  unfold cAsk
  rw [if_neg h0, if_neg (by omega), if_neg (by omega), if_neg (by omega)]
  rfl
/-- an equation asks -/
theorem cS_ask {c g : Nat → Int} {N : Nat} (hS : Sk c g N) (hG : cW c N) {k : Nat} (hk : k < N) {w v : mC} (hw : mOK w) (h : cR w v) : cS N (mAsk g k w) (cAsk c k v) := by
  have hN := hG.2.1
  obtain ⟨eK, eF⟩ := hS.2.1 k hk
  have ef : ∀ i, i < 3 → fa c k i = fa g k i := fun i hi => by unfold fa; rw [eF i hi]
  have hK := (hG.2.2 k hk).1
  have st : ∀ i, i < 3 → sPl (c (1 + k)) i → fa g k i < N := fun i hi hp => by rw [← ef i hi]; exact hG.st hk hi hp
  have sF : ∀ i, i < 3 → ∀ w v, mOK w → cR w v → cS N (mF g k i w) (cF c k i v) := fun i hi w v hw h => by
    unfold mF cF
    rw [← eK, ef i hi]
    by_cases q : nmS (c (1 + k)) i = true
    · rw [if_pos q, if_pos q]
      have := st i hi ((sPl_sp _ hi).mpr (of_decide_eq_true q))
      exact cS_lk hw h (by omega) (by omega) hk this
    · rw [if_neg q, if_neg q]
      exact Or.inl ⟨w, v, rfl, rfl, hw, h⟩
  by_cases q0 : c (1 + k) = 0
  · rw [mAsk, if_pos (by omega), cAsk, if_pos q0]
    exact cS_set (is := -1) hw h (by omega) hk (Or.inl rfl)
  · by_cases q8 : c (1 + k) ≤ 8
    · rw [mAsk_all (by omega), cAsk_all q0 (by omega)]
      exact cS_then (cS_then (sF 0 (by omega) w v hw h) (sF 1 (by omega)) (ke_F c k 1)) (sF 2 (by omega)) (ke_F c k 2)
    · have l0 := st 0 (by omega) (by unfold sPl; omega)
      have l1 := st 1 (by omega) (by unfold sPl; omega)
      have cv : ∀ x : Int, 0 ≤ x → cnv x = x := fun x hx => by have := cnv_sp x; omega
      unfold mAsk cAsk
      rw [ef 0 (by omega), ef 1 (by omega), ef 2 (by omega), if_neg (show ¬ g (1 + k) = 0 by omega), if_neg (show ¬ g (1 + k) = 1 by omega), if_neg (show ¬ g (1 + k) = 5 by omega), if_neg (show ¬ g (1 + k) = 6 by omega), if_neg (show ¬ g (1 + k) = 7 by omega), if_neg q0]
      by_cases q9 : c (1 + k) = 9
      · rw [if_pos (show g (1 + k) = 9 by omega), if_pos q9]
        refine cS_then (cS_lk hw h (by omega) (by omega) l0 l1) (fun w v hw h => ?_) (ke_bd _ _)
        have := cS_set (is := 10 * (fa g k 1 : Nat) + 1) hw h (show k < 8 by omega) hk (by omega)
        rw [cv _ (by omega)] at this; exact this
      · rw [if_neg (show ¬ g (1 + k) = 9 by omega), if_neg q9]
        by_cases q10 : c (1 + k) = 10
        · rw [if_pos (show g (1 + k) = 10 by omega), if_pos q10]
          refine cS_then (cS_lk hw h (by omega) (by omega) l0 l1) (fun w v hw h => ?_) (ke_bd _ _)
          have := cS_set (is := 10 * (fa g k 1 : Nat)) hw h (show k < 8 by omega) hk (by omega)
          rw [cv _ (by omega)] at this; exact this
        · have l2 := st 2 (by omega) (by unfold sPl; omega)
          rw [if_neg (show ¬ g (1 + k) = 10 by omega), if_neg q10, if_pos (show g (1 + k) = 11 by omega), if_pos (show c (1 + k) = 11 by omega)]
          refine cS_then (cS_lk hw h (by omega) (by omega) hk l0) (fun w v hw h => ?_) (ke_then (ke_bd _ _) (ke_bd _ _))
          refine cS_then ?_ (fun w v hw h => ?_) (ke_bd _ _)
          · have := cS_set (is := 10 * (fa g k 0 : Nat) + 1) hw h (show fa g k 1 < 8 by omega) l1 (by omega)
            rw [cv _ (by omega)] at this; exact this
          · have := cS_set (is := 10 * (fa g k 0 : Nat)) hw h (show fa g k 2 < 8 by omega) l2 (by omega)
            rw [cv _ (by omega)] at this; exact this
/-- clocks that are alike end alike -/
theorem cR_walk {w v : mC} (hw : mOK w) (h : cR w v) {s : Nat} (hs : s < 8) : ∀ j, ∃ t, t < 8 ∧ itr (cnx v) j (v.1 s) = v.1 t ∧ itr (nx w.1 w.2) j (rt w.1 s) = rt w.1 t
  | 0 => ⟨s, hs, rfl, rfl⟩
  | j + 1 => by
    obtain ⟨t, ht, e1, e2⟩ := cR_walk hw h hs j
    have hv := (h t ht).1
    have hc := cnv_sp (w.2 (rt w.1 t))
    have hi := hw.2.1 _ (rt_lt hw.1 ht)
    show ∃ t', t' < 8 ∧ cnx v (itr (cnx v) j (v.1 s)) = v.1 t' ∧ nx w.1 w.2 (itr (nx w.1 w.2) j (rt w.1 s)) = rt w.1 t'
    rw [e1, e2]
    by_cases q : 0 ≤ w.2 (rt w.1 t)
    · refine ⟨(w.2 (rt w.1 t) / 10).toNat, by omega, ?_, nx_pos q⟩
      rw [cnx_pos (by rw [hv]; omega), hv, show cnv (w.2 (rt w.1 t)) = w.2 (rt w.1 t) by omega]
    · exact ⟨t, ht, cnx_end (by rw [hv]; omega), nx_end (by omega)⟩
theorem cR_end {w v : mC} (hw : mOK w) (h : cR w v) {N : Nat} (hN : N ≤ 8) : cEnd v N = true := by
  refine decide_eq_true (fun s hs => ?_)
  obtain ⟨t, ht, e1, e2⟩ := cR_walk hw h (show s < 8 by omega) 8
  have h8 := hw.2.2 _ (rt_lt hw.1 (show s < 8 by omega))
  have hv := (h t ht).1
  have hc := cnv_sp (w.2 (rt w.1 t))
  rw [e2] at h8
  rw [e1, hv]
  omega
/-- the clocks found by both, up to an equation -/
theorem clk_sim {c g : Nat → Int} {N : Nat} (hS : Sk c g N) (hG : cW c N) : ∀ {k : Nat}, k ≤ N → (∃ w v, mClk g k = some w ∧ cClk c N k = some v ∧ mOK w ∧ cR w v) ∨ (mClk g k = none ∧ cClk c N k = none)
  | 0, _ => Or.inl ⟨_, _, rfl, rfl, m0_ok, cR_0⟩
  | k + 1, hk => by
    rw [mClk, cClk]
    rcases clk_sim hS hG (k := k) (by omega) with ⟨w, v, e1, e2, hw, h⟩ | ⟨e1, e2⟩
    · rw [e1, e2, mThen_s, mThen_s]
      rcases cS_ask hS hG (show k < N by omega) hw h with ⟨w', v', e3, e4, hw', h'⟩ | ⟨e3, e4 | ⟨v', A, s, e4, hc, hs, hsN⟩⟩
      · exact Or.inl ⟨w', v', e3, by rw [e4, mThen_s, if_pos (cR_end hw' h' hG.2.1)], hw', h'⟩
      · exact Or.inr ⟨e3, by rw [e4]; rfl⟩
      · exact Or.inr ⟨e3, by rw [e4, mThen_s, if_neg (by rw [cyc_end hc hs hsN]; decide)]⟩
    · rw [e1, e2]; exact Or.inr ⟨rfl, rfl⟩
