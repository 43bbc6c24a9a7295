/-! a tick, alike in both -/
/-- what the settled clocks give each equation -/
def AS (c : Nat → Int) (N : Nat) (S : Nat → Int) : Prop := ∀ k, k < N →
  ((2 ≤ c (1 + k) ∧ c (1 + k) ≤ 8) → ∀ i, i < 3 → sPl (c (1 + k)) i → S k = S (fa c k i)) ∧
  (c (1 + k) = 9 → S (fa c k 0) = S (fa c k 1) ∧ S k = 10 * (fa c k 1 : Nat) + 1) ∧
  (c (1 + k) = 10 → S (fa c k 0) = S (fa c k 1) ∧ S k = 10 * (fa c k 1 : Nat)) ∧
  (c (1 + k) = 11 → S k = S (fa c k 0) ∧ S (fa c k 1) = 10 * (fa c k 0 : Nat) + 1 ∧ S (fa c k 2) = 10 * (fa c k 0 : Nat))
theorem AS_of {c : Nat → Int} {N : Nat} {v : mC} (h : ∀ i, i < N → AK c v i) : AS c N (stC v) := fun k hk => by
  have hA := h k hk
  have e1 : ∀ a b, v.1 a = v.1 b → stC v a = stC v b := fun a b e => by unfold stC; rw [e]
  have e2 : ∀ a x, v.2 (v.1 a) = x → 0 ≤ x → stC v a = x := fun a x e h0 => by unfold stC; rw [if_neg (by omega)]; exact e
  refine ⟨fun q i hi sp => e1 _ _ (hA.2.1 q i hi sp), fun q => ?_, fun q => ?_, fun q => ?_⟩
  · have := hA.2.2.1 q; exact ⟨e1 _ _ this.1, e2 _ _ this.2 (by omega)⟩
  · have := hA.2.2.2.1 q; exact ⟨e1 _ _ this.1, e2 _ _ this.2 (by omega)⟩
  · have := hA.2.2.2.2 q; exact ⟨e1 _ _ this.1, e2 _ _ this.2.1 (by omega), e2 _ _ this.2.2 (by omega)⟩
/-- a value: nothing, or what it is -/
def vk (x : Int) : Prop := x = -8 ∨ (0 ≤ x ∧ x ≤ 99)
/-- what a page has kept: bn tells which have been there -/
def Li (c : Nat → Int) (S : Nat → Int) (N : Nat) (bn : Nat → Prop) : Prop := ∀ s, s < N →
  (c (1 + s) = 6 → 0 ≤ c (33 + s) ∧ c (33 + s) ≤ 99) ∧
  (c (1 + s) = 7 → vk (c (33 + s)) ∧ (bn s → 0 ≤ c (33 + s))) ∧
  (c (1 + s) = 8 → (c (33 + s) = 0 ↔ ¬ bn s)) ∧
  (∀ t, t < N → S s = S t → bn s → bn t) ∧ (0 ≤ S s → bn s → bn (S s / 10).toNat)
/-- a stream that has had its turn -/
def PV (S L : Nat → Int) (bn : Nat → Prop) (G : Nat → Int) (x : Nat) : Prop := (G (41 + x) ≠ -9 ↔ thC G (S x) = true) ∧ (G (41 + x) ≠ -9 → vk (G (41 + x)) ∧ ((L x ≠ 1 ∨ bn x) → 0 ≤ G (41 + x)))
theorem thC_pos {G : Nat → Int} {x : Nat} {b : Int} (hx : x < 8) (hb : b = 0 ∨ b = 1) : thC G (10 * (x : Nat) + b) = true ↔ (G (41 + x) ≠ -9 ∧ G (41 + x) ≠ -8 ∧ (G (41 + x) ≠ 0 ↔ b = 1)) := by
  unfold thC
  rw [decide_eq_true_iff, show (10 * (x : Int) + b) / 10 = (x : Int) by omega, spZ_in ⟨by omega, by omega⟩, vc_n G hx, show (10 * (x : Int) + b) % 10 = b by omega]
  constructor
  · rintro (h | h)
    · omega
    · exact h
  · exact fun h => Or.inr h
theorem nn_mod {x : Int} (h : 0 ≤ x) : x.tmod 100 = x % 100 := Int.tmod_eq_emod_of_nonneg h
theorem cmb_mkd {K x y : Int} (hx : vk x) (hy : vk y) : cmb K x y = mkd K x y := by
  unfold vk at hx hy
  unfold cmb mkd
  by_cases q : x = -8 ∨ y = -8
  · rw [if_pos q, if_pos (by omega)]
  · rw [if_neg q, if_neg (show ¬ (x < 0 ∨ y < 0) by omega), nn_mod (show 0 ≤ x + y by omega), nn_mod (show 0 ≤ x - y + 100 by omega)]
theorem mkd_vk (K x y : Int) : vk (mkd K x y) := by
  unfold mkd vk
  split
  · omega
  · split
    · omega
    · split
      · omega
      · split <;> omega
theorem mkd_nn {K x y : Int} (hx : 0 ≤ x) (hy : 0 ≤ y) : 0 ≤ mkd K x y := by
  unfold mkd
  rw [if_neg (by omega)]
  split
  · omega
  · split
    · omega
    · split <;> omega
theorem val_eq {c g S L : Nat → Int} {N : Nat} {bn : Nat → Prop} (hS : Sk c g N) (hG : cW c N) (hW : Wf g) (hA : AS c N S) (hF : lvF c N L) (hL : Li c S N bn) {G H : Nat → Int} (e1 : ∀ k, k < 41 → G k = c k) (e2 : ∀ k, k < 41 → H k = g k) (e3 : ∀ s, s < 8 → c (33 + s) = g (33 + s)) (e4 : ∀ x, x < 8 → G (41 + x) = H (41 + x)) {s : Nat} (hs : s < N) (ht : thC G (S s) = true) (hp : c (1 + s) ≠ 6 → c (1 + s) ≠ 7 → ∀ i, i < 3 → sPl (c (1 + s)) i → PV S L bn G (fa c s i)) {a b : Int} (ha : 0 ≤ a ∧ a ≤ 99) (hb : 0 ≤ b ∧ b ≤ 99) : rkC G s a b = vlM H s a b ∧ vk (rkC G s a b) ∧ ((L s ≠ 1 ∨ bn s) → 0 ≤ rkC G s a b) := by
  have h8 := hG.2.1
  obtain ⟨eK, eF⟩ := hS.2.1 s hs
  have hK := (hG.2.2 s hs).1
  have GK : G (1 + s) = c (1 + s) := e1 _ (by omega)
  have HK : H (1 + s) = c (1 + s) := by rw [e2 _ (by omega), eK]
  have fG : ∀ i, i < 3 → G (9 + 3 * s + i) = ((fa c s i : Nat) : Int) := fun i hi => by rw [e1 _ (by omega), hG.fg hs hi]
  have fH : ∀ i, i < 3 → H (9 + 3 * s + i) = ((fa c s i : Nat) : Int) := fun i hi => by rw [e2 _ (by omega), ← eF i hi, hG.fg hs hi]
  have hfa : ∀ i, i < 3 → fa H s i = fa c s i := fun i hi => by unfold fa; rw [fH i hi, ← hG.fg hs hi]
  have WH : Wf H := hW.cong (fun k hk => e2 k (by omega))
  have lt : ∀ i, i < 3 → sPl (c (1 + s)) i → fa c s i < N := fun i hi sp => hG.st hs hi sp
  have vcy : ∀ i, i < 3 → sPl (c (1 + s)) i → vc G (G (9 + 3 * s + i)) = G (41 + fa c s i) := fun i hi sp => by
    rw [fG i hi, vc_n G (by have := lt i hi sp; omega)]
  have xvy : ∀ i, i < 3 → sPl (c (1 + s)) i → xv H s i = G (41 + fa c s i) := fun i hi sp => by
    have l := lt i hi sp
    have so : sO H s i ≠ -9 := by
      rw [sO_nm WH (by omega) hi, HK, if_pos (nm_of hi sp)]; omega
    unfold xv
    rw [if_neg so, hfa i hi, ← e4 _ (by omega)]
  have f0 : G (9 + 3 * s) = ((fa c s 0 : Nat) : Int) := fG 0 (by omega)
  have l9 : fa c s 0 ≤ 9 := hG.l9 hs (by omega)
  have f0H : H (9 + 3 * s) = G (9 + 3 * s) := by rw [f0]; exact fH 0 (by omega)
  have lf := hF s hs
  have li := hL s hs
  have hAs := hA s hs
  -- an operand with the same clock is there
  have op : ∀ i, i < 3 → sPl (c (1 + s)) i → c (1 + s) ≠ 6 → c (1 + s) ≠ 7 → S s = S (fa c s i) → vk (G (41 + fa c s i)) ∧ ((L (fa c s i) ≠ 1 ∨ bn s) → 0 ≤ G (41 + fa c s i)) := fun i hi sp n6 n7 e => by
    have pv := hp n6 n7 i hi sp
    have th : G (41 + fa c s i) ≠ -9 := pv.1.mpr (by rw [← e]; exact ht)
    have := pv.2 th
    exact ⟨this.1, fun q => this.2 (q.elim Or.inl (fun q => Or.inr (li.2.2.2.1 _ (lt i hi sp) e q)))⟩
  rcases (show c (1 + s) = 0 ∨ c (1 + s) = 1 ∨ (c (1 + s) = 2 ∨ c (1 + s) = 3 ∨ c (1 + s) = 4) ∨ c (1 + s) = 5 ∨ (c (1 + s) = 6 ∨ c (1 + s) = 7) ∨ c (1 + s) = 8 ∨ (c (1 + s) = 9 ∨ c (1 + s) = 10) ∨ c (1 + s) = 11 by omega) with k | k | k | k | k | k | k | k
  · have r : rkC G s a b = if G (9 + 3 * s) = 0 then a else b := by unfold rkC; rw [GK, if_pos k]
    have m : vlM H s a b = if G (9 + 3 * s) = 0 then a else b := by unfold vlM; rw [HK, if_pos k, f0H]
    rw [r, m]
    unfold vk
    refine ⟨rfl, ?_, fun _ => ?_⟩ <;> split <;> omega
  · have r : rkC G s a b = G (9 + 3 * s) := by unfold rkC; rw [GK, if_neg (by omega), if_pos k]
    have m : vlM H s a b = G (9 + 3 * s) := by unfold vlM; rw [HK, if_neg (by omega), if_pos k, f0H]
    rw [r, m, f0]
    unfold vk
    exact ⟨rfl, by omega, fun _ => by omega⟩
  · have s0 : sPl (c (1 + s)) 0 := by unfold sPl; omega
    have s1 : sPl (c (1 + s)) 1 := by unfold sPl; omega
    have o0 := op 0 (by omega) s0 (by omega) (by omega) (hAs.1 (by omega) 0 (by omega) s0)
    have o1' := op 1 (by omega) s1 (by omega) (by omega) (hAs.1 (by omega) 1 (by omega) s1)
    have r : rkC G s a b = cmb (c (1 + s)) (G (41 + fa c s 0)) (G (41 + fa c s 1)) := by
      unfold rkC; rw [GK, if_neg (by omega), if_neg (by omega), if_pos k, vcy 1 (by omega) s1]
      rw [show vc G (G (9 + 3 * s)) = _ from vcy 0 (by omega) s0]
    have m : vlM H s a b = mkd (c (1 + s)) (G (41 + fa c s 0)) (G (41 + fa c s 1)) := by
      unfold vlM; rw [HK, if_neg (by omega), if_neg (by omega), if_neg (by omega), if_neg (by omega), if_neg (by omega), if_neg (by omega), if_neg (by omega), xvy 1 (by omega) s1, xvy 0 (by omega) s0]
    rw [r, m, cmb_mkd o0.1 o1'.1]
    refine ⟨rfl, mkd_vk _ _ _, fun q => mkd_nn (o0.2 ?_) (o1'.2 ?_)⟩
    · exact q.elim (fun q => Or.inl (lf.1 q (by omega) 0 (by omega) s0)) Or.inr
    · exact q.elim (fun q => Or.inl (lf.1 q (by omega) 1 (by omega) s1)) Or.inr
  · have s0 : sPl (c (1 + s)) 0 := by unfold sPl; omega
    have s1 : sPl (c (1 + s)) 1 := by unfold sPl; omega
    have s2 : sPl (c (1 + s)) 2 := by unfold sPl; omega
    have o0 := op 0 (by omega) s0 (by omega) (by omega) (hAs.1 (by omega) 0 (by omega) s0)
    have o1' := op 1 (by omega) s1 (by omega) (by omega) (hAs.1 (by omega) 1 (by omega) s1)
    have o2 := op 2 (by omega) s2 (by omega) (by omega) (hAs.1 (by omega) 2 (by omega) s2)
    have r : rkC G s a b = if G (41 + fa c s 0) = -8 then -8 else if G (41 + fa c s 0) = 0 then G (41 + fa c s 2) else G (41 + fa c s 1) := by
      unfold rkC; rw [GK, if_neg (by omega), if_neg (by omega), if_neg (by omega), if_pos (by omega)]
      unfold chC
      rw [vcy 1 (by omega) s1, vcy 2 (by omega) s2, show vc G (G (9 + 3 * s)) = _ from vcy 0 (by omega) s0]
    have m : vlM H s a b = if G (41 + fa c s 0) < 0 then -8 else if G (41 + fa c s 0) = 0 then G (41 + fa c s 2) else G (41 + fa c s 1) := by
      unfold vlM; rw [HK, if_neg (by omega), if_neg (by omega), if_pos k, xvy 1 (by omega) s1, xvy 0 (by omega) s0, xvy 2 (by omega) s2]
    rw [r, m]
    have q0 : (L s ≠ 1 ∨ bn s) → 0 ≤ G (41 + fa c s 0) := fun q => o0.2 (q.elim (fun q => Or.inl (lf.1 q (by omega) 0 (by omega) s0)) Or.inr)
    have q1 : (L s ≠ 1 ∨ bn s) → 0 ≤ G (41 + fa c s 1) := fun q => o1'.2 (q.elim (fun q => Or.inl (lf.1 q (by omega) 1 (by omega) s1)) Or.inr)
    have q2 : (L s ≠ 1 ∨ bn s) → 0 ≤ G (41 + fa c s 2) := fun q => o2.2 (q.elim (fun q => Or.inl (lf.1 q (by omega) 2 (by omega) s2)) Or.inr)
    have v0 := o0.1
    have v1 := o1'.1
    have v2 := o2.1
    unfold vk at v0 v1 v2 ⊢
    refine ⟨?_, ?_, fun q => ?_⟩
    · by_cases z : G (41 + fa c s 0) = -8
      · rw [if_pos z, if_pos (by omega)]
      · rw [if_neg z, if_neg (show ¬ G (41 + fa c s 0) < 0 by omega)]
    · split
      · omega
      · split <;> omega
    · have := q0 q
      have := q1 q
      have := q2 q
      split
      · omega
      · split <;> omega
  · have r : rkC G s a b = c (33 + s) := by
      unfold rkC; rw [GK, if_neg (by omega), if_neg (by omega), if_neg (by omega), if_neg (by omega), if_pos k, e1 _ (by omega)]
    have m : vlM H s a b = c (33 + s) := by
      unfold vlM; rw [HK, if_neg (by omega), if_neg (by omega), if_neg (by omega), if_pos k, e2 _ (by omega), e3 s (by omega)]
    rw [r, m]
    refine ⟨rfl, ?_, fun q => ?_⟩
    · rcases k with k | k
      · exact Or.inr (li.1 k)
      · exact (li.2.1 k).1
    · rcases k with k | k
      · exact (li.1 k).1
      · rcases q with q | q
        · exact absurd k (lf.2.2.1 q)
        · exact (li.2.1 k).2 q
  · have s0 : sPl (c (1 + s)) 0 := by unfold sPl; omega
    have s1 : sPl (c (1 + s)) 1 := by unfold sPl; omega
    have o0 := op 0 (by omega) s0 (by omega) (by omega) (hAs.1 (by omega) 0 (by omega) s0)
    have o1' := op 1 (by omega) s1 (by omega) (by omega) (hAs.1 (by omega) 1 (by omega) s1)
    have r : rkC G s a b = if c (33 + s) = 0 then G (41 + fa c s 0) else G (41 + fa c s 1) := by
      unfold rkC; rw [GK, if_neg (by omega), if_neg (by omega), if_neg (by omega), if_neg (by omega), if_neg (by omega), if_pos k, e1 _ (by omega), vcy 1 (by omega) s1]
      rw [show vc G (G (9 + 3 * s)) = _ from vcy 0 (by omega) s0]
    have m : vlM H s a b = if c (33 + s) = 0 then G (41 + fa c s 0) else G (41 + fa c s 1) := by
      unfold vlM; rw [HK, if_neg (by omega), if_neg (by omega), if_neg (by omega), if_neg (by omega), if_pos k, e2 _ (by omega), ← e3 s (by omega), xvy 1 (by omega) s1, xvy 0 (by omega) s0]
    rw [r, m]
    have bnn := li.2.2.1 k
    have g0 := o0.2 (Or.inl (lf.2.2.2.1 (by omega)))
    have v0 := o0.1
    have v1 := o1'.1
    refine ⟨rfl, ?_, fun _ => ?_⟩
    · split
      · exact v0
      · exact v1
    · split
      · exact g0
      · next z => exact o1'.2 (Or.inr (Classical.byContradiction fun nb => z (bnn.mpr nb)))
  · have s0 : sPl (c (1 + s)) 0 := by unfold sPl; omega
    have s1 : sPl (c (1 + s)) 1 := by unfold sPl; omega
    have r : rkC G s a b = G (41 + fa c s 0) := by
      unfold rkC; rw [GK, if_neg (by omega), if_neg (by omega), if_neg (by omega), if_neg (by omega), if_neg (by omega), if_neg (by omega)]
      exact vcy 0 (by omega) s0
    have m : vlM H s a b = G (41 + fa c s 0) := by
      unfold vlM; rw [HK, if_neg (by omega), if_neg (by omega), if_neg (by omega), if_neg (by omega), if_neg (by omega), if_pos k, xvy 0 (by omega) s0]
    rw [r, m]
    have pv0 := hp (by omega) (by omega) 0 (by omega) s0
    have pv1 := hp (by omega) (by omega) 1 (by omega) s1
    have l0 := lt 0 (by omega) s0
    have l1 := lt 1 (by omega) s1
    have as : S (fa c s 0) = S (fa c s 1) ∧ ∃ d : Int, (d = 0 ∨ d = 1) ∧ S s = 10 * (fa c s 1 : Nat) + d := by
      rcases k with k | k
      · exact ⟨(hAs.2.1 k).1, 1, Or.inr rfl, (hAs.2.1 k).2⟩
      · exact ⟨(hAs.2.2.1 k).1, 0, Or.inl rfl, by rw [(hAs.2.2.1 k).2]; omega⟩
    obtain ⟨as1, d, hd, as2⟩ := as
    rw [as2] at ht
    have c1 := ((thC_pos (by omega) hd).mp ht).1
    have th0 : G (41 + fa c s 0) ≠ -9 := pv0.1.mpr (by rw [as1]; exact pv1.1.mp c1)
    have v0 := pv0.2 th0
    refine ⟨rfl, v0.1, fun q => v0.2 (q.elim (fun q => Or.inl (lf.2.1 q k)) (fun q => Or.inr ?_))⟩
    have b1 := li.2.2.2.2 (by omega) q
    rw [show (S s / 10).toNat = fa c s 1 by omega] at b1
    exact (hL (fa c s 1) l1).2.2.2.1 _ l0 as1.symm b1
  · have s0 : sPl (c (1 + s)) 0 := by unfold sPl; omega
    have s1 : sPl (c (1 + s)) 1 := by unfold sPl; omega
    have s2 : sPl (c (1 + s)) 2 := by unfold sPl; omega
    have as := hAs.2.2.2 k
    have l0 := lt 0 (by omega) s0
    have o0 := op 0 (by omega) s0 (by omega) (by omega) as.1
    have n0 := o0.2 (Or.inl (lf.2.2.2.2.2 k 0 (by omega)))
    have v0 := o0.1
    have pv1 := hp (by omega) (by omega) 1 (by omega) s1
    have pv2 := hp (by omega) (by omega) 2 (by omega) s2
    have r : rkC G s a b = if G (41 + fa c s 0) = 0 then G (41 + fa c s 2) else G (41 + fa c s 1) := by
      unfold rkC; rw [GK, if_neg (by omega), if_neg (by omega), if_neg (by omega), if_pos (by omega)]
      unfold chC
      rw [vcy 1 (by omega) s1, vcy 2 (by omega) s2, show vc G (G (9 + 3 * s)) = _ from vcy 0 (by omega) s0, if_neg (by omega)]
    have m : vlM H s a b = if G (41 + fa c s 0) = 0 then G (41 + fa c s 2) else G (41 + fa c s 1) := by
      unfold vlM; rw [HK, if_neg (by omega), if_neg (by omega), if_neg (by omega), if_neg (by omega), if_neg (by omega), if_neg (by omega), if_pos k, xvy 1 (by omega) s1, xvy 0 (by omega) s0, xvy 2 (by omega) s2]
    rw [r, m]
    refine ⟨rfl, ?_⟩
    split
    · next z =>
      have th2 : G (41 + fa c s 2) ≠ -9 := pv2.1.mpr (by
        rw [as.2.2, show (10 * (fa c s 0 : Nat) : Int) = 10 * (fa c s 0 : Nat) + 0 by omega]
        exact (thC_pos (by omega) (Or.inl rfl)).mpr ⟨by omega, by omega, by omega⟩)
      have v2 := pv2.2 th2
      exact ⟨v2.1, fun _ => v2.2 (Or.inl (lf.2.2.2.2.2 k 2 (by omega)))⟩
    · next z =>
      have th1 : G (41 + fa c s 1) ≠ -9 := pv1.1.mpr (by
        rw [as.2.1]
        exact (thC_pos (by omega) (Or.inr rfl)).mpr ⟨by omega, by omega, by omega⟩)
      have v1 := pv1.2 th1
      exact ⟨v1.1, fun _ => v1.2 (Or.inl (lf.2.2.2.2.2 k 1 (by omega)))⟩
