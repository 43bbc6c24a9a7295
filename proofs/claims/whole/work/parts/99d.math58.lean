/-! THE TEXT, as the class reads it -/
def eQc (txt : Nat → Int) (len n s p : Nat) (g : Nat → Int) : Int × Nat × (Nat → Int) :=
  if kOf (ltr txt len p) = -9 then ((p : Int), p, g) else eS txt len n s (kOf (ltr txt len p)) (p + 1) (eqC g s (kOf (ltr txt len p)) 0 0 0) (fgz (kOf (ltr txt len p)))
def pSc (txt : Nat → Int) (len n : Nat) (g0 : Nat → Int) : Nat → Int × Nat × (Nat → Int)
  | 0 => (-9, 2, g0)
  | s + 1 => if (pSc txt len n g0 s).1 = -9 then eQc txt len n s (pSc txt len n g0 s).2.1 (pSc txt len n g0 s).2.2 else pSc txt len n g0 s
theorem eQc_ind {txt : Nat → Int} {len n s p : Nat} (g h : Nat → Int) : (eQc txt len n s p g).1 = (eQ txt len n s p h).1 ∧ (eQc txt len n s p g).2.1 = (eQ txt len n s p h).2.1 := by
  unfold eQc eQ
  split
  · exact ⟨rfl, rfl⟩
  · exact eS_ind _ _ _
theorem pSc_ind {txt : Nat → Int} {len n : Nat} (g h : Nat → Int) : ∀ s, (pSc txt len n g s).1 = (pS txt len n h s).1 ∧ (pSc txt len n g s).2.1 = (pS txt len n h s).2.1
  | 0 => ⟨rfl, rfl⟩
  | s + 1 => by
    have ih := pSc_ind (txt := txt) (len := len) (n := n) g h s
    rw [pSc, pS, ih.1]
    split
    · rw [ih.2]; exact eQc_ind _ _
    · exact ih
theorem pSc_stop {txt : Nat → Int} {len n s : Nat} {g0 : Nat → Int} (h : (pSc txt len n g0 s).1 ≠ -9) : ∀ d, pSc txt len n g0 (s + d) = pSc txt len n g0 s
  | 0 => rfl
  | d + 1 => by
    have ih := pSc_stop h d
    rw [show s + (d + 1) = (s + d) + 1 by omega, pSc, ih, if_neg h]
theorem eS_len {txt : Nat → Int} {len n s : Nat} {k : Int} {p0 : Nat} {g0 : Nat → Int} (hp : p0 ≤ len) : ∀ i, (eS txt len n s k p0 g0 i).1 = -9 → (eS txt len n s k p0 g0 i).2.1 ≤ len
  | 0, _ => hp
  | i + 1, h => by
    by_cases h1 : (eS txt len n s k p0 g0 i).1 = -9
    · have ih := eS_len hp i h1
      rw [eS, if_pos h1] at h ⊢
      by_cases h2 : 0 ≤ ltr txt len (eS txt len n s k p0 g0 i).2.1 - 48 ∧ ltr txt len (eS txt len n s k p0 g0 i).2.1 - 48 ≤ mst k (i : Int) (n : Int)
      · rw [if_pos h2]
        have : (eS txt len n s k p0 g0 i).2.1 < len := by
          rcases Nat.lt_or_ge (eS txt len n s k p0 g0 i).2.1 len with q | q
          · exact q
          · have h3 := h2.1
            unfold ltr at h3; rw [if_neg (by omega)] at h3; omega
        exact this
      · rw [if_neg h2] at h
        have : ((eS txt len n s k p0 g0 i).2.1 : Int) = -9 := h
        omega
    · rw [eS, if_neg h1] at h; exact absurd h h1
/-- places that the pages have alike stay so -/
theorem eS_ag {txt : Nat → Int} {len n s : Nat} {k : Int} {p0 : Nat} {g h : Nat → Int} {x : Nat} (e : g x = h x) : ∀ i, (eS txt len n s k p0 g i).2.2 x = (eS txt len n s k p0 h i).2.2 x
  | 0 => e
  | i + 1 => by
    have ih := eS_ag (txt := txt) (len := len) (n := n) (s := s) (k := k) (p0 := p0) e i
    have hi := eS_ind (txt := txt) (len := len) (n := n) (s := s) (k := k) (p0 := p0) g h i
    rw [eS, eS, hi.1, hi.2]
    split
    · split
      · show upn _ _ _ x = upn _ _ _ x
        by_cases q : x = 9 + 3 * s + i
        · rw [q, upn_eq, upn_eq]
        · rw [upn_ne _ _ q, upn_ne _ _ q]; exact ih
      · exact ih
    · exact ih
/-- an equation that could be read -/
theorem eQc_ok {txt : Nat → Int} {len n s p : Nat} {g : Nat → Int} (hs : s < 8) (hp : p ≤ len) (h : (eQc txt len n s p g).1 = -9) : p < len ∧ (0 ≤ kOf (ltr txt len p) ∧ kOf (ltr txt len p) ≤ 11) ∧ (eQc txt len n s p g).2.2 (1 + s) = kOf (ltr txt len p) ∧ (eQc txt len n s p g).2.1 = p + 1 + fgz (kOf (ltr txt len p)) ∧ (eQc txt len n s p g).2.1 ≤ len ∧ (eQc txt len n s p g).2.2 0 = g 0 := by
  have hk := kOf_in (ltr txt len p)
  unfold eQc at h ⊢
  by_cases q : kOf (ltr txt len p) = -9
  · rw [if_pos q] at h
    have : ((p : Nat) : Int) = -9 := h
    omega
  · rw [if_neg q] at h ⊢
    have pl : p < len := by
      rcases Nat.lt_or_ge p len with r | r
      · exact r
      · exfalso; apply q
        unfold ltr; rw [if_neg (by omega)]; decide
    have hr := eS_row _ h
    have h1 := eS_pl (txt := txt) (len := len) (n := n) (s := s) (k := kOf (ltr txt len p)) (p0 := p + 1) (g0 := eqC g s (kOf (ltr txt len p)) 0 0 0) (fgz (kOf (ltr txt len p)))
    refine ⟨pl, by omega, ?_, h1.2.1 h, eS_len (by omega) _ h, ?_⟩
    · rw [hr.1 _ (by omega)]; exact eqC_k hs
    · rw [hr.1 _ (by omega)]; exact eqC_ne (by omega) (by omega)
theorem pSc_ok {txt : Nat → Int} {len n : Nat} {g0 : Nat → Int} (hn : n ≤ 8) (hl : 2 ≤ len) : ∀ s, s ≤ n → (pSc txt len n g0 s).1 = -9 → (pSc txt len n g0 s).2.1 ≤ len ∧ (pSc txt len n g0 s).2.2 0 = g0 0
  | 0, _, _ => ⟨hl, rfl⟩
  | s + 1, hs, h => by
    by_cases q : (pSc txt len n g0 s).1 = -9
    · have ih := pSc_ok hn hl s (by omega) q
      rw [pSc, if_pos q] at h ⊢
      have := eQc_ok (show s < 8 by omega) ih.1 h
      exact ⟨this.2.2.2.2.1, by rw [this.2.2.2.2.2]; exact ih.2⟩
    · rw [pSc, if_neg q] at h; exact absurd h q
/-- the pages read by both: what is told of streams -/
theorem pSc_pS {txt : Nat → Int} {len n : Nat} (hn : 1 ≤ n ∧ n ≤ 8) {c0 g0 : Nat → Int} (hg : ∀ k, k < 50 → g0 k = 0) : ∀ s, s ≤ n → (pSc txt len n c0 s).1 = -9 → ∀ t, t < s → (pSc txt len n c0 s).2.2 (1 + t) = (pS txt len n g0 s).2.2 (1 + t) ∧ ∀ i, i < 3 → (pSc txt len n c0 s).2.2 (9 + 3 * t + i) = (pS txt len n g0 s).2.2 (9 + 3 * t + i)
  | 0, _, _, t, ht => absurd ht (Nat.not_lt_zero _)
  | s + 1, hs, h, t, ht => by
    have in' := pSc_ind (txt := txt) (len := len) (n := n) c0 g0 s
    by_cases q : (pSc txt len n c0 s).1 = -9
    · have ih := pSc_pS hn (c0 := c0) hg s (by omega) q
      have q2 : (pS txt len n g0 s).1 = -9 := by rw [← in'.1]; exact q
      obtain ⟨hp, -⟩ := pS_PI (txt := txt) (len := len) hn hg s (by omega) q2
      have hz := (hp s (by omega)).2
      rw [pSc, if_pos q] at h ⊢
      rw [pS, if_pos q2]
      unfold eQc at h ⊢
      unfold eQ
      rw [← in'.2]
      by_cases k : kOf (ltr txt len (pSc txt len n c0 s).2.1) = -9
      · rw [if_pos k] at h
        have : (((pSc txt len n c0 s).2.1 : Nat) : Int) = -9 := h
        omega
      · rw [if_neg k] at h ⊢
        rw [if_neg k]
        generalize kOf (ltr txt len (pSc txt len n c0 s).2.1) = K at *
        by_cases e : t = s
        · subst e
          refine ⟨eS_ag (by rw [eqC_k (by omega), upn_eq]) _, fun i hi => eS_ag ?_ _⟩
          rw [upn_ne _ _ (by omega), (hz i hi).1.2.2 (Nat.le_refl _)]
          rcases (show i = 0 ∨ i = 1 ∨ i = 2 by omega) with e | e | e
          · subst e; exact eqC_0
          · subst e; exact eqC_1
          · subst e; exact eqC_2
        · have h1 := ih t (by omega)
          refine ⟨eS_ag (by rw [eqC_ne (by omega) (by omega), upn_ne _ _ (by omega)]; exact h1.1) _, fun i hi => eS_ag (by rw [eqC_ne (by omega) (by omega), upn_ne _ _ (by omega)]; exact h1.2 i hi) _⟩
    · rw [pSc, if_neg q] at h; exact absurd h q
/-- one figure more -/
theorem eS_s1 {txt : Nat → Int} {len n s : Nat} {k : Int} {p0 : Nat} {g0 : Nat → Int} {i : Nat} (h : (eS txt len n s k p0 g0 i).1 = -9) (hv : 0 ≤ ltr txt len (p0 + i) - 48 ∧ ltr txt len (p0 + i) - 48 ≤ mst k (i : Int) (n : Int)) : eS txt len n s k p0 g0 (i + 1) = (-9, p0 + i + 1, upn (eS txt len n s k p0 g0 i).2.2 (9 + 3 * s + i) (ltr txt len (p0 + i) - 48)) := by
  have e := (eS_pl (txt := txt) (len := len) (n := n) (s := s) (k := k) (p0 := p0) (g0 := g0) i).2.1 h
  rw [eS, if_pos h, e, if_pos hv]
theorem eS_f1 {txt : Nat → Int} {len n s : Nat} {k : Int} {p0 : Nat} {g0 : Nat → Int} {i : Nat} (h : (eS txt len n s k p0 g0 i).1 = -9) (hv : ¬ (0 ≤ ltr txt len (p0 + i) - 48 ∧ ltr txt len (p0 + i) - 48 ≤ mst k (i : Int) (n : Int))) {m : Nat} (hm : i < m) : (eS txt len n s k p0 g0 m).1 = ((p0 + i : Nat) : Int) ∧ (eS txt len n s k p0 g0 m).2.2 = (eS txt len n s k p0 g0 i).2.2 := by
  have e := (eS_pl (txt := txt) (len := len) (n := n) (s := s) (k := k) (p0 := p0) (g0 := g0) i).2.1 h
  have e1 : eS txt len n s k p0 g0 (i + 1) = (((p0 + i : Nat) : Int), (eS txt len n s k p0 g0 i).2) := by rw [eS, if_pos h, e, if_neg hv]
  obtain ⟨d, rfl⟩ := Nat.le.dest (show i + 1 ≤ m by omega)
  rw [eS_stop (by rw [e1]; show ((p0 + i : Nat) : Int) ≠ -9; omega) d, e1]
  exact ⟨rfl, rfl⟩
theorem ltr_in1 {txt : Nat → Int} {len p : Nat} (h : p < len) : ltr txt len p = txt p := if_pos h
theorem ltr_out {txt : Nat → Int} {len p : Nat} (h : len ≤ p) : ltr txt len p = -9 := if_neg (by omega)
theorem fgL_mst {K : Int} {i : Nat} {n : Int} (h : i < fgz K) : fgL K i n = mst K i n := if_pos h
theorem eQc_end {txt : Nat → Int} {len n s p : Nat} {g : Nat → Int} (h : kOf (ltr txt len p) = -9) : eQc txt len n s p g = ((p : Int), p, g) := if_pos h
theorem eQc_go {txt : Nat → Int} {len n s p : Nat} {g : Nat → Int} {K : Int} (h : kOf (ltr txt len p) = K) (hK : K ≠ -9) : eQc txt len n s p g = eS txt len n s K (p + 1) (eqC g s K 0 0 0) (fgz K) := by
  subst h; exact if_neg hK
theorem kOf_9 : kOf (-9) = -9 := by decide
theorem ixC_neg {x : Int} (h : ixC x < 0) : kOf x = -9 := by
  have := kOf_in x
  unfold ixC at h
  split at h
  · next q => exact q
  · omega
theorem ixC_pos {x : Int} (h : 0 ≤ ixC x) : ixC x = kOf x ∧ 0 ≤ kOf x ∧ kOf x ≤ 11 := by
  have := kOf_in x
  unfold ixC at h ⊢
  split at h
  · omega
  · next q => rw [if_neg q]; exact ⟨rfl, by omega, by omega⟩
theorem flt_0 {txt : Nat → Int} {len : Nat} (h : ltr txt len 0 ≠ 83) : fltT txt len = 0 := if_neg h
theorem flt_1 {txt : Nat → Int} {len : Nat} (h : ltr txt len 0 = 83) (h1 : ¬ (1 ≤ nOf txt len ∧ nOf txt len ≤ 8)) : fltT txt len = 1 := by unfold fltT; rw [if_pos h, if_neg h1]
theorem flt_c {txt : Nat → Int} {len n0 : Nat} (C0 : Nat → Int) (h : ltr txt len 0 = 83) (hn : nOf txt len = (n0 : Int)) (h1 : 1 ≤ n0 ∧ n0 ≤ 8) : fltT txt len = if (pSc txt len n0 C0 n0).1 = -9 then (if (pSc txt len n0 C0 n0).2.1 = len then -9 else ((pSc txt len n0 C0 n0).2.1 : Int)) else (pSc txt len n0 C0 n0).1 := by
  have e := pSc_ind (txt := txt) (len := len) (n := n0) C0 z0 n0
  unfold fltT
  rw [if_pos h, if_pos (by omega), show (nOf txt len).toNat = n0 by omega, e.1, e.2]
theorem flt_bad {txt : Nat → Int} {len n0 s : Nat} (C0 : Nat → Int) (h : ltr txt len 0 = 83) (hn : nOf txt len = (n0 : Int)) (h1 : 1 ≤ n0 ∧ n0 ≤ 8) (hs : s ≤ n0) (hb : (pSc txt len n0 C0 s).1 ≠ -9) : fltT txt len = (pSc txt len n0 C0 s).1 := by
  obtain ⟨d, rfl⟩ := Nat.le.dest hs
  rw [flt_c C0 h hn h1, pSc_stop hb d, if_neg hb]
theorem flt_end {txt : Nat → Int} {len n0 : Nat} (C0 : Nat → Int) (h : ltr txt len 0 = 83) (hn : nOf txt len = (n0 : Int)) (h1 : 1 ≤ n0 ∧ n0 ≤ 8) (hb : (pSc txt len n0 C0 n0).1 = -9) : fltT txt len = if (pSc txt len n0 C0 n0).2.1 = len then -9 else ((pSc txt len n0 C0 n0).2.1 : Int) := by
  rw [flt_c C0 h hn h1, if_pos hb]
theorem ltr_ne {txt : Nat → Int} {len p : Nat} {v : Int} (hv : 0 ≤ v) (h : len ≤ p ∨ txt p ≠ v) : ltr txt len p ≠ v := by
  unfold ltr
  split
  · rcases h with h | h
    · omega
    · exact h
  · omega
/-- the page that the class reads -/
def rdC (txt : Nat → Int) (len : Nat) (c : Nat → Int) : Nat → Int := (pSc txt len (nOf txt len).toNat (upn c 0 (nOf txt len)) (nOf txt len).toNat).2.2
theorem rdC_sk {txt : Nat → Int} {len : Nat} (hl : txOK txt len) (h : fltT txt len = -9) (c : Nat → Int) {g0 : Nat → Int} (hg : ∀ k, k < 50 → g0 k = 0) : Sk (rdC txt len c) (rowT txt len g0) (nOf txt len).toNat ∧ Wf (rowT txt len g0) := by
  obtain ⟨h1, h2, h3⟩ := fltT_ok h
  obtain ⟨w1, w2, w3, w4⟩ := rowT_wf h hg
  have l2 : 2 ≤ len := by
    rcases Nat.lt_or_ge 1 len with q | q
    · exact q
    · exfalso
      have : nOf txt len = -9 - 48 := by unfold nOf ltr; rw [if_neg (by omega)]
      omega
  have e := pSc_ind (txt := txt) (len := len) (n := (nOf txt len).toNat) (upn c 0 (nOf txt len)) g0 (nOf txt len).toNat
  have hp : (pSc txt len (nOf txt len).toNat (upn c 0 (nOf txt len)) (nOf txt len).toNat).1 = -9 := by rw [e.1]; exact h3 g0
  have ok := pSc_ok (by omega) l2 _ (Nat.le_refl _) hp
  have pp := pSc_pS (txt := txt) (len := len) (by omega) (c0 := upn c 0 (nOf txt len)) hg _ (Nat.le_refl _) hp
  refine ⟨⟨⟨?_, by rw [w2]; omega, by omega⟩, fun s hs => ⟨?_, fun i hi => ?_⟩, fun s h5 h6 => w4 s h6 (by omega)⟩, w1⟩
  · unfold rdC; rw [ok.2, upn_eq]; omega
  · unfold rdC rowT; rw [upn_ne _ _ (by omega)]; exact (pp s hs).1
  · unfold rdC rowT; rw [upn_ne _ _ (by omega)]; exact (pp s hs).2 i hi
theorem cW_of {c g : Nat → Int} {N : Nat} (h : Sk c g N) (hW : Wf g) : cW c N := by
  refine ⟨h.1.1, h.1.2.2, fun s hs => ?_⟩
  have h8 := h.1.2.2
  have hk := hW.2 s (by omega)
  obtain ⟨e1, e2⟩ := h.2.1 s hs
  rw [e1]
  refine ⟨hk.1, fun i hi => ?_⟩
  rw [e2 i hi]
  exact ⟨(hk.2 i hi).1, fun sp => by have := (hk.2 i hi).2 (by rw [h.1.2.1]; omega) sp; rw [h.1.2.1] at this; exact this⟩
def wPg3 (i k : Nat) : Bool := wNw i k || wF 8 i k || i == 99
