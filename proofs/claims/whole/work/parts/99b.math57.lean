theorem vc_cong {G G' : Nat → Int} (h : ∀ x, x < 8 → G' (41 + x) = G (41 + x)) (y : Int) : vc G' y = vc G y := by
  unfold vc
  split
  · next q => exact h _ (by omega)
  · rfl
theorem knC_cong {G G' : Nat → Int} {s : Nat} (hs : s < 8) (h1 : ∀ k, k < 33 → G' k = G k) (h2 : ∀ x, x < 8 → G' (41 + x) = G (41 + x)) : knC G' s = knC G s := by
  unfold knC
  rw [h1 (1 + s) (by omega), h1 (9 + 3 * s + 1) (by omega), h1 (9 + 3 * s) (by omega), vc_cong h2, vc_cong h2]
/-- what is kept behind a tick -/
theorem kpC_at (G : Nat → Int) {s : Nat} (hs : s < 8) : ∀ n, n ≤ 8 → kpC G n (33 + s) = if s < n ∧ G (41 + s) ≠ -9 then knC G s else G (33 + s)
  | 0, _ => by rw [if_neg (fun h => Nat.not_lt_zero _ h.1)]; rfl
  | n + 1, hn => by
    have ih := kpC_at G hs n (by omega)
    have o : ∀ k, (k < 33 ∨ 33 + n ≤ k) → kpC G n k = G k := fun k hk => kpC_out G n hk
    have kc : knC (kpC G n) n = knC G n := knC_cong (by omega) (fun k hk => o k (by omega)) (fun x hx => o _ (by omega))
    rw [kpC, o (41 + n) (by omega), kc]
    by_cases e : s = n
    · subst e
      by_cases q : G (41 + s) = -9
      · rw [if_pos q, if_neg (fun h => h.2 q), ih, if_neg (fun h => h.2 q)]
      · rw [if_neg q, upn_eq, if_pos ⟨by omega, q⟩]
    · have e2 : (s < n + 1 ∧ G (41 + s) ≠ -9) ↔ (s < n ∧ G (41 + s) ≠ -9) := by omega
      have : kpC G n (33 + s) = if s < n + 1 ∧ G (41 + s) ≠ -9 then knC G s else G (33 + s) := by
        rw [ih]
        by_cases q : s < n ∧ G (41 + s) ≠ -9
        · rw [if_pos q, if_pos (e2.mpr q)]
        · rw [if_neg q, if_neg (fun h => q (e2.mp h))]
      split
      · exact this
      · rw [upn_ne _ _ (by omega)]; exact this
theorem kv_knC {G H : Nat → Int} {N : Nat} (hS : Sk G H N) (hG : cW G N) (e : ∀ x, x < 8 → G (41 + x) = H (41 + x)) {s : Nat} (hs : s < N) : kv H s = knC G s := by
  have h8 := hG.2.1
  obtain ⟨eK, eF⟩ := hS.2.1 s hs
  have ef : ∀ i, i < 3 → fa G s i = fa H s i := fun i hi => by unfold fa; rw [eF i hi]
  unfold kv knC
  rw [← eK, ← ef 0 (by omega), ← ef 1 (by omega)]
  by_cases q : G (1 + s) = 6
  · have l := hG.st hs (i := 1) (by omega) (by unfold sPl; omega)
    rw [if_pos q, if_pos q, hG.fg hs (by omega), vc_n G (by omega), e _ (by omega)]
  · rw [if_neg q, if_neg q]
    by_cases q7 : G (1 + s) = 7
    · have l := hG.st hs (i := 0) (by omega) (by unfold sPl; omega)
      rw [if_pos q7, if_pos q7, show vc G (G (9 + 3 * s)) = vc G (G (9 + 3 * s + 0)) from rfl, hG.fg hs (by omega), vc_n G (by omega), e _ (by omega)]
    · rw [if_neg q7, if_neg q7]
theorem kp_eq {G H : Nat → Int} {N : Nat} (hS : Sk G H N) (hG : cW G N) (e : ∀ x, x < 8 → G (41 + x) = H (41 + x)) (hk : ∀ s, s < 8 → G (33 + s) = H (33 + s)) : ∀ n, n ≤ N → ∀ s, s < 8 → kpC G n (33 + s) = kpM H n (33 + s)
  | 0, _, s, hs => hk s hs
  | n + 1, hn, s, hs => by
    have h8 := hG.2.1
    have ih := kp_eq hS hG e hk n (by omega)
    have oC : ∀ k, (k < 33 ∨ 33 + n ≤ k) → kpC G n k = G k := fun k hk => kpC_out G n hk
    have oM : ∀ k, (k < 33 ∨ 33 + n ≤ k) → kpM H n k = H k := fun k hk => kpM_out H n (by omega) hk
    have e' : ∀ x, x < 8 → kpC G n (41 + x) = kpM H n (41 + x) := fun x hx => by rw [oC _ (by omega), oM _ (by omega)]; exact e x hx
    have kk := kv_knC (hS.low (c' := kpC G n) (g' := kpM H n) (fun k hk => oC k (by omega)) (fun k hk => oM k (by omega))) (cW_cong hG (fun k hk => oC k (by omega))) e' (show n < N by omega)
    rw [kpC, kpM, ← e' n (by omega), kk]
    split
    · exact ih s hs
    · by_cases q : s = n
      · rw [q, upn_eq, upn_eq]
      · rw [upn_ne _ _ (by omega), upn_ne _ _ (by omega)]; exact ih s hs
/-- nothing is kept of what keeps nothing -/
def kz (c : Nat → Int) (N : Nat) : Prop := ∀ s, s < 8 → (N ≤ s ∨ ¬ (6 ≤ c (1 + s) ∧ c (1 + s) ≤ 8)) → c (33 + s) = 0
theorem tk_sim {c g S L : Nat → Int} {T : Nat → Nat} {N : Nat} {w : mC} (hX : tX c g S L T N w) {bn : Nat → Prop} (hL : Li c S N bn) (hm : Sm c g N) (hz : kz c N) {a b : Int} (ha : 0 ≤ a ∧ a ≤ 99) (hb : 0 ≤ b ∧ b ≤ 99) : Sm (wkC c T S N a b) (tkM g w T N a b) N ∧ (∃ bn', Li (wkC c T S N a b) S N bn') ∧ kz (wkC c T S N a b) N ∧ (∀ x, x < 8 → wkC c T S N a b (41 + x) = tkM g w T N a b (41 + x) ∧ (wkC c T S N a b (41 + x) = -9 ∨ vk (wkC c T S N a b (41 + x))) ∧ (N ≤ x → wkC c T S N a b (41 + x) = -9)) ∧ mN g w T a b N = ctC (wkC c T S N a b) 8 ∧ (∀ k, k < 33 → wkC c T S N a b k = c k) ∧ ∀ k, k < 33 → tkM g w T N a b k = g k := by
  obtain ⟨j1, j2, j3, j4⟩ := tJ_all hX hL hm.2.1 ha hb N (Nat.le_refl N)
  have hX2 := hX
  obtain ⟨⟨a1, a2, a3⟩, ⟨b1, b2, b3, b4⟩, ⟨c1, c2, c3⟩, d⟩ := hX2
  have h8 := a2.2.1
  have T8 : ∀ i, i < N → T i < 8 := fun i hi => by have := (c1 i hi).1; omega
  have lowG : ∀ k, (k < 41 ∨ 49 ≤ k) → wkV c T S a b N k = c k := fun k hk => wkV_low c T S a b hk N T8
  have lowH : ∀ k, (k < 41 ∨ 49 ≤ k) → mV g w T a b N k = g k := fun k hk => mV_low g w T a b hk N T8
  unfold wkC tkM
  generalize wkV c T S a b N = G at *
  generalize mV g w T a b N = H at *
  have skG : Sk G H N := a1.low (fun k hk => lowG k (by omega)) (fun k hk => lowH k (by omega))
  have cwG : cW G N := cW_cong a2 (fun k hk => lowG k (by omega))
  have kG : ∀ s, s < 8 → G (33 + s) = H (33 + s) := fun s hs => by rw [lowG _ (by omega), lowH _ (by omega)]; exact hm.2.1 s hs
  have kp := kp_eq skG cwG j1 kG N (Nat.le_refl N)
  have oC : ∀ k, (k < 33 ∨ 41 ≤ k) → kpC G N k = G k := fun k hk => kpC_out G N (by omega)
  have oM : ∀ k, (k < 33 ∨ 41 ≤ k) → kpM H N k = H k := fun k hk => kpM_out H N h8 (by omega)
  have u : ∀ (f : Nat → Int) (y : Int) k, k ≠ 49 → upn f 49 y k = f k := fun f y k hk => upn_ne _ _ hk
  have pv : ∀ s, s < N → PV S L bn G s := fun s hs => by obtain ⟨j, h1, h2⟩ := c3 s hs; rw [← h2]; exact j3 j h1
  have no : ∀ x, x < 8 → N ≤ x → G (41 + x) = -9 := fun x hx h => j2 x hx (fun i hi => by have := (c1 i hi).1; omega)
  have lc : ∀ k, k < 33 → upn (kpC G N) 49 (wr (kpC G N 49 + 1)) k = c k := fun k hk => by rw [u _ _ _ (by omega), oC _ (by omega), lowG _ (by omega)]
  have lg : ∀ k, k < 33 → upn (kpM H N) 49 (wr (kpM H N 49 + 1)) k = g k := fun k hk => by rw [u _ _ _ (by omega), oM _ (by omega), lowH _ (by omega)]
  have vC : ∀ x, x < 8 → upn (kpC G N) 49 (wr (kpC G N 49 + 1)) (41 + x) = G (41 + x) := fun x hx => by rw [u _ _ _ (by omega), oC _ (by omega)]
  have vM : ∀ x, x < 8 → upn (kpM H N) 49 (wr (kpM H N 49 + 1)) (41 + x) = H (41 + x) := fun x hx => by rw [u _ _ _ (by omega), oM _ (by omega)]
  have kA : ∀ s, s < 8 → upn (kpC G N) 49 (wr (kpC G N 49 + 1)) (33 + s) = if s < N ∧ G (41 + s) ≠ -9 then knC G s else c (33 + s) := fun s hs => by
    rw [u _ _ _ (by omega), kpC_at G hs N h8, lowG (33 + s) (by omega)]
  have ct : ∀ n, n ≤ 8 → ctC (upn (kpC G N) 49 (wr (kpC G N 49 + 1))) n = ctC G n := fun n => by
    induction n with
    | zero => intro _; rfl
    | succ n ih => intro hn; rw [ctC, ctC, ih (by omega), vC n (by omega)]
  refine ⟨⟨a1.low lc lg, fun s hs => ?_, ?_, fun s hs => Or.inl ?_⟩, ⟨fun x => bn x ∨ G (41 + x) ≠ -9, fun s hs => ?_⟩, fun s hs hn => ?_, fun x hx => ⟨?_, ?_, fun hn => ?_⟩, ?_, lc, lg⟩
  · rw [u _ _ _ (by omega), u _ _ _ (by omega)]; exact kp s hs
  · rw [upn_eq, upn_eq, oC _ (by omega), oM _ (by omega), lowG _ (by omega), lowH _ (by omega), hm.2.2.1]
  · rw [vC s hs, vM s hs]; exact j1 s hs
  · have li := hL s hs
    have lf := b3 s hs
    have hA := b2 s hs
    have p := pv s hs
    rw [lc (1 + s) (by omega), kA s (by omega)]
    have GK : G (1 + s) = c (1 + s) := lowG _ (by omega)
    have op : ∀ i, i < 3 → sPl (c (1 + s)) i → (2 ≤ c (1 + s) ∧ c (1 + s) ≤ 8) → L (fa c s i) ≠ 1 → G (41 + s) ≠ -9 → vc G (G (9 + 3 * s + i)) = G (41 + fa c s i) ∧ 0 ≤ G (41 + fa c s i) ∧ G (41 + fa c s i) ≤ 99 := fun i hi sp hk hl ht => by
      have l := a2.st hs hi sp
      have po := pv _ l
      have th : G (41 + fa c s i) ≠ -9 := po.1.mpr (by rw [← hA.1 hk i hi sp]; exact p.1.mp ht)
      have := po.2 th
      have v1 := this.1
      have v2 := this.2 (Or.inl hl)
      unfold vk at v1
      refine ⟨?_, v2, by omega⟩
      rw [lowG _ (by omega), a2.fg hs hi, vc_n G (by omega)]
    refine ⟨fun k => ?_, fun k => ?_, fun k => ?_, fun t ht e => ?_, fun q => ?_⟩
    · split
      · next q =>
        have := op 1 (by omega) (by unfold sPl; omega) (by omega) (lf.2.2.2.2.1 (by omega)) q.2
        unfold knC
        rw [GK, if_pos k, this.1]; exact this.2
      · exact li.1 k
    · split
      · next q =>
        have := op 0 (by omega) (by unfold sPl; omega) (by omega) (lf.2.2.2.1 (by omega)) q.2
        unfold knC
        rw [GK, if_neg (by omega), if_pos k, show vc G (G (9 + 3 * s)) = _ from this.1]
        exact ⟨Or.inr this.2, fun _ => this.2.1⟩
      · next q =>
        refine ⟨(li.2.1 k).1, fun hb => (li.2.1 k).2 (hb.elim id (fun h => absurd ⟨hs, h⟩ q))⟩
    · split
      · next q =>
        unfold knC
        rw [GK, if_neg (by omega), if_neg (by omega), if_pos k]
        exact ⟨fun h => by omega, fun h => absurd (Or.inr q.2) h⟩
      · next q =>
        have := li.2.2.1 k
        rw [this]
        exact ⟨fun h hb => hb.elim h (fun h2 => q ⟨hs, h2⟩), fun h hb => h (Or.inl hb)⟩
    · rintro (hb | hb)
      · exact Or.inl (li.2.2.2.1 t ht e hb)
      · exact Or.inr ((pv t ht).1.mpr (by rw [← e]; exact p.1.mp hb))
    · rintro (hb | hb)
      · exact Or.inl (li.2.2.2.2 q hb)
      · have := p.1.mp hb
        rw [thC_gen q (by have := b1 s hs; omega)] at this
        exact Or.inr this.1
  · rw [lc (1 + s) (by omega)] at hn
    rw [kA s hs]
    split
    · next q =>
      unfold knC
      rw [lowG _ (by omega), if_neg (by omega), if_neg (by omega), if_neg (by omega)]
    · exact hz s hs hn
  · rw [vC x hx, vM x hx]; exact j1 x hx
  · rw [vC x hx]
    by_cases q : G (41 + x) = -9
    · exact Or.inl q
    · rcases Nat.lt_or_ge x N with e | e
      · exact Or.inr ((pv x e).2 q).1
      · exact absurd (no x hx e) q
  · rw [vC x hx]; exact no x hx hn
  · rw [ct 8 (Nat.le_refl 8)]; exact j4
