/-! the class's flow, as functions of its page -/
theorem fp_rg {σ : gS} (h : gR σ) (f k : Nat) : rg (fp σ f k) := by
  unfold fp
  split
  · exact h _ _
  · split
    · exact h _ _
    · split
      · exact h _ _
      · split
        · exact h _ _
        · split
          · exact h _ _
          · split
            · exact h _ _
            · exact ⟨by decide, by decide⟩
def vc (G : Nat → Int) (y : Int) : Int := if 0 ≤ y ∧ y < 8 then G (41 + y.toNat) else -9
theorem vc_in {G : Nat → Int} {y : Int} (h : 0 ≤ y ∧ y < 8) : vc G y = G (41 + y.toNat) := if_pos h
theorem vc_out {G : Nat → Int} {y : Int} (h : ¬ (0 ≤ y ∧ y < 8)) : vc G y = -9 := if_neg h
theorem vc_n (G : Nat → Int) {s : Nat} (h : s < 8) : vc G (s : Int) = G (41 + s) := by rw [vc_in ⟨by omega, by omega⟩]; rfl
def haC (G : Nat → Int) (s : Nat) : Int := if G (1 + s) = 6 then G (9 + 3 * s) else if G (1 + s) = 7 then -8 else 0
def hfC (G : Nat → Int) (s : Nat) : Int := if (s : Int) < G 0 then haC G s else 0
def rsP (G : Nat → Int) (i : Nat) : Nat → Int := fun k => if k = 49 then 0 else if 41 ≤ k ∧ k < 41 + i then -9 else if 33 ≤ k ∧ k < 33 + i then hfC G (k - 33) else G k
theorem rsP_0 (G : Nat → Int) : upn G 49 0 = rsP G 0 := by
  funext k
  unfold upn rsP
  by_cases h : k = 49
  · rw [if_pos h, if_pos h]
  · rw [if_neg h, if_neg h, if_neg (by omega), if_neg (by omega)]
theorem rsP_step (G : Nat → Int) {i : Nat} (hi : i < 8) : upn (upn (rsP G i) (41 + i) (-9)) (33 + i) (hfC G i) = rsP G (i + 1) := by
  funext k
  by_cases h1 : k = 33 + i
  · subst h1
    rw [upn_eq]; unfold rsP
    rw [if_neg (by omega), if_neg (by omega), if_pos (by omega), show 33 + i - 33 = i by omega]
  · rw [upn_ne _ _ h1]
    by_cases h2 : k = 41 + i
    · subst h2
      rw [upn_eq]; unfold rsP
      rw [if_neg (by omega), if_pos (by omega)]
    · rw [upn_ne _ _ h2]
      unfold rsP
      by_cases h3 : k = 49
      · rw [if_pos h3, if_pos h3]
      · rw [if_neg h3, if_neg h3]
        by_cases h4 : 41 ≤ k ∧ k < 41 + i
        · rw [if_pos h4, if_pos (show 41 ≤ k ∧ k < 41 + (i + 1) by omega)]
        · rw [if_neg h4, if_neg (show ¬ (41 ≤ k ∧ k < 41 + (i + 1)) by omega)]
          by_cases h5 : 33 ≤ k ∧ k < 33 + i
          · rw [if_pos h5, if_pos (show 33 ≤ k ∧ k < 33 + (i + 1) by omega)]
          · rw [if_neg h5, if_neg (show ¬ (33 ≤ k ∧ k < 33 + (i + 1)) by omega)]
theorem rsP_low (G : Nat → Int) {i k : Nat} (h : k < 33) : rsP G i k = G k := by unfold rsP; rw [if_neg (by omega), if_neg (by omega), if_neg (by omega)]
theorem haC_cong {G G' : Nat → Int} (h : ∀ k, k < 33 → G' k = G k) {s : Nat} (hs : s < 8) : haC G' s = haC G s := by unfold haC; rw [h _ (by omega), h _ (by omega)]
def rsC (G : Nat → Int) : Nat → Int := rsP G 8
def tbC (G : Nat → Int) : Nat → Nat
  | 0 => 0
  | s + 1 => if G (41 + s) = -9 then tbC G s else tbC G s ||| 2 ^ s
theorem tbC_lt (G : Nat → Int) : ∀ s, tbC G s < 2 ^ s
  | 0 => by show (0 : Nat) < 1; decide
  | s + 1 => by
    have ih := tbC_lt G s
    have h2 : 2 ^ s < 2 ^ (s + 1) := Nat.pow_lt_pow_right (by decide) (by omega)
    rw [tbC]
    split
    · omega
    · exact Nat.or_lt_two_pow (by omega) h2
theorem tbC_256 (G : Nat → Int) {s : Nat} (h : s ≤ 8) : tbC G s < 256 := Nat.lt_of_lt_of_le (tbC_lt G s) (Nat.pow_le_pow_right (by decide) h)
def smC (G : Nat → Int) : Nat → Int
  | 0 => 0
  | s + 1 => smC G s + (if G (41 + s) = -9 then 0 else 1 + (if G (41 + s) = -8 then 0 else G (41 + s)))
/-- all within a hundred -/
def bC (G : Nat → Int) : Prop := (∀ k, 33 ≤ k → k < 49 → -100 ≤ G k ∧ G k ≤ 100) ∧ ∀ s : Nat, s < 8 → (s : Int) < G 0 → -100 ≤ G (9 + 3 * s) ∧ G (9 + 3 * s) ≤ 100
theorem bC.up {G : Nat → Int} (h : bC G) {i : Nat} (hi : 33 ≤ i) {v : Int} (hv : -100 ≤ v ∧ v ≤ 100) : bC (upn G i v) := ⟨fun k hk1 hk => by
  by_cases q : k = i
  · subst q; rw [upn_eq]; exact hv
  · rw [upn_ne _ _ q]; exact h.1 k hk1 hk, fun s hs hn => by
  rw [upn_ne _ _ (by omega)] at hn
  rw [upn_ne _ _ (by omega)]; exact h.2 s hs hn⟩
theorem bC.up49 {G : Nat → Int} (h : bC G) {v : Int} : bC (upn G 49 v) := ⟨fun k hk1 hk => by rw [upn_ne _ _ (by omega)]; exact h.1 k hk1 hk, fun s hs hn => by
  rw [upn_ne _ _ (by omega)] at hn
  rw [upn_ne _ _ (by omega)]; exact h.2 s hs hn⟩
theorem bC.wv {G : Nat → Int} (h : bC G) (y : Int) : -100 ≤ vc G y ∧ vc G y ≤ 100 := by
  by_cases q : 0 ≤ y ∧ y < 8
  · rw [vc_in q]; exact h.1 _ (by omega) (by omega)
  · rw [vc_out q]; omega
theorem smC_in {G : Nat → Int} (h : bC G) : ∀ {s : Nat}, s ≤ 8 → -100 * s ≤ smC G s ∧ smC G s ≤ 101 * s
  | 0, _ => by show (-100 : Int) * ((0 : Nat) : Int) ≤ 0 ∧ (0 : Int) ≤ 101 * ((0 : Nat) : Int); omega
  | s + 1, hs => by
    have ih := smC_in h (s := s) (by omega)
    have := h.1 (41 + s) (by omega) (by omega)
    rw [smC]
    split
    · omega
    · split <;> omega
/-- a figure as a stream: 0 where it is none -/
def spZ (v : Int) : Int := if v < 0 ∨ 8 ≤ v then 0 else v
theorem spZ_in {v : Int} (h : 0 ≤ v ∧ v < 8) : spZ v = v := if_neg (by omega)
theorem spZ_lt (v : Int) : 0 ≤ spZ v ∧ spZ v < 8 := by unfold spZ; split <;> omega
def thC (G : Nat → Int) (y : Int) : Bool := decide (y < 0 ∨ (vc G (spZ (y / 10)) ≠ -9 ∧ vc G (spZ (y / 10)) ≠ -8 ∧ (vc G (spZ (y / 10)) ≠ 0 ↔ y % 10 = 1)))
def cmb (K x y : Int) : Int := if x = -8 ∨ y = -8 then -8 else if K = 2 then (x + y).tmod 100 else if K = 3 then (x - y + 100).tmod 100 else if x < y then 1 else 0
def chC (G : Nat → Int) (v y n : Int) : Int := if v = -8 then -8 else if v = 0 then vc G n else vc G y
def rkC (G : Nat → Int) (s : Nat) (a b : Int) : Int :=
  if G (1 + s) = 0 then (if G (9 + 3 * s) = 0 then a else b)
  else if G (1 + s) = 1 then G (9 + 3 * s)
  else if G (1 + s) = 2 ∨ G (1 + s) = 3 ∨ G (1 + s) = 4 then cmb (G (1 + s)) (vc G (G (9 + 3 * s))) (vc G (G (9 + 3 * s + 1)))
  else if G (1 + s) = 5 ∨ G (1 + s) = 11 then chC G (vc G (G (9 + 3 * s))) (G (9 + 3 * s + 1)) (G (9 + 3 * s + 2))
  else if G (1 + s) = 6 ∨ G (1 + s) = 7 then G (33 + s)
  else if G (1 + s) = 8 then (if G (33 + s) = 0 then vc G (G (9 + 3 * s)) else vc G (G (9 + 3 * s + 1)))
  else vc G (G (9 + 3 * s))
theorem bC.rk {G : Nat → Int} (h : bC G) {s : Nat} (hs : s < 8) (hn : (s : Int) < G 0) {a b : Int} (ha : 0 ≤ a ∧ a ≤ 99) (hb : 0 ≤ b ∧ b ≤ 99) : -100 ≤ rkC G s a b ∧ rkC G s a b ≤ 100 := by
  have h1 := h.2 s hs hn
  have h2 := h.1 (33 + s) (by omega) (by omega)
  have v1 := h.wv (G (9 + 3 * s))
  have v2 := h.wv (G (9 + 3 * s + 1))
  have v3 := h.wv (G (9 + 3 * s + 2))
  unfold rkC
  split
  · split <;> omega
  · split
    · exact h1
    · split
      · unfold cmb
        split
        · omega
        · split
          · have := tmod_in (vc G (G (9 + 3 * s)) + vc G (G (9 + 3 * s + 1))); omega
          · split
            · have := tmod_in (vc G (G (9 + 3 * s)) - vc G (G (9 + 3 * s + 1)) + 100); omega
            · split <;> omega
      · split
        · unfold chC
          split
          · omega
          · split <;> omega
        · split
          · exact h2
          · split
            · split <;> omega
            · exact v1
def knC (G : Nat → Int) (s : Nat) : Int := if G (1 + s) = 6 then vc G (G (9 + 3 * s + 1)) else if G (1 + s) = 7 then vc G (G (9 + 3 * s)) else if G (1 + s) = 8 then 1 else 0
def wkV (G : Nat → Int) (T : Nat → Nat) (S : Nat → Int) (a b : Int) : Nat → Nat → Int
  | 0 => rs G 8
  | j + 1 => if thC (wkV G T S a b j) (S (T j)) = true then upn (wkV G T S a b j) (41 + T j) (rkC (wkV G T S a b j) (T j) a b) else wkV G T S a b j
def kpC (G : Nat → Int) : Nat → Nat → Int
  | 0 => G
  | s + 1 => if kpC G s (41 + s) = -9 then kpC G s else upn (kpC G s) (33 + s) (knC (kpC G s) s)
def wkC (G : Nat → Int) (T : Nat → Nat) (S : Nat → Int) (N : Nat) (a b : Int) : Nat → Int := upn (kpC (wkV G T S a b N) N) 49 (wr (kpC (wkV G T S a b N) N 49 + 1))
theorem bC.wrs {G : Nat → Int} (h : bC G) (i : Nat) : bC (rs G i) := ⟨fun k hk1 hk => by
  unfold rs
  split
  · omega
  · exact h.1 k hk1 hk, fun s hs hn => by
  unfold rs at hn ⊢
  rw [if_neg (by omega)] at hn
  rw [if_neg (by omega)]; exact h.2 s hs hn⟩
theorem wkV_0 {G : Nat → Int} {T : Nat → Nat} {S : Nat → Int} {a b : Int} : ∀ j, wkV G T S a b j 0 = G 0
  | 0 => by show rs G 8 0 = G 0; unfold rs; rw [if_neg (by omega)]
  | j + 1 => by
    have ih := wkV_0 (G := G) (T := T) (S := S) (a := a) (b := b) j
    rw [wkV]
    split
    · rw [upn_ne _ _ (by omega)]; exact ih
    · exact ih
theorem wkV_b {G : Nat → Int} (h : bC G) {N : Nat} (h0 : G 0 = (N : Int)) {T : Nat → Nat} {S : Nat → Int} {a b : Int} (ha : 0 ≤ a ∧ a ≤ 99) (hb : 0 ≤ b ∧ b ≤ 99) : ∀ {j : Nat}, (∀ i, i < j → T i < 8 ∧ T i < N) → bC (wkV G T S a b j)
  | 0, _ => h.wrs 8
  | j + 1, hT => by
    have ih := wkV_b h h0 (S := S) ha hb (j := j) (fun i hi => hT i (by omega))
    have hj := hT j (by omega)
    rw [wkV]
    split
    · exact ih.up (by omega) (ih.rk hj.1 (by rw [wkV_0]; omega) ha hb)
    · exact ih
theorem bC.kn {G : Nat → Int} (h : bC G) (s : Nat) : -100 ≤ knC G s ∧ knC G s ≤ 100 := by
  unfold knC
  split
  · exact h.wv _
  · split
    · exact h.wv _
    · split <;> omega
theorem kpC_b {G : Nat → Int} (h : bC G) : ∀ s, bC (kpC G s)
  | 0 => h
  | s + 1 => by
    have ih := kpC_b h s
    rw [kpC]
    split
    · exact ih
    · exact ih.up (by omega) (ih.kn s)
theorem wkC_b {G : Nat → Int} (h : bC G) {T : Nat → Nat} {S : Nat → Int} {N : Nat} (h0 : G 0 = (N : Int)) (hT : ∀ i, i < N → T i < 8 ∧ T i < N) {a b : Int} (ha : 0 ≤ a ∧ a ≤ 99) (hb : 0 ≤ b ∧ b ≤ 99) : bC (wkC G T S N a b) := (kpC_b (wkV_b h h0 ha hb hT) N).up49
theorem rsC_b {G : Nat → Int} (h : bC G) : bC (rsC G) := ⟨fun k hk1 hk => by
  unfold rsC rsP
  rw [if_neg (by omega)]
  split
  · omega
  · split
    · unfold hfC
      split
      · next q =>
        unfold haC
        split
        · exact h.2 _ (by omega) q
        · split <;> omega
      · omega
    · exact h.1 k hk1 hk, fun s hs hn => by
  unfold rsC at hn ⊢
  rw [rsP_low G (by omega)] at hn
  rw [rsP_low G (by omega)]; exact h.2 s hs hn⟩
theorem wkV_low (G : Nat → Int) (T : Nat → Nat) (S : Nat → Int) (a b : Int) {k : Nat} (hk : k < 41 ∨ 49 ≤ k) : ∀ j, (∀ i, i < j → T i < 8) → wkV G T S a b j k = G k
  | 0, _ => by show rs G 8 k = G k; unfold rs; rw [if_neg (by omega)]
  | j + 1, hT => by
    have ih := wkV_low G T S a b hk j (fun i hi => hT i (by omega))
    have := hT j (by omega)
    rw [wkV]
    split
    · rw [upn_ne _ _ (by omega)]; exact ih
    · exact ih
theorem kpC_out (G : Nat → Int) {k : Nat} : ∀ s, (k < 33 ∨ 33 + s ≤ k) → kpC G s k = G k
  | 0, _ => rfl
  | s + 1, hk => by
    have ih := kpC_out G (k := k) s (by omega)
    rw [kpC]
    split
    · exact ih
    · rw [upn_ne _ _ (by omega)]; exact ih
