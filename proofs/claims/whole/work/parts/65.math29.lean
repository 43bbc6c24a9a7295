/-- what was remembered -/
def rmC (G : Nat → Int) (c o : Nat) (σ σ' : gS) : Prop := fp σ' (23 + 5 * ((o + c) % 14)) = G ∧ ((c < 14 ∧ σ' 21 0 = (c : Int) + 1 ∧ σ' 21 1 = (o : Int)) ∨ (c = 14 ∧ σ' 21 0 = 14 ∧ σ' 21 1 = (((o + 1) % 14 : Nat) : Int))) ∧ ∀ j, j < 14 → j ≠ (o + c) % 14 → fp σ' (23 + 5 * j) = fp σ (23 + 5 * j)
theorem rmC.of {σ σ' : gS} {c o : Nat} (h : fp σ' (23 + 5 * ((o + c) % 14)) = fp σ 3 ∧ ((c < 14 ∧ σ' 21 0 = (c : Int) + 1 ∧ σ' 21 1 = (o : Int)) ∨ (c = 14 ∧ σ' 21 0 = 14 ∧ σ' 21 1 = (((o + 1) % 14 : Nat) : Int)))) (hf : fr (wDo ((o + c) % 14)) σ σ') : rmC (fp σ 3) c o σ σ' :=
  ⟨h.1, h.2, fun j hj hne => fp_fr hf ⟨by simp [wDo, wF]; omega, by simp [wDo, wF]; omega, fun i k h1 h2 => by simp [wDo, wF]; omega⟩⟩
theorem rmC.keep {G : Nat → Int} {c o : Nat} {σ σ1 σ2 : gS} {w : Nat → Nat → Bool} (h : rmC G c o σ σ1) (hf : fr w σ1 σ2) (hw : ∀ i k, 21 ≤ i → i ≤ 92 → w i k = false) : rmC G c o σ σ2 := by
  have e : ∀ j, j < 14 → fp σ2 (23 + 5 * j) = fp σ1 (23 + 5 * j) := fun j hj => fp_fr hf ⟨hw _ _ (by omega) (by omega), hw _ _ (by omega) (by omega), fun i k h1 h2 => hw _ _ (by omega) (by omega)⟩
  refine ⟨by rw [e _ (by omega)]; exact h.1, ?_, fun j hj hne => by rw [e j hj]; exact h.2.2 j hj hne⟩
  rw [hf 21 0 (hw _ _ (by omega) (by omega)), hf 21 1 (hw _ _ (by omega) (by omega))]
  exact h.2.1
theorem wF3_row (i k : Nat) (h1 : 21 ≤ i) (h2 : i ≤ 92) : wF 3 i k = false := by simp [wF]; omega
theorem wSe_row (i k : Nat) (h1 : 21 ≤ i) (h2 : i ≤ 92) : wSe i k = false := by simp [wSe]; omega
/-- now, sense, doings -/
def wNw (i k : Nat) : Bool := wF 3 i k || wSe i k || (decide (21 ≤ i) && decide (i ≤ 92))
/-- now, doings -/
def wNd (i k : Nat) : Bool := wF 3 i k || (decide (21 ≤ i) && decide (i ≤ 92))
theorem nd_3 (i k : Nat) (h : wF 3 i k = true) : wNd i k = true := by unfold wNd; rw [h]; rfl
theorem nd_do {p : Nat} (hp : p < 14) (i k : Nat) (h : wDo p i k = true) : wNd i k = true := by simp [wDo, wF] at h; simp [wNd]; omega
theorem nw_3 (i k : Nat) (h : wF 3 i k = true) : wNw i k = true := by unfold wNw; rw [h]; rfl
theorem nw_se (i k : Nat) (h : wSe i k = true) : wNw i k = true := by unfold wNw; rw [h, Bool.or_true]; rfl
theorem nw_do {p : Nat} (hp : p < 14) (i k : Nat) (h : wDo p i k = true) : wNw i k = true := by simp [wDo, wF] at h; simp [wNw]; omega
theorem nw_tb (i k : Nat) (h : wTB i k = true) : wNw i k = true := by simp [wTB, wF] at h; simp [wNw, wF]; omega
theorem cW_cong {G H : Nat → Int} {N : Nat} (h : cW G N) (e : ∀ k, k < 33 → H k = G k) : cW H N := by
  refine ⟨by rw [e 0 (by omega)]; exact h.1, h.2.1, fun s hs => ?_⟩
  have hN := h.2.1
  refine ⟨by rw [e _ (by omega)]; exact (h.2.2 s hs).1, fun i hi => ?_⟩
  rw [e _ (by omega), e (1 + s) (by omega)]
  exact (h.2.2 s hs).2 i hi
theorem cW_rs {G : Nat → Int} {N : Nat} (h : cW G N) : cW (rsC G) N := cW_cong h (fun _ hk => rsP_low G hk)
theorem fgL_in {K : Int} {i N : Nat} (hN : 1 ≤ N ∧ N ≤ 8) : 0 ≤ fgL K i N ∧ fgL K i N ≤ 9 := by
  have := fgL_sp K i N
  omega
theorem fgL_st {K : Int} {i N : Nat} (hi : i < 3) (h : sPl K i) : fgL K i N = (N : Int) - 1 := by
  have h1 := fgL_sp K i N
  have h2 := (sPl_sp K hi).mp h
  omega
theorem eqC_ne {G : Nat → Int} {s : Nat} {K a b c : Int} {k : Nat} (h1 : k ≠ 1 + s) (h2 : k < 9 + 3 * s ∨ 9 + 3 * s + 2 < k) : eqC G s K a b c k = G k := by
  unfold eqC
  rw [upn_ne _ _ (by omega), upn_ne _ _ (by omega), upn_ne _ _ (by omega), upn_ne _ _ (by omega)]
theorem eqC_k {G : Nat → Int} {s : Nat} {K a b c : Int} (hs : s < 8) : eqC G s K a b c (1 + s) = K := by
  unfold eqC
  rw [upn_ne _ _ (by omega), upn_ne _ _ (by omega), upn_ne _ _ (by omega), upn_eq]
theorem eqC_0 {G : Nat → Int} {s : Nat} {K a b c : Int} : eqC G s K a b c (9 + 3 * s + 0) = a := by
  unfold eqC
  rw [upn_ne _ _ (by omega), upn_ne _ _ (by omega)]; exact upn_eq _ _ _
theorem eqC_1 {G : Nat → Int} {s : Nat} {K a b c : Int} : eqC G s K a b c (9 + 3 * s + 1) = b := by
  unfold eqC
  rw [upn_ne _ _ (by omega), upn_eq]
theorem eqC_2 {G : Nat → Int} {s : Nat} {K a b c : Int} : eqC G s K a b c (9 + 3 * s + 2) = c := by
  unfold eqC
  rw [upn_eq]
theorem cW_eq {G : Nat → Int} {N : Nat} (h : cW G N) {s : Nat} (hs : s < N) {K a b c : Int} (hK : 0 ≤ K ∧ K ≤ 11) (ha : 0 ≤ a ∧ a ≤ fgL K 0 N) (hb : 0 ≤ b ∧ b ≤ fgL K 1 N) (hc : 0 ≤ c ∧ c ≤ fgL K 2 N) : cW (eqC G s K a b c) N := by
  have hN := h.2.1
  refine ⟨by rw [eqC_ne (by omega) (by omega)]; exact h.1, hN, fun t ht => ?_⟩
  by_cases q : t = s
  · subst q
    rw [eqC_k (by omega)]
    refine ⟨hK, fun i hi => ?_⟩
    have key : ∀ v, 0 ≤ v ∧ v ≤ fgL K i N → (0 ≤ v ∧ v ≤ 9) ∧ (sPl K i → v < (N : Int)) := fun v hv => by
      have h1 := fgL_in (K := K) (i := i) (N := N) (by omega)
      refine ⟨by omega, fun hp => ?_⟩
      have := fgL_st (N := N) hi hp
      omega
    rcases (show i = 0 ∨ i = 1 ∨ i = 2 by omega) with e | e | e
    · subst e; rw [eqC_0]; exact key a ha
    · subst e; rw [eqC_1]; exact key b hb
    · subst e; rw [eqC_2]; exact key c hc
  · rw [eqC_ne (k := 1 + t) (by omega) (by omega)]
    refine ⟨(h.2.2 t ht).1, fun i hi => ?_⟩
    rw [eqC_ne (by omega) (by omega)]
    exact (h.2.2 t ht).2 i hi
/-- ticks of the class -/
def wkI (G : Nat → Int) (T : Nat → Nat) (S : Nat → Int) (N : Nat) (u : Nat → Int × Int) : Nat → Nat → Int
  | 0 => G
  | n + 1 => wkC (wkI G T S N u n) T S N (u n).1 (u n).2
theorem wkC_0 {G : Nat → Int} {T : Nat → Nat} {S : Nat → Int} {N : Nat} {a b : Int} (hT : ∀ i, i < N → T i < 8 ∧ T i < N) : wkC G T S N a b 0 = G 0 := by
  unfold wkC
  rw [upn_ne _ _ (by omega), kpC_out _ N (by omega), wkV_low _ _ _ _ _ (by omega) N (fun i hi => (hT i hi).1)]
theorem wkI_0 {G : Nat → Int} {T : Nat → Nat} {S : Nat → Int} {N : Nat} {u : Nat → Int × Int} (hT : ∀ i, i < N → T i < 8 ∧ T i < N) : ∀ n, wkI G T S N u n 0 = G 0
  | 0 => rfl
  | n + 1 => by rw [wkI, wkC_0 hT, wkI_0 hT n]
theorem wkI_b {G : Nat → Int} (h : bC G) {T : Nat → Nat} {S : Nat → Int} {N : Nat} (h0 : G 0 = (N : Int)) (hT : ∀ i, i < N → T i < 8 ∧ T i < N) {u : Nat → Int × Int} (hu : ∀ i, (0 ≤ (u i).1 ∧ (u i).1 ≤ 99) ∧ (0 ≤ (u i).2 ∧ (u i).2 ≤ 99)) : ∀ n, bC (wkI G T S N u n)
  | 0 => h
  | n + 1 => wkC_b (wkI_b h h0 hT hu n) (by rw [wkI_0 hT]; exact h0) hT (hu n).1 (hu n).2
