/-! ticks to come -/
theorem tkM_low {g : Nat → Int} {w : mC} {T : Nat → Nat} {N : Nat} {a b : Int} (hN : N ≤ 8) (hT : ∀ i, i < N → T i < 8) {k : Nat} (hk : k < 33) : tkM g w T N a b k = g k := by
  unfold tkM
  rw [upn_ne _ _ (by omega), kpM_out _ N hN (by omega), mV_low g w T a b (by omega) N hT]
theorem kv_in {h : Nat → Int} (hW : Wf h) (hV : Vb h) {s : Nat} (hs : s < 8) (hn : (s : Int) < h 0) : -9 ≤ kv h s ∧ kv h s ≤ 99 := by
  unfold kv
  split
  · exact (hV _ (hW.st hs hn (i := 1) (by omega) (by unfold sPl; omega))).2
  · split
    · exact (hV _ (hW.st hs hn (i := 0) (by omega) (by unfold sPl; omega))).2
    · split <;> omega
theorem kpM_vb {g : Nat → Int} (hW : Wf g) (hV : Vb g) : ∀ {s : Nat}, (s : Int) ≤ g 0 → Vb (kpM g s)
  | 0, _ => hV
  | s + 1, hs => by
    have ih := kpM_vb hW hV (s := s) (by omega)
    have h0 := hW.1
    have hw : Wf (kpM g s) := hW.cong (fun k hk => kpM_out g s (by omega) (by omega))
    have hkv := kv_in hw ih (s := s) (by omega) (by rw [kpM_out g s (by omega) (by omega)]; omega)
    unfold kpM
    split
    · exact ih
    · intro t ht
      refine ⟨?_, ?_⟩
      · by_cases q : 33 + t = 33 + s
        · rw [q, upn_eq]; exact hkv
        · rw [upn_ne _ _ q]; exact (ih t ht).1
      · rw [upn_ne _ _ (by omega)]; exact (ih t ht).2
/-- what a page must be for a tick -/
def tOk (g : Nat → Int) (N : Nat) : Prop := Wf g ∧ Vb g ∧ g 0 = (N : Int)
theorem tkM_ok {g : Nat → Int} {w : mC} {T : Nat → Nat} {N : Nat} {a b : Int} (h : tOk g N) (hT : ∀ i, i < N → T i < N) (ha : 0 ≤ a ∧ a ≤ 99) (hb : 0 ≤ b ∧ b ≤ 99) : tOk (tkM g w T N a b) N := by
  obtain ⟨hW, hV, hN⟩ := h
  have hN8 : N ≤ 8 := by have := hW.1; omega
  have hT8 : ∀ i, i < N → T i < 8 := fun i hi => by have := hT i hi; omega
  have hT2 : ∀ i, i < N → T i < 8 ∧ (T i : Int) < g 0 := fun i hi => by have := hT i hi; omega
  refine ⟨hW.cong (fun k hk => tkM_low hN8 hT8 hk), ?_, by rw [tkM_low hN8 hT8 (by omega)]; exact hN⟩
  have h1 := kpM_vb (mV_wf hW w a b (j := N) hT8) (mV_vb hW hV w ha hb hT2) (s := N) (by rw [mV_low g w T a b (by omega) N hT8]; omega)
  intro s hs
  unfold tkM
  rw [upn_ne _ _ (by omega), upn_ne _ _ (by omega)]
  exact h1 s hs
theorem afM_ok {g : Nat → Int} {N : Nat} (h : tOk g N) : tOk (afM g) N := by
  obtain ⟨hW, hV, hN⟩ := h
  refine ⟨hW.cong (fun k hk => afM_low g hk), fun s hs => ?_, by rw [afM_low g (by omega)]; exact hN⟩
  unfold afM
  rw [upn_ne _ _ (by omega), upn_ne _ _ (by omega)]
  unfold af
  rw [if_pos (by omega), if_neg (by omega), if_pos (by omega)]
  refine ⟨?_, by omega⟩
  rw [show 33 + s - 33 = s by omega]
  unfold kf
  have h3 := ((hW.2 s hs).2 0 (by omega)).1
  rw [Nat.add_zero] at h3
  split
  · omega
  · split <;> omega
theorem tOk.cong {g h : Nat → Int} {N : Nat} (hg : tOk g N) (e : ∀ k, k < 50 → h k = g k) : tOk h N := by
  refine ⟨hg.1.cong (fun k hk => e k (by omega)), fun s hs => ?_, by rw [e 0 (by omega)]; exact hg.2.2⟩
  rw [e (33 + s) (by omega), e (41 + s) (by omega)]
  exact hg.2.1 s hs
def tkC (g : Nat → Int) (w : mC) (T : Nat → Nat) (N : Nat) (a b : Int) : Nat → Nat → Int
  | 0 => g
  | n + 1 => tkM (tkC g w T N a b n) w T N a b
theorem tkC_ok {g : Nat → Int} {w : mC} {T : Nat → Nat} {N : Nat} {a b : Int} (h : tOk g N) (hT : ∀ i, i < N → T i < N) (ha : 0 ≤ a ∧ a ≤ 99) (hb : 0 ≤ b ∧ b ≤ 99) : ∀ n, tOk (tkC g w T N a b n) N
  | 0 => h
  | n + 1 => tkM_ok (tkC_ok h hT ha hb n) hT ha hb
/-- inputs that change -/
def tkI (g : Nat → Int) (w : mC) (T : Nat → Nat) (N : Nat) (u : Nat → Int × Int) : Nat → Nat → Int
  | 0 => g
  | n + 1 => tkM (tkI g w T N u n) w T N (u n).1 (u n).2
theorem tkI_ok {g : Nat → Int} {w : mC} {T : Nat → Nat} {N : Nat} {u : Nat → Int × Int} (h : tOk g N) (hT : ∀ i, i < N → T i < N) : ∀ n, (∀ i, i < n → (0 ≤ (u i).1 ∧ (u i).1 ≤ 99) ∧ (0 ≤ (u i).2 ∧ (u i).2 ≤ 99)) → tOk (tkI g w T N u n) N
  | 0, _ => h
  | n + 1, hu => tkM_ok (tkI_ok h hT n (fun i hi => hu i (by omega))) hT (hu n (by omega)).1 (hu n (by omega)).2
/-- what is kept, for the round -/
def stv (g : Nat → Int) (s : Nat) : Int := if (s : Int) < g 0 ∧ 6 ≤ g (1 + s) ∧ g (1 + s) ≤ 8 then g (33 + s) else 0
/-- all that the machine needs for a tick of the trial page -/
def tCx (σ : gS) (w : mC) (N : Nat) (T : Nat → Nat) : Prop := mA σ w ∧ mOK w ∧ ∀ j, j < N → T j < N ∧ σ 125 (T j) = ((j : Nat) : Int) ∧ ∀ s, s < 8 → σ 125 s = ((j : Nat) : Int) → s = T j
theorem tCx.keep {σ σ' : gS} {w : mC} {N : Nat} {T : Nat → Nat} (h : tCx σ w N T) (e1 : σ' 123 = σ 123) (e2 : σ' 124 = σ 124) (e3 : σ' 125 = σ 125) : tCx σ' w N T := ⟨h.1.keep e1 e2, h.2.1, by rw [e3]; exact h.2.2⟩
theorem tCx.lt {σ : gS} {w : mC} {N : Nat} {T : Nat → Nat} (h : tCx σ w N T) : ∀ i, i < N → T i < N := fun i hi => (h.2.2 i hi).1
def w115 (i _k : Nat) : Bool := i == 115
theorem sc_115 (i k : Nat) (h : w115 i k = true) : wSc i k = true := by simp [w115] at h; simp [wSc]; omega
theorem tk_115 (i k : Nat) (h : w115 i k = true) : wTk 115 i k = true := by simp [w115] at h; simp [wTk]; omega
theorem cpr_50 (h g : Nat → Int) {k : Nat} (hk : k < 50) : cpr h g 50 k = h k := if_pos hk
/-- FIRST, as it is found -/
def fiP (R : Nat → Nat → Int) (s : Nat) (v : Int) (n : Nat) (q : Int) : Prop := (q = -9 ∧ ∀ t, t < n → R (t + 1) (41 + s) ≠ v) ∨ (∃ t, t < n ∧ q = ((t + 1 : Nat) : Int) ∧ R (t + 1) (41 + s) = v ∧ ∀ u, u < t → R (u + 1) (41 + s) ≠ v)
