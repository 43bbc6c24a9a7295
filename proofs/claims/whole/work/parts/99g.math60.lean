/-! pages, alike in both, and what ticks do to them -/
theorem wkV_S {G S S' : Nat → Int} {T : Nat → Nat} {N : Nat} {a b : Int} (hT : ∀ j, j < N → T j < N) (e : ∀ s, s < N → S s = S' s) : ∀ j, j ≤ N → wkV G T S a b j = wkV G T S' a b j
  | 0, _ => rfl
  | j + 1, hj => by rw [wkV, wkV, wkV_S hT e j (by omega), e _ (hT j (by omega))]
theorem wkC_S {G S S' : Nat → Int} {T : Nat → Nat} {N : Nat} {a b : Int} (hT : ∀ j, j < N → T j < N) (e : ∀ s, s < N → S s = S' s) : wkC G T S N a b = wkC G T S' N a b := by
  unfold wkC; rw [wkV_S hT e N (Nat.le_refl N)]
theorem wkI_S {G S S' : Nat → Int} {T : Nat → Nat} {N : Nat} {u : Nat → Int × Int} (hT : ∀ j, j < N → T j < N) (e : ∀ s, s < N → S s = S' s) : ∀ n, wkI G T S N u n = wkI G T S' N u n
  | 0 => rfl
  | n + 1 => by rw [wkI, wkI, wkI_S hT e n, wkC_S hT e]
theorem jcR_S {G S S' : Nat → Int} {T : Nat → Nat} {N r n : Nat} (hT : ∀ j, j < N → T j < N) (e : ∀ s, s < N → S s = S' s) : ∀ k, jcR G T S N r n k = jcR G T S' N r n k
  | 0 => rfl
  | k + 1 => by rw [jcR, jcR, jcR_S hT e k]; unfold jcG; rw [wkC_S hT e]
def vz (c : Nat → Int) (N : Nat) : Prop := ∀ s, s < 8 → N ≤ s → c (41 + s) = -9
/-- both pages on their way -/
def TQ (c g S L : Nat → Int) (T : Nat → Nat) (N : Nat) (w : mC) : Prop := tX c g S L T N w ∧ Sm c g N ∧ (∃ bn, Li c S N bn) ∧ kz c N ∧ vz c N
theorem TQ.tk {c g S L : Nat → Int} {T : Nat → Nat} {N : Nat} {w : mC} (h : TQ c g S L T N w) {a b : Int} (ha : 0 ≤ a ∧ a ≤ 99) (hb : 0 ≤ b ∧ b ≤ 99) : TQ (wkC c T S N a b) (tkM g w T N a b) S L T N w ∧ (∀ x, x < 8 → wkC c T S N a b (41 + x) = tkM g w T N a b (41 + x) ∧ (wkC c T S N a b (41 + x) = -9 ∨ vk (wkC c T S N a b (41 + x)))) ∧ mN g w T a b N = ctC (wkC c T S N a b) 8 := by
  obtain ⟨hX, hm, ⟨bn, hL⟩, hz, hv⟩ := h
  obtain ⟨r1, r2, r3, r4, r5, r6, r7⟩ := tk_sim hX hL hm hz ha hb
  exact ⟨⟨hX.low r6 r7, r1, r2, r3, fun s hs hn => (r4 s hs).2.2 hn⟩, fun x hx => ⟨(r4 x hx).1, (r4 x hx).2.1⟩, r5⟩
theorem rsC_at (c : Nat → Int) {s : Nat} (hs : s < 8) : rsC c (33 + s) = hfC c s ∧ rsC c (41 + s) = -9 := by
  unfold rsC rsP
  constructor
  · rw [if_neg (by omega), if_neg (by omega), if_pos (by omega), show 33 + s - 33 = s by omega]
  · rw [if_neg (by omega), if_pos (by omega)]
theorem rsC_low (c : Nat → Int) {k : Nat} (h : k < 33) : rsC c k = c k := rsP_low c h
theorem Li_rs {c S : Nat → Int} {N : Nat} (hG : cW c N) : Li (rsC c) S N (fun _ => False) := fun s hs => by
  have h8 := hG.2.1
  have h0 := hG.1
  have f0 := ((hG.2.2 s hs).2 0 (by omega)).1
  rw [Nat.add_zero] at f0
  rw [rsC_low c (by omega), (rsC_at c (show s < 8 by omega)).1]
  unfold hfC
  rw [if_pos (by omega)]
  unfold haC
  refine ⟨fun k => ?_, fun k => ?_, fun k => ?_, fun _ _ _ h => h, fun _ h => h⟩
  · rw [if_pos k]; omega
  · rw [if_neg (by omega), if_pos k]; exact ⟨Or.inl rfl, fun h => absurd h id⟩
  · rw [if_neg (by omega), if_neg (by omega)]; exact ⟨fun _ h => h, fun _ => rfl⟩
theorem kz_rs {c : Nat → Int} {N : Nat} (hG : cW c N) : kz (rsC c) N := fun s hs hn => by
  have h0 := hG.1
  rw [rsC_low c (by omega)] at hn
  rw [(rsC_at c hs).1]
  unfold hfC
  split
  · unfold haC
    rcases hn with hn | hn
    · omega
    · rw [if_neg (by omega), if_neg (by omega)]
  · rfl
theorem TQ.rs {c g S L : Nat → Int} {T : Nat → Nat} {N : Nat} {w : mC} (h : TQ c g S L T N w) : TQ (rsC c) (afM g) S L T N w :=
  ⟨h.1.low (fun _ hk => rsC_low c hk) (fun _ hk => afM_low g hk), h.1.1.1.rs, ⟨_, Li_rs h.1.1.2.1⟩, kz_rs h.1.1.2.1, fun s hs _ => (rsC_at c hs).2⟩
theorem TQ.it {c g S L : Nat → Int} {T : Nat → Nat} {N : Nat} {w : mC} (h : TQ c g S L T N w) {u : Nat → Int × Int} (hu : ∀ i, (0 ≤ (u i).1 ∧ (u i).1 ≤ 99) ∧ (0 ≤ (u i).2 ∧ (u i).2 ≤ 99)) : ∀ n, TQ (wkI c T S N u n) (tkI g w T N u n) S L T N w
  | 0 => h
  | n + 1 => ((h.it hu n).tk (hu n).1 (hu n).2).1
theorem TQ.itv {c g S L : Nat → Int} {T : Nat → Nat} {N : Nat} {w : mC} (h : TQ c g S L T N w) {u : Nat → Int × Int} (hu : ∀ i, (0 ≤ (u i).1 ∧ (u i).1 ≤ 99) ∧ (0 ≤ (u i).2 ∧ (u i).2 ≤ 99)) (n : Nat) {x : Nat} (hx : x < 8) : wkI c T S N u (n + 1) (41 + x) = tkI g w T N u (n + 1) (41 + x) ∧ (wkI c T S N u (n + 1) (41 + x) = -9 ∨ vk (wkI c T S N u (n + 1) (41 + x))) := ((h.it hu n).tk (hu n).1 (hu n).2).2.1 x hx
theorem TQ.val {c g S L : Nat → Int} {T : Nat → Nat} {N : Nat} {w : mC} (h : TQ c g S L T N w) {s : Nat} (hs : s < N) : c (41 + s) = g (41 + s) := by
  have h8 := h.1.1.1.1.2.2
  rcases h.2.1.2.2.2 s (by omega) with e | e
  · exact e
  · omega
theorem Sm.cong {c g g' : Nat → Int} {N : Nat} (h : Sm c g N) (e : ∀ k, k < 50 → g' k = g k) : Sm c g' N := by
  refine ⟨h.1.low (fun _ _ => rfl) (fun k hk => e k (by omega)), fun s hs => by rw [e _ (by omega)]; exact h.2.1 s hs, by rw [e _ (by omega)]; exact h.2.2.1, fun s hs => by rw [e _ (by omega)]; exact h.2.2.2 s hs⟩
theorem TQ.cong {c g g' S L : Nat → Int} {T : Nat → Nat} {N : Nat} {w : mC} (h : TQ c g S L T N w) (e : ∀ k, k < 50 → g' k = g k) : TQ c g' S L T N w := ⟨h.1.low (fun _ _ => rfl) (fun k hk => e k (by omega)), h.2.1.cong e, h.2.2⟩
theorem tkC_I {g : Nat → Int} {w : mC} {T : Nat → Nat} {N : Nat} {a b : Int} : ∀ n, tkC g w T N a b n = tkI g w T N (cst a b) n
  | 0 => rfl
  | n + 1 => by rw [tkC, tkI, tkC_I n]; rfl
/-- what is kept of the equations: good, once they have clocks -/
def gd (c : Nat → Int) (N : Nat) : Prop := ∀ v, cClk c N N = some v → ∃ bn, Li c (stC v) N bn
/-- the class's page and the reference's -/
def Pg (c g : Nat → Int) (N : Nat) : Prop := Sm c g N ∧ Wf g ∧ Vb g ∧ bC c ∧ (kz c N ∧ vz c N) ∧ gd c N
theorem Pg.cong {c g g' : Nat → Int} {N : Nat} (h : Pg c g N) (e : ∀ k, k < 50 → g' k = g k) : Pg c g' N :=
  ⟨h.1.cong e, h.2.1.cong (fun k hk => e k (by omega)), fun s hs => by rw [e (33 + s) (by omega), e (41 + s) (by omega)]; exact h.2.2.1 s hs, h.2.2.2⟩
theorem Pg_rs {c g : Nat → Int} {N : Nat} (hS : Sk c g N) (hW : Wf g) : Pg (rsC c) (afM g) N := by
  have hG := cW_of hS hW
  have h0 := hG.1
  have h8 := hG.2.1
  have fg : ∀ s, s < N → 0 ≤ c (9 + 3 * s) ∧ c (9 + 3 * s) ≤ 9 := fun s hs => by
    have f0 := ((hG.2.2 s hs).2 0 (by omega)).1
    rw [Nat.add_zero] at f0; exact f0
  refine ⟨hS.rs, hW.cong (fun _ hk => afM_low g hk), fun s hs => ?_, ⟨fun k h1 h2 => ?_, fun s hs hn => ?_⟩, ⟨kz_rs hG, fun s hs _ => (rsC_at c hs).2⟩, fun v _ => ⟨_, Li_rs hG⟩⟩
  · unfold afM
    rw [upn_ne _ _ (by omega), upn_ne _ _ (by omega)]
    unfold af
    rw [if_pos (by omega), if_neg (by omega), if_pos (by omega)]
    refine ⟨?_, by omega⟩
    rw [show 33 + s - 33 = s by omega]
    unfold kf
    have h3 := ((hW.2 s hs).2 0 (by omega)).1
    rw [Nat.add_zero] at h3
    split
    · omega
    · split <;> omega
  · rcases Nat.lt_or_ge k 41 with q | q
    · have e := (rsC_at c (show k - 33 < 8 by omega)).1
      rw [show 33 + (k - 33) = k by omega] at e
      rw [e]
      unfold hfC
      split
      · next hn =>
        have := fg (k - 33) (by omega)
        unfold haC
        split
        · omega
        · split <;> omega
      · omega
    · have e := (rsC_at c (show k - 41 < 8 by omega)).2
      rw [show 41 + (k - 41) = k by omega] at e
      rw [e]; omega
  · rw [rsC_low c (by omega)] at hn
    rw [rsC_low c (by omega)]
    have := fg s (by omega)
    omega
/-- a sound page can go -/
theorem Pg.TQ {c g : Nat → Int} {N : Nat} (h : Pg c g N) {S L : Nat → Int} {T : Nat → Nat} {w v : mC} (hv : cClk c N N = some v) (hX : tX c g (stC v) L T N w) : TQ c g (stC v) L T N w := ⟨hX, h.1, h.2.2.2.2.2 v hv, h.2.2.2.2.1.1, h.2.2.2.2.1.2⟩
theorem Pg.tk {c g : Nat → Int} {N : Nat} (h : Pg c g N) {L : Nat → Int} {T : Nat → Nat} {w v : mC} (hv : cClk c N N = some v) (hX : tX c g (stC v) L T N w) {a b : Int} (ha : 0 ≤ a ∧ a ≤ 99) (hb : 0 ≤ b ∧ b ≤ 99) : Pg (wkC c T (stC v) N a b) (tkM g w T N a b) N ∧ mN g w T a b N = ctC (wkC c T (stC v) N a b) 8 := by
  have hq := (h.TQ (S := L) hv hX).tk ha hb
  have h8 := hX.1.1.1.2.2
  have hT : ∀ i, i < N → T i < 8 ∧ T i < N := fun i hi => by have := (hX.2.2.1.1 i hi).1; omega
  have ok := tkM_ok (w := w) (a := a) (b := b) (show tOk g N from ⟨h.2.1, h.2.2.1, hX.1.1.1.2.1⟩) (fun i hi => (hT i hi).2) ha hb
  have low : ∀ k, k < 33 → wkC c T (stC v) N a b k = c k := fun k hk => by
    unfold wkC
    rw [upn_ne _ _ (by omega), kpC_out _ N (by omega), wkV_low _ _ _ _ _ (by omega) N (fun i hi => (hT i hi).1)]
  refine ⟨⟨hq.1.2.1, ok.1, ok.2.1, wkC_b h.2.2.2.1 hX.1.1.1.1 hT ha hb, ⟨hq.1.2.2.2.1, hq.1.2.2.2.2⟩, fun v' hv' => ?_⟩, hq.2.2⟩
  rw [cClk_low h8 low N (Nat.le_refl N), hv] at hv'
  cases hv'
  exact hq.1.2.2.1
