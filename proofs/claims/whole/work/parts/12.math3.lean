theorem nx_pos {u : Nat → Nat} {t : Nat → Int} {r : Nat} (h : 0 ≤ t r) : nx u t r = rt u (t r / 10).toNat := if_pos h
/-- a free clock made like another: what was on it ends all the same -/
theorem link_tOK {u : Nat → Nat} {t : Nat → Int} (hu : uOK u) (ht : tOK u t) {f o : Nat} (hf : f < 8) (ho : o < 8) (hff : u f = f) (hoo : u o = o) (hne : f ≠ o) (hfree : t f < 0) (hnot : 0 ≤ t o → ¬ ∃ j, itr (nx u t) j (rt u (t o / 10).toNat) = f) : tOK (upn u f o) t := by
  obtain ⟨hok, hrt⟩ := link_rt hu hf ho hff hoo hne
  have orbO : ∀ i, itr (nx u t) i o ≠ f := fun i => by
    rcases Int.lt_or_le (t o) 0 with h | h
    · rw [itr_fix' (f := nx u t) (j := 0) (k := i) (s := o) (nx_end h) (by omega)]
      exact fun e => hne e.symm
    · cases i with
      | zero => exact fun e => hne e.symm
      | succ i =>
        rw [itr_add (nx u t) o i 1]
        intro e
        refine hnot h ⟨i, ?_⟩
        rw [← e]
        show _ = itr (nx u t) i (nx u t o)
        rw [nx, if_pos h]
  have same : ∀ x, x < 8 → nx u t x ≠ f → nx (upn u f o) t x = nx u t x := fun x hx h => by
    unfold nx at h ⊢
    have := ht.1 x hx
    by_cases q : 0 ≤ t x
    · rw [if_pos q] at h ⊢
      rw [if_pos q, hrt _ (by omega), if_neg h]
    · rw [if_neg q, if_neg q]
  have goesO : ∀ (j k : Nat), itr (nx (upn u f o) t) j k = o → ∀ d, itr (nx (upn u f o) t) (j + d) k = itr (nx u t) (0 + d) o := fun j k e d => by
    induction d with
    | zero => exact e
    | succ d ih =>
      show nx (upn u f o) t (itr (nx (upn u f o) t) (j + d) k) = nx u t (itr (nx u t) (0 + d) o)
      rw [ih]
      exact same _ (itr_nx_lt hu ht.1 ho _) (orbO (0 + d + 1))
  refine ⟨ht.1, fun k hk => pig (P := fun x => t x < 0) (fun x hx => nx_lt hok ht.1 hx) (fun x h => nx_end h) hk (two_ends (f := nx u t) (o := o) (fun x h => nx_end h) (fun x h => nx_end h) (ht.2 k hk) (ht.2 o ho) (fun j => ?_))⟩
  induction j with
  | zero => exact Or.inl rfl
  | succ j ih =>
    rcases ih with e | ⟨i, e⟩
    · have hlt := itr_nx_lt hu ht.1 hk j
      by_cases h : nx u t (itr (nx u t) j k) = f ∧ 0 ≤ t (itr (nx u t) j k)
      · refine Or.inr ⟨0, goesO (j + 1) k ?_⟩
        show nx (upn u f o) t (itr (nx (upn u f o) t) j k) = o
        rw [e]
        have h1 := h.1
        have := ht.1 _ hlt
        rw [nx_pos h.2] at h1 ⊢
        rw [hrt _ (by have := h.2; omega), if_pos h1]
      · refine Or.inl ?_
        show nx (upn u f o) t (itr (nx (upn u f o) t) j k) = nx u t (itr (nx u t) j k)
        rw [e]
        by_cases q : 0 ≤ t (itr (nx u t) j k)
        · exact same _ hlt (fun w => h ⟨w, q⟩)
        · rw [nx_end (by omega), nx_end (by omega)]
    · exact Or.inr ⟨i + 1, fun d => by
        rw [show j + 1 + d = j + (1 + d) by omega, show i + 1 + d = i + (1 + d) by omega]
        exact e (1 + d)⟩
/-- a free clock put on a stream: what was on it ends all the same -/
theorem set_tOK {u : Nat → Nat} {t : Nat → Int} (hu : uOK u) (ht : tOK u t) {r : Nat} (hr : r < 8) (hfree : t r < 0) {is : Int} (his : is = -1 ∨ (0 ≤ is ∧ is < 80)) (hnot : 0 ≤ is → ¬ ∃ j, itr (nx u t) j (rt u (is / 10).toNat) = r) : tOK u (upn t r is) := by
  have tin : tIn (upn t r is) := fun k hk => by
    by_cases h : k = r
    · rw [h, upn_eq]; omega
    · rw [upn_ne t is h]; exact ht.1 k hk
  have same : ∀ x, x ≠ r → nx u (upn t r is) x = nx u t x := fun x h => by
    unfold nx; rw [upn_ne t is h]
  have stop : ∀ x, (upn t r is) x < 0 → nx u (upn t r is) x = x := fun x h => nx_end h
  refine ⟨tin, fun k hk => pig (P := fun x => upn t r is x < 0) (fun x hx => nx_lt hu tin hx) stop hk ?_⟩
  rcases his with h1 | ⟨h1, h2⟩
  · -- a base: every row that ended ends
    have ex : ∀ j, (∃ i, upn t r is (itr (nx u (upn t r is)) i k) < 0) ∨ itr (nx u (upn t r is)) j k = itr (nx u t) j k := fun j => by
      induction j with
      | zero => exact Or.inr rfl
      | succ j ih =>
        rcases ih with e | e
        · exact Or.inl e
        · by_cases q : itr (nx u t) j k = r
          · exact Or.inl ⟨j, by rw [e, q, upn_eq]; omega⟩
          · refine Or.inr ?_
            show nx u (upn t r is) (itr (nx u (upn t r is)) j k) = nx u t (itr (nx u t) j k)
            rw [e, same _ q]
    rcases ex 8 with e | e
    · exact e
    · refine ⟨8, ?_⟩
      rw [e]
      have h8 := ht.2 k hk
      by_cases q : itr (nx u t) 8 k = r
      · rw [q, upn_eq]; omega
      · rw [upn_ne t is q]; exact h8
  · have hc : (is / 10).toNat < 8 := by omega
    have hR : rt u (is / 10).toNat < 8 := rt_lt hu hc
    have orbC : ∀ i, itr (nx u t) i (rt u (is / 10).toNat) ≠ r := fun i e => hnot h1 ⟨i, e⟩
    have goesC : ∀ (j : Nat), itr (nx u (upn t r is)) j k = rt u (is / 10).toNat → ∀ d, itr (nx u (upn t r is)) (j + d) k = itr (nx u t) (0 + d) (rt u (is / 10).toNat) := fun j e d => by
      induction d with
      | zero => exact e
      | succ d ih =>
        show nx u (upn t r is) (itr (nx u (upn t r is)) (j + d) k) = nx u t (itr (nx u t) (0 + d) (rt u (is / 10).toNat))
        rw [ih]
        exact same _ (orbC _)
    have ex : ∀ j, (∃ i, upn t r is (itr (nx u (upn t r is)) i k) < 0) ∨ itr (nx u (upn t r is)) j k = itr (nx u t) j k := fun j => by
      induction j with
      | zero => exact Or.inr rfl
      | succ j ih =>
        rcases ih with e | e
        · exact Or.inl e
        · by_cases q : itr (nx u t) j k = r
          · refine Or.inl ⟨j + 1 + 8, ?_⟩
            have e2 : itr (nx u (upn t r is)) (j + 1) k = rt u (is / 10).toNat := by
              show nx u (upn t r is) (itr (nx u (upn t r is)) j k) = _
              rw [e, q, nx, upn_eq, if_pos h1]
            rw [goesC (j + 1) e2 8, Nat.zero_add, upn_ne t is (orbC 8)]
            exact ht.2 _ hR
          · refine Or.inr ?_
            show nx u (upn t r is) (itr (nx u (upn t r is)) j k) = nx u t (itr (nx u t) j k)
            rw [e, same _ q]
    rcases ex 8 with e | e
    · exact e
    · by_cases q : itr (nx u t) 8 k = r
      · refine ⟨8 + 1 + 8, ?_⟩
        have e2 : itr (nx u (upn t r is)) (8 + 1) k = rt u (is / 10).toNat := by
          show nx u (upn t r is) (itr (nx u (upn t r is)) 8 k) = _
          rw [e, q, nx, upn_eq, if_pos h1]
        rw [goesC (8 + 1) e2 8, Nat.zero_add, upn_ne t is (orbC 8)]
        exact ht.2 _ hR
      · exact ⟨8, by rw [e, upn_ne t is q]; exact ht.2 k hk⟩
theorem mSet_ok {m m' : mC} (h : mOK m) {s : Nat} (hs : s < 8) {is : Int} (his : is = -1 ∨ (0 ≤ is ∧ is < 80)) (e : mSet m s is = some m') : mOK m' := by
  unfold mSet at e
  split at e
  · split at e
    · cases e; exact h
    · cases e
  · next hne =>
    split at e
    · cases e
    · next hq =>
      cases e
      refine ⟨h.1, set_tOK h.1 h.2 (rt_lt h.1 hs) (by omega) his (fun h0 hm => hq ⟨h0, (metB_iff h.1 h.2 (by omega)).mpr hm⟩)⟩
theorem mLike_ok {m m' : mC} (h : mOK m) {a b : Nat} (ha : a < 8) (hb : b < 8) (e : mLike m a b = some m') : mOK m' := by
  have la := rt_lt h.1 ha
  have lb := rt_lt h.1 hb
  have ta := h.2.1 _ la
  have tb := h.2.1 _ lb
  unfold mLike at e
  split at e
  · cases e; exact h
  · next hne =>
    split at e
    · split at e
      · cases e; exact h
      · cases e
    · next hq =>
      split at e
      · next hfr =>
        split at e
        · cases e
        · next hm =>
          cases e
          exact ⟨(link_rt h.1 la lb (rt_fix h.1 ha) (rt_fix h.1 hb) hne).1, link_tOK h.1 h.2 la lb (rt_fix h.1 ha) (rt_fix h.1 hb) hne (by omega) (fun h0 hx => hm ⟨h0, (metB_iff h.1 h.2 (by omega)).mpr hx⟩)⟩
      · next hfr =>
        split at e
        · cases e
        · next hm =>
          cases e
          have hne2 : rt m.1 b ≠ rt m.1 a := fun q => hne q.symm
          have hbf : m.2 (rt m.1 b) = -9 := by
            rcases Int.lt_trichotomy (m.2 (rt m.1 b)) (-9) with q | q | q
            · omega
            · exact q
            · exact absurd ⟨hfr, by omega⟩ hq
          exact ⟨(link_rt h.1 lb la (rt_fix h.1 hb) (rt_fix h.1 ha) hne2).1, link_tOK h.1 h.2 lb la (rt_fix h.1 hb) (rt_fix h.1 ha) hne2 (by omega) (fun h0 hx => hm ⟨h0, (metB_iff h.1 h.2 (by omega)).mpr hx⟩)⟩
