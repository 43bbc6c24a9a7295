set_option maxHeartbeats 4000000 in
set_option maxRecDepth 100000 in
theorem mX6_findClocks (l : Launch) (θ : gT) (hθ : gOK θ) (σ : gS) (z : gZ) (hW : Wf (σ 114)) (N : Nat) (hN : σ 114 0 = (N : Int)) : GV l θ yX6_findClocks cX6_findClocks 3 4 97 [.ref (tad θ 111), .ref (tad θ 114)] σ z (fun σ' z' => fcI (σ 114) N σ' ∧ fr wFC σ σ' ∧ z' = z) := by
  refine g_enter (ret := none) (by decide +kernel) (Nat.le_of_ble_eq_true rfl) ?_
  intro p e s m args below meth c ls F hB hl
  obtain ⟨hx, hb, hr, hml, hown, hts, hlk, hK, hst⟩ := F
  have hR := hB.1.2
  have hl : lv_has ls 3 [(0, .ref (tad θ 111)), (1, .ref (tad θ 114))] := hl
  have hN8 : N ≤ 8 := by have := hW.1; omega
  refine lv_iconst (v := iZ 0) hx hb dX6_findClocks_0 rfl ?_
  refine lv_istore_n (lv' := [(2, .int (iZ 0)), (0, .ref (tad θ 111)), (1, .ref (tad θ 114))]) hx hb dX6_findClocks_1 rfl hl (by decide) rfl (fun ls hl => ?_)
  have loop2 : ∀ (n2 : Nat) (i : Nat) (σ1 : gS) (H : Heap) (locs : List Loc) (ls : Array Slot), 8 - i < n2 → (i ≤ 8) → (∀ k, k < i → σ1 123 k = ((k : Nat) : Int) ∧ σ1 124 k = -9) → (fr wFC σ σ1) →  gB θ σ1 z s.heap H locs → lv_has ls 3 [(2, .int (iZ ((i : Nat) : Int))), (0, .ref (tad θ 111)), (1, .ref (tad θ 114))] → W p l e (gRm 4 97) s m args below meth c H locs 0 0 (MQ below (gQv θ (fun σ' z' => fcI (σ 114) N σ' ∧ fr wFC σ σ' ∧ z' = z)) args s 0 0 (tA θ)) (F0 m 2 ls []) := by
    intro n2
    induction n2 with
    | zero => intro i σ1 H locs ls hmu; exact absurd hmu (Nat.not_lt_zero _)
    | succ n2 ih2 =>
      intro i σ1 H locs ls hmu hi h0 hf hB hl
      have hR := hB.1.2
      refine lv_iload_n hx hb dX6_findClocks_2 rfl (lv_at hl 0 rfl) ?_
      refine lv_bipush (v := iZ 8) hx hb dX6_findClocks_3 (by decide) ?_
      refine z_icmp_ge (tgt := 29) hx hb dX6_findClocks_5 (by decide) ⟨by omega, by omega⟩ ⟨by decide, by decide⟩ (fun c_1 => ?_) (fun c_1 => ?_)
      · refine lv_aload_n hx hb dX6_findClocks_29 rfl (lv_at hl 1 rfl) ?_
        refine lv_bipush (v := iZ (-9)) hx hb dX6_findClocks_30 (by decide) ?_
        refine g_putI (k := 19) hx hb hts hown hK hθ hB cf6 tyX6 tyX6_ok (by decide) rfl (by decide) kw_678 rfl rfl rfl ⟨by decide, by decide⟩ dX6_findClocks_32 (fun H locs hB => ?_)
        obtain ⟨σ4, hσ4⟩ : ∃ x_ : gS, x_ = up2 σ1 111 19 (-9) := ⟨_, rfl⟩
        rw [← hσ4] at hB
        have hR := hB.1.2
        refine lv_iconst (v := iZ 0) hx hb dX6_findClocks_35 rfl ?_
        refine lv_istore_n (lv' := [(2, .int (iZ 0)), (0, .ref (tad θ 111)), (1, .ref (tad θ 114))]) hx hb dX6_findClocks_36 rfl hl (by decide) rfl (fun ls hl => ?_)
        have loop37 : ∀ (n37 : Nat) (i : Nat) (σ5 : gS) (H : Heap) (locs : List Loc) (ls : Array Slot), N - i < n37 → (i ≤ N) → (fcI (σ 114) i σ5) → (fr wFC σ σ5) →  gB θ σ5 z s.heap H locs → lv_has ls 3 [(2, .int (iZ ((i : Nat) : Int))), (0, .ref (tad θ 111)), (1, .ref (tad θ 114))] → W p l e (gRm 4 97) s m args below meth c H locs 0 0 (MQ below (gQv θ (fun σ' z' => fcI (σ 114) N σ' ∧ fr wFC σ σ' ∧ z' = z)) args s 0 0 (tA θ)) (F0 m 37 ls []) := by
          intro n37
          induction n37 with
          | zero => intro i σ5 H locs ls hmu; exact absurd hmu (Nat.not_lt_zero _)
          | succ n37 ih37 =>
            intro i σ5 H locs ls hmu hi hI hf hB hl
            have hR := hB.1.2
            have hg : σ5 114 = σ 114 := hf.row (fun k => rfl)
            refine lv_iload_n hx hb dX6_findClocks_37 rfl (lv_at hl 0 rfl) ?_
            refine lv_aload_n hx hb dX6_findClocks_38 rfl (lv_at hl 2 rfl) ?_
            refine lv_iconst (v := iZ 0) hx hb dX6_findClocks_39 rfl ?_
            refine g_iald (k := 0) hx hb hK hB (by decide) rfl (by omega) (Nat.lt_of_lt_of_eq (by omega : 0 < 50) (Eq.symm rfl)) (by decide) dX6_findClocks_40 ?_
            refine z_top (b := ((N : Nat) : Int)) (by rw [hg]; exact hN) ?_
            refine z_icmp_ge (tgt := 78) hx hb dX6_findClocks_41 (by decide) ⟨by omega, by omega⟩ ⟨by omega, by omega⟩ (fun c_2 => ?_) (fun c_2 => ?_)
            · have hfin : fcI (σ 114) N σ5 := by rw [show N = i by omega]; exact hI
              exact g_vret hx hb hr hlk hB dX6_findClocks_78 (⟨hfin, hf, rfl⟩)
            · refine lv_aload_n hx hb dX6_findClocks_44 rfl (lv_at hl 1 rfl) ?_
              refine g_geti (k := 19) hx hb hts hown hK hB cf6 (by decide) rfl (by decide) kw_678 rfl dX6_findClocks_45 ?_
              have hr_3 := hR 111 19
              refine lv_bipush (v := iZ (-9)) hx hb dX6_findClocks_48 (by decide) ?_
              refine z_icmp_ne (tgt := 78) hx hb dX6_findClocks_50 (by decide) ⟨by omega, by omega⟩ ⟨by decide, by decide⟩ (fun c_4 => ?_) (fun c_4 => ?_)
              · have hfin : fcI (σ 114) N σ5 := hI.mono hi c_4
                exact g_vret hx hb hr hlk hB dX6_findClocks_78 (⟨hfin, hf, rfl⟩)
              · obtain ⟨w, ew, hA⟩ : ∃ w, mClk (σ 114) i = some w ∧ mA σ5 w := by
                  rcases hI with ⟨h1, h2⟩ | ⟨j, h1, h2, h3⟩
                  · exact h2
                  · omega
                have ho := mClk_ok hW (show (i : Int) ≤ σ 114 0 by omega) ew
                refine lv_aload_n hx hb dX6_findClocks_53 rfl (lv_at hl 1 rfl) ?_
                refine lv_aload_n hx hb dX6_findClocks_54 rfl (lv_at hl 1 rfl) ?_
                refine lv_aload_n hx hb dX6_findClocks_55 rfl (lv_at hl 2 rfl) ?_
                refine lv_iload_n hx hb dX6_findClocks_56 rfl (lv_at hl 0 rfl) ?_
                refine g_calli (g_runV (i := 111) (As := [.ref (tad θ 114), .int (iZ ((i : Nat) : Int))]) (rest := [.ref (tad θ 111)]) hx hb hml hown hts hK hst hB (mX6_asks l θ hθ σ5 z w hA ho (by rw [hg]; exact hW) i (by omega) (by rw [hg]; omega)) mv_X6_asks kw_801 cf6 (by decide) rfl rfl hl.1 rfl (Nat.le_of_ble_eq_true rfl) ⟨by decide, by decide⟩ ⟨Nat.le_refl _, Nat.le_refl _⟩ dX6_findClocks_57) hB (fun q_6 σ6 z_5 H locs hq_6 hp6 hB => ?_)
                obtain ⟨hp6, hf6, e2_⟩ := hp6
                rw [e2_] at hB
                clear e2_
                have hR := hB.1.2
                rcases hp6 with ⟨w1, e1, hq1, hA1⟩ | ⟨e1, hq1⟩
                · subst hq1
                  refine z_if_eq (tgt := 68) hx hb dX6_findClocks_60 (by decide) ⟨by decide, by decide⟩ (fun c_7 => ?_) (fun c_7 => ?_)
                  · exact absurd c_7 (by decide)
                  · refine lv_bipush (v := iZ (-9)) hx hb dX6_findClocks_63 (by decide) ?_
                    refine lv_goto (tgt := 69) hx hb dX6_findClocks_65 (by decide) ?_
                    refine g_putI (k := 19) hx hb hts hown hK hθ hB cf6 tyX6 tyX6_ok (by decide) rfl (by decide) kw_678 rfl rfl rfl ⟨by decide, by decide⟩ dX6_findClocks_69 (fun H locs hB => ?_)
                    obtain ⟨σ7, hσ7⟩ : ∃ x_ : gS, x_ = up2 σ6 111 19 (-9) := ⟨_, rfl⟩
                    rw [← hσ7] at hB
                    have hR := hB.1.2
                    refine z_iinc (k := 0) (lv' := [(2, .int (iZ (((i : Nat) : Int) + 1))), (0, .ref (tad θ 111)), (1, .ref (tad θ 114))]) hx hb dX6_findClocks_72 hl rfl (by decide) rfl (fun ls hl => ?_)
                    have hl : lv_has ls 3 [(2, .int (iZ (((i + 1) : Nat) : Int))), (0, .ref (tad θ 111)), (1, .ref (tad θ 114))] := by have e9 : (((i : Nat) : Int) + 1) = (((i + 1) : Nat) : Int) := (by omega); rw [e9] at hl; exact hl
                    refine lv_goto (tgt := 37) hx hb dX6_findClocks_75 (by decide) ?_
                    exact ih37 (i + 1) σ7 _ _ _ (by omega) (by omega) (by rw [hσ7]; exact Or.inl ⟨up2_eq _ _ _ _, w1, by rw [mClk, ew, mThen, ← hg]; exact e1, hA1.keep (up2_row _ _ (by decide)) (up2_row _ _ (by decide))⟩) (by rw [hσ7]; exact (hf.tr (hf6.mono (fun i k h => by simp [wClk] at h; simp [wFC]; omega))).tr (fr.up rfl)) hB (lv_sub hl [0, 1, 2] rfl)
                · subst hq1
                  refine z_if_eq (tgt := 68) hx hb dX6_findClocks_60 (by decide) ⟨by decide, by decide⟩ (fun c_8 => ?_) (fun c_8 => ?_)
                  · refine lv_iload_n hx hb dX6_findClocks_68 rfl (lv_at hl 0 rfl) ?_
                    refine g_putI (k := 19) hx hb hts hown hK hθ hB cf6 tyX6 tyX6_ok (by decide) rfl (by decide) kw_678 rfl rfl rfl ⟨by omega, by omega⟩ dX6_findClocks_69 (fun H locs hB => ?_)
                    obtain ⟨σ7, hσ7⟩ : ∃ x_ : gS, x_ = up2 σ6 111 19 ((i : Nat) : Int) := ⟨_, rfl⟩
                    rw [← hσ7] at hB
                    have hR := hB.1.2
                    refine z_iinc (k := 0) (lv' := [(2, .int (iZ (((i : Nat) : Int) + 1))), (0, .ref (tad θ 111)), (1, .ref (tad θ 114))]) hx hb dX6_findClocks_72 hl rfl (by decide) rfl (fun ls hl => ?_)
                    have hl : lv_has ls 3 [(2, .int (iZ (((i + 1) : Nat) : Int))), (0, .ref (tad θ 111)), (1, .ref (tad θ 114))] := by have e9 : (((i : Nat) : Int) + 1) = (((i + 1) : Nat) : Int) := (by omega); rw [e9] at hl; exact hl
                    refine lv_goto (tgt := 37) hx hb dX6_findClocks_75 (by decide) ?_
                    exact ih37 (i + 1) σ7 _ _ _ (by omega) (by omega) (by rw [hσ7]; exact Or.inr ⟨i, by omega, up2_eq _ _ _ _, ⟨w, ew⟩, by rw [mClk, ew, mThen, ← hg]; exact e1⟩) (by rw [hσ7]; exact (hf.tr (hf6.mono (fun i k h => by simp [wClk] at h; simp [wFC]; omega))).tr (fr.up rfl)) hB (lv_sub hl [0, 1, 2] rfl)
                  · exact absurd (by decide) c_8
        have hI0 : fcI (σ 114) 0 σ4 := Or.inl ⟨by rw [hσ4, up2_eq], _, rfl, fun k hk => by rw [hσ4, up2_c _ _ (by decide)]; exact ⟨(h0 k (by omega)).1, hk⟩, fun k hk => by rw [hσ4, up2_c _ _ (by decide)]; exact (h0 k (by omega)).2⟩
        exact loop37 _ 0 σ4 _ _ _ (Nat.lt_succ_self _) (by omega) hI0 (by rw [hσ4]; exact hf.tr (fr.up rfl)) hB (lv_sub hl [0, 1, 2] rfl)
      · refine lv_aload_n hx hb dX6_findClocks_8 rfl (lv_at hl 1 rfl) ?_
        refine g_getr (k := 17) (j := 123) hx hb hts hown hK hθ hB cf6 (by decide) rfl (by decide) kw_676 rfl rfl dX6_findClocks_9 ?_
        refine lv_iload_n hx hb dX6_findClocks_12 rfl (lv_at hl 0 rfl) ?_
        refine lv_iload_n hx hb dX6_findClocks_13 rfl (lv_at hl 0 rfl) ?_
        refine g_iast (k := i) hx hb hK hθ hB (by decide) rfl (by omega) (Nat.lt_of_lt_of_eq (by omega : i < 8) (Eq.symm rfl)) (by decide) ⟨by omega, by omega⟩ dX6_findClocks_14 (fun H locs hB => ?_)
        obtain ⟨σ2, hσ2⟩ : ∃ x_ : gS, x_ = up2 σ1 123 i ((i : Nat) : Int) := ⟨_, rfl⟩
        rw [← hσ2] at hB
        have hR := hB.1.2
        refine lv_aload_n hx hb dX6_findClocks_15 rfl (lv_at hl 1 rfl) ?_
        refine g_getr (k := 18) (j := 124) hx hb hts hown hK hθ hB cf6 (by decide) rfl (by decide) kw_677 rfl rfl dX6_findClocks_16 ?_
        refine lv_iload_n hx hb dX6_findClocks_19 rfl (lv_at hl 0 rfl) ?_
        refine lv_bipush (v := iZ (-9)) hx hb dX6_findClocks_20 (by decide) ?_
        refine g_iast (k := i) hx hb hK hθ hB (by decide) rfl (by omega) (Nat.lt_of_lt_of_eq (by omega : i < 8) (Eq.symm rfl)) (by decide) ⟨by decide, by decide⟩ dX6_findClocks_22 (fun H locs hB => ?_)
        obtain ⟨σ3, hσ3⟩ : ∃ x_ : gS, x_ = up2 σ2 124 i (-9) := ⟨_, rfl⟩
        rw [← hσ3] at hB
        have hR := hB.1.2
        refine z_iinc (k := 0) (lv' := [(2, .int (iZ (((i : Nat) : Int) + 1))), (0, .ref (tad θ 111)), (1, .ref (tad θ 114))]) hx hb dX6_findClocks_23 hl rfl (by decide) rfl (fun ls hl => ?_)
        have hl : lv_has ls 3 [(2, .int (iZ (((i + 1) : Nat) : Int))), (0, .ref (tad θ 111)), (1, .ref (tad θ 114))] := by have e9 : (((i : Nat) : Int) + 1) = (((i + 1) : Nat) : Int) := (by omega); rw [e9] at hl; exact hl
        refine lv_goto (tgt := 2) hx hb dX6_findClocks_26 (by decide) ?_
        exact ih2 (i + 1) σ3 _ _ _ (by omega) (by omega) (lt_s (fun k h => by rw [hσ3, up2_c _ _ (by decide), up2_k _ _ (by omega), hσ2, up2_k _ _ (by omega), up2_c _ _ (by decide)]; exact h0 k h) ⟨by rw [hσ3, up2_c _ _ (by decide), hσ2, up2_eq], by rw [hσ3, up2_eq]⟩) (by rw [hσ3, hσ2]; exact (hf.tr (fr.up rfl)).tr (fr.up rfl)) hB (lv_sub hl [0, 1, 2] rfl)
  exact loop2 _ 0 σ _ _ _ (Nat.lt_succ_self _) (by omega) (fun k h => absurd h (Nat.not_lt_zero _)) fr.rf hB (lv_sub hl [0, 1, 2] rfl)
set_option maxHeartbeats 4000000 in
set_option maxRecDepth 100000 in
theorem mX6_clocks (l : Launch) (θ : gT) (hθ : gOK θ) (σ : gS) (z : gZ) (w : mC) (hA : mA σ w) (ho : mOK w) (s0 : Nat) (hs : s0 < 8) : GI l θ yX6_clocks cX6_clocks 4 (some .int) 1 22 [.ref (tad θ 111), .int (iZ ((s0 : Nat) : Int))] σ z (fun q σ' z' => (q = ((dN w s0 : Nat) : Int) ∧ ∀ j, j < dN w s0 → σ' 127 j = w.2 (xs w s0 j)) ∧ fr w127 σ σ' ∧ z' = z) := by
  refine g_enter (ret := (some .int)) (by decide +kernel) (Nat.le_of_ble_eq_true rfl) ?_
  intro p e s m args below meth c ls F hB hl
  obtain ⟨hx, hb, hr, hml, hown, hts, hlk, hK, hst⟩ := F
  have hR := hB.1.2
  have hl : lv_has ls 4 [(0, .ref (tad θ 111)), (1, .int (iZ ((s0 : Nat) : Int)))] := hl
  have ht := ho.2.1
  refine lv_iconst (v := iZ 0) hx hb dX6_clocks_0 rfl ?_
  refine lv_istore_n (lv' := [(2, .int (iZ 0)), (0, .ref (tad θ 111)), (1, .int (iZ ((s0 : Nat) : Int)))]) hx hb dX6_clocks_1 rfl hl (by decide) rfl (fun ls hl => ?_)
  refine lv_aload_n hx hb dX6_clocks_2 rfl (lv_at hl 1 rfl) ?_
  refine lv_iload_n hx hb dX6_clocks_3 rfl (lv_at hl 2 rfl) ?_
  refine g_calli (g_runV (i := 111) (As := [.int (iZ ((s0 : Nat) : Int))]) (rest := []) hx hb hml hown hts hK hst hB (mX6_root l θ hθ σ z w.1 hA.1 ho.1 s0 (hs)) mv_X6_root kw_809 cf6 (by decide) rfl rfl hl.1 rfl (Nat.le_of_ble_eq_true rfl) ⟨by decide, by decide⟩ ⟨Nat.le_refl _, Nat.le_refl _⟩ dX6_clocks_4) hB (fun q_3 σ_1 z_2 H locs hq_3 pq_3 hB => ?_)
  obtain ⟨pq_3, e1_, e2_⟩ := pq_3
  rw [e1_, e2_] at hB
  clear e1_ e2_
  subst pq_3
  refine lv_istore_n (lv' := [(3, .int (iZ (((rt w.1 s0) : Nat) : Int))), (2, .int (iZ 0)), (0, .ref (tad θ 111)), (1, .int (iZ ((s0 : Nat) : Int)))]) hx hb dX6_clocks_7 rfl hl (by decide) rfl (fun ls hl => ?_)
  have loop8 : ∀ (n8 : Nat) (j : Nat) (x : Nat) (σ1 : gS) (H : Heap) (locs : List Loc) (ls : Array Slot), 8 - j < n8 → (x < 8) → (x = xs w s0 j) → (j ≤ 8) → (j + dNr w (8 - j) x = dN w s0) → (∀ i, i < j → σ1 127 i = w.2 (xs w s0 i)) → (fr w127 σ σ1) →  gB θ σ1 z s.heap H locs → lv_has ls 4 [(3, .int (iZ ((x : Nat) : Int))), (2, .int (iZ ((j : Nat) : Int))), (0, .ref (tad θ 111)), (1, .int (iZ ((s0 : Nat) : Int)))] → W p l e (gRm 1 22) s m args below meth c H locs 0 0 (MQ below (gQi θ (fun q σ' z' => (q = ((dN w s0 : Nat) : Int) ∧ ∀ j, j < dN w s0 → σ' 127 j = w.2 (xs w s0 j)) ∧ fr w127 σ σ' ∧ z' = z)) args s 0 0 (tA θ)) (F0 m 8 ls []) := by
    intro n8
    induction n8 with
    | zero => intro j x σ1 H locs ls hmu; exact absurd hmu (Nat.not_lt_zero _)
    | succ n8 ih8 =>
      intro j x σ1 H locs ls hmu hx8 hxj hj8 hd hch hf hB hl
      have hR := hB.1.2
      have htx := ht x hx8
      have hlast : j = 8 → w.2 x < 0 := fun e => by subst e; rw [hxj]; exact ho.2.2 _ (rt_lt ho.1 hs)
      have hA1 : mA σ1 w := hA.keep (hf.row (fun k => rfl)) (hf.row (fun k => rfl))
      refine lv_aload_n hx hb dX6_clocks_8 rfl (lv_at hl 2 rfl) ?_
      refine g_getr (k := 18) (j := 124) hx hb hts hown hK hθ hB cf6 (by decide) rfl (by decide) kw_677 rfl rfl dX6_clocks_9 ?_
      refine lv_iload_n hx hb dX6_clocks_12 rfl (lv_at hl 0 rfl) ?_
      refine g_iald (k := x) hx hb hK hB (by decide) rfl (by omega) (Nat.lt_of_lt_of_eq (by omega : x < 8) (Eq.symm rfl)) (by decide) dX6_clocks_13 ?_
      refine z_top (b := (w.2 x)) (hA1.2 x hx8) ?_
      refine z_if_lt (tgt := 49) hx hb dX6_clocks_14 (by decide) ⟨by omega, by omega⟩ (fun c_4 => ?_) (fun c_4 => ?_)
      · have hn0 := dNr_neg (w := w) (x := x) (by omega) (8 - j)
        refine lv_iload_n hx hb dX6_clocks_49 rfl (lv_at hl 1 rfl) ?_
        exact g_iret hx hb hr hlk hB dX6_clocks_50 ⟨by omega, by omega⟩ (⟨⟨by omega, fun i hi => hch i (by omega)⟩, hf, rfl⟩)
      · refine lv_aload_n hx hb dX6_clocks_17 rfl (lv_at hl 2 rfl) ?_
        refine g_getr (k := 24) (j := 127) hx hb hts hown hK hθ hB cf6 (by decide) rfl (by decide) kw_683 rfl rfl dX6_clocks_18 ?_
        refine lv_iload_n hx hb dX6_clocks_21 rfl (lv_at hl 1 rfl) ?_
        refine lv_aload_n hx hb dX6_clocks_22 rfl (lv_at hl 2 rfl) ?_
        refine g_getr (k := 18) (j := 124) hx hb hts hown hK hθ hB cf6 (by decide) rfl (by decide) kw_677 rfl rfl dX6_clocks_23 ?_
        refine lv_iload_n hx hb dX6_clocks_26 rfl (lv_at hl 0 rfl) ?_
        refine g_iald (k := x) hx hb hK hB (by decide) rfl (by omega) (Nat.lt_of_lt_of_eq (by omega : x < 8) (Eq.symm rfl)) (by decide) dX6_clocks_27 ?_
        refine z_top (b := (w.2 x)) (hA1.2 x hx8) ?_
        refine g_iast (k := j) hx hb hK hθ hB (by decide) rfl (by omega) (Nat.lt_of_lt_of_eq (by omega : j < 8) (Eq.symm rfl)) (by decide) ⟨by omega, by omega⟩ dX6_clocks_28 (fun H locs hB => ?_)
        obtain ⟨σ2, hσ2⟩ : ∃ x_ : gS, x_ = up2 σ1 127 j (w.2 x) := ⟨_, rfl⟩
        rw [← hσ2] at hB
        have hR := hB.1.2
        refine z_iinc (k := 1) (lv' := [(2, .int (iZ (((j : Nat) : Int) + 1))), (3, .int (iZ ((x : Nat) : Int))), (0, .ref (tad θ 111)), (1, .int (iZ ((s0 : Nat) : Int)))]) hx hb dX6_clocks_29 hl rfl (by decide) rfl (fun ls hl => ?_)
        have hl : lv_has ls 4 [(2, .int (iZ (((j + 1) : Nat) : Int))), (3, .int (iZ ((x : Nat) : Int))), (0, .ref (tad θ 111)), (1, .int (iZ ((s0 : Nat) : Int)))] := by have e9 : (((j : Nat) : Int) + 1) = (((j + 1) : Nat) : Int) := (by omega); rw [e9] at hl; exact hl
        refine lv_aload_n hx hb dX6_clocks_32 rfl (lv_at hl 2 rfl) ?_
        refine lv_aload_n hx hb dX6_clocks_33 rfl (lv_at hl 2 rfl) ?_
        refine g_getr (k := 18) (j := 124) hx hb hts hown hK hθ hB cf6 (by decide) rfl (by decide) kw_677 rfl rfl dX6_clocks_34 ?_
        refine lv_iload_n hx hb dX6_clocks_37 rfl (lv_at hl 1 rfl) ?_
        have hA2 : mA σ2 w := by rw [hσ2]; exact hA1.keep (up2_row _ _ (by decide)) (up2_row _ _ (by decide))
        refine g_iald (k := x) hx hb hK hB (by decide) rfl (by omega) (Nat.lt_of_lt_of_eq (by omega : x < 8) (Eq.symm rfl)) (by decide) dX6_clocks_38 ?_
        refine z_top (b := (w.2 x)) (hA2.2 x hx8) ?_
        refine lv_bipush (v := iZ 10) hx hb dX6_clocks_39 (by decide) ?_
        refine z_idiv hx hb dX6_clocks_41 ⟨by omega, by omega⟩ (by omega) ⟨by decide, by decide⟩ (by decide) ?_
        refine z_top (b := (((w.2 x / 10).toNat : Nat) : Int)) (by omega) ?_
        refine g_calli (g_runV (i := 111) (As := [.int (iZ (((w.2 x / 10).toNat : Nat) : Int))]) (rest := []) hx hb hml hown hts hK hst hB (mX6_root l θ hθ σ2 z w.1 hA2.1 ho.1 (w.2 x / 10).toNat (by omega)) mv_X6_root kw_809 cf6 (by decide) rfl rfl hl.1 rfl (Nat.le_of_ble_eq_true rfl) ⟨by decide, by decide⟩ ⟨Nat.le_refl _, Nat.le_refl _⟩ dX6_clocks_42) hB (fun q_7 σ_5 z_6 H locs hq_7 pq_7 hB => ?_)
        obtain ⟨pq_7, e1_, e2_⟩ := pq_7
        rw [e1_, e2_] at hB
        clear e1_ e2_
        subst pq_7
        refine z_top (b := (((nx w.1 w.2 x) : Nat) : Int)) (by rw [nx_pos (by omega)]) ?_
        refine lv_istore_n (lv' := [(3, .int (iZ (((nx w.1 w.2 x) : Nat) : Int))), (2, .int (iZ (((j + 1) : Nat) : Int))), (0, .ref (tad θ 111)), (1, .int (iZ ((s0 : Nat) : Int)))]) hx hb dX6_clocks_45 rfl hl (by decide) rfl (fun ls hl => ?_)
        refine lv_goto (tgt := 8) hx hb dX6_clocks_46 (by decide) ?_
        exact ih8 (j + 1) (nx w.1 w.2 x) σ2 _ _ _ (by omega) (nx_lt ho.1 ht hx8) (by rw [hxj]; rfl) (by omega) (by have e := dNr_step (w := w) (f := 8 - (j + 1)) (x := x) (by omega); rw [show 8 - (j + 1) + 1 = 8 - j by omega] at e; omega) (lt_s (fun i hi => by rw [hσ2, up2_k _ _ (by omega)]; exact hch i hi) (by rw [hσ2, up2_eq, hxj])) (by rw [hσ2]; exact hf.tr (fr.up rfl)) hB (lv_sub hl [0, 1, 2, 3] rfl)
  exact loop8 _ 0 (rt w.1 s0) σ _ _ _ (Nat.lt_succ_self _) (rt_lt ho.1 hs) rfl (by omega) (by rw [Nat.zero_add]; rfl) (fun i hi => absurd hi (by omega)) fr.rf hB (lv_sub hl [0, 1, 2, 3] rfl)
set_option maxHeartbeats 4000000 in
set_option maxRecDepth 100000 in
theorem mX6_waits (l : Launch) (θ : gT) (hθ : gOK θ) (σ : gS) (z : gZ) (w : mC) (hA : mA σ w) (ho : mOK w) (hW : Wf (σ 114)) (k : Nat) (hk : k < 8) (hn : (k : Int) < σ 114 0) : GI l θ yX6_waits cX6_waits 7 (some .int) 2 45 [.ref (tad θ 111), .ref (tad θ 114), .int (iZ ((k : Nat) : Int))] σ z (fun q σ' z' => (q = ((wtN (σ 114) w k : Nat) : Int)) ∧ fr w127 σ σ' ∧ z' = z) := by
  refine g_enter (ret := (some .int)) (by decide +kernel) (Nat.le_of_ble_eq_true rfl) ?_
  intro p e s m args below meth c ls F hB hl
  obtain ⟨hx, hb, hr, hml, hown, hts, hlk, hK, hst⟩ := F
  have hR := hB.1.2
  have hl : lv_has ls 7 [(0, .ref (tad θ 111)), (1, .ref (tad θ 114)), (2, .int (iZ ((k : Nat) : Int)))] := hl
  refine lv_iconst (v := iZ 0) hx hb dX6_waits_0 rfl ?_
  refine lv_istore_n (lv' := [(3, .int (iZ 0)), (0, .ref (tad θ 111)), (1, .ref (tad θ 114)), (2, .int (iZ ((k : Nat) : Int)))]) hx hb dX6_waits_1 rfl hl (by decide) rfl (fun ls hl => ?_)
  refine lv_aload_n hx hb dX6_waits_2 rfl (lv_at hl 2 rfl) ?_
  refine lv_iconst (v := iZ 1) hx hb dX6_waits_3 rfl ?_
  refine lv_iload_n hx hb dX6_waits_4 rfl (lv_at hl 3 rfl) ?_
  refine z_iadd hx hb dX6_waits_5 ?_
  refine g_iald (k := (1 + k)) hx hb hK hB (by decide) rfl (by omega) (Nat.lt_of_lt_of_eq (by omega : (1 + k) < 50) (Eq.symm rfl)) (by decide) dX6_waits_6 ?_
  have hr_1 := hR 114 (1 + k)
  refine lv_istore (lv' := [(4, .int (iZ (σ 114 (1 + k)))), (3, .int (iZ 0)), (0, .ref (tad θ 111)), (1, .ref (tad θ 114)), (2, .int (iZ ((k : Nat) : Int)))]) hx hb dX6_waits_7 hl (by decide) rfl (fun ls hl => ?_)
  refine lv_iconst (v := iZ 0) hx hb dX6_waits_9 rfl ?_
  refine lv_istore (lv' := [(5, .int (iZ 0)), (4, .int (iZ (σ 114 (1 + k)))), (3, .int (iZ 0)), (0, .ref (tad θ 111)), (1, .ref (tad θ 114)), (2, .int (iZ ((k : Nat) : Int)))]) hx hb dX6_waits_10 hl (by decide) rfl (fun ls hl => ?_)
  have loop12 : ∀ (n12 : Nat) (i : Nat) (H : Heap) (locs : List Loc) (ls : Array Slot), 3 - i < n12 → (i ≤ 3) → (σ 114 (1 + k) = 6 ∨ σ 114 (1 + k) = 7 → i = 0) →  gB θ σ z s.heap H locs → lv_has ls 7 [(5, .int (iZ ((i : Nat) : Int))), (4, .int (iZ (σ 114 (1 + k)))), (3, .int (iZ (((fbA (σ 114) k i) : Nat) : Int))), (0, .ref (tad θ 111)), (1, .ref (tad θ 114)), (2, .int (iZ ((k : Nat) : Int)))] → W p l e (gRm 2 45) s m args below meth c H locs 0 0 (MQ below (gQi θ (fun q σ' z' => (q = ((wtN (σ 114) w k : Nat) : Int)) ∧ fr w127 σ σ' ∧ z' = z)) args s 0 0 (tA θ)) (F0 m 12 ls []) := by
    intro n12
    induction n12 with
    | zero => intro i H locs ls hmu; exact absurd hmu (Nat.not_lt_zero _)
    | succ n12 ih12 =>
      intro i H locs ls hmu hi h67 hB hl
      have hR := hB.1.2
      refine lv_iload hx hb dX6_waits_12 (lv_at hl 0 rfl) ?_
      refine lv_iconst (v := iZ 3) hx hb dX6_waits_14 rfl ?_
      refine z_icmp_ge (tgt := 65) hx hb dX6_waits_15 (by decide) ⟨by omega, by omega⟩ ⟨by decide, by decide⟩ (fun c_2 => ?_) (fun c_2 => ?_)
      · refine lv_aload_n hx hb dX6_waits_65 rfl (lv_at hl 3 rfl) ?_
        refine lv_iload_n hx hb dX6_waits_66 rfl (lv_at hl 5 rfl) ?_
        refine g_calli (g_runV (i := 111) (As := [.int (iZ ((k : Nat) : Int))]) (rest := []) hx hb hml hown hts hK hst hB (mX6_clocks l θ hθ σ z w hA ho k hk) mv_X6_clocks kw_835 cf6 (by decide) rfl rfl hl.1 rfl (Nat.le_of_ble_eq_true rfl) ⟨by decide, by decide⟩ ⟨Nat.le_refl _, Nat.le_refl _⟩ dX6_waits_67) hB (fun qc σ1 z_3 H locs hqc hpc hB => ?_)
        obtain ⟨hpc, hf, e2_⟩ := hpc
        rw [e2_] at hB
        clear e2_
        have hR := hB.1.2
        obtain ⟨hqc, hch⟩ := hpc
        subst hqc
        refine lv_istore (lv' := [(5, .int (iZ (((dN w k) : Nat) : Int))), (4, .int (iZ (σ 114 (1 + k)))), (3, .int (iZ (((fbA (σ 114) k i) : Nat) : Int))), (0, .ref (tad θ 111)), (1, .ref (tad θ 114)), (2, .int (iZ ((k : Nat) : Int)))]) hx hb dX6_waits_70 hl (by decide) rfl (fun ls hl => ?_)
        refine lv_iconst (v := iZ 0) hx hb dX6_waits_72 rfl ?_
        refine lv_istore (lv' := [(6, .int (iZ 0)), (5, .int (iZ (((dN w k) : Nat) : Int))), (4, .int (iZ (σ 114 (1 + k)))), (3, .int (iZ (((fbA (σ 114) k i) : Nat) : Int))), (0, .ref (tad θ 111)), (1, .ref (tad θ 114)), (2, .int (iZ ((k : Nat) : Int)))]) hx hb dX6_waits_73 hl (by decide) rfl (fun ls hl => ?_)
        have loop75 : ∀ (n75 : Nat) (d : Nat) (a : Nat) (H : Heap) (locs : List Loc) (ls : Array Slot), dN w k - d < n75 → (d ≤ dN w k) → (a = wtA (figS (σ 114) k) w k d) →  gB θ σ1 z s.heap H locs → lv_has ls 7 [(6, .int (iZ ((d : Nat) : Int))), (5, .int (iZ (((dN w k) : Nat) : Int))), (4, .int (iZ (σ 114 (1 + k)))), (3, .int (iZ ((a : Nat) : Int))), (0, .ref (tad θ 111)), (1, .ref (tad θ 114)), (2, .int (iZ ((k : Nat) : Int)))] → W p l e (gRm 2 45) s m args below meth c H locs 0 0 (MQ below (gQi θ (fun q σ' z' => (q = ((wtN (σ 114) w k : Nat) : Int)) ∧ fr w127 σ σ' ∧ z' = z)) args s 0 0 (tA θ)) (F0 m 75 ls []) := by
          intro n75
          induction n75 with
          | zero => intro d a H locs ls hmu; exact absurd hmu (Nat.not_lt_zero _)
          | succ n75 ih75 =>
            intro d a H locs ls hmu hd ha hB hl
            have hR := hB.1.2
            have hlt : a < 256 := by rw [ha]; exact wtA_lt (figS_lt hW hk hn) ho hk hd
            have hd8 := dN_le w k
            refine lv_iload hx hb dX6_waits_75 (lv_at hl 0 rfl) ?_
            refine lv_iload hx hb dX6_waits_77 (lv_at hl 1 rfl) ?_
            refine z_icmp_ge (tgt := 103) hx hb dX6_waits_79 (by decide) ⟨by omega, by omega⟩ ⟨by omega, by omega⟩ (fun c_4 => ?_) (fun c_4 => ?_)
            · refine lv_iload_n hx hb dX6_waits_103 rfl (lv_at hl 3 rfl) ?_
              exact g_iret hx hb hr hlk hB dX6_waits_104 ⟨by omega, by omega⟩ (⟨by rw [ha, wtN, show d = dN w k by omega], hf, rfl⟩)
            · have hd1 := ho.2.1 _ (xs_lt ho hk d)
              have hd2 := dN_at (w := w) (s := k) (j := d) (by omega)
              refine lv_iload_n hx hb dX6_waits_82 rfl (lv_at hl 3 rfl) ?_
              refine lv_iconst (v := iZ 1) hx hb dX6_waits_83 rfl ?_
              refine lv_aload_n hx hb dX6_waits_84 rfl (lv_at hl 4 rfl) ?_
              refine g_getr (k := 24) (j := 127) hx hb hts hown hK hθ hB cf6 (by decide) rfl (by decide) kw_683 rfl rfl dX6_waits_85 ?_
              refine lv_iload hx hb dX6_waits_88 (lv_at hl 0 rfl) ?_
              refine g_iald (k := d) hx hb hK hB (by decide) rfl (by omega) (Nat.lt_of_lt_of_eq (by omega : d < 8) (Eq.symm rfl)) (by decide) dX6_waits_90 ?_
              refine z_top (b := (w.2 (xs w k d))) (hch d (by omega)) ?_
              refine lv_bipush (v := iZ 10) hx hb dX6_waits_91 (by decide) ?_
              refine z_idiv hx hb dX6_waits_93 ⟨by omega, by omega⟩ (by omega) ⟨by decide, by decide⟩ (by decide) ?_
              refine z_top (b := (((w.2 (xs w k d) / 10).toNat : Nat) : Int)) (by omega) ?_
              refine z_ishl1 (j := (w.2 (xs w k d) / 10).toNat) hx hb (by omega) dX6_waits_94 ?_
              refine z_ior (a := a) (b := (2 ^ ((w.2 (xs w k d) / 10).toNat))) hx hb dX6_waits_95 ?_
              refine lv_istore_n (lv' := [(3, .int (iZ (((a ||| (2 ^ ((w.2 (xs w k d) / 10).toNat))) : Nat) : Int))), (6, .int (iZ ((d : Nat) : Int))), (5, .int (iZ (((dN w k) : Nat) : Int))), (4, .int (iZ (σ 114 (1 + k)))), (0, .ref (tad θ 111)), (1, .ref (tad θ 114)), (2, .int (iZ ((k : Nat) : Int)))]) hx hb dX6_waits_96 rfl hl (by decide) rfl (fun ls hl => ?_)
              refine z_iinc (k := 1) (lv' := [(6, .int (iZ (((d : Nat) : Int) + 1))), (3, .int (iZ (((a ||| (2 ^ ((w.2 (xs w k d) / 10).toNat))) : Nat) : Int))), (5, .int (iZ (((dN w k) : Nat) : Int))), (4, .int (iZ (σ 114 (1 + k)))), (0, .ref (tad θ 111)), (1, .ref (tad θ 114)), (2, .int (iZ ((k : Nat) : Int)))]) hx hb dX6_waits_97 hl rfl (by decide) rfl (fun ls hl => ?_)
              have hl : lv_has ls 7 [(6, .int (iZ (((d + 1) : Nat) : Int))), (3, .int (iZ (((a ||| (2 ^ ((w.2 (xs w k d) / 10).toNat))) : Nat) : Int))), (5, .int (iZ (((dN w k) : Nat) : Int))), (4, .int (iZ (σ 114 (1 + k)))), (0, .ref (tad θ 111)), (1, .ref (tad θ 114)), (2, .int (iZ ((k : Nat) : Int)))] := by have e9 : (((d : Nat) : Int) + 1) = (((d + 1) : Nat) : Int) := (by omega); rw [e9] at hl; exact hl
              refine lv_goto (tgt := 75) hx hb dX6_waits_100 (by decide) ?_
              exact ih75 (d + 1) (a ||| (2 ^ ((w.2 (xs w k d) / 10).toNat))) _ _ _ (by omega) (by omega) (by rw [ha]; rfl) hB (lv_sub hl [0, 2, 3, 1, 4, 5, 6] rfl)
        have hset : fbA (σ 114) k i = figS (σ 114) k := by
          unfold figS
          by_cases h : σ 114 (1 + k) = 6 ∨ σ 114 (1 + k) = 7
          · rw [if_pos h, h67 h]; rfl
          · rw [if_neg h, show i = 3 by omega]
        exact loop75 _ 0 (fbA (σ 114) k i) _ _ _ (Nat.lt_succ_self _) (by omega) hset hB (lv_sub hl [0, 1, 2, 3, 4, 5, 6] rfl)
      · refine lv_iload hx hb dX6_waits_18 (lv_at hl 1 rfl) ?_
        refine lv_bipush (v := iZ 6) hx hb dX6_waits_20 (by decide) ?_
        refine z_icmp_eq (tgt := 65) hx hb dX6_waits_22 (by decide) ⟨by omega, by omega⟩ ⟨by decide, by decide⟩ (fun c_5 => ?_) (fun c_5 => ?_)
        · refine lv_aload_n hx hb dX6_waits_65 rfl (lv_at hl 3 rfl) ?_
          refine lv_iload_n hx hb dX6_waits_66 rfl (lv_at hl 5 rfl) ?_
          refine g_calli (g_runV (i := 111) (As := [.int (iZ ((k : Nat) : Int))]) (rest := []) hx hb hml hown hts hK hst hB (mX6_clocks l θ hθ σ z w hA ho k hk) mv_X6_clocks kw_835 cf6 (by decide) rfl rfl hl.1 rfl (Nat.le_of_ble_eq_true rfl) ⟨by decide, by decide⟩ ⟨Nat.le_refl _, Nat.le_refl _⟩ dX6_waits_67) hB (fun qc σ1 z_6 H locs hqc hpc hB => ?_)
          obtain ⟨hpc, hf, e2_⟩ := hpc
          rw [e2_] at hB
          clear e2_
          have hR := hB.1.2
          obtain ⟨hqc, hch⟩ := hpc
          subst hqc
          refine lv_istore (lv' := [(5, .int (iZ (((dN w k) : Nat) : Int))), (4, .int (iZ (σ 114 (1 + k)))), (3, .int (iZ (((fbA (σ 114) k i) : Nat) : Int))), (0, .ref (tad θ 111)), (1, .ref (tad θ 114)), (2, .int (iZ ((k : Nat) : Int)))]) hx hb dX6_waits_70 hl (by decide) rfl (fun ls hl => ?_)
          refine lv_iconst (v := iZ 0) hx hb dX6_waits_72 rfl ?_
          refine lv_istore (lv' := [(6, .int (iZ 0)), (5, .int (iZ (((dN w k) : Nat) : Int))), (4, .int (iZ (σ 114 (1 + k)))), (3, .int (iZ (((fbA (σ 114) k i) : Nat) : Int))), (0, .ref (tad θ 111)), (1, .ref (tad θ 114)), (2, .int (iZ ((k : Nat) : Int)))]) hx hb dX6_waits_73 hl (by decide) rfl (fun ls hl => ?_)
          have loop75 : ∀ (n75 : Nat) (d : Nat) (a : Nat) (H : Heap) (locs : List Loc) (ls : Array Slot), dN w k - d < n75 → (d ≤ dN w k) → (a = wtA (figS (σ 114) k) w k d) →  gB θ σ1 z s.heap H locs → lv_has ls 7 [(6, .int (iZ ((d : Nat) : Int))), (5, .int (iZ (((dN w k) : Nat) : Int))), (4, .int (iZ (σ 114 (1 + k)))), (3, .int (iZ ((a : Nat) : Int))), (0, .ref (tad θ 111)), (1, .ref (tad θ 114)), (2, .int (iZ ((k : Nat) : Int)))] → W p l e (gRm 2 45) s m args below meth c H locs 0 0 (MQ below (gQi θ (fun q σ' z' => (q = ((wtN (σ 114) w k : Nat) : Int)) ∧ fr w127 σ σ' ∧ z' = z)) args s 0 0 (tA θ)) (F0 m 75 ls []) := by
            intro n75
            induction n75 with
            | zero => intro d a H locs ls hmu; exact absurd hmu (Nat.not_lt_zero _)
            | succ n75 ih75 =>
              intro d a H locs ls hmu hd ha hB hl
              have hR := hB.1.2
              have hlt : a < 256 := by rw [ha]; exact wtA_lt (figS_lt hW hk hn) ho hk hd
              have hd8 := dN_le w k
              refine lv_iload hx hb dX6_waits_75 (lv_at hl 0 rfl) ?_
              refine lv_iload hx hb dX6_waits_77 (lv_at hl 1 rfl) ?_
              refine z_icmp_ge (tgt := 103) hx hb dX6_waits_79 (by decide) ⟨by omega, by omega⟩ ⟨by omega, by omega⟩ (fun c_7 => ?_) (fun c_7 => ?_)
              · refine lv_iload_n hx hb dX6_waits_103 rfl (lv_at hl 3 rfl) ?_
                exact g_iret hx hb hr hlk hB dX6_waits_104 ⟨by omega, by omega⟩ (⟨by rw [ha, wtN, show d = dN w k by omega], hf, rfl⟩)
              · have hd1 := ho.2.1 _ (xs_lt ho hk d)
                have hd2 := dN_at (w := w) (s := k) (j := d) (by omega)
                refine lv_iload_n hx hb dX6_waits_82 rfl (lv_at hl 3 rfl) ?_
                refine lv_iconst (v := iZ 1) hx hb dX6_waits_83 rfl ?_
                refine lv_aload_n hx hb dX6_waits_84 rfl (lv_at hl 4 rfl) ?_
                refine g_getr (k := 24) (j := 127) hx hb hts hown hK hθ hB cf6 (by decide) rfl (by decide) kw_683 rfl rfl dX6_waits_85 ?_
                refine lv_iload hx hb dX6_waits_88 (lv_at hl 0 rfl) ?_
                refine g_iald (k := d) hx hb hK hB (by decide) rfl (by omega) (Nat.lt_of_lt_of_eq (by omega : d < 8) (Eq.symm rfl)) (by decide) dX6_waits_90 ?_
                refine z_top (b := (w.2 (xs w k d))) (hch d (by omega)) ?_
                refine lv_bipush (v := iZ 10) hx hb dX6_waits_91 (by decide) ?_
                refine z_idiv hx hb dX6_waits_93 ⟨by omega, by omega⟩ (by omega) ⟨by decide, by decide⟩ (by decide) ?_
                refine z_top (b := (((w.2 (xs w k d) / 10).toNat : Nat) : Int)) (by omega) ?_
                refine z_ishl1 (j := (w.2 (xs w k d) / 10).toNat) hx hb (by omega) dX6_waits_94 ?_
                refine z_ior (a := a) (b := (2 ^ ((w.2 (xs w k d) / 10).toNat))) hx hb dX6_waits_95 ?_
                refine lv_istore_n (lv' := [(3, .int (iZ (((a ||| (2 ^ ((w.2 (xs w k d) / 10).toNat))) : Nat) : Int))), (6, .int (iZ ((d : Nat) : Int))), (5, .int (iZ (((dN w k) : Nat) : Int))), (4, .int (iZ (σ 114 (1 + k)))), (0, .ref (tad θ 111)), (1, .ref (tad θ 114)), (2, .int (iZ ((k : Nat) : Int)))]) hx hb dX6_waits_96 rfl hl (by decide) rfl (fun ls hl => ?_)
                refine z_iinc (k := 1) (lv' := [(6, .int (iZ (((d : Nat) : Int) + 1))), (3, .int (iZ (((a ||| (2 ^ ((w.2 (xs w k d) / 10).toNat))) : Nat) : Int))), (5, .int (iZ (((dN w k) : Nat) : Int))), (4, .int (iZ (σ 114 (1 + k)))), (0, .ref (tad θ 111)), (1, .ref (tad θ 114)), (2, .int (iZ ((k : Nat) : Int)))]) hx hb dX6_waits_97 hl rfl (by decide) rfl (fun ls hl => ?_)
                have hl : lv_has ls 7 [(6, .int (iZ (((d + 1) : Nat) : Int))), (3, .int (iZ (((a ||| (2 ^ ((w.2 (xs w k d) / 10).toNat))) : Nat) : Int))), (5, .int (iZ (((dN w k) : Nat) : Int))), (4, .int (iZ (σ 114 (1 + k)))), (0, .ref (tad θ 111)), (1, .ref (tad θ 114)), (2, .int (iZ ((k : Nat) : Int)))] := by have e9 : (((d : Nat) : Int) + 1) = (((d + 1) : Nat) : Int) := (by omega); rw [e9] at hl; exact hl
                refine lv_goto (tgt := 75) hx hb dX6_waits_100 (by decide) ?_
                exact ih75 (d + 1) (a ||| (2 ^ ((w.2 (xs w k d) / 10).toNat))) _ _ _ (by omega) (by omega) (by rw [ha]; rfl) hB (lv_sub hl [0, 2, 3, 1, 4, 5, 6] rfl)
          have hset : fbA (σ 114) k i = figS (σ 114) k := by
            unfold figS
            by_cases h : σ 114 (1 + k) = 6 ∨ σ 114 (1 + k) = 7
            · rw [if_pos h, h67 h]; rfl
            · rw [if_neg h, show i = 3 by omega]
          exact loop75 _ 0 (fbA (σ 114) k i) _ _ _ (Nat.lt_succ_self _) (by omega) hset hB (lv_sub hl [0, 1, 2, 3, 4, 5, 6] rfl)
        · refine lv_iload hx hb dX6_waits_25 (lv_at hl 1 rfl) ?_
          refine lv_bipush (v := iZ 7) hx hb dX6_waits_27 (by decide) ?_
          refine z_icmp_eq (tgt := 65) hx hb dX6_waits_29 (by decide) ⟨by omega, by omega⟩ ⟨by decide, by decide⟩ (fun c_8 => ?_) (fun c_8 => ?_)
          · refine lv_aload_n hx hb dX6_waits_65 rfl (lv_at hl 3 rfl) ?_
            refine lv_iload_n hx hb dX6_waits_66 rfl (lv_at hl 5 rfl) ?_
            refine g_calli (g_runV (i := 111) (As := [.int (iZ ((k : Nat) : Int))]) (rest := []) hx hb hml hown hts hK hst hB (mX6_clocks l θ hθ σ z w hA ho k hk) mv_X6_clocks kw_835 cf6 (by decide) rfl rfl hl.1 rfl (Nat.le_of_ble_eq_true rfl) ⟨by decide, by decide⟩ ⟨Nat.le_refl _, Nat.le_refl _⟩ dX6_waits_67) hB (fun qc σ1 z_9 H locs hqc hpc hB => ?_)
            obtain ⟨hpc, hf, e2_⟩ := hpc
            rw [e2_] at hB
            clear e2_
            have hR := hB.1.2
            obtain ⟨hqc, hch⟩ := hpc
            subst hqc
            refine lv_istore (lv' := [(5, .int (iZ (((dN w k) : Nat) : Int))), (4, .int (iZ (σ 114 (1 + k)))), (3, .int (iZ (((fbA (σ 114) k i) : Nat) : Int))), (0, .ref (tad θ 111)), (1, .ref (tad θ 114)), (2, .int (iZ ((k : Nat) : Int)))]) hx hb dX6_waits_70 hl (by decide) rfl (fun ls hl => ?_)
            refine lv_iconst (v := iZ 0) hx hb dX6_waits_72 rfl ?_
            refine lv_istore (lv' := [(6, .int (iZ 0)), (5, .int (iZ (((dN w k) : Nat) : Int))), (4, .int (iZ (σ 114 (1 + k)))), (3, .int (iZ (((fbA (σ 114) k i) : Nat) : Int))), (0, .ref (tad θ 111)), (1, .ref (tad θ 114)), (2, .int (iZ ((k : Nat) : Int)))]) hx hb dX6_waits_73 hl (by decide) rfl (fun ls hl => ?_)
            have loop75 : ∀ (n75 : Nat) (d : Nat) (a : Nat) (H : Heap) (locs : List Loc) (ls : Array Slot), dN w k - d < n75 → (d ≤ dN w k) → (a = wtA (figS (σ 114) k) w k d) →  gB θ σ1 z s.heap H locs → lv_has ls 7 [(6, .int (iZ ((d : Nat) : Int))), (5, .int (iZ (((dN w k) : Nat) : Int))), (4, .int (iZ (σ 114 (1 + k)))), (3, .int (iZ ((a : Nat) : Int))), (0, .ref (tad θ 111)), (1, .ref (tad θ 114)), (2, .int (iZ ((k : Nat) : Int)))] → W p l e (gRm 2 45) s m args below meth c H locs 0 0 (MQ below (gQi θ (fun q σ' z' => (q = ((wtN (σ 114) w k : Nat) : Int)) ∧ fr w127 σ σ' ∧ z' = z)) args s 0 0 (tA θ)) (F0 m 75 ls []) := by
              intro n75
              induction n75 with
              | zero => intro d a H locs ls hmu; exact absurd hmu (Nat.not_lt_zero _)
              | succ n75 ih75 =>
                intro d a H locs ls hmu hd ha hB hl
                have hR := hB.1.2
                have hlt : a < 256 := by rw [ha]; exact wtA_lt (figS_lt hW hk hn) ho hk hd
                have hd8 := dN_le w k
                refine lv_iload hx hb dX6_waits_75 (lv_at hl 0 rfl) ?_
                refine lv_iload hx hb dX6_waits_77 (lv_at hl 1 rfl) ?_
                refine z_icmp_ge (tgt := 103) hx hb dX6_waits_79 (by decide) ⟨by omega, by omega⟩ ⟨by omega, by omega⟩ (fun c_10 => ?_) (fun c_10 => ?_)
                · refine lv_iload_n hx hb dX6_waits_103 rfl (lv_at hl 3 rfl) ?_
                  exact g_iret hx hb hr hlk hB dX6_waits_104 ⟨by omega, by omega⟩ (⟨by rw [ha, wtN, show d = dN w k by omega], hf, rfl⟩)
                · have hd1 := ho.2.1 _ (xs_lt ho hk d)
                  have hd2 := dN_at (w := w) (s := k) (j := d) (by omega)
                  refine lv_iload_n hx hb dX6_waits_82 rfl (lv_at hl 3 rfl) ?_
                  refine lv_iconst (v := iZ 1) hx hb dX6_waits_83 rfl ?_
                  refine lv_aload_n hx hb dX6_waits_84 rfl (lv_at hl 4 rfl) ?_
                  refine g_getr (k := 24) (j := 127) hx hb hts hown hK hθ hB cf6 (by decide) rfl (by decide) kw_683 rfl rfl dX6_waits_85 ?_
                  refine lv_iload hx hb dX6_waits_88 (lv_at hl 0 rfl) ?_
                  refine g_iald (k := d) hx hb hK hB (by decide) rfl (by omega) (Nat.lt_of_lt_of_eq (by omega : d < 8) (Eq.symm rfl)) (by decide) dX6_waits_90 ?_
                  refine z_top (b := (w.2 (xs w k d))) (hch d (by omega)) ?_
                  refine lv_bipush (v := iZ 10) hx hb dX6_waits_91 (by decide) ?_
                  refine z_idiv hx hb dX6_waits_93 ⟨by omega, by omega⟩ (by omega) ⟨by decide, by decide⟩ (by decide) ?_
                  refine z_top (b := (((w.2 (xs w k d) / 10).toNat : Nat) : Int)) (by omega) ?_
                  refine z_ishl1 (j := (w.2 (xs w k d) / 10).toNat) hx hb (by omega) dX6_waits_94 ?_
                  refine z_ior (a := a) (b := (2 ^ ((w.2 (xs w k d) / 10).toNat))) hx hb dX6_waits_95 ?_
                  refine lv_istore_n (lv' := [(3, .int (iZ (((a ||| (2 ^ ((w.2 (xs w k d) / 10).toNat))) : Nat) : Int))), (6, .int (iZ ((d : Nat) : Int))), (5, .int (iZ (((dN w k) : Nat) : Int))), (4, .int (iZ (σ 114 (1 + k)))), (0, .ref (tad θ 111)), (1, .ref (tad θ 114)), (2, .int (iZ ((k : Nat) : Int)))]) hx hb dX6_waits_96 rfl hl (by decide) rfl (fun ls hl => ?_)
                  refine z_iinc (k := 1) (lv' := [(6, .int (iZ (((d : Nat) : Int) + 1))), (3, .int (iZ (((a ||| (2 ^ ((w.2 (xs w k d) / 10).toNat))) : Nat) : Int))), (5, .int (iZ (((dN w k) : Nat) : Int))), (4, .int (iZ (σ 114 (1 + k)))), (0, .ref (tad θ 111)), (1, .ref (tad θ 114)), (2, .int (iZ ((k : Nat) : Int)))]) hx hb dX6_waits_97 hl rfl (by decide) rfl (fun ls hl => ?_)
                  have hl : lv_has ls 7 [(6, .int (iZ (((d + 1) : Nat) : Int))), (3, .int (iZ (((a ||| (2 ^ ((w.2 (xs w k d) / 10).toNat))) : Nat) : Int))), (5, .int (iZ (((dN w k) : Nat) : Int))), (4, .int (iZ (σ 114 (1 + k)))), (0, .ref (tad θ 111)), (1, .ref (tad θ 114)), (2, .int (iZ ((k : Nat) : Int)))] := by have e9 : (((d : Nat) : Int) + 1) = (((d + 1) : Nat) : Int) := (by omega); rw [e9] at hl; exact hl
                  refine lv_goto (tgt := 75) hx hb dX6_waits_100 (by decide) ?_
                  exact ih75 (d + 1) (a ||| (2 ^ ((w.2 (xs w k d) / 10).toNat))) _ _ _ (by omega) (by omega) (by rw [ha]; rfl) hB (lv_sub hl [0, 2, 3, 1, 4, 5, 6] rfl)
            have hset : fbA (σ 114) k i = figS (σ 114) k := by
              unfold figS
              by_cases h : σ 114 (1 + k) = 6 ∨ σ 114 (1 + k) = 7
              · rw [if_pos h, h67 h]; rfl
              · rw [if_neg h, show i = 3 by omega]
            exact loop75 _ 0 (fbA (σ 114) k i) _ _ _ (Nat.lt_succ_self _) (by omega) hset hB (lv_sub hl [0, 1, 2, 3, 4, 5, 6] rfl)
          · refine lv_aload_n hx hb dX6_waits_32 rfl (lv_at hl 4 rfl) ?_
            refine lv_iload_n hx hb dX6_waits_33 rfl (lv_at hl 5 rfl) ?_
            refine lv_iload hx hb dX6_waits_34 (lv_at hl 0 rfl) ?_
            refine g_calli (g_runS (As := [.ref (tad θ 114), .int (iZ ((k : Nat) : Int)), .int (iZ ((i : Nat) : Int))]) (rest := []) hx hb hml hown hts hK hst hB (mX6_streamOf l θ hθ σ z 114 (Or.inl rfl) k i hk (by omega)) ms_X6_streamOf kw_832 rfl hl.1 rfl (Nat.le_of_ble_eq_true rfl) ⟨by decide, by decide⟩ ⟨Nat.le_refl _, Nat.le_refl _⟩ dX6_waits_36) hB (fun qs σ_11 z_12 H locs hqs hps hB => ?_)
            obtain ⟨hps, e1_, e2_⟩ := hps
            rw [e1_, e2_] at hB
            clear e1_ e2_
            have hs := sO_of hps
            have hin := sO_in hW hk hn (show i < 3 by omega)
            rw [← hs] at hin
            refine lv_istore (lv' := [(6, .int (iZ qs)), (5, .int (iZ ((i : Nat) : Int))), (4, .int (iZ (σ 114 (1 + k)))), (3, .int (iZ (((fbA (σ 114) k i) : Nat) : Int))), (0, .ref (tad θ 111)), (1, .ref (tad θ 114)), (2, .int (iZ ((k : Nat) : Int)))]) hx hb dX6_waits_39 hl (by decide) rfl (fun ls hl => ?_)
            refine lv_iload_n hx hb dX6_waits_41 rfl (lv_at hl 3 rfl) ?_
            refine lv_iload hx hb dX6_waits_42 (lv_at hl 0 rfl) ?_
            refine lv_bipush (v := iZ (-9)) hx hb dX6_waits_44 (by decide) ?_
            refine z_icmp_ne (tgt := 53) hx hb dX6_waits_46 (by decide) ⟨by omega, by omega⟩ ⟨by decide, by decide⟩ (fun c_13 => ?_) (fun c_13 => ?_)
            · refine lv_iconst (v := iZ 1) hx hb dX6_waits_53 rfl ?_
              refine lv_iload hx hb dX6_waits_54 (lv_at hl 0 rfl) ?_
              refine z_top (b := ((qs.toNat : Nat) : Int)) (by omega) ?_
              refine z_ishl1 (j := qs.toNat) hx hb (by omega) dX6_waits_56 ?_
              refine z_ior (a := (fbA (σ 114) k i)) (b := (2 ^ (qs.toNat))) hx hb dX6_waits_57 ?_
              refine z_top (b := (((fbA (σ 114) k (i + 1)) : Nat) : Int)) (by rw [show fbA (σ 114) k (i + 1) = fbA (σ 114) k i ||| fb (σ 114) k i from rfl, fb, if_neg (by omega), ← hs]) ?_
              refine lv_istore_n (lv' := [(3, .int (iZ (((fbA (σ 114) k (i + 1)) : Nat) : Int))), (6, .int (iZ qs)), (5, .int (iZ ((i : Nat) : Int))), (4, .int (iZ (σ 114 (1 + k)))), (0, .ref (tad θ 111)), (1, .ref (tad θ 114)), (2, .int (iZ ((k : Nat) : Int)))]) hx hb dX6_waits_58 rfl hl (by decide) rfl (fun ls hl => ?_)
              refine z_iinc (k := 2) (lv' := [(5, .int (iZ (((i : Nat) : Int) + 1))), (3, .int (iZ (((fbA (σ 114) k (i + 1)) : Nat) : Int))), (6, .int (iZ qs)), (4, .int (iZ (σ 114 (1 + k)))), (0, .ref (tad θ 111)), (1, .ref (tad θ 114)), (2, .int (iZ ((k : Nat) : Int)))]) hx hb dX6_waits_59 hl rfl (by decide) rfl (fun ls hl => ?_)
              have hl : lv_has ls 7 [(5, .int (iZ (((i + 1) : Nat) : Int))), (3, .int (iZ (((fbA (σ 114) k (i + 1)) : Nat) : Int))), (6, .int (iZ qs)), (4, .int (iZ (σ 114 (1 + k)))), (0, .ref (tad θ 111)), (1, .ref (tad θ 114)), (2, .int (iZ ((k : Nat) : Int)))] := by have e9 : (((i : Nat) : Int) + 1) = (((i + 1) : Nat) : Int) := (by omega); rw [e9] at hl; exact hl
              refine lv_goto (tgt := 12) hx hb dX6_waits_62 (by decide) ?_
              exact ih12 (i + 1) _ _ _ (by omega) (by omega) (fun h => by omega) hB (lv_sub hl [0, 3, 1, 4, 5, 6] rfl)
            · refine lv_iconst (v := iZ 0) hx hb dX6_waits_49 rfl ?_
              refine lv_goto (tgt := 57) hx hb dX6_waits_50 (by decide) ?_
              refine z_ior (a := (fbA (σ 114) k i)) (b := 0) hx hb dX6_waits_57 ?_
              refine z_top (b := (((fbA (σ 114) k (i + 1)) : Nat) : Int)) (by rw [show fbA (σ 114) k (i + 1) = fbA (σ 114) k i ||| fb (σ 114) k i from rfl, fb, if_pos (by omega)]) ?_
              refine lv_istore_n (lv' := [(3, .int (iZ (((fbA (σ 114) k (i + 1)) : Nat) : Int))), (6, .int (iZ qs)), (5, .int (iZ ((i : Nat) : Int))), (4, .int (iZ (σ 114 (1 + k)))), (0, .ref (tad θ 111)), (1, .ref (tad θ 114)), (2, .int (iZ ((k : Nat) : Int)))]) hx hb dX6_waits_58 rfl hl (by decide) rfl (fun ls hl => ?_)
              refine z_iinc (k := 2) (lv' := [(5, .int (iZ (((i : Nat) : Int) + 1))), (3, .int (iZ (((fbA (σ 114) k (i + 1)) : Nat) : Int))), (6, .int (iZ qs)), (4, .int (iZ (σ 114 (1 + k)))), (0, .ref (tad θ 111)), (1, .ref (tad θ 114)), (2, .int (iZ ((k : Nat) : Int)))]) hx hb dX6_waits_59 hl rfl (by decide) rfl (fun ls hl => ?_)
              have hl : lv_has ls 7 [(5, .int (iZ (((i + 1) : Nat) : Int))), (3, .int (iZ (((fbA (σ 114) k (i + 1)) : Nat) : Int))), (6, .int (iZ qs)), (4, .int (iZ (σ 114 (1 + k)))), (0, .ref (tad θ 111)), (1, .ref (tad θ 114)), (2, .int (iZ ((k : Nat) : Int)))] := by have e9 : (((i : Nat) : Int) + 1) = (((i + 1) : Nat) : Int) := (by omega); rw [e9] at hl; exact hl
              refine lv_goto (tgt := 12) hx hb dX6_waits_62 (by decide) ?_
              exact ih12 (i + 1) _ _ _ (by omega) (by omega) (fun h => by omega) hB (lv_sub hl [0, 3, 1, 4, 5, 6] rfl)
  exact loop12 _ 0 _ _ _ (Nat.lt_succ_self _) (by omega) (fun _ => rfl) hB (lv_sub hl [0, 1, 2, 3, 4, 5] rfl)
