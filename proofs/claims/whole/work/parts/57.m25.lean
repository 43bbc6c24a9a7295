set_option maxHeartbeats 4000000 in
set_option maxRecDepth 100000 in
theorem mX2_settle (l : Launch) (θ : gT) (hθ : gOK θ) (σ : gS) (z : gZ) (w : mC) (hA : cA σ w) (ho : cOK w) (N : Nat) (hn : cON w N) (hc : σ 13 3 = (N : Int)) (hN8 : N ≤ 8) : GV l θ yX2_settle cX2_settle 4 1 21 [.ref (tad θ 13)] σ z (fun σ' z' => ((∀ k, k < N → σ' 16 k = stC w k) ∧ ∀ k, k < N → σ' 17 k = ((dCr (stC w) 8 k : Nat) : Int)) ∧ fr wSt σ σ' ∧ z' = z) := by
  refine g_enter (ret := none) (by decide +kernel) (Nat.le_of_ble_eq_true rfl) ?_
  intro p e s m args below meth c ls F hB hl
  obtain ⟨hx, hb, hr, hml, hown, hts, hlk, hK, hst⟩ := F
  have hR := hB.1.2
  have hl : lv_has ls 4 [(0, .ref (tad θ 13))] := hl
  have hsk := stC_ok ho hN8 hn
  refine lv_iconst (v := iZ 0) hx hb dX2_settle_0 rfl ?_
  refine lv_istore_n (lv' := [(1, .int (iZ 0)), (0, .ref (tad θ 13))]) hx hb dX2_settle_1 rfl hl (by decide) rfl (fun ls hl => ?_)
  have loop2 : ∀ (n2 : Nat) (i : Nat) (σ1 : gS) (H : Heap) (locs : List Loc) (ls : Array Slot), N - i < n2 → (i ≤ N) → (∀ k, k < i → σ1 16 k = stC w k) → (fr wSt σ σ1) →  gB θ σ1 z s.heap H locs → lv_has ls 4 [(1, .int (iZ ((i : Nat) : Int))), (0, .ref (tad θ 13))] → W p l e (gRm 1 21) s m args below meth c H locs 0 0 (MQ below (gQv θ (fun σ' z' => ((∀ k, k < N → σ' 16 k = stC w k) ∧ ∀ k, k < N → σ' 17 k = ((dCr (stC w) 8 k : Nat) : Int)) ∧ fr wSt σ σ' ∧ z' = z)) args s 0 0 (tA θ)) (F0 m 2 ls []) := by
    intro n2
    induction n2 with
    | zero => intro i σ1 H locs ls hmu; exact absurd hmu (Nat.not_lt_zero _)
    | succ n2 ih2 =>
      intro i σ1 H locs ls hmu hi h1 hf1 hB hl
      have hR := hB.1.2
      have hc1 : σ1 13 3 = (N : Int) := by rw [hf1 13 3 rfl]; exact hc
      refine lv_iload_n hx hb dX2_settle_2 rfl (lv_at hl 0 rfl) ?_
      refine lv_aload_n hx hb dX2_settle_3 rfl (lv_at hl 1 rfl) ?_
      refine g_geti (k := 3) hx hb hts hown hK hB cf2 (by decide) rfl (by decide) kw_85 rfl dX2_settle_4 ?_
      refine z_top (b := ((N : Nat) : Int)) (hc1) ?_
      refine z_icmp_ge (tgt := 53) hx hb dX2_settle_7 (by decide) ⟨by omega, by omega⟩ ⟨by omega, by omega⟩ (fun c_1 => ?_) (fun c_1 => ?_)
      · refine lv_iconst (v := iZ 0) hx hb dX2_settle_53 rfl ?_
        refine lv_istore_n (lv' := [(1, .int (iZ 0)), (0, .ref (tad θ 13))]) hx hb dX2_settle_54 rfl hl (by decide) rfl (fun ls hl => ?_)
        have loop55 : ∀ (n55 : Nat) (j : Nat) (σ3 : gS) (H : Heap) (locs : List Loc) (ls : Array Slot), N - j < n55 → (j ≤ N) → (∀ k, k < N → σ3 16 k = stC w k) → (∀ k, k < j → σ3 17 k = ((dCr (stC w) 8 k : Nat) : Int)) → (fr wSt σ σ3) →  gB θ σ3 z s.heap H locs → lv_has ls 4 [(1, .int (iZ ((j : Nat) : Int))), (0, .ref (tad θ 13))] → W p l e (gRm 1 21) s m args below meth c H locs 0 0 (MQ below (gQv θ (fun σ' z' => ((∀ k, k < N → σ' 16 k = stC w k) ∧ ∀ k, k < N → σ' 17 k = ((dCr (stC w) 8 k : Nat) : Int)) ∧ fr wSt σ σ' ∧ z' = z)) args s 0 0 (tA θ)) (F0 m 55 ls []) := by
          intro n55
          induction n55 with
          | zero => intro j σ3 H locs ls hmu; exact absurd hmu (Nat.not_lt_zero _)
          | succ n55 ih55 =>
            intro j σ3 H locs ls hmu hj h3 h4 hf3 hB hl
            have hR := hB.1.2
            have hc3 : σ3 13 3 = (N : Int) := by rw [hf3 13 3 rfl]; exact hc
            refine lv_iload_n hx hb dX2_settle_55 rfl (lv_at hl 0 rfl) ?_
            refine lv_aload_n hx hb dX2_settle_56 rfl (lv_at hl 1 rfl) ?_
            refine g_geti (k := 3) hx hb hts hown hK hB cf2 (by decide) rfl (by decide) kw_85 rfl dX2_settle_57 ?_
            refine z_top (b := ((N : Nat) : Int)) (hc3) ?_
            refine z_icmp_ge (tgt := 111) hx hb dX2_settle_60 (by decide) ⟨by omega, by omega⟩ ⟨by omega, by omega⟩ (fun c_2 => ?_) (fun c_2 => ?_)
            · exact g_vret hx hb hr hlk hB dX2_settle_111 (⟨⟨h3, fun k h => h4 k (by omega)⟩, hf3, rfl⟩)
            · refine lv_iconst (v := iZ 0) hx hb dX2_settle_63 rfl ?_
              refine lv_istore_n (lv' := [(2, .int (iZ 0)), (1, .int (iZ ((j : Nat) : Int))), (0, .ref (tad θ 13))]) hx hb dX2_settle_64 rfl hl (by decide) rfl (fun ls hl => ?_)
              refine lv_iload_n hx hb dX2_settle_65 rfl (lv_at hl 1 rfl) ?_
              refine lv_istore_n (lv' := [(3, .int (iZ ((j : Nat) : Int))), (2, .int (iZ 0)), (1, .int (iZ ((j : Nat) : Int))), (0, .ref (tad θ 13))]) hx hb dX2_settle_66 rfl hl (by decide) rfl (fun ls hl => ?_)
              have loop67 : ∀ (n67 : Nat) (t : Nat) (r : Nat) (H : Heap) (locs : List Loc) (ls : Array Slot), 8 - t < n67 → (r < N) → (t ≤ 8) → (t + dCr (stC w) (8 - t) r = dCr (stC w) 8 j) →  gB θ σ3 z s.heap H locs → lv_has ls 4 [(3, .int (iZ ((r : Nat) : Int))), (2, .int (iZ ((t : Nat) : Int))), (1, .int (iZ ((j : Nat) : Int))), (0, .ref (tad θ 13))] → W p l e (gRm 1 21) s m args below meth c H locs 0 0 (MQ below (gQv θ (fun σ' z' => ((∀ k, k < N → σ' 16 k = stC w k) ∧ ∀ k, k < N → σ' 17 k = ((dCr (stC w) 8 k : Nat) : Int)) ∧ fr wSt σ σ' ∧ z' = z)) args s 0 0 (tA θ)) (F0 m 67 ls []) := by
                intro n67
                induction n67 with
                | zero => intro t r H locs ls hmu; exact absurd hmu (Nat.not_lt_zero _)
                | succ n67 ih67 =>
                  intro t r H locs ls hmu hr ht htr hB hl
                  have hR := hB.1.2
                  have hsr := hsk r hr
                  refine lv_iload_n hx hb dX2_settle_67 rfl (lv_at hl 1 rfl) ?_
                  refine lv_bipush (v := iZ 8) hx hb dX2_settle_68 (by decide) ?_
                  refine z_icmp_ge (tgt := 98) hx hb dX2_settle_70 (by decide) ⟨by omega, by omega⟩ ⟨by decide, by decide⟩ (fun c_3 => ?_) (fun c_3 => ?_)
                  · have hdn : dCr (stC w) 8 j = t := by have h9 := htr; rw [show 8 - t = 0 by omega] at h9; exact h9.symm
                    refine lv_aload_n hx hb dX2_settle_98 rfl (lv_at hl 3 rfl) ?_
                    refine g_getr (k := 7) (j := 17) hx hb hts hown hK hθ hB cf2 (by decide) rfl (by decide) kw_91 rfl rfl dX2_settle_99 ?_
                    refine lv_iload_n hx hb dX2_settle_102 rfl (lv_at hl 2 rfl) ?_
                    refine lv_iload_n hx hb dX2_settle_103 rfl (lv_at hl 1 rfl) ?_
                    refine g_iast (k := j) hx hb hK hθ hB (by decide) rfl (by omega) (Nat.lt_of_lt_of_eq (by omega : j < 8) (Eq.symm rfl)) (by decide) ⟨by omega, by omega⟩ dX2_settle_104 (fun H locs hB => ?_)
                    obtain ⟨σ4, hσ4⟩ : ∃ x_ : gS, x_ = up2 σ3 17 j ((t : Nat) : Int) := ⟨_, rfl⟩
                    rw [← hσ4] at hB
                    have hR := hB.1.2
                    refine z_iinc (k := 2) (lv' := [(1, .int (iZ (((j : Nat) : Int) + 1))), (3, .int (iZ ((r : Nat) : Int))), (2, .int (iZ ((t : Nat) : Int))), (0, .ref (tad θ 13))]) hx hb dX2_settle_105 hl rfl (by decide) rfl (fun ls hl => ?_)
                    have hl : lv_has ls 4 [(1, .int (iZ (((j + 1) : Nat) : Int))), (3, .int (iZ ((r : Nat) : Int))), (2, .int (iZ ((t : Nat) : Int))), (0, .ref (tad θ 13))] := by have e9 : (((j : Nat) : Int) + 1) = (((j + 1) : Nat) : Int) := (by omega); rw [e9] at hl; exact hl
                    refine lv_goto (tgt := 55) hx hb dX2_settle_108 (by decide) ?_
                    exact ih55 (j + 1) σ4 _ _ _ (by omega) (by omega) (fun k h => by rw [hσ4, up2_c _ _ (by decide)]; exact h3 k h) (lt_s (fun k h => by rw [hσ4, up2_k _ _ (by omega)]; exact h4 k h) (by rw [hσ4, up2_eq, hdn])) (by rw [hσ4]; exact hf3.tr (fr.up rfl)) hB (lv_sub hl [0, 3] rfl)
                  · refine lv_aload_n hx hb dX2_settle_73 rfl (lv_at hl 3 rfl) ?_
                    refine g_getr (k := 6) (j := 16) hx hb hts hown hK hθ hB cf2 (by decide) rfl (by decide) kw_88 rfl rfl dX2_settle_74 ?_
                    refine lv_iload_n hx hb dX2_settle_77 rfl (lv_at hl 0 rfl) ?_
                    refine g_iald (k := r) hx hb hK hB (by decide) rfl (by omega) (Nat.lt_of_lt_of_eq (by omega : r < 8) (Eq.symm rfl)) (by decide) dX2_settle_78 ?_
                    refine z_top (b := (stC w r)) (h3 r hr) ?_
                    refine z_if_lt (tgt := 98) hx hb dX2_settle_79 (by decide) ⟨by omega, by omega⟩ (fun c_4 => ?_) (fun c_4 => ?_)
                    · have hdn : dCr (stC w) 8 j = t := by rw [dCr_neg (by omega)] at htr; omega
                      refine lv_aload_n hx hb dX2_settle_98 rfl (lv_at hl 3 rfl) ?_
                      refine g_getr (k := 7) (j := 17) hx hb hts hown hK hθ hB cf2 (by decide) rfl (by decide) kw_91 rfl rfl dX2_settle_99 ?_
                      refine lv_iload_n hx hb dX2_settle_102 rfl (lv_at hl 2 rfl) ?_
                      refine lv_iload_n hx hb dX2_settle_103 rfl (lv_at hl 1 rfl) ?_
                      refine g_iast (k := j) hx hb hK hθ hB (by decide) rfl (by omega) (Nat.lt_of_lt_of_eq (by omega : j < 8) (Eq.symm rfl)) (by decide) ⟨by omega, by omega⟩ dX2_settle_104 (fun H locs hB => ?_)
                      obtain ⟨σ4, hσ4⟩ : ∃ x_ : gS, x_ = up2 σ3 17 j ((t : Nat) : Int) := ⟨_, rfl⟩
                      rw [← hσ4] at hB
                      have hR := hB.1.2
                      refine z_iinc (k := 2) (lv' := [(1, .int (iZ (((j : Nat) : Int) + 1))), (3, .int (iZ ((r : Nat) : Int))), (2, .int (iZ ((t : Nat) : Int))), (0, .ref (tad θ 13))]) hx hb dX2_settle_105 hl rfl (by decide) rfl (fun ls hl => ?_)
                      have hl : lv_has ls 4 [(1, .int (iZ (((j + 1) : Nat) : Int))), (3, .int (iZ ((r : Nat) : Int))), (2, .int (iZ ((t : Nat) : Int))), (0, .ref (tad θ 13))] := by have e9 : (((j : Nat) : Int) + 1) = (((j + 1) : Nat) : Int) := (by omega); rw [e9] at hl; exact hl
                      refine lv_goto (tgt := 55) hx hb dX2_settle_108 (by decide) ?_
                      exact ih55 (j + 1) σ4 _ _ _ (by omega) (by omega) (fun k h => by rw [hσ4, up2_c _ _ (by decide)]; exact h3 k h) (lt_s (fun k h => by rw [hσ4, up2_k _ _ (by omega)]; exact h4 k h) (by rw [hσ4, up2_eq, hdn])) (by rw [hσ4]; exact hf3.tr (fr.up rfl)) hB (lv_sub hl [0, 3] rfl)
                    · refine lv_aload_n hx hb dX2_settle_82 rfl (lv_at hl 3 rfl) ?_
                      refine g_getr (k := 6) (j := 16) hx hb hts hown hK hθ hB cf2 (by decide) rfl (by decide) kw_88 rfl rfl dX2_settle_83 ?_
                      refine lv_iload_n hx hb dX2_settle_86 rfl (lv_at hl 0 rfl) ?_
                      refine g_iald (k := r) hx hb hK hB (by decide) rfl (by omega) (Nat.lt_of_lt_of_eq (by omega : r < 8) (Eq.symm rfl)) (by decide) dX2_settle_87 ?_
                      refine z_top (b := (stC w r)) (h3 r hr) ?_
                      refine g_calli (g_runSN (As := [.int (iZ (stC w r))]) (rest := []) hx hb hml hown hts hK hst hB (mX5_streamOf l θ hθ σ3 z (stC w r) (by omega) (show rg _ from ⟨by omega, by omega⟩)) ms_X5_streamOf hst.2.2.2.2.2.1 rfl hl.1 rfl (Nat.le_of_ble_eq_true rfl) ⟨by decide, by decide⟩ ⟨Nat.le_refl _, Nat.le_refl _⟩ dX2_settle_88) hB (fun q_7 σ_5 z_6 H locs hq_7 pq_7 hB => ?_)
                      obtain ⟨pq_7, e1_, e2_⟩ := pq_7
                      rw [e1_, e2_] at hB
                      clear e1_ e2_
                      subst pq_7
                      refine z_top (b := (((sN (stC w) r) : Nat) : Int)) (by rw [spZ_in (by omega), sN_pos (by omega)]; omega) ?_
                      refine lv_istore_n (lv' := [(3, .int (iZ (((sN (stC w) r) : Nat) : Int))), (2, .int (iZ ((t : Nat) : Int))), (1, .int (iZ ((j : Nat) : Int))), (0, .ref (tad θ 13))]) hx hb dX2_settle_91 rfl hl (by decide) rfl (fun ls hl => ?_)
                      refine z_iinc (k := 1) (lv' := [(2, .int (iZ (((t : Nat) : Int) + 1))), (3, .int (iZ (((sN (stC w) r) : Nat) : Int))), (1, .int (iZ ((j : Nat) : Int))), (0, .ref (tad θ 13))]) hx hb dX2_settle_92 hl rfl (by decide) rfl (fun ls hl => ?_)
                      have hl : lv_has ls 4 [(2, .int (iZ (((t + 1) : Nat) : Int))), (3, .int (iZ (((sN (stC w) r) : Nat) : Int))), (1, .int (iZ ((j : Nat) : Int))), (0, .ref (tad θ 13))] := by have e9 : (((t : Nat) : Int) + 1) = (((t + 1) : Nat) : Int) := (by omega); rw [e9] at hl; exact hl
                      refine lv_goto (tgt := 67) hx hb dX2_settle_95 (by decide) ?_
                      exact ih67 (t + 1) (sN (stC w) r) _ _ _ (by omega) (sN_lt hsk hr) (by omega) (by have e9 := dCr_step (S := stC w) (f := 8 - (t + 1)) (x := r) (by omega); rw [show 8 - (t + 1) + 1 = 8 - t by omega] at e9; omega) hB (lv_sub hl [1, 0, 2, 3] rfl)
              exact loop67 _ 0 j _ _ _ (Nat.lt_succ_self _) (by omega) (by omega) (by rw [Nat.zero_add]) hB (lv_sub hl [0, 1, 2, 3] rfl)
        exact loop55 _ 0 σ1 _ _ _ (Nat.lt_succ_self _) (by omega) (fun k h => h1 k (by omega)) (fun k h => absurd h (Nat.not_lt_zero _)) hf1 hB (lv_sub hl [0, 1] rfl)
      · refine lv_aload_n hx hb dX2_settle_10 rfl (lv_at hl 1 rfl) ?_
        refine g_getr (k := 6) (j := 16) hx hb hts hown hK hθ hB cf2 (by decide) rfl (by decide) kw_88 rfl rfl dX2_settle_11 ?_
        refine lv_iload_n hx hb dX2_settle_14 rfl (lv_at hl 0 rfl) ?_
        refine lv_aload_n hx hb dX2_settle_15 rfl (lv_at hl 1 rfl) ?_
        refine g_getr (k := 5) (j := 15) hx hb hts hown hK hθ hB cf2 (by decide) rfl (by decide) kw_87 rfl rfl dX2_settle_16 ?_
        refine lv_aload_n hx hb dX2_settle_19 rfl (lv_at hl 1 rfl) ?_
        refine g_getr (k := 4) (j := 14) hx hb hts hown hK hθ hB cf2 (by decide) rfl (by decide) kw_86 rfl rfl dX2_settle_20 ?_
        refine lv_iload_n hx hb dX2_settle_23 rfl (lv_at hl 0 rfl) ?_
        refine g_iald (k := i) hx hb hK hB (by decide) rfl (by omega) (Nat.lt_of_lt_of_eq (by omega : i < 8) (Eq.symm rfl)) (by decide) dX2_settle_24 ?_
        refine z_top (b := (((w.1 i) : Nat) : Int)) (by rw [hf1 14 _ rfl]; exact (hA i (by omega)).1.1) ?_
        have hgi := (hA i (by omega)).1.2
        refine g_iald (k := (w.1 i)) hx hb hK hB (by decide) rfl (by omega) (Nat.lt_of_lt_of_eq (by omega : (w.1 i) < 8) (Eq.symm rfl)) (by decide) dX2_settle_25 ?_
        refine z_top (b := (w.2 (w.1 i))) (by rw [hf1 15 _ rfl]; exact (hA _ hgi).2) ?_
        have hbi := (ho _ hgi).2
        refine lv_iconst (v := iZ (-1)) hx hb dX2_settle_26 rfl ?_
        refine z_icmp_ne (tgt := 35) hx hb dX2_settle_27 (by decide) ⟨by omega, by omega⟩ ⟨by decide, by decide⟩ (fun c_8 => ?_) (fun c_8 => ?_)
        · refine lv_aload_n hx hb dX2_settle_35 rfl (lv_at hl 1 rfl) ?_
          refine g_getr (k := 5) (j := 15) hx hb hts hown hK hθ hB cf2 (by decide) rfl (by decide) kw_87 rfl rfl dX2_settle_36 ?_
          refine lv_aload_n hx hb dX2_settle_39 rfl (lv_at hl 1 rfl) ?_
          refine g_getr (k := 4) (j := 14) hx hb hts hown hK hθ hB cf2 (by decide) rfl (by decide) kw_86 rfl rfl dX2_settle_40 ?_
          refine lv_iload_n hx hb dX2_settle_43 rfl (lv_at hl 0 rfl) ?_
          refine g_iald (k := i) hx hb hK hB (by decide) rfl (by omega) (Nat.lt_of_lt_of_eq (by omega : i < 8) (Eq.symm rfl)) (by decide) dX2_settle_44 ?_
          refine z_top (b := (((w.1 i) : Nat) : Int)) (by rw [hf1 14 _ rfl]; exact (hA i (by omega)).1.1) ?_
          refine g_iald (k := (w.1 i)) hx hb hK hB (by decide) rfl (by omega) (Nat.lt_of_lt_of_eq (by omega : (w.1 i) < 8) (Eq.symm rfl)) (by decide) dX2_settle_45 ?_
          refine z_top (b := (w.2 (w.1 i))) (by rw [hf1 15 _ rfl]; exact (hA _ hgi).2) ?_
          refine g_iast (k := i) hx hb hK hθ hB (by decide) rfl (by omega) (Nat.lt_of_lt_of_eq (by omega : i < 8) (Eq.symm rfl)) (by decide) ⟨by omega, by omega⟩ dX2_settle_46 (fun H locs hB => ?_)
          obtain ⟨σ2, hσ2⟩ : ∃ x_ : gS, x_ = up2 σ1 16 i (w.2 (w.1 i)) := ⟨_, rfl⟩
          rw [← hσ2] at hB
          have hR := hB.1.2
          refine z_iinc (k := 0) (lv' := [(1, .int (iZ (((i : Nat) : Int) + 1))), (0, .ref (tad θ 13))]) hx hb dX2_settle_47 hl rfl (by decide) rfl (fun ls hl => ?_)
          have hl : lv_has ls 4 [(1, .int (iZ (((i + 1) : Nat) : Int))), (0, .ref (tad θ 13))] := by have e9 : (((i : Nat) : Int) + 1) = (((i + 1) : Nat) : Int) := (by omega); rw [e9] at hl; exact hl
          refine lv_goto (tgt := 2) hx hb dX2_settle_50 (by decide) ?_
          exact ih2 (i + 1) σ2 _ _ _ (by omega) (by omega) (lt_s (fun k h => by rw [hσ2, up2_k _ _ (by omega)]; exact h1 k h) (by rw [hσ2, up2_eq, stC, if_neg (by omega)])) (by rw [hσ2]; exact hf1.tr (fr.up rfl)) hB (lv_sub hl [0, 1] rfl)
        · refine lv_bipush (v := iZ (-2)) hx hb dX2_settle_30 (by decide) ?_
          refine lv_goto (tgt := 46) hx hb dX2_settle_32 (by decide) ?_
          refine g_iast (k := i) hx hb hK hθ hB (by decide) rfl (by omega) (Nat.lt_of_lt_of_eq (by omega : i < 8) (Eq.symm rfl)) (by decide) ⟨by decide, by decide⟩ dX2_settle_46 (fun H locs hB => ?_)
          obtain ⟨σ2, hσ2⟩ : ∃ x_ : gS, x_ = up2 σ1 16 i (-2) := ⟨_, rfl⟩
          rw [← hσ2] at hB
          have hR := hB.1.2
          refine z_iinc (k := 0) (lv' := [(1, .int (iZ (((i : Nat) : Int) + 1))), (0, .ref (tad θ 13))]) hx hb dX2_settle_47 hl rfl (by decide) rfl (fun ls hl => ?_)
          have hl : lv_has ls 4 [(1, .int (iZ (((i + 1) : Nat) : Int))), (0, .ref (tad θ 13))] := by have e9 : (((i : Nat) : Int) + 1) = (((i + 1) : Nat) : Int) := (by omega); rw [e9] at hl; exact hl
          refine lv_goto (tgt := 2) hx hb dX2_settle_50 (by decide) ?_
          exact ih2 (i + 1) σ2 _ _ _ (by omega) (by omega) (lt_s (fun k h => by rw [hσ2, up2_k _ _ (by omega)]; exact h1 k h) (by rw [hσ2, up2_eq, stC, if_pos (by omega)])) (by rw [hσ2]; exact hf1.tr (fr.up rfl)) hB (lv_sub hl [0, 1] rfl)
  exact loop2 _ 0 σ _ _ _ (Nat.lt_succ_self _) (by omega) (fun k h => absurd h (Nat.not_lt_zero _)) fr.rf hB (lv_sub hl [0, 1] rfl)
set_option maxHeartbeats 4000000 in
set_option maxRecDepth 100000 in
theorem mX2_clockAt (l : Launch) (θ : gT) (hθ : gOK θ) (σ : gS) (z : gZ) (S : Nat → Int) (N : Nat) (hS : sOK S N) (h16 : ∀ k, k < N → σ 16 k = S k) (hN8 : N ≤ 8) (h17 : ∀ k, k < N → σ 17 k = ((dCr S 8 k : Nat) : Int)) (s0 d : Nat) (hs : s0 < N) (hd : d < dCr S 8 s0) : GI l θ yX2_clockAt cX2_clockAt 5 (some .int) 1 21 [.ref (tad θ 13), .int (iZ ((s0 : Nat) : Int)), .int (iZ ((d : Nat) : Int))] σ z (fun q σ' z' => (q = S (itr (sN S) (dCr S 8 s0 - 1 - d) s0)) ∧ σ' = σ ∧ z' = z) := by
  refine g_enter (ret := (some .int)) (by decide +kernel) (Nat.le_of_ble_eq_true rfl) ?_
  intro p e s m args below meth c ls F hB hl
  obtain ⟨hx, hb, hr, hml, hown, hts, hlk, hK, hst⟩ := F
  have hR := hB.1.2
  have hl : lv_has ls 5 [(0, .ref (tad θ 13)), (1, .int (iZ ((s0 : Nat) : Int))), (2, .int (iZ ((d : Nat) : Int)))] := hl
  have hd8 := dCr_le S 8 s0
  refine lv_iload_n hx hb dX2_clockAt_0 rfl (lv_at hl 1 rfl) ?_
  refine lv_istore_n (lv' := [(3, .int (iZ ((s0 : Nat) : Int))), (0, .ref (tad θ 13)), (1, .int (iZ ((s0 : Nat) : Int))), (2, .int (iZ ((d : Nat) : Int)))]) hx hb dX2_clockAt_1 rfl hl (by decide) rfl (fun ls hl => ?_)
  refine lv_aload_n hx hb dX2_clockAt_2 rfl (lv_at hl 1 rfl) ?_
  refine g_getr (k := 7) (j := 17) hx hb hts hown hK hθ hB cf2 (by decide) rfl (by decide) kw_91 rfl rfl dX2_clockAt_3 ?_
  refine lv_iload_n hx hb dX2_clockAt_6 rfl (lv_at hl 2 rfl) ?_
  refine g_iald (k := s0) hx hb hK hB (by decide) rfl (by omega) (Nat.lt_of_lt_of_eq (by omega : s0 < 8) (Eq.symm rfl)) (by decide) dX2_clockAt_7 ?_
  refine z_top (b := (((dCr S 8 s0) : Nat) : Int)) (h17 s0 hs) ?_
  refine lv_iconst (v := iZ 1) hx hb dX2_clockAt_8 rfl ?_
  refine z_isub hx hb dX2_clockAt_9 ?_
  refine z_top (b := (((dCr S 8 s0 : Nat) : Int) - 1 - ((0 : Nat) : Int))) (by omega) ?_
  refine lv_istore (lv' := [(4, .int (iZ (((dCr S 8 s0 : Nat) : Int) - 1 - ((0 : Nat) : Int)))), (3, .int (iZ ((s0 : Nat) : Int))), (0, .ref (tad θ 13)), (1, .int (iZ ((s0 : Nat) : Int))), (2, .int (iZ ((d : Nat) : Int)))]) hx hb dX2_clockAt_10 hl (by decide) rfl (fun ls hl => ?_)
  have loop12 : ∀ (n12 : Nat) (r : Nat) (j : Nat) (H : Heap) (locs : List Loc) (ls : Array Slot), 8 - j < n12 → (r < N) → (j ≤ dCr S 8 s0 - 1 - d) → (r = itr (sN S) j s0) →  gB θ σ z s.heap H locs → lv_has ls 5 [(4, .int (iZ (((dCr S 8 s0 : Nat) : Int) - 1 - ((j : Nat) : Int)))), (3, .int (iZ ((r : Nat) : Int))), (0, .ref (tad θ 13)), (1, .int (iZ ((s0 : Nat) : Int))), (2, .int (iZ ((d : Nat) : Int)))] → W p l e (gRm 1 21) s m args below meth c H locs 0 0 (MQ below (gQi θ (fun q σ' z' => (q = S (itr (sN S) (dCr S 8 s0 - 1 - d) s0)) ∧ σ' = σ ∧ z' = z)) args s 0 0 (tA θ)) (F0 m 12 ls []) := by
    intro n12
    induction n12 with
    | zero => intro r j H locs ls hmu; exact absurd hmu (Nat.not_lt_zero _)
    | succ n12 ih12 =>
      intro r j H locs ls hmu hrN hj hrj hB hl
      have hR := hB.1.2
      have hsr := hS r hrN
      refine lv_iload hx hb dX2_clockAt_12 (lv_at hl 0 rfl) ?_
      refine lv_iload_n hx hb dX2_clockAt_14 rfl (lv_at hl 4 rfl) ?_
      refine z_icmp_le (tgt := 43) hx hb dX2_clockAt_15 (by decide) ⟨by omega, by omega⟩ ⟨by omega, by omega⟩ (fun c_1 => ?_) (fun c_1 => ?_)
      · refine lv_aload_n hx hb dX2_clockAt_43 rfl (lv_at hl 2 rfl) ?_
        refine g_getr (k := 6) (j := 16) hx hb hts hown hK hθ hB cf2 (by decide) rfl (by decide) kw_88 rfl rfl dX2_clockAt_44 ?_
        refine lv_iload_n hx hb dX2_clockAt_47 rfl (lv_at hl 1 rfl) ?_
        refine g_iald (k := r) hx hb hK hB (by decide) rfl (by omega) (Nat.lt_of_lt_of_eq (by omega : r < 8) (Eq.symm rfl)) (by decide) dX2_clockAt_48 ?_
        refine z_top (b := (S r)) (h16 r hrN) ?_
        exact g_iret hx hb hr hlk hB dX2_clockAt_49 ⟨by omega, by omega⟩ (⟨by rw [hrj, show j = dCr S 8 s0 - 1 - d by omega], rfl, rfl⟩)
      · refine lv_aload_n hx hb dX2_clockAt_18 rfl (lv_at hl 2 rfl) ?_
        refine g_getr (k := 6) (j := 16) hx hb hts hown hK hθ hB cf2 (by decide) rfl (by decide) kw_88 rfl rfl dX2_clockAt_19 ?_
        refine lv_iload_n hx hb dX2_clockAt_22 rfl (lv_at hl 1 rfl) ?_
        refine g_iald (k := r) hx hb hK hB (by decide) rfl (by omega) (Nat.lt_of_lt_of_eq (by omega : r < 8) (Eq.symm rfl)) (by decide) dX2_clockAt_23 ?_
        refine z_top (b := (S r)) (h16 r hrN) ?_
        refine z_if_lt (tgt := 43) hx hb dX2_clockAt_24 (by decide) ⟨by omega, by omega⟩ (fun c_2 => ?_) (fun c_2 => ?_)
        · refine lv_aload_n hx hb dX2_clockAt_43 rfl (lv_at hl 2 rfl) ?_
          refine g_getr (k := 6) (j := 16) hx hb hts hown hK hθ hB cf2 (by decide) rfl (by decide) kw_88 rfl rfl dX2_clockAt_44 ?_
          refine lv_iload_n hx hb dX2_clockAt_47 rfl (lv_at hl 1 rfl) ?_
          refine g_iald (k := r) hx hb hK hB (by decide) rfl (by omega) (Nat.lt_of_lt_of_eq (by omega : r < 8) (Eq.symm rfl)) (by decide) dX2_clockAt_48 ?_
          refine z_top (b := (S r)) (h16 r hrN) ?_
          exact g_iret hx hb hr hlk hB dX2_clockAt_49 ⟨by omega, by omega⟩ (⟨by rw [itr_fix' (f := sN S) (j := j) (k := dCr S 8 s0 - 1 - d) (s := s0) (by rw [← hrj]; exact sN_end (by omega)) hj, ← hrj], rfl, rfl⟩)
        · refine lv_aload_n hx hb dX2_clockAt_27 rfl (lv_at hl 2 rfl) ?_
          refine g_getr (k := 6) (j := 16) hx hb hts hown hK hθ hB cf2 (by decide) rfl (by decide) kw_88 rfl rfl dX2_clockAt_28 ?_
          refine lv_iload_n hx hb dX2_clockAt_31 rfl (lv_at hl 1 rfl) ?_
          refine g_iald (k := r) hx hb hK hB (by decide) rfl (by omega) (Nat.lt_of_lt_of_eq (by omega : r < 8) (Eq.symm rfl)) (by decide) dX2_clockAt_32 ?_
          refine z_top (b := (S r)) (h16 r hrN) ?_
          refine g_calli (g_runSN (As := [.int (iZ (S r))]) (rest := []) hx hb hml hown hts hK hst hB (mX5_streamOf l θ hθ σ z (S r) (by omega) (show rg _ from ⟨by omega, by omega⟩)) ms_X5_streamOf hst.2.2.2.2.2.1 rfl hl.1 rfl (Nat.le_of_ble_eq_true rfl) ⟨by decide, by decide⟩ ⟨Nat.le_refl _, Nat.le_refl _⟩ dX2_clockAt_33) hB (fun q_5 σ_3 z_4 H locs hq_5 pq_5 hB => ?_)
          obtain ⟨pq_5, e1_, e2_⟩ := pq_5
          rw [e1_, e2_] at hB
          clear e1_ e2_
          subst pq_5
          refine z_top (b := (((sN S r) : Nat) : Int)) (by rw [spZ_in (by omega), sN_pos (by omega)]; omega) ?_
          refine lv_istore_n (lv' := [(3, .int (iZ (((sN S r) : Nat) : Int))), (4, .int (iZ (((dCr S 8 s0 : Nat) : Int) - 1 - ((j : Nat) : Int)))), (0, .ref (tad θ 13)), (1, .int (iZ ((s0 : Nat) : Int))), (2, .int (iZ ((d : Nat) : Int)))]) hx hb dX2_clockAt_36 rfl hl (by decide) rfl (fun ls hl => ?_)
          refine z_iinc (k := 1) (lv' := [(4, .int (iZ ((((dCr S 8 s0 : Nat) : Int) - 1 - ((j : Nat) : Int)) + (-1)))), (3, .int (iZ (((sN S r) : Nat) : Int))), (0, .ref (tad θ 13)), (1, .int (iZ ((s0 : Nat) : Int))), (2, .int (iZ ((d : Nat) : Int)))]) hx hb dX2_clockAt_37 hl rfl (by decide) rfl (fun ls hl => ?_)
          have hl : lv_has ls 5 [(4, .int (iZ (((dCr S 8 s0 : Nat) : Int) - 1 - ((j + 1 : Nat) : Int)))), (3, .int (iZ (((sN S r) : Nat) : Int))), (0, .ref (tad θ 13)), (1, .int (iZ ((s0 : Nat) : Int))), (2, .int (iZ ((d : Nat) : Int)))] := by have e9 : ((((dCr S 8 s0 : Nat) : Int) - 1 - ((j : Nat) : Int)) + (-1)) = (((dCr S 8 s0 : Nat) : Int) - 1 - ((j + 1 : Nat) : Int)) := (by omega); rw [e9] at hl; exact hl
          refine lv_goto (tgt := 12) hx hb dX2_clockAt_40 (by decide) ?_
          exact ih12 (sN S r) (j + 1) _ _ _ (by omega) (sN_lt hS hrN) (by omega) (by rw [hrj]; rfl) hB (lv_sub hl [0, 1, 2, 3, 4] rfl)
  exact loop12 _ s0 0 _ _ _ (Nat.lt_succ_self _) hs (by omega) rfl hB (lv_sub hl [0, 1, 2, 3, 4] rfl)
set_option maxHeartbeats 4000000 in
set_option maxRecDepth 100000 in
theorem mX2_waits (l : Launch) (θ : gT) (hθ : gOK θ) (σ : gS) (z : gZ) (N : Nat) (hG : cW (fp σ 3) N) (S : Nat → Int) (hS : sOK S N) (h16 : ∀ k, k < N → σ 16 k = S k) (k : Nat) (hk : k < N) : GI l θ yX2_waits cX2_waits 6 (some .int) 2 45 [.ref (tad θ 13), .ref (tad θ 3), .int (iZ ((k : Nat) : Int))] σ z (fun q σ' z' => (q = ((wtC (fp σ 3) S k : Nat) : Int)) ∧ σ' = σ ∧ z' = z) := by
  refine g_enter (ret := (some .int)) (by decide +kernel) (Nat.le_of_ble_eq_true rfl) ?_
  intro p e s m args below meth c ls F hB hl
  obtain ⟨hx, hb, hr, hml, hown, hts, hlk, hK, hst⟩ := F
  have hR := hB.1.2
  have hl : lv_has ls 6 [(0, .ref (tad θ 13)), (1, .ref (tad θ 3)), (2, .int (iZ ((k : Nat) : Int)))] := hl
  have hN8 := hG.2.1
  have hKk := (hG.2.2 k hk).1
  have hsk := hS k hk
  have hw0 := wt0_lt hN8 hS hk
  have hw9 : wtR (fp σ 3) k (wt0 S k) 0 < 256 := hw0
  refine lv_aload_n hx hb dX2_waits_0 rfl (lv_at hl 1 rfl) ?_
  refine lv_iload_n hx hb dX2_waits_1 rfl (lv_at hl 2 rfl) ?_
  refine g_calli (g_runV (i := 3) (As := [.int (iZ ((k : Nat) : Int))]) (rest := []) hx hb hml hown hts hK hst hB (mX1_kindOf l θ hθ σ z 3 isF_3 k (by omega)) mv_X1_kindOf kw_383 cf1 (by decide) rfl rfl hl.1 rfl (Nat.le_of_ble_eq_true rfl) ⟨by decide, by decide⟩ ⟨Nat.le_refl _, Nat.le_refl _⟩ dX2_waits_2) hB (fun q_3 σ_1 z_2 H locs hq_3 pq_3 hB => ?_)
  obtain ⟨pq_3, e1_, e2_⟩ := pq_3
  rw [e1_, e2_] at hB
  clear e1_ e2_
  subst pq_3
  refine lv_istore_n (lv' := [(3, .int (iZ (fp σ 3 (1 + k)))), (0, .ref (tad θ 13)), (1, .ref (tad θ 3)), (2, .int (iZ ((k : Nat) : Int)))]) hx hb dX2_waits_5 rfl hl (by decide) rfl (fun ls hl => ?_)
  refine lv_aload_n hx hb dX2_waits_6 rfl (lv_at hl 1 rfl) ?_
  refine g_getr (k := 6) (j := 16) hx hb hts hown hK hθ hB cf2 (by decide) rfl (by decide) kw_88 rfl rfl dX2_waits_7 ?_
  refine lv_iload_n hx hb dX2_waits_10 rfl (lv_at hl 3 rfl) ?_
  refine g_iald (k := k) hx hb hK hB (by decide) rfl (by omega) (Nat.lt_of_lt_of_eq (by omega : k < 8) (Eq.symm rfl)) (by decide) dX2_waits_11 ?_
  refine z_top (b := (S k)) (h16 k hk) ?_
  refine z_if_ge (tgt := 19) hx hb dX2_waits_12 (by decide) ⟨by omega, by omega⟩ (fun c_4 => ?_) (fun c_4 => ?_)
  · refine lv_iconst (v := iZ 1) hx hb dX2_waits_19 rfl ?_
    refine lv_aload_n hx hb dX2_waits_20 rfl (lv_at hl 1 rfl) ?_
    refine g_getr (k := 6) (j := 16) hx hb hts hown hK hθ hB cf2 (by decide) rfl (by decide) kw_88 rfl rfl dX2_waits_21 ?_
    refine lv_iload_n hx hb dX2_waits_24 rfl (lv_at hl 3 rfl) ?_
    refine g_iald (k := k) hx hb hK hB (by decide) rfl (by omega) (Nat.lt_of_lt_of_eq (by omega : k < 8) (Eq.symm rfl)) (by decide) dX2_waits_25 ?_
    refine z_top (b := (S k)) (h16 k hk) ?_
    refine g_calli (g_runSN (As := [.int (iZ (S k))]) (rest := [.int (iZ 1)]) hx hb hml hown hts hK hst hB (mX5_streamOf l θ hθ σ z (S k) (by omega) (show rg _ from ⟨by omega, by omega⟩)) ms_X5_streamOf hst.2.2.2.2.2.1 rfl hl.1 rfl (Nat.le_of_ble_eq_true rfl) ⟨by decide, by decide⟩ ⟨Nat.le_refl _, Nat.le_refl _⟩ dX2_waits_26) hB (fun q_7 σ_5 z_6 H locs hq_7 pq_7 hB => ?_)
    obtain ⟨pq_7, e1_, e2_⟩ := pq_7
    rw [e1_, e2_] at hB
    clear e1_ e2_
    subst pq_7
    refine z_top (b := (((S k / 10).toNat : Nat) : Int)) (by rw [spZ_in (by omega)]; omega) ?_
    refine z_ishl1 (j := (S k / 10).toNat) hx hb (by omega) dX2_waits_29 ?_
    refine z_top (b := (((wtR (fp σ 3) k (wt0 S k) 0) : Nat) : Int)) (by show _ = ((wt0 S k : Nat) : Int); rw [wt0, if_neg (by omega)]) ?_
    refine lv_istore (lv' := [(4, .int (iZ (((wtR (fp σ 3) k (wt0 S k) 0) : Nat) : Int))), (3, .int (iZ (fp σ 3 (1 + k)))), (0, .ref (tad θ 13)), (1, .ref (tad θ 3)), (2, .int (iZ ((k : Nat) : Int)))]) hx hb dX2_waits_30 hl (by decide) rfl (fun ls hl => ?_)
    refine lv_iload_n hx hb dX2_waits_32 rfl (lv_at hl 1 rfl) ?_
    refine lv_bipush (v := iZ 6) hx hb dX2_waits_33 (by decide) ?_
    refine z_icmp_eq (tgt := 44) hx hb dX2_waits_35 (by decide) ⟨by omega, by omega⟩ ⟨by decide, by decide⟩ (fun c_8 => ?_) (fun c_8 => ?_)
    · refine lv_iload hx hb dX2_waits_44 (lv_at hl 0 rfl) ?_
      exact g_iret hx hb hr hlk hB dX2_waits_46 ⟨by omega, by omega⟩ (⟨by rw [wtC, if_pos (by omega)]; rfl, rfl, rfl⟩)
    · refine lv_iload_n hx hb dX2_waits_38 rfl (lv_at hl 1 rfl) ?_
      refine lv_bipush (v := iZ 7) hx hb dX2_waits_39 (by decide) ?_
      refine z_icmp_ne (tgt := 47) hx hb dX2_waits_41 (by decide) ⟨by omega, by omega⟩ ⟨by decide, by decide⟩ (fun c_9 => ?_) (fun c_9 => ?_)
      · refine lv_iconst (v := iZ 0) hx hb dX2_waits_47 rfl ?_
        refine lv_istore (lv' := [(5, .int (iZ 0)), (4, .int (iZ (((wtR (fp σ 3) k (wt0 S k) 0) : Nat) : Int))), (3, .int (iZ (fp σ 3 (1 + k)))), (0, .ref (tad θ 13)), (1, .ref (tad θ 3)), (2, .int (iZ ((k : Nat) : Int)))]) hx hb dX2_waits_48 hl (by decide) rfl (fun ls hl => ?_)
        have loop50 : ∀ (n50 : Nat) (i : Nat) (H : Heap) (locs : List Loc) (ls : Array Slot), 3 - i < n50 → (i ≤ 3) →  gB θ σ z s.heap H locs → lv_has ls 6 [(5, .int (iZ ((i : Nat) : Int))), (4, .int (iZ (((wtR (fp σ 3) k (wt0 S k) i) : Nat) : Int))), (3, .int (iZ (fp σ 3 (1 + k)))), (0, .ref (tad θ 13)), (1, .ref (tad θ 3)), (2, .int (iZ ((k : Nat) : Int)))] → W p l e (gRm 2 45) s m args below meth c H locs 0 0 (MQ below (gQi θ (fun q σ' z' => (q = ((wtC (fp σ 3) S k : Nat) : Int)) ∧ σ' = σ ∧ z' = z)) args s 0 0 (tA θ)) (F0 m 50 ls []) := by
          intro n50
          induction n50 with
          | zero => intro i H locs ls hmu; exact absurd hmu (Nat.not_lt_zero _)
          | succ n50 ih50 =>
            intro i H locs ls hmu hi hB hl
            have hR := hB.1.2
            have hwr := wtR_lt hG hk hw0 i hi
            refine lv_iload hx hb dX2_waits_50 (lv_at hl 0 rfl) ?_
            refine lv_iconst (v := iZ 3) hx hb dX2_waits_52 rfl ?_
            refine z_icmp_ge (tgt := 85) hx hb dX2_waits_53 (by decide) ⟨by omega, by omega⟩ ⟨by decide, by decide⟩ (fun c_10 => ?_) (fun c_10 => ?_)
            · refine lv_iload hx hb dX2_waits_85 (lv_at hl 1 rfl) ?_
              exact g_iret hx hb hr hlk hB dX2_waits_87 ⟨by omega, by omega⟩ (⟨by rw [wtC, if_neg (by omega), show i = 3 by omega], rfl, rfl⟩)
            · refine lv_iload_n hx hb dX2_waits_56 rfl (lv_at hl 2 rfl) ?_
              refine lv_iload hx hb dX2_waits_57 (lv_at hl 0 rfl) ?_
              refine g_calli (g_runSN (As := [.int (iZ (fp σ 3 (1 + k))), .int (iZ ((i : Nat) : Int))]) (rest := []) hx hb hml hown hts hK hst hB (mX5_namesStream l θ hθ σ z (fp σ 3 (1 + k)) (by omega) i (by omega)) ms_X5_namesStream hst.2.2.2.2.1 rfl hl.1 rfl (Nat.le_of_ble_eq_true rfl) ⟨by decide, by decide⟩ ⟨Nat.le_refl _, Nat.le_refl _⟩ dX2_waits_59) hB (fun qn σ_11 z_12 H locs hqn hpn hB => ?_)
              obtain ⟨hpn, e1_, e2_⟩ := hpn
              rw [e1_, e2_] at hB
              clear e1_ e2_
              rcases hpn with ⟨hqn, hsp⟩ | ⟨hqn, hsp⟩
              · subst hqn
                have hnm := nmS_t (by omega) hsp
                have hlt := hG.st hk (by omega) hsp
                refine z_if_eq (tgt := 79) hx hb dX2_waits_62 (by decide) ⟨by decide, by decide⟩ (fun c_13 => ?_) (fun c_13 => ?_)
                · exact absurd c_13 (by decide)
                · refine lv_iload hx hb dX2_waits_65 (lv_at hl 1 rfl) ?_
                  refine lv_iconst (v := iZ 1) hx hb dX2_waits_67 rfl ?_
                  refine lv_aload_n hx hb dX2_waits_68 rfl (lv_at hl 4 rfl) ?_
                  refine lv_iload_n hx hb dX2_waits_69 rfl (lv_at hl 5 rfl) ?_
                  refine lv_iload hx hb dX2_waits_70 (lv_at hl 0 rfl) ?_
                  refine g_calli (g_runV (i := 3) (As := [.int (iZ ((k : Nat) : Int)), .int (iZ ((i : Nat) : Int))]) (rest := [.int (iZ 1), .int (iZ (((wtR (fp σ 3) k (wt0 S k) i) : Nat) : Int))]) hx hb hml hown hts hK hst hB (mX1_streamPart l θ hθ σ z 3 isF_3 k (by omega) i (by omega)) mv_X1_streamPart kw_379 cf1 (by decide) rfl rfl hl.1 rfl (Nat.le_of_ble_eq_true rfl) ⟨by decide, by decide⟩ ⟨Nat.le_refl _, Nat.le_refl _⟩ dX2_waits_72) hB (fun q_16 σ_14 z_15 H locs hq_16 pq_16 hB => ?_)
                  obtain ⟨pq_16, e1_, e2_⟩ := pq_16
                  rw [e1_, e2_] at hB
                  clear e1_ e2_
                  subst pq_16
                  refine z_top (b := (((fa (fp σ 3) k i) : Nat) : Int)) (hG.sp hk (by omega) (by omega)) ?_
                  refine z_ishl1 (j := (fa (fp σ 3) k i)) hx hb (by omega) dX2_waits_75 ?_
                  refine z_ior (a := (wtR (fp σ 3) k (wt0 S k) i)) (b := (2 ^ (fa (fp σ 3) k i))) hx hb dX2_waits_76 ?_
                  refine z_top (b := (((wtR (fp σ 3) k (wt0 S k) (i + 1)) : Nat) : Int)) (by rw [wtR, if_pos hnm]) ?_
                  refine lv_istore (lv' := [(4, .int (iZ (((wtR (fp σ 3) k (wt0 S k) (i + 1)) : Nat) : Int))), (5, .int (iZ ((i : Nat) : Int))), (3, .int (iZ (fp σ 3 (1 + k)))), (0, .ref (tad θ 13)), (1, .ref (tad θ 3)), (2, .int (iZ ((k : Nat) : Int)))]) hx hb dX2_waits_77 hl (by decide) rfl (fun ls hl => ?_)
                  refine z_iinc (k := 1) (lv' := [(5, .int (iZ (((i : Nat) : Int) + 1))), (4, .int (iZ (((wtR (fp σ 3) k (wt0 S k) (i + 1)) : Nat) : Int))), (3, .int (iZ (fp σ 3 (1 + k)))), (0, .ref (tad θ 13)), (1, .ref (tad θ 3)), (2, .int (iZ ((k : Nat) : Int)))]) hx hb dX2_waits_79 hl rfl (by decide) rfl (fun ls hl => ?_)
                  have hl : lv_has ls 6 [(5, .int (iZ (((i + 1) : Nat) : Int))), (4, .int (iZ (((wtR (fp σ 3) k (wt0 S k) (i + 1)) : Nat) : Int))), (3, .int (iZ (fp σ 3 (1 + k)))), (0, .ref (tad θ 13)), (1, .ref (tad θ 3)), (2, .int (iZ ((k : Nat) : Int)))] := by have e9 : (((i : Nat) : Int) + 1) = (((i + 1) : Nat) : Int) := (by omega); rw [e9] at hl; exact hl
                  refine lv_goto (tgt := 50) hx hb dX2_waits_82 (by decide) ?_
                  exact ih50 (i + 1) _ _ _ (by omega) (by omega) hB (lv_sub hl [0, 1, 2, 3, 4, 5] rfl)
              · subst hqn
                have hnm := nmS_f (by omega) hsp
                have hwn : wtR (fp σ 3) k (wt0 S k) (i + 1) = wtR (fp σ 3) k (wt0 S k) i := by rw [wtR, if_neg (by rw [hnm]; exact Bool.false_ne_true)]
                refine z_if_eq (tgt := 79) hx hb dX2_waits_62 (by decide) ⟨by decide, by decide⟩ (fun c_17 => ?_) (fun c_17 => ?_)
                · have hl : lv_has ls 6 [(5, .int (iZ ((i : Nat) : Int))), (4, .int (iZ (((wtR (fp σ 3) k (wt0 S k) (i + 1)) : Nat) : Int))), (3, .int (iZ (fp σ 3 (1 + k)))), (0, .ref (tad θ 13)), (1, .ref (tad θ 3)), (2, .int (iZ ((k : Nat) : Int)))] := by rw [← hwn] at hl; exact hl
                  refine z_iinc (k := 0) (lv' := [(5, .int (iZ (((i : Nat) : Int) + 1))), (4, .int (iZ (((wtR (fp σ 3) k (wt0 S k) (i + 1)) : Nat) : Int))), (3, .int (iZ (fp σ 3 (1 + k)))), (0, .ref (tad θ 13)), (1, .ref (tad θ 3)), (2, .int (iZ ((k : Nat) : Int)))]) hx hb dX2_waits_79 hl rfl (by decide) rfl (fun ls hl => ?_)
                  have hl : lv_has ls 6 [(5, .int (iZ (((i + 1) : Nat) : Int))), (4, .int (iZ (((wtR (fp σ 3) k (wt0 S k) (i + 1)) : Nat) : Int))), (3, .int (iZ (fp σ 3 (1 + k)))), (0, .ref (tad θ 13)), (1, .ref (tad θ 3)), (2, .int (iZ ((k : Nat) : Int)))] := by have e9 : (((i : Nat) : Int) + 1) = (((i + 1) : Nat) : Int) := (by omega); rw [e9] at hl; exact hl
                  refine lv_goto (tgt := 50) hx hb dX2_waits_82 (by decide) ?_
                  exact ih50 (i + 1) _ _ _ (by omega) (by omega) hB (lv_sub hl [0, 1, 2, 3, 4, 5] rfl)
                · exact absurd (by decide) c_17
        exact loop50 _ 0 _ _ _ (Nat.lt_succ_self _) (by omega) hB (lv_sub hl [0, 1, 2, 3, 4, 5] rfl)
      · refine lv_iload hx hb dX2_waits_44 (lv_at hl 0 rfl) ?_
        exact g_iret hx hb hr hlk hB dX2_waits_46 ⟨by omega, by omega⟩ (⟨by rw [wtC, if_pos (by omega)]; rfl, rfl, rfl⟩)
  · refine lv_iconst (v := iZ 0) hx hb dX2_waits_15 rfl ?_
    refine lv_goto (tgt := 30) hx hb dX2_waits_16 (by decide) ?_
    refine z_top (b := (((wtR (fp σ 3) k (wt0 S k) 0) : Nat) : Int)) (by show _ = ((wt0 S k : Nat) : Int); rw [wt0, if_pos (by omega)]; rfl) ?_
    refine lv_istore (lv' := [(4, .int (iZ (((wtR (fp σ 3) k (wt0 S k) 0) : Nat) : Int))), (3, .int (iZ (fp σ 3 (1 + k)))), (0, .ref (tad θ 13)), (1, .ref (tad θ 3)), (2, .int (iZ ((k : Nat) : Int)))]) hx hb dX2_waits_30 hl (by decide) rfl (fun ls hl => ?_)
    refine lv_iload_n hx hb dX2_waits_32 rfl (lv_at hl 1 rfl) ?_
    refine lv_bipush (v := iZ 6) hx hb dX2_waits_33 (by decide) ?_
    refine z_icmp_eq (tgt := 44) hx hb dX2_waits_35 (by decide) ⟨by omega, by omega⟩ ⟨by decide, by decide⟩ (fun c_18 => ?_) (fun c_18 => ?_)
    · refine lv_iload hx hb dX2_waits_44 (lv_at hl 0 rfl) ?_
      exact g_iret hx hb hr hlk hB dX2_waits_46 ⟨by omega, by omega⟩ (⟨by rw [wtC, if_pos (by omega)]; rfl, rfl, rfl⟩)
    · refine lv_iload_n hx hb dX2_waits_38 rfl (lv_at hl 1 rfl) ?_
      refine lv_bipush (v := iZ 7) hx hb dX2_waits_39 (by decide) ?_
      refine z_icmp_ne (tgt := 47) hx hb dX2_waits_41 (by decide) ⟨by omega, by omega⟩ ⟨by decide, by decide⟩ (fun c_19 => ?_) (fun c_19 => ?_)
      · refine lv_iconst (v := iZ 0) hx hb dX2_waits_47 rfl ?_
        refine lv_istore (lv' := [(5, .int (iZ 0)), (4, .int (iZ (((wtR (fp σ 3) k (wt0 S k) 0) : Nat) : Int))), (3, .int (iZ (fp σ 3 (1 + k)))), (0, .ref (tad θ 13)), (1, .ref (tad θ 3)), (2, .int (iZ ((k : Nat) : Int)))]) hx hb dX2_waits_48 hl (by decide) rfl (fun ls hl => ?_)
        have loop50 : ∀ (n50 : Nat) (i : Nat) (H : Heap) (locs : List Loc) (ls : Array Slot), 3 - i < n50 → (i ≤ 3) →  gB θ σ z s.heap H locs → lv_has ls 6 [(5, .int (iZ ((i : Nat) : Int))), (4, .int (iZ (((wtR (fp σ 3) k (wt0 S k) i) : Nat) : Int))), (3, .int (iZ (fp σ 3 (1 + k)))), (0, .ref (tad θ 13)), (1, .ref (tad θ 3)), (2, .int (iZ ((k : Nat) : Int)))] → W p l e (gRm 2 45) s m args below meth c H locs 0 0 (MQ below (gQi θ (fun q σ' z' => (q = ((wtC (fp σ 3) S k : Nat) : Int)) ∧ σ' = σ ∧ z' = z)) args s 0 0 (tA θ)) (F0 m 50 ls []) := by
          intro n50
          induction n50 with
          | zero => intro i H locs ls hmu; exact absurd hmu (Nat.not_lt_zero _)
          | succ n50 ih50 =>
            intro i H locs ls hmu hi hB hl
            have hR := hB.1.2
            have hwr := wtR_lt hG hk hw0 i hi
            refine lv_iload hx hb dX2_waits_50 (lv_at hl 0 rfl) ?_
            refine lv_iconst (v := iZ 3) hx hb dX2_waits_52 rfl ?_
            refine z_icmp_ge (tgt := 85) hx hb dX2_waits_53 (by decide) ⟨by omega, by omega⟩ ⟨by decide, by decide⟩ (fun c_20 => ?_) (fun c_20 => ?_)
            · refine lv_iload hx hb dX2_waits_85 (lv_at hl 1 rfl) ?_
              exact g_iret hx hb hr hlk hB dX2_waits_87 ⟨by omega, by omega⟩ (⟨by rw [wtC, if_neg (by omega), show i = 3 by omega], rfl, rfl⟩)
            · refine lv_iload_n hx hb dX2_waits_56 rfl (lv_at hl 2 rfl) ?_
              refine lv_iload hx hb dX2_waits_57 (lv_at hl 0 rfl) ?_
              refine g_calli (g_runSN (As := [.int (iZ (fp σ 3 (1 + k))), .int (iZ ((i : Nat) : Int))]) (rest := []) hx hb hml hown hts hK hst hB (mX5_namesStream l θ hθ σ z (fp σ 3 (1 + k)) (by omega) i (by omega)) ms_X5_namesStream hst.2.2.2.2.1 rfl hl.1 rfl (Nat.le_of_ble_eq_true rfl) ⟨by decide, by decide⟩ ⟨Nat.le_refl _, Nat.le_refl _⟩ dX2_waits_59) hB (fun qn σ_21 z_22 H locs hqn hpn hB => ?_)
              obtain ⟨hpn, e1_, e2_⟩ := hpn
              rw [e1_, e2_] at hB
              clear e1_ e2_
              rcases hpn with ⟨hqn, hsp⟩ | ⟨hqn, hsp⟩
              · subst hqn
                have hnm := nmS_t (by omega) hsp
                have hlt := hG.st hk (by omega) hsp
                refine z_if_eq (tgt := 79) hx hb dX2_waits_62 (by decide) ⟨by decide, by decide⟩ (fun c_23 => ?_) (fun c_23 => ?_)
                · exact absurd c_23 (by decide)
                · refine lv_iload hx hb dX2_waits_65 (lv_at hl 1 rfl) ?_
                  refine lv_iconst (v := iZ 1) hx hb dX2_waits_67 rfl ?_
                  refine lv_aload_n hx hb dX2_waits_68 rfl (lv_at hl 4 rfl) ?_
                  refine lv_iload_n hx hb dX2_waits_69 rfl (lv_at hl 5 rfl) ?_
                  refine lv_iload hx hb dX2_waits_70 (lv_at hl 0 rfl) ?_
                  refine g_calli (g_runV (i := 3) (As := [.int (iZ ((k : Nat) : Int)), .int (iZ ((i : Nat) : Int))]) (rest := [.int (iZ 1), .int (iZ (((wtR (fp σ 3) k (wt0 S k) i) : Nat) : Int))]) hx hb hml hown hts hK hst hB (mX1_streamPart l θ hθ σ z 3 isF_3 k (by omega) i (by omega)) mv_X1_streamPart kw_379 cf1 (by decide) rfl rfl hl.1 rfl (Nat.le_of_ble_eq_true rfl) ⟨by decide, by decide⟩ ⟨Nat.le_refl _, Nat.le_refl _⟩ dX2_waits_72) hB (fun q_26 σ_24 z_25 H locs hq_26 pq_26 hB => ?_)
                  obtain ⟨pq_26, e1_, e2_⟩ := pq_26
                  rw [e1_, e2_] at hB
                  clear e1_ e2_
                  subst pq_26
                  refine z_top (b := (((fa (fp σ 3) k i) : Nat) : Int)) (hG.sp hk (by omega) (by omega)) ?_
                  refine z_ishl1 (j := (fa (fp σ 3) k i)) hx hb (by omega) dX2_waits_75 ?_
                  refine z_ior (a := (wtR (fp σ 3) k (wt0 S k) i)) (b := (2 ^ (fa (fp σ 3) k i))) hx hb dX2_waits_76 ?_
                  refine z_top (b := (((wtR (fp σ 3) k (wt0 S k) (i + 1)) : Nat) : Int)) (by rw [wtR, if_pos hnm]) ?_
                  refine lv_istore (lv' := [(4, .int (iZ (((wtR (fp σ 3) k (wt0 S k) (i + 1)) : Nat) : Int))), (5, .int (iZ ((i : Nat) : Int))), (3, .int (iZ (fp σ 3 (1 + k)))), (0, .ref (tad θ 13)), (1, .ref (tad θ 3)), (2, .int (iZ ((k : Nat) : Int)))]) hx hb dX2_waits_77 hl (by decide) rfl (fun ls hl => ?_)
                  refine z_iinc (k := 1) (lv' := [(5, .int (iZ (((i : Nat) : Int) + 1))), (4, .int (iZ (((wtR (fp σ 3) k (wt0 S k) (i + 1)) : Nat) : Int))), (3, .int (iZ (fp σ 3 (1 + k)))), (0, .ref (tad θ 13)), (1, .ref (tad θ 3)), (2, .int (iZ ((k : Nat) : Int)))]) hx hb dX2_waits_79 hl rfl (by decide) rfl (fun ls hl => ?_)
                  have hl : lv_has ls 6 [(5, .int (iZ (((i + 1) : Nat) : Int))), (4, .int (iZ (((wtR (fp σ 3) k (wt0 S k) (i + 1)) : Nat) : Int))), (3, .int (iZ (fp σ 3 (1 + k)))), (0, .ref (tad θ 13)), (1, .ref (tad θ 3)), (2, .int (iZ ((k : Nat) : Int)))] := by have e9 : (((i : Nat) : Int) + 1) = (((i + 1) : Nat) : Int) := (by omega); rw [e9] at hl; exact hl
                  refine lv_goto (tgt := 50) hx hb dX2_waits_82 (by decide) ?_
                  exact ih50 (i + 1) _ _ _ (by omega) (by omega) hB (lv_sub hl [0, 1, 2, 3, 4, 5] rfl)
              · subst hqn
                have hnm := nmS_f (by omega) hsp
                have hwn : wtR (fp σ 3) k (wt0 S k) (i + 1) = wtR (fp σ 3) k (wt0 S k) i := by rw [wtR, if_neg (by rw [hnm]; exact Bool.false_ne_true)]
                refine z_if_eq (tgt := 79) hx hb dX2_waits_62 (by decide) ⟨by decide, by decide⟩ (fun c_27 => ?_) (fun c_27 => ?_)
                · have hl : lv_has ls 6 [(5, .int (iZ ((i : Nat) : Int))), (4, .int (iZ (((wtR (fp σ 3) k (wt0 S k) (i + 1)) : Nat) : Int))), (3, .int (iZ (fp σ 3 (1 + k)))), (0, .ref (tad θ 13)), (1, .ref (tad θ 3)), (2, .int (iZ ((k : Nat) : Int)))] := by rw [← hwn] at hl; exact hl
                  refine z_iinc (k := 0) (lv' := [(5, .int (iZ (((i : Nat) : Int) + 1))), (4, .int (iZ (((wtR (fp σ 3) k (wt0 S k) (i + 1)) : Nat) : Int))), (3, .int (iZ (fp σ 3 (1 + k)))), (0, .ref (tad θ 13)), (1, .ref (tad θ 3)), (2, .int (iZ ((k : Nat) : Int)))]) hx hb dX2_waits_79 hl rfl (by decide) rfl (fun ls hl => ?_)
                  have hl : lv_has ls 6 [(5, .int (iZ (((i + 1) : Nat) : Int))), (4, .int (iZ (((wtR (fp σ 3) k (wt0 S k) (i + 1)) : Nat) : Int))), (3, .int (iZ (fp σ 3 (1 + k)))), (0, .ref (tad θ 13)), (1, .ref (tad θ 3)), (2, .int (iZ ((k : Nat) : Int)))] := by have e9 : (((i : Nat) : Int) + 1) = (((i + 1) : Nat) : Int) := (by omega); rw [e9] at hl; exact hl
                  refine lv_goto (tgt := 50) hx hb dX2_waits_82 (by decide) ?_
                  exact ih50 (i + 1) _ _ _ (by omega) (by omega) hB (lv_sub hl [0, 1, 2, 3, 4, 5] rfl)
                · exact absurd (by decide) c_27
        exact loop50 _ 0 _ _ _ (Nat.lt_succ_self _) (by omega) hB (lv_sub hl [0, 1, 2, 3, 4, 5] rfl)
      · refine lv_iload hx hb dX2_waits_44 (lv_at hl 0 rfl) ?_
        exact g_iret hx hb hr hlk hB dX2_waits_46 ⟨by omega, by omega⟩ (⟨by rw [wtC, if_pos (by omega)]; rfl, rfl, rfl⟩)
set_option maxHeartbeats 4000000 in
set_option maxRecDepth 100000 in
theorem mX2_leastReady (l : Launch) (θ : gT) (hθ : gOK θ) (σ : gS) (z : gZ) (N : Nat) (hG : cW (fp σ 3) N) (S : Nat → Int) (hS : sOK S N) (h16 : ∀ k, k < N → σ 16 k = S k) (hc : σ 13 3 = (N : Int)) (d : Nat) (hd : d < 256) : GI l θ yX2_leastReady cX2_leastReady 4 (some .int) 3 70 [.ref (tad θ 13), .ref (tad θ 3), .int (iZ ((d : Nat) : Int))] σ z (fun q σ' z' => (q = nO (fsR (rdy (wtC (fp σ 3) S) d) N)) ∧ σ' = σ ∧ z' = z) := by
  refine g_enter (ret := (some .int)) (by decide +kernel) (Nat.le_of_ble_eq_true rfl) ?_
  intro p e s m args below meth c ls F hB hl
  obtain ⟨hx, hb, hr, hml, hown, hts, hlk, hK, hst⟩ := F
  have hR := hB.1.2
  have hl : lv_has ls 4 [(0, .ref (tad θ 13)), (1, .ref (tad θ 3)), (2, .int (iZ ((d : Nat) : Int)))] := hl
  have hN8 := hG.2.1
  refine lv_iconst (v := iZ 0) hx hb dX2_leastReady_0 rfl ?_
  refine lv_istore_n (lv' := [(3, .int (iZ 0)), (0, .ref (tad θ 13)), (1, .ref (tad θ 3)), (2, .int (iZ ((d : Nat) : Int)))]) hx hb dX2_leastReady_1 rfl hl (by decide) rfl (fun ls hl => ?_)
  have loop2 : ∀ (n2 : Nat) (i : Nat) (H : Heap) (locs : List Loc) (ls : Array Slot), N - i < n2 → (i ≤ N) → (∀ j, j < i → rdy (wtC (fp σ 3) S) d j = false) →  gB θ σ z s.heap H locs → lv_has ls 4 [(3, .int (iZ ((i : Nat) : Int))), (0, .ref (tad θ 13)), (1, .ref (tad θ 3)), (2, .int (iZ ((d : Nat) : Int)))] → W p l e (gRm 3 70) s m args below meth c H locs 0 0 (MQ below (gQi θ (fun q σ' z' => (q = nO (fsR (rdy (wtC (fp σ 3) S) d) N)) ∧ σ' = σ ∧ z' = z)) args s 0 0 (tA θ)) (F0 m 2 ls []) := by
    intro n2
    induction n2 with
    | zero => intro i H locs ls hmu; exact absurd hmu (Nat.not_lt_zero _)
    | succ n2 ih2 =>
      intro i H locs ls hmu hi hno hB hl
      have hR := hB.1.2
      have hbt := Nat.mod_lt (d / 2 ^ i) (show 0 < 2 by omega)
      refine lv_iload_n hx hb dX2_leastReady_2 rfl (lv_at hl 0 rfl) ?_
      refine lv_aload_n hx hb dX2_leastReady_3 rfl (lv_at hl 1 rfl) ?_
      refine g_geti (k := 3) hx hb hts hown hK hB cf2 (by decide) rfl (by decide) kw_85 rfl dX2_leastReady_4 ?_
      refine z_top (b := ((N : Nat) : Int)) (hc) ?_
      refine z_icmp_ge (tgt := 39) hx hb dX2_leastReady_7 (by decide) ⟨by omega, by omega⟩ ⟨by omega, by omega⟩ (fun c_1 => ?_) (fun c_1 => ?_)
      · refine lv_bipush (v := iZ (-9)) hx hb dX2_leastReady_39 (by decide) ?_
        exact g_iret hx hb hr hlk hB dX2_leastReady_41 ⟨by decide, by decide⟩ (⟨by rw [fsR_none.mpr (fun j hj => hno j (by omega))]; rfl, rfl, rfl⟩)
      · refine lv_iload_n hx hb dX2_leastReady_10 rfl (lv_at hl 3 rfl) ?_
        refine lv_iload_n hx hb dX2_leastReady_11 rfl (lv_at hl 0 rfl) ?_
        refine z_ishr (a := d) (j := i) hx hb (by omega) (by omega) dX2_leastReady_12 ?_
        refine lv_iconst (v := iZ 1) hx hb dX2_leastReady_13 rfl ?_
        refine z_iand (a := (d / 2 ^ i)) (b := 1) hx hb dX2_leastReady_14 ?_
        refine z_top (b := (((d / 2 ^ i % 2) : Nat) : Int)) (by rw [Nat.and_one_is_mod]) ?_
        refine z_if_ne (tgt := 33) hx hb dX2_leastReady_15 (by decide) ⟨by omega, by omega⟩ (fun c_2 => ?_) (fun c_2 => ?_)
        · have hnr := rdy_has (W := (wtC (fp σ 3) S)) (d := d) (k := i) (by omega)
          refine z_iinc (k := 0) (lv' := [(3, .int (iZ (((i : Nat) : Int) + 1))), (0, .ref (tad θ 13)), (1, .ref (tad θ 3)), (2, .int (iZ ((d : Nat) : Int)))]) hx hb dX2_leastReady_33 hl rfl (by decide) rfl (fun ls hl => ?_)
          have hl : lv_has ls 4 [(3, .int (iZ (((i + 1) : Nat) : Int))), (0, .ref (tad θ 13)), (1, .ref (tad θ 3)), (2, .int (iZ ((d : Nat) : Int)))] := by have e9 : (((i : Nat) : Int) + 1) = (((i + 1) : Nat) : Int) := (by omega); rw [e9] at hl; exact hl
          refine lv_goto (tgt := 2) hx hb dX2_leastReady_36 (by decide) ?_
          exact ih2 (i + 1) _ _ _ (by omega) (by omega) (lt_s hno hnr) hB (lv_sub hl [0, 1, 2, 3] rfl)
        · refine lv_aload_n hx hb dX2_leastReady_18 rfl (lv_at hl 1 rfl) ?_
          refine lv_aload_n hx hb dX2_leastReady_19 rfl (lv_at hl 2 rfl) ?_
          refine lv_iload_n hx hb dX2_leastReady_20 rfl (lv_at hl 0 rfl) ?_
          refine g_calli (g_runV (i := 13) (As := [.ref (tad θ 3), .int (iZ ((i : Nat) : Int))]) (rest := []) hx hb hml hown hts hK hst hB (mX2_waits l θ hθ σ z N hG S hS h16 i (by omega)) mv_X2_waits kw_417 cf2 (by decide) rfl rfl hl.1 rfl (Nat.le_of_ble_eq_true rfl) ⟨by decide, by decide⟩ ⟨Nat.le_refl _, Nat.le_refl _⟩ dX2_leastReady_21) hB (fun q_5 σ_3 z_4 H locs hq_5 pq_5 hB => ?_)
          obtain ⟨pq_5, e1_, e2_⟩ := pq_5
          rw [e1_, e2_] at hB
          clear e1_ e2_
          subst pq_5
          have hwl := wtC_lt hG hS (show i < N by omega)
          refine lv_iload_n hx hb dX2_leastReady_24 rfl (lv_at hl 3 rfl) ?_
          refine lv_iconst (v := iZ (-1)) hx hb dX2_leastReady_25 rfl ?_
          refine lv_ixor hx hb dX2_leastReady_26 ?_
          refine z_iandnot (a := (wtC (fp σ 3) S i)) (b := d) hx hb (by omega) dX2_leastReady_27 ?_
          refine z_if_ne (tgt := 33) hx hb dX2_leastReady_28 (by decide) ⟨by omega, by have := Nat.and_le_left (n := wtC (fp σ 3) S i) (m := d ^^^ 255); omega⟩ (fun c_6 => ?_) (fun c_6 => ?_)
          · have hnr := rdy_not (W := (wtC (fp σ 3) S)) (d := d) (k := i) (by omega)
            refine z_iinc (k := 0) (lv' := [(3, .int (iZ (((i : Nat) : Int) + 1))), (0, .ref (tad θ 13)), (1, .ref (tad θ 3)), (2, .int (iZ ((d : Nat) : Int)))]) hx hb dX2_leastReady_33 hl rfl (by decide) rfl (fun ls hl => ?_)
            have hl : lv_has ls 4 [(3, .int (iZ (((i + 1) : Nat) : Int))), (0, .ref (tad θ 13)), (1, .ref (tad θ 3)), (2, .int (iZ ((d : Nat) : Int)))] := by have e9 : (((i : Nat) : Int) + 1) = (((i + 1) : Nat) : Int) := (by omega); rw [e9] at hl; exact hl
            refine lv_goto (tgt := 2) hx hb dX2_leastReady_36 (by decide) ?_
            exact ih2 (i + 1) _ _ _ (by omega) (by omega) (lt_s hno hnr) hB (lv_sub hl [0, 1, 2, 3] rfl)
          · have hyr := rdy_yes (W := (wtC (fp σ 3) S)) (d := d) (k := i) (by omega) (by omega)
            refine lv_iload_n hx hb dX2_leastReady_31 rfl (lv_at hl 0 rfl) ?_
            exact g_iret hx hb hr hlk hB dX2_leastReady_32 ⟨by omega, by omega⟩ (⟨by rw [fsR_some.mpr ⟨by omega, hyr, hno⟩]; rfl, rfl, rfl⟩)
  exact loop2 _ 0 _ _ _ (Nat.lt_succ_self _) (by omega) (fun k h => absurd h (Nat.not_lt_zero _)) hB (lv_sub hl [0, 1, 2, 3] rfl)
