set_option maxHeartbeats 4000000 in
set_option maxRecDepth 100000 in
theorem mX5_round (l : Launch) (θ : gT) (hθ : gOK θ) (σ : gS) (z : gZ) (N : Nat) (T : Nat → Nat) (h00 : σ 3 0 = (N : Int)) (hN8 : N ≤ 8) (hb9 : bC (fp σ 3)) (hTT : (σ 13 0 = -9 ∧ σ 13 1 = 0 ∧ σ 13 2 = -9) → ∀ j, j < N → σ 19 j = ((T j : Nat) : Int) ∧ (T j < 8 ∧ T j < N)) (a0 b0 y : Int) (har : rg a0) (hbr : rg b0) (hyr : rg y) : GI l θ yX5_round cX5_round 6 (some .int) 5 117 [.ref (tad θ 0), .int (iZ a0), .int (iZ b0), .int (iZ y)] σ z (fun q σ' z' => ((¬ (((0 ≤ a0 ∧ a0 ≤ 99) ∧ (0 ≤ b0 ∧ b0 ≤ 99)) ∧ (0 ≤ y ∧ y ≤ 1)) ∧ q = -2) ∨ ((((0 ≤ a0 ∧ a0 ≤ 99) ∧ (0 ≤ b0 ∧ b0 ≤ 99)) ∧ (0 ≤ y ∧ y ≤ 1)) ∧ ¬ (σ 13 0 = -9 ∧ σ 13 1 = 0 ∧ σ 13 2 = -9) ∧ q = -3) ∨ ((((0 ≤ a0 ∧ a0 ≤ 99) ∧ (0 ≤ b0 ∧ b0 ≤ 99)) ∧ (0 ≤ y ∧ y ≤ 1)) ∧ (σ 13 0 = -9 ∧ σ 13 1 = 0 ∧ σ 13 2 = -9) ∧ rdP (fun t u : Nat => ∀ s, s < 8 → (wkI (fp σ 3) T (σ 16) N (cst a0 b0)) t (33 + s) = (wkI (fp σ 3) T (σ 16) N (cst a0 b0)) u (33 + s)) y q)) ∧ fr wTr σ σ' ∧ z' = z) := by
  refine g_enter (ret := (some .int)) (by decide +kernel) (Nat.le_of_ble_eq_true rfl) ?_
  intro p e s m args below meth c ls F hB hl
  obtain ⟨hx, hb, hr, hml, hown, hts, hlk, hK, hst⟩ := F
  have hR := hB.1.2
  have hl : lv_has ls 6 [(0, .ref (tad θ 0)), (1, .int (iZ a0)), (2, .int (iZ b0)), (3, .int (iZ y))] := hl
  refine lv_iload_n hx hb dX5_round_0 rfl (lv_at hl 1 rfl) ?_
  refine g_calli (g_runS (As := [.int (iZ a0)]) (rest := []) hx hb hml hown hts hK hst hB (mX5_isValue l θ hθ σ z a0 ⟨by omega, by omega⟩) ms_X5_isValue kw_488 rfl hl.1 rfl (Nat.le_of_ble_eq_true rfl) ⟨by decide, by decide⟩ ⟨Nat.le_refl _, Nat.le_refl _⟩ dX5_round_1) hB (fun q_3 σ_1 z_2 H locs hq_3 pq_3 hB => ?_)
  obtain ⟨pq_3, e1_, e2_⟩ := pq_3
  rw [e1_, e2_] at hB
  clear e1_ e2_
  refine z_if_eq (tgt := 23) hx hb dX5_round_4 (by decide) ⟨by omega, by omega⟩ (fun c_4 => ?_) (fun c_4 => ?_)
  · refine lv_bipush (v := iZ (-2)) hx hb dX5_round_23 (by decide) ?_
    exact g_iret hx hb hr hlk hB dX5_round_25 ⟨by decide, by decide⟩ (⟨Or.inl ⟨by omega, rfl⟩, fr.rf, rfl⟩)
  · refine lv_iload_n hx hb dX5_round_7 rfl (lv_at hl 2 rfl) ?_
    refine g_calli (g_runS (As := [.int (iZ b0)]) (rest := []) hx hb hml hown hts hK hst hB (mX5_isValue l θ hθ σ z b0 ⟨by omega, by omega⟩) ms_X5_isValue kw_488 rfl hl.1 rfl (Nat.le_of_ble_eq_true rfl) ⟨by decide, by decide⟩ ⟨Nat.le_refl _, Nat.le_refl _⟩ dX5_round_8) hB (fun q_7 σ_5 z_6 H locs hq_7 pq_7 hB => ?_)
    obtain ⟨pq_7, e1_, e2_⟩ := pq_7
    rw [e1_, e2_] at hB
    clear e1_ e2_
    refine z_if_eq (tgt := 23) hx hb dX5_round_11 (by decide) ⟨by omega, by omega⟩ (fun c_8 => ?_) (fun c_8 => ?_)
    · refine lv_bipush (v := iZ (-2)) hx hb dX5_round_23 (by decide) ?_
      exact g_iret hx hb hr hlk hB dX5_round_25 ⟨by decide, by decide⟩ (⟨Or.inl ⟨by omega, rfl⟩, fr.rf, rfl⟩)
    · refine lv_iload_n hx hb dX5_round_14 rfl (lv_at hl 3 rfl) ?_
      refine z_if_lt (tgt := 23) hx hb dX5_round_15 (by decide) ⟨by omega, by omega⟩ (fun c_9 => ?_) (fun c_9 => ?_)
      · refine lv_bipush (v := iZ (-2)) hx hb dX5_round_23 (by decide) ?_
        exact g_iret hx hb hr hlk hB dX5_round_25 ⟨by decide, by decide⟩ (⟨Or.inl ⟨by omega, rfl⟩, fr.rf, rfl⟩)
      · refine lv_iload_n hx hb dX5_round_18 rfl (lv_at hl 3 rfl) ?_
        refine lv_iconst (v := iZ 1) hx hb dX5_round_19 rfl ?_
        refine z_icmp_le (tgt := 26) hx hb dX5_round_20 (by decide) ⟨by omega, by omega⟩ ⟨by decide, by decide⟩ (fun c_10 => ?_) (fun c_10 => ?_)
        · refine lv_aload_n hx hb dX5_round_26 rfl (lv_at hl 0 rfl) ?_
          refine g_getr (k := 3) (j := 13) hx hb hts hown hK hθ hB cf5 (by decide) rfl (by decide) kw_169 rfl rfl dX5_round_27 ?_
          refine g_calli (g_runV (i := 13) (As := []) (rest := []) hx hb hml hown hts hK hst hB (mX2_isSound l θ hθ σ z ) mv_X2_isSound kw_446 cf2 (by decide) rfl rfl hl.1 rfl (Nat.le_of_ble_eq_true rfl) ⟨by decide, by decide⟩ ⟨Nat.le_refl _, Nat.le_refl _⟩ dX5_round_30) hB (fun qs σ_11 z_12 H locs hqs hps hB => ?_)
          obtain ⟨hps, e1_, e2_⟩ := hps
          rw [e1_, e2_] at hB
          clear e1_ e2_
          rcases hps with ⟨hqs, hsn⟩ | ⟨hqs, hsn⟩
          · subst hqs
            have hT := hTT hsn
            have hT8 : ∀ i, i < N → T i < 8 ∧ T i < N := fun i hi => (hT i hi).2
            refine z_if_ne (tgt := 39) hx hb dX5_round_33 (by decide) ⟨by decide, by decide⟩ (fun c_13 => ?_) (fun c_13 => ?_)
            · refine lv_aload_n hx hb dX5_round_39 rfl (lv_at hl 0 rfl) ?_
              refine lv_iload_n hx hb dX5_round_40 rfl (lv_at hl 1 rfl) ?_
              refine lv_iload_n hx hb dX5_round_41 rfl (lv_at hl 2 rfl) ?_
              refine g_callv (g_runV (i := 0) (As := [.int (iZ a0), .int (iZ b0)]) (rest := []) hx hb hml hown hts hK hst hB (mX5_layTrail l θ hθ σ z N T h00 hN8 hb9 hT a0 b0 (by omega) (by omega)) mv_X5_layTrail kw_564 cf5 (by decide) rfl rfl hl.1 rfl (Nat.le_of_ble_eq_true rfl) ⟨by decide, by decide⟩ ⟨Nat.le_refl _, Nat.le_refl _⟩ dX5_round_42) hB (fun σ3 z_14 H locs hp3 hB => ?_)
              obtain ⟨hp3, hf3, e2_⟩ := hp3
              rw [e2_] at hB
              clear e2_
              have hR := hB.1.2
              have hal : ∀ t u, t ≤ 40 → u ≤ 40 → (alk (σ3 100) t u ↔ (fun t u : Nat => ∀ s, s < 8 → (wkI (fp σ 3) T (σ 16) N (cst a0 b0)) t (33 + s) = (wkI (fp σ 3) T (σ 16) N (cst a0 b0)) u (33 + s)) t u) := fun t u h1 h2 => ⟨fun h s hs => by have := h s hs; rw [hp3 t (by omega) s hs, hp3 u (by omega) s hs] at this; exact this, fun h s hs => by rw [hp3 t (by omega) s hs, hp3 u (by omega) s hs]; exact h s hs⟩
              refine lv_iconst (v := iZ 1) hx hb dX5_round_45 rfl ?_
              refine z_top (b := (((0 + 1) : Nat) : Int)) (rfl) ?_
              refine lv_istore (lv' := [(4, .int (iZ (((0 + 1) : Nat) : Int))), (0, .ref (tad θ 0)), (1, .int (iZ a0)), (2, .int (iZ b0)), (3, .int (iZ y))]) hx hb dX5_round_46 hl (by decide) rfl (fun ls hl => ?_)
              have loop48 : ∀ (n48 : Nat) (j : Nat) (H : Heap) (locs : List Loc) (ls : Array Slot), 40 - j < n48 → (j ≤ 40) → (∀ l' t', 1 ≤ l' → l' < j + 1 → t' + l' ≤ 40 → ¬ (fun t u : Nat => ∀ s, s < 8 → (wkI (fp σ 3) T (σ 16) N (cst a0 b0)) t (33 + s) = (wkI (fp σ 3) T (σ 16) N (cst a0 b0)) u (33 + s)) t' (t' + l')) →  gB θ σ3 z s.heap H locs → lv_has ls 6 [(4, .int (iZ (((j + 1) : Nat) : Int))), (0, .ref (tad θ 0)), (1, .int (iZ a0)), (2, .int (iZ b0)), (3, .int (iZ y))] → W p l e (gRm 5 117) s m args below meth c H locs 0 0 (MQ below (gQi θ (fun q σ' z' => ((¬ (((0 ≤ a0 ∧ a0 ≤ 99) ∧ (0 ≤ b0 ∧ b0 ≤ 99)) ∧ (0 ≤ y ∧ y ≤ 1)) ∧ q = -2) ∨ ((((0 ≤ a0 ∧ a0 ≤ 99) ∧ (0 ≤ b0 ∧ b0 ≤ 99)) ∧ (0 ≤ y ∧ y ≤ 1)) ∧ ¬ (σ 13 0 = -9 ∧ σ 13 1 = 0 ∧ σ 13 2 = -9) ∧ q = -3) ∨ ((((0 ≤ a0 ∧ a0 ≤ 99) ∧ (0 ≤ b0 ∧ b0 ≤ 99)) ∧ (0 ≤ y ∧ y ≤ 1)) ∧ (σ 13 0 = -9 ∧ σ 13 1 = 0 ∧ σ 13 2 = -9) ∧ rdP (fun t u : Nat => ∀ s, s < 8 → (wkI (fp σ 3) T (σ 16) N (cst a0 b0)) t (33 + s) = (wkI (fp σ 3) T (σ 16) N (cst a0 b0)) u (33 + s)) y q)) ∧ fr wTr σ σ' ∧ z' = z)) args s 0 0 (tA θ)) (F0 m 48 ls []) := by
                intro n48
                induction n48 with
                | zero => intro j H locs ls hmu; exact absurd hmu (Nat.not_lt_zero _)
                | succ n48 ih48 =>
                  intro j H locs ls hmu hj hno hB hl
                  have hR := hB.1.2
                  refine lv_iload hx hb dX5_round_48 (lv_at hl 0 rfl) ?_
                  refine lv_bipush (v := iZ 40) hx hb dX5_round_50 (by decide) ?_
                  refine z_icmp_gt (tgt := 106) hx hb dX5_round_52 (by decide) ⟨by omega, by omega⟩ ⟨by decide, by decide⟩ (fun c_16 => ?_) (fun c_16 => ?_)
                  · refine lv_bipush (v := iZ (-9)) hx hb dX5_round_106 (by decide) ?_
                    exact g_iret hx hb hr hlk hB dX5_round_108 ⟨by decide, by decide⟩ (⟨Or.inr (Or.inr ⟨by omega, hsn, Or.inr ⟨fun l' t' h1 h2 => hno l' t' h1 (by omega) h2, rfl⟩⟩), hf3, rfl⟩)
                  · refine lv_iconst (v := iZ 0) hx hb dX5_round_55 rfl ?_
                    refine lv_istore (lv' := [(5, .int (iZ 0)), (4, .int (iZ (((j + 1) : Nat) : Int))), (0, .ref (tad θ 0)), (1, .int (iZ a0)), (2, .int (iZ b0)), (3, .int (iZ y))]) hx hb dX5_round_56 hl (by decide) rfl (fun ls hl => ?_)
                    have loop58 : ∀ (n58 : Nat) (t : Nat) (H : Heap) (locs : List Loc) (ls : Array Slot), 41 - t < n58 → (t + (j + 1) ≤ 41) → (∀ t', t' < t → ¬ (fun t u : Nat => ∀ s, s < 8 → (wkI (fp σ 3) T (σ 16) N (cst a0 b0)) t (33 + s) = (wkI (fp σ 3) T (σ 16) N (cst a0 b0)) u (33 + s)) t' (t' + (j + 1))) →  gB θ σ3 z s.heap H locs → lv_has ls 6 [(5, .int (iZ ((t : Nat) : Int))), (4, .int (iZ (((j + 1) : Nat) : Int))), (0, .ref (tad θ 0)), (1, .int (iZ a0)), (2, .int (iZ b0)), (3, .int (iZ y))] → W p l e (gRm 5 117) s m args below meth c H locs 0 0 (MQ below (gQi θ (fun q σ' z' => ((¬ (((0 ≤ a0 ∧ a0 ≤ 99) ∧ (0 ≤ b0 ∧ b0 ≤ 99)) ∧ (0 ≤ y ∧ y ≤ 1)) ∧ q = -2) ∨ ((((0 ≤ a0 ∧ a0 ≤ 99) ∧ (0 ≤ b0 ∧ b0 ≤ 99)) ∧ (0 ≤ y ∧ y ≤ 1)) ∧ ¬ (σ 13 0 = -9 ∧ σ 13 1 = 0 ∧ σ 13 2 = -9) ∧ q = -3) ∨ ((((0 ≤ a0 ∧ a0 ≤ 99) ∧ (0 ≤ b0 ∧ b0 ≤ 99)) ∧ (0 ≤ y ∧ y ≤ 1)) ∧ (σ 13 0 = -9 ∧ σ 13 1 = 0 ∧ σ 13 2 = -9) ∧ rdP (fun t u : Nat => ∀ s, s < 8 → (wkI (fp σ 3) T (σ 16) N (cst a0 b0)) t (33 + s) = (wkI (fp σ 3) T (σ 16) N (cst a0 b0)) u (33 + s)) y q)) ∧ fr wTr σ σ' ∧ z' = z)) args s 0 0 (tA θ)) (F0 m 58 ls []) := by
                      intro n58
                      induction n58 with
                      | zero => intro t H locs ls hmu; exact absurd hmu (Nat.not_lt_zero _)
                      | succ n58 ih58 =>
                        intro t H locs ls hmu ht hno2 hB hl
                        have hR := hB.1.2
                        refine lv_iload hx hb dX5_round_58 (lv_at hl 0 rfl) ?_
                        refine lv_iload hx hb dX5_round_60 (lv_at hl 1 rfl) ?_
                        refine z_iadd hx hb dX5_round_62 ?_
                        refine lv_bipush (v := iZ 40) hx hb dX5_round_63 (by decide) ?_
                        refine z_icmp_gt (tgt := 100) hx hb dX5_round_65 (by decide) ⟨by omega, by omega⟩ ⟨by decide, by decide⟩ (fun c_17 => ?_) (fun c_17 => ?_)
                        · refine z_iinc (k := 1) (lv' := [(4, .int (iZ ((((j + 1) : Nat) : Int) + 1))), (5, .int (iZ ((t : Nat) : Int))), (0, .ref (tad θ 0)), (1, .int (iZ a0)), (2, .int (iZ b0)), (3, .int (iZ y))]) hx hb dX5_round_100 hl rfl (by decide) rfl (fun ls hl => ?_)
                          have hl : lv_has ls 6 [(4, .int (iZ ((((j + 1) + 1) : Nat) : Int))), (5, .int (iZ ((t : Nat) : Int))), (0, .ref (tad θ 0)), (1, .int (iZ a0)), (2, .int (iZ b0)), (3, .int (iZ y))] := by have e9 : ((((j + 1) : Nat) : Int) + 1) = ((((j + 1) + 1) : Nat) : Int) := (by omega); rw [e9] at hl; exact hl
                          refine lv_goto (tgt := 48) hx hb dX5_round_103 (by decide) ?_
                          exact ih48 (j + 1) _ _ _ (by omega) (by omega) (fun l' t' h1 h2 h3 => by rcases Nat.lt_or_ge l' (j + 1) with q | q; exact hno l' t' h1 q h3; rw [show l' = j + 1 by omega] at h3 ⊢; exact hno2 t' (by omega)) hB (lv_sub hl [0, 2, 3, 4, 5] rfl)
                        · refine lv_aload_n hx hb dX5_round_68 rfl (lv_at hl 2 rfl) ?_
                          refine lv_iload hx hb dX5_round_69 (lv_at hl 0 rfl) ?_
                          refine lv_iload hx hb dX5_round_71 (lv_at hl 0 rfl) ?_
                          refine lv_iload hx hb dX5_round_73 (lv_at hl 1 rfl) ?_
                          refine z_iadd hx hb dX5_round_75 ?_
                          refine g_calli (g_runV (i := 0) (As := [.int (iZ ((t : Nat) : Int)), .int (iZ (((t : Nat) : Int) + (((j + 1) : Nat) : Int)))]) (rest := []) hx hb hml hown hts hK hst hB (mX5_sameOnTrail l θ hθ σ3 z t (t + (j + 1)) (by omega) (by omega)) mv_X5_sameOnTrail kw_569 cf5 (by decide) rfl rfl hl.1 rfl (Nat.le_of_ble_eq_true rfl) ⟨by decide, by decide⟩ ⟨Nat.le_refl _, Nat.le_refl _⟩ dX5_round_76) hB (fun qa σ_18 z_19 H locs hqa hpa hB => ?_)
                          obtain ⟨hpa, e1_, e2_⟩ := hpa
                          rw [e1_, e2_] at hB
                          clear e1_ e2_
                          rcases hpa with ⟨hqa2, hala⟩ | ⟨hqa2, hala⟩
                          · subst hqa2
                            have hala := (hal t (t + (j + 1)) (by omega) (by omega)).mp hala
                            refine z_if_eq (tgt := 94) hx hb dX5_round_79 (by decide) ⟨by decide, by decide⟩ (fun c_20 => ?_) (fun c_20 => ?_)
                            · exact absurd c_20 (by decide)
                            · refine lv_iload_n hx hb dX5_round_82 rfl (lv_at hl 5 rfl) ?_
                              refine z_if_ne (tgt := 91) hx hb dX5_round_83 (by decide) ⟨by omega, by omega⟩ (fun c_21 => ?_) (fun c_21 => ?_)
                              · refine lv_iload hx hb dX5_round_91 (lv_at hl 0 rfl) ?_
                                exact g_iret hx hb hr hlk hB dX5_round_93 ⟨by omega, by omega⟩ (⟨Or.inr (Or.inr ⟨by omega, hsn, Or.inl ⟨j + 1, t, by omega, by omega, hala, hno, hno2, Or.inr ⟨by omega, rfl⟩⟩⟩), hf3, rfl⟩)
                              · refine lv_iload hx hb dX5_round_86 (lv_at hl 1 rfl) ?_
                                refine lv_goto (tgt := 93) hx hb dX5_round_88 (by decide) ?_
                                exact g_iret hx hb hr hlk hB dX5_round_93 ⟨by omega, by omega⟩ (⟨Or.inr (Or.inr ⟨by omega, hsn, Or.inl ⟨j + 1, t, by omega, by omega, hala, hno, hno2, Or.inl ⟨by omega, rfl⟩⟩⟩), hf3, rfl⟩)
                          · subst hqa2
                            have hnal : ¬ (fun t u : Nat => ∀ s, s < 8 → (wkI (fp σ 3) T (σ 16) N (cst a0 b0)) t (33 + s) = (wkI (fp σ 3) T (σ 16) N (cst a0 b0)) u (33 + s)) t (t + (j + 1)) := fun q => hala ((hal t (t + (j + 1)) (by omega) (by omega)).mpr q)
                            refine z_if_eq (tgt := 94) hx hb dX5_round_79 (by decide) ⟨by decide, by decide⟩ (fun c_22 => ?_) (fun c_22 => ?_)
                            · refine z_iinc (k := 0) (lv' := [(5, .int (iZ (((t : Nat) : Int) + 1))), (4, .int (iZ (((j + 1) : Nat) : Int))), (0, .ref (tad θ 0)), (1, .int (iZ a0)), (2, .int (iZ b0)), (3, .int (iZ y))]) hx hb dX5_round_94 hl rfl (by decide) rfl (fun ls hl => ?_)
                              have hl : lv_has ls 6 [(5, .int (iZ (((t + 1) : Nat) : Int))), (4, .int (iZ (((j + 1) : Nat) : Int))), (0, .ref (tad θ 0)), (1, .int (iZ a0)), (2, .int (iZ b0)), (3, .int (iZ y))] := by have e9 : (((t : Nat) : Int) + 1) = (((t + 1) : Nat) : Int) := (by omega); rw [e9] at hl; exact hl
                              refine lv_goto (tgt := 58) hx hb dX5_round_97 (by decide) ?_
                              exact ih58 (t + 1) _ _ _ (by omega) (by omega) (lt_s hno2 hnal) hB (lv_sub hl [0, 1, 2, 3, 4, 5] rfl)
                            · exact absurd (by decide) c_22
                    exact loop58 _ 0 _ _ _ (Nat.lt_succ_self _) (by omega) (fun t' h => absurd h (Nat.not_lt_zero _)) hB (lv_sub hl [0, 1, 2, 3, 4, 5] rfl)
              exact loop48 _ 0 _ _ _ (Nat.lt_succ_self _) (by omega) (fun l' t' h1 h2 => absurd h2 (by omega)) hB (lv_sub hl [0, 1, 2, 3, 4] rfl)
            · exact absurd c_13 (by decide)
          · subst hqs
            refine z_if_ne (tgt := 39) hx hb dX5_round_33 (by decide) ⟨by decide, by decide⟩ (fun c_23 => ?_) (fun c_23 => ?_)
            · exact absurd (by decide) c_23
            · refine lv_bipush (v := iZ (-3)) hx hb dX5_round_36 (by decide) ?_
              exact g_iret hx hb hr hlk hB dX5_round_38 ⟨by decide, by decide⟩ (⟨Or.inr (Or.inl ⟨by omega, hsn, rfl⟩), fr.rf, rfl⟩)
        · refine lv_bipush (v := iZ (-2)) hx hb dX5_round_23 (by decide) ?_
          exact g_iret hx hb hr hlk hB dX5_round_25 ⟨by decide, by decide⟩ (⟨Or.inl ⟨by omega, rfl⟩, fr.rf, rfl⟩)
set_option maxHeartbeats 4000000 in
set_option maxRecDepth 100000 in
theorem mX5_holds (l : Launch) (θ : gT) (hθ : gOK θ) (σ : gS) (z : gZ) (N : Nat) (T : Nat → Nat) (h00 : σ 3 0 = (N : Int)) (hN8 : N ≤ 8) (hT : ∀ j, j < N → σ 19 j = ((T j : Nat) : Int) ∧ (T j < 8 ∧ T j < N)) (h08 : fp σ 8 0 = (N : Int)) (hb8 : bC (fp σ 8)) (f : Nat) (hf9 : f < 100000) : GI l θ yX5_holds cX5_holds 5 (some .boolean) 4 94 [.ref (tad θ 0), .int (iZ ((f : Nat) : Int))] σ z (fun q σ' z' => ((q = 1 ∧ jcB (fp σ 8) (σ 16) (σ 17) N f ∧ fp σ' 8 = (jcG (fp σ 8) T (σ 16) N f)) ∨ (q = 0 ∧ ¬ jcB (fp σ 8) (σ 16) (σ 17) N f)) ∧ fr (wF 8) σ σ' ∧ z' = z) := by
  refine g_enter (ret := (some .boolean)) (by decide +kernel) (Nat.le_of_ble_eq_true rfl) ?_
  intro p e s m args below meth c ls F hB hl
  obtain ⟨hx, hb, hr, hml, hown, hts, hlk, hK, hst⟩ := F
  have hR := hB.1.2
  have hl : lv_has ls 5 [(0, .ref (tad θ 0)), (1, .int (iZ ((f : Nat) : Int)))] := hl
  refine lv_iload_n hx hb dX5_holds_0 rfl (lv_at hl 1 rfl) ?_
  refine lv_sipush (v := iZ 1000) hx hb dX5_holds_1 (by decide) ?_
  refine z_idiv hx hb dX5_holds_4 ⟨by omega, by omega⟩ (by omega) ⟨by decide, by decide⟩ (by decide) ?_
  refine lv_bipush (v := iZ 10) hx hb dX5_holds_5 (by decide) ?_
  refine z_irem hx hb dX5_holds_7 ⟨by omega, by omega⟩ (by omega) ⟨by decide, by decide⟩ (by decide) ?_
  refine z_top (b := (((f / 1000 % 10) : Nat) : Int)) (by omega) ?_
  refine lv_istore_n (lv' := [(2, .int (iZ (((f / 1000 % 10) : Nat) : Int))), (0, .ref (tad θ 0)), (1, .int (iZ ((f : Nat) : Int)))]) hx hb dX5_holds_8 rfl hl (by decide) rfl (fun ls hl => ?_)
  refine lv_iload_n hx hb dX5_holds_9 rfl (lv_at hl 2 rfl) ?_
  refine lv_bipush (v := iZ 100) hx hb dX5_holds_10 (by decide) ?_
  refine z_idiv hx hb dX5_holds_12 ⟨by omega, by omega⟩ (by omega) ⟨by decide, by decide⟩ (by decide) ?_
  refine lv_bipush (v := iZ 10) hx hb dX5_holds_13 (by decide) ?_
  refine z_irem hx hb dX5_holds_15 ⟨by omega, by omega⟩ (by omega) ⟨by decide, by decide⟩ (by decide) ?_
  refine z_top (b := (((f / 100 % 10) : Nat) : Int)) (by omega) ?_
  refine lv_istore_n (lv' := [(3, .int (iZ (((f / 100 % 10) : Nat) : Int))), (2, .int (iZ (((f / 1000 % 10) : Nat) : Int))), (0, .ref (tad θ 0)), (1, .int (iZ ((f : Nat) : Int)))]) hx hb dX5_holds_16 rfl hl (by decide) rfl (fun ls hl => ?_)
  refine lv_iload_n hx hb dX5_holds_17 rfl (lv_at hl 3 rfl) ?_
  refine lv_bipush (v := iZ 100) hx hb dX5_holds_18 (by decide) ?_
  refine z_irem hx hb dX5_holds_20 ⟨by omega, by omega⟩ (by omega) ⟨by decide, by decide⟩ (by decide) ?_
  refine z_top (b := (((f % 100) : Nat) : Int)) (by omega) ?_
  refine lv_istore (lv' := [(4, .int (iZ (((f % 100) : Nat) : Int))), (3, .int (iZ (((f / 100 % 10) : Nat) : Int))), (2, .int (iZ (((f / 1000 % 10) : Nat) : Int))), (0, .ref (tad θ 0)), (1, .int (iZ ((f : Nat) : Int)))]) hx hb dX5_holds_21 hl (by decide) rfl (fun ls hl => ?_)
  refine lv_iload_n hx hb dX5_holds_23 rfl (lv_at hl 4 rfl) ?_
  refine lv_sipush (v := iZ 10000) hx hb dX5_holds_24 (by decide) ?_
  refine z_idiv hx hb dX5_holds_27 ⟨by omega, by omega⟩ (by omega) ⟨by decide, by decide⟩ (by decide) ?_
  refine z_top (b := (((f / 10000) : Nat) : Int)) (by omega) ?_
  rcases (show ((((f / 10000) : Nat) : Int) < 1 ∨ 6 < (((f / 10000) : Nat) : Int)) ∨ (((f / 10000) : Nat) : Int) = 1 ∨ (((f / 10000) : Nat) : Int) = 2 ∨ (((f / 10000) : Nat) : Int) = 3 ∨ (((f / 10000) : Nat) : Int) = 4 ∨ (((f / 10000) : Nat) : Int) = 5 ∨ (((f / 10000) : Nat) : Int) = 6 by omega) with c_1 | c_1 | c_1 | c_1 | c_1 | c_1 | c_1
  · refine z_tabOut (tgt := 257) hx hb dX5_holds_28 ⟨by omega, by omega⟩ c_1 (by decide) ?_
    have hxk := c_1
    refine lv_iconst (v := iZ 0) hx hb dX5_holds_257 rfl ?_
    exact g_zret hx hb hr hlk hB dX5_holds_258 (by decide) (⟨Or.inr ⟨rfl, fun q => by rcases q with q | q | ⟨q0, q1 | q1 | q1 | q1⟩ <;> omega⟩, fr.rf, rfl⟩)
  · refine z_tabIn (v := 1) (off := 40) (tgt := 68) hx hb dX5_holds_28 c_1 ⟨by decide, by decide⟩ (by decide) (by decide) rfl (by decide) ?_
    have hxk := c_1
    refine lv_aload_n hx hb dX5_holds_68 rfl (lv_at hl 3 rfl) ?_
    refine g_getr (k := 2) (j := 8) hx hb hts hown hK hθ hB cf5 (by decide) rfl (by decide) kw_168 rfl rfl dX5_holds_69 ?_
    refine lv_aload_n hx hb dX5_holds_72 rfl (lv_at hl 3 rfl) ?_
    refine g_getr (k := 3) (j := 13) hx hb hts hown hK hθ hB cf5 (by decide) rfl (by decide) kw_169 rfl rfl dX5_holds_73 ?_
    refine lv_iload_n hx hb dX5_holds_76 rfl (lv_at hl 4 rfl) ?_
    refine lv_bipush (v := iZ 100) hx hb dX5_holds_77 (by decide) ?_
    refine z_idiv hx hb dX5_holds_79 ⟨by omega, by omega⟩ (by omega) ⟨by decide, by decide⟩ (by decide) ?_
    refine lv_bipush (v := iZ 100) hx hb dX5_holds_80 (by decide) ?_
    refine z_irem hx hb dX5_holds_82 ⟨by omega, by omega⟩ (by omega) ⟨by decide, by decide⟩ (by decide) ?_
    refine z_top (b := (((f / 100 % 100) : Nat) : Int)) (by omega) ?_
    refine lv_iload hx hb dX5_holds_83 (lv_at hl 0 rfl) ?_
    refine g_callv (g_runV (i := 8) (As := [.ref (tad θ 13), .int (iZ (((f / 100 % 100) : Nat) : Int)), .int (iZ (((f % 100) : Nat) : Int))]) (rest := []) hx hb hml hown hts hK hst hB (mX1_work l θ hθ σ z 8 isF_8 N T h08 hN8 hT hb8 ((f / 100 % 100 : Nat) : Int) ((f % 100 : Nat) : Int) (by omega) (by omega)) mv_X1_work kw_498 cf1 (by decide) rfl rfl hl.1 rfl (Nat.le_of_ble_eq_true rfl) ⟨by decide, by decide⟩ ⟨Nat.le_refl _, Nat.le_refl _⟩ dX5_holds_85) hB (fun σ1 z_2 H locs hp1 hB => ?_)
    obtain ⟨hp1, hf1, e2_⟩ := hp1
    rw [e2_] at hB
    clear e2_
    have hR := hB.1.2
    refine lv_iconst (v := iZ 1) hx hb dX5_holds_88 rfl ?_
    exact g_zret hx hb hr hlk hB dX5_holds_89 (by decide) (⟨Or.inl ⟨rfl, Or.inl (by omega), by rw [hp1, jcG, if_pos (by omega)]⟩, hf1, rfl⟩)
  · refine z_tabIn (v := 2) (off := 62) (tgt := 90) hx hb dX5_holds_28 c_1 ⟨by decide, by decide⟩ (by decide) (by decide) rfl (by decide) ?_
    have hxk := c_1
    refine lv_aload_n hx hb dX5_holds_90 rfl (lv_at hl 3 rfl) ?_
    refine g_getr (k := 2) (j := 8) hx hb hts hown hK hθ hB cf5 (by decide) rfl (by decide) kw_168 rfl rfl dX5_holds_91 ?_
    refine g_callv (g_runV (i := 8) (As := []) (rest := []) hx hb hml hown hts hK hst hB (mX1_restart l θ hθ σ z 8 isF_8) mv_X1_restart kw_349 cf1 (by decide) rfl rfl hl.1 rfl (Nat.le_of_ble_eq_true rfl) ⟨by decide, by decide⟩ ⟨Nat.le_refl _, Nat.le_refl _⟩ dX5_holds_94) hB (fun σ1 z_4 H locs hp1 hB => ?_)
    obtain ⟨hp1, hf1, e2_⟩ := hp1
    rw [e2_] at hB
    clear e2_
    have hR := hB.1.2
    refine lv_iload_n hx hb dX5_holds_97 rfl (lv_at hl 4 rfl) ?_
    refine lv_sipush (v := iZ 20000) hx hb dX5_holds_98 (by decide) ?_
    refine z_icmp_ne (tgt := 108) hx hb dX5_holds_101 (by decide) ⟨by omega, by omega⟩ ⟨by decide, by decide⟩ (fun c_6 => ?_) (fun c_6 => ?_)
    · refine lv_iconst (v := iZ 0) hx hb dX5_holds_108 rfl ?_
      exact g_zret hx hb hr hlk hB dX5_holds_109 (by decide) (⟨Or.inr ⟨rfl, fun q => by rcases q with q | q | ⟨q0, q1 | q1 | q1 | q1⟩ <;> omega⟩, hf1, rfl⟩)
    · refine lv_iconst (v := iZ 1) hx hb dX5_holds_104 rfl ?_
      refine lv_goto (tgt := 109) hx hb dX5_holds_105 (by decide) ?_
      exact g_zret hx hb hr hlk hB dX5_holds_109 (by decide) (⟨Or.inl ⟨rfl, Or.inr (Or.inl (by omega)), by rw [hp1, jcG, if_neg (by omega), if_pos (by omega)]⟩, hf1, rfl⟩)
  · refine z_tabIn (v := 3) (off := 82) (tgt := 110) hx hb dX5_holds_28 c_1 ⟨by decide, by decide⟩ (by decide) (by decide) rfl (by decide) ?_
    have hxk := c_1
    refine lv_aload_n hx hb dX5_holds_110 rfl (lv_at hl 3 rfl) ?_
    refine lv_iload_n hx hb dX5_holds_111 rfl (lv_at hl 2 rfl) ?_
    refine g_calli (g_runV (i := 0) (As := [.int (iZ (((f / 1000 % 10) : Nat) : Int))]) (rest := []) hx hb hml hown hts hK hst hB (mX5_isStream l θ hθ σ z (by omega) (((f / 1000 % 10) : Nat) : Int) ⟨by omega, by omega⟩) mv_X5_isStream kw_462 cf5 (by decide) rfl rfl hl.1 rfl (Nat.le_of_ble_eq_true rfl) ⟨by decide, by decide⟩ ⟨Nat.le_refl _, Nat.le_refl _⟩ dX5_holds_112) hB (fun q_9 σ_7 z_8 H locs hq_9 pq_9 hB => ?_)
    obtain ⟨pq_9, e1_, e2_⟩ := pq_9
    rw [e1_, e2_] at hB
    clear e1_ e2_
    refine z_if_eq (tgt := 139) hx hb dX5_holds_115 (by decide) ⟨by omega, by omega⟩ (fun c_10 => ?_) (fun c_10 => ?_)
    · refine lv_iconst (v := iZ 0) hx hb dX5_holds_139 rfl ?_
      exact g_zret hx hb hr hlk hB dX5_holds_140 (by decide) (⟨Or.inr ⟨rfl, fun q => by rcases q with q | q | ⟨q0, q1 | q1 | q1 | q1⟩ <;> omega⟩, fr.rf, rfl⟩)
    · refine lv_iload_n hx hb dX5_holds_118 rfl (lv_at hl 1 rfl) ?_
      refine z_if_ne (tgt := 139) hx hb dX5_holds_119 (by decide) ⟨by omega, by omega⟩ (fun c_11 => ?_) (fun c_11 => ?_)
      · refine lv_iconst (v := iZ 0) hx hb dX5_holds_139 rfl ?_
        exact g_zret hx hb hr hlk hB dX5_holds_140 (by decide) (⟨Or.inr ⟨rfl, fun q => by rcases q with q | q | ⟨q0, q1 | q1 | q1 | q1⟩ <;> omega⟩, fr.rf, rfl⟩)
      · refine lv_aload_n hx hb dX5_holds_122 rfl (lv_at hl 3 rfl) ?_
        refine g_getr (k := 2) (j := 8) hx hb hts hown hK hθ hB cf5 (by decide) rfl (by decide) kw_168 rfl rfl dX5_holds_123 ?_
        refine lv_iload_n hx hb dX5_holds_126 rfl (lv_at hl 2 rfl) ?_
        refine g_calli (g_runV (i := 8) (As := [.int (iZ (((f / 1000 % 10) : Nat) : Int))]) (rest := []) hx hb hml hown hts hK hst hB (mX1_valueOf l θ hθ σ z 8 isF_8 (((f / 1000 % 10) : Nat) : Int) (show rg _ from ⟨by omega, by omega⟩)) mv_X1_valueOf kw_467 cf1 (by decide) rfl rfl hl.1 rfl (Nat.le_of_ble_eq_true rfl) ⟨by decide, by decide⟩ ⟨Nat.le_refl _, Nat.le_refl _⟩ dX5_holds_127) hB (fun q_14 σ_12 z_13 H locs hq_14 pq_14 hB => ?_)
        obtain ⟨pq_14, e1_, e2_⟩ := pq_14
        rw [e1_, e2_] at hB
        clear e1_ e2_
        subst pq_14
        refine z_top (b := (fp σ 8 (41 + f / 1000 % 10))) (vc_n _ (by omega)) ?_
        have hrv := fp_rg hR 8 (41 + f / 1000 % 10)
        refine lv_iload hx hb dX5_holds_130 (lv_at hl 0 rfl) ?_
        refine z_icmp_ne (tgt := 139) hx hb dX5_holds_132 (by decide) ⟨by omega, by omega⟩ ⟨by omega, by omega⟩ (fun c_15 => ?_) (fun c_15 => ?_)
        · refine lv_iconst (v := iZ 0) hx hb dX5_holds_139 rfl ?_
          exact g_zret hx hb hr hlk hB dX5_holds_140 (by decide) (⟨Or.inr ⟨rfl, fun q => by rcases q with q | q | ⟨q0, q1 | q1 | q1 | q1⟩ <;> omega⟩, fr.rf, rfl⟩)
        · refine lv_iconst (v := iZ 1) hx hb dX5_holds_135 rfl ?_
          refine lv_goto (tgt := 140) hx hb dX5_holds_136 (by decide) ?_
          exact g_zret hx hb hr hlk hB dX5_holds_140 (by decide) (⟨Or.inl ⟨rfl, Or.inr (Or.inr ⟨by omega, Or.inl ⟨by omega, by omega, by omega⟩⟩), by rw [jcG, if_neg (by omega), if_neg (by omega)]⟩, fr.rf, rfl⟩)
  · refine z_tabIn (v := 4) (off := 113) (tgt := 141) hx hb dX5_holds_28 c_1 ⟨by decide, by decide⟩ (by decide) (by decide) rfl (by decide) ?_
    have hxk := c_1
    refine lv_aload_n hx hb dX5_holds_141 rfl (lv_at hl 3 rfl) ?_
    refine lv_iload_n hx hb dX5_holds_142 rfl (lv_at hl 2 rfl) ?_
    refine g_calli (g_runV (i := 0) (As := [.int (iZ (((f / 1000 % 10) : Nat) : Int))]) (rest := []) hx hb hml hown hts hK hst hB (mX5_isStream l θ hθ σ z (by omega) (((f / 1000 % 10) : Nat) : Int) ⟨by omega, by omega⟩) mv_X5_isStream kw_462 cf5 (by decide) rfl rfl hl.1 rfl (Nat.le_of_ble_eq_true rfl) ⟨by decide, by decide⟩ ⟨Nat.le_refl _, Nat.le_refl _⟩ dX5_holds_143) hB (fun q_18 σ_16 z_17 H locs hq_18 pq_18 hB => ?_)
    obtain ⟨pq_18, e1_, e2_⟩ := pq_18
    rw [e1_, e2_] at hB
    clear e1_ e2_
    refine z_if_eq (tgt := 175) hx hb dX5_holds_146 (by decide) ⟨by omega, by omega⟩ (fun c_19 => ?_) (fun c_19 => ?_)
    · refine lv_iconst (v := iZ 0) hx hb dX5_holds_175 rfl ?_
      exact g_zret hx hb hr hlk hB dX5_holds_176 (by decide) (⟨Or.inr ⟨rfl, fun q => by rcases q with q | q | ⟨q0, q1 | q1 | q1 | q1⟩ <;> omega⟩, fr.rf, rfl⟩)
    · refine lv_iload_n hx hb dX5_holds_149 rfl (lv_at hl 1 rfl) ?_
      refine z_if_ne (tgt := 175) hx hb dX5_holds_150 (by decide) ⟨by omega, by omega⟩ (fun c_20 => ?_) (fun c_20 => ?_)
      · refine lv_iconst (v := iZ 0) hx hb dX5_holds_175 rfl ?_
        exact g_zret hx hb hr hlk hB dX5_holds_176 (by decide) (⟨Or.inr ⟨rfl, fun q => by rcases q with q | q | ⟨q0, q1 | q1 | q1 | q1⟩ <;> omega⟩, fr.rf, rfl⟩)
      · refine lv_iload hx hb dX5_holds_153 (lv_at hl 0 rfl) ?_
        refine z_if_ne (tgt := 175) hx hb dX5_holds_155 (by decide) ⟨by omega, by omega⟩ (fun c_21 => ?_) (fun c_21 => ?_)
        · refine lv_iconst (v := iZ 0) hx hb dX5_holds_175 rfl ?_
          exact g_zret hx hb hr hlk hB dX5_holds_176 (by decide) (⟨Or.inr ⟨rfl, fun q => by rcases q with q | q | ⟨q0, q1 | q1 | q1 | q1⟩ <;> omega⟩, fr.rf, rfl⟩)
        · refine lv_aload_n hx hb dX5_holds_158 rfl (lv_at hl 3 rfl) ?_
          refine g_getr (k := 2) (j := 8) hx hb hts hown hK hθ hB cf5 (by decide) rfl (by decide) kw_168 rfl rfl dX5_holds_159 ?_
          refine lv_iload_n hx hb dX5_holds_162 rfl (lv_at hl 2 rfl) ?_
          refine g_calli (g_runV (i := 8) (As := [.int (iZ (((f / 1000 % 10) : Nat) : Int))]) (rest := []) hx hb hml hown hts hK hst hB (mX1_valueOf l θ hθ σ z 8 isF_8 (((f / 1000 % 10) : Nat) : Int) (show rg _ from ⟨by omega, by omega⟩)) mv_X1_valueOf kw_467 cf1 (by decide) rfl rfl hl.1 rfl (Nat.le_of_ble_eq_true rfl) ⟨by decide, by decide⟩ ⟨Nat.le_refl _, Nat.le_refl _⟩ dX5_holds_163) hB (fun q_24 σ_22 z_23 H locs hq_24 pq_24 hB => ?_)
          obtain ⟨pq_24, e1_, e2_⟩ := pq_24
          rw [e1_, e2_] at hB
          clear e1_ e2_
          subst pq_24
          refine z_top (b := (fp σ 8 (41 + f / 1000 % 10))) (vc_n _ (by omega)) ?_
          have hrv := fp_rg hR 8 (41 + f / 1000 % 10)
          refine lv_bipush (v := iZ (-9)) hx hb dX5_holds_166 (by decide) ?_
          refine z_icmp_ne (tgt := 175) hx hb dX5_holds_168 (by decide) ⟨by omega, by omega⟩ ⟨by decide, by decide⟩ (fun c_25 => ?_) (fun c_25 => ?_)
          · refine lv_iconst (v := iZ 0) hx hb dX5_holds_175 rfl ?_
            exact g_zret hx hb hr hlk hB dX5_holds_176 (by decide) (⟨Or.inr ⟨rfl, fun q => by rcases q with q | q | ⟨q0, q1 | q1 | q1 | q1⟩ <;> omega⟩, fr.rf, rfl⟩)
          · refine lv_iconst (v := iZ 1) hx hb dX5_holds_171 rfl ?_
            refine lv_goto (tgt := 176) hx hb dX5_holds_172 (by decide) ?_
            exact g_zret hx hb hr hlk hB dX5_holds_176 (by decide) (⟨Or.inl ⟨rfl, Or.inr (Or.inr ⟨by omega, Or.inr (Or.inl ⟨by omega, by omega, by omega, by omega⟩)⟩), by rw [jcG, if_neg (by omega), if_neg (by omega)]⟩, fr.rf, rfl⟩)
  · refine z_tabIn (v := 5) (off := 149) (tgt := 177) hx hb dX5_holds_28 c_1 ⟨by decide, by decide⟩ (by decide) (by decide) rfl (by decide) ?_
    have hxk := c_1
    refine lv_aload_n hx hb dX5_holds_177 rfl (lv_at hl 3 rfl) ?_
    refine lv_iload_n hx hb dX5_holds_178 rfl (lv_at hl 2 rfl) ?_
    refine g_calli (g_runV (i := 0) (As := [.int (iZ (((f / 1000 % 10) : Nat) : Int))]) (rest := []) hx hb hml hown hts hK hst hB (mX5_isStream l θ hθ σ z (by omega) (((f / 1000 % 10) : Nat) : Int) ⟨by omega, by omega⟩) mv_X5_isStream kw_462 cf5 (by decide) rfl rfl hl.1 rfl (Nat.le_of_ble_eq_true rfl) ⟨by decide, by decide⟩ ⟨Nat.le_refl _, Nat.le_refl _⟩ dX5_holds_179) hB (fun q_28 σ_26 z_27 H locs hq_28 pq_28 hB => ?_)
    obtain ⟨pq_28, e1_, e2_⟩ := pq_28
    rw [e1_, e2_] at hB
    clear e1_ e2_
    refine z_if_eq (tgt := 207) hx hb dX5_holds_182 (by decide) ⟨by omega, by omega⟩ (fun c_29 => ?_) (fun c_29 => ?_)
    · refine lv_iconst (v := iZ 0) hx hb dX5_holds_207 rfl ?_
      exact g_zret hx hb hr hlk hB dX5_holds_208 (by decide) (⟨Or.inr ⟨rfl, fun q => by rcases q with q | q | ⟨q0, q1 | q1 | q1 | q1⟩ <;> omega⟩, fr.rf, rfl⟩)
    · refine lv_iload hx hb dX5_holds_185 (lv_at hl 0 rfl) ?_
      refine z_if_ne (tgt := 207) hx hb dX5_holds_187 (by decide) ⟨by omega, by omega⟩ (fun c_30 => ?_) (fun c_30 => ?_)
      · refine lv_iconst (v := iZ 0) hx hb dX5_holds_207 rfl ?_
        exact g_zret hx hb hr hlk hB dX5_holds_208 (by decide) (⟨Or.inr ⟨rfl, fun q => by rcases q with q | q | ⟨q0, q1 | q1 | q1 | q1⟩ <;> omega⟩, fr.rf, rfl⟩)
      · refine lv_aload_n hx hb dX5_holds_190 rfl (lv_at hl 3 rfl) ?_
        refine g_getr (k := 3) (j := 13) hx hb hts hown hK hθ hB cf5 (by decide) rfl (by decide) kw_169 rfl rfl dX5_holds_191 ?_
        refine g_getr (k := 7) (j := 17) hx hb hts hown hK hθ hB cf2 (by decide) rfl (by decide) kw_92 rfl rfl dX5_holds_194 ?_
        refine lv_iload_n hx hb dX5_holds_197 rfl (lv_at hl 2 rfl) ?_
        refine g_iald (k := (f / 1000 % 10)) hx hb hK hB (by decide) rfl (by omega) (Nat.lt_of_lt_of_eq (by omega : (f / 1000 % 10) < 8) (Eq.symm rfl)) (by decide) dX5_holds_198 ?_
        have hr_31 := hR 17 (f / 1000 % 10)
        refine lv_iload_n hx hb dX5_holds_199 rfl (lv_at hl 1 rfl) ?_
        refine z_icmp_ne (tgt := 207) hx hb dX5_holds_200 (by decide) ⟨by omega, by omega⟩ ⟨by omega, by omega⟩ (fun c_32 => ?_) (fun c_32 => ?_)
        · refine lv_iconst (v := iZ 0) hx hb dX5_holds_207 rfl ?_
          exact g_zret hx hb hr hlk hB dX5_holds_208 (by decide) (⟨Or.inr ⟨rfl, fun q => by rcases q with q | q | ⟨q0, q1 | q1 | q1 | q1⟩ <;> omega⟩, fr.rf, rfl⟩)
        · refine lv_iconst (v := iZ 1) hx hb dX5_holds_203 rfl ?_
          refine lv_goto (tgt := 208) hx hb dX5_holds_204 (by decide) ?_
          exact g_zret hx hb hr hlk hB dX5_holds_208 (by decide) (⟨Or.inl ⟨rfl, Or.inr (Or.inr ⟨by omega, Or.inr (Or.inr (Or.inl ⟨by omega, by omega, by omega⟩))⟩), by rw [jcG, if_neg (by omega), if_neg (by omega)]⟩, fr.rf, rfl⟩)
  · refine z_tabIn (v := 6) (off := 181) (tgt := 209) hx hb dX5_holds_28 c_1 ⟨by decide, by decide⟩ (by decide) (by decide) rfl (by decide) ?_
    have hxk := c_1
    refine lv_aload_n hx hb dX5_holds_209 rfl (lv_at hl 3 rfl) ?_
    refine lv_iload_n hx hb dX5_holds_210 rfl (lv_at hl 2 rfl) ?_
    refine g_calli (g_runV (i := 0) (As := [.int (iZ (((f / 1000 % 10) : Nat) : Int))]) (rest := []) hx hb hml hown hts hK hst hB (mX5_isStream l θ hθ σ z (by omega) (((f / 1000 % 10) : Nat) : Int) ⟨by omega, by omega⟩) mv_X5_isStream kw_462 cf5 (by decide) rfl rfl hl.1 rfl (Nat.le_of_ble_eq_true rfl) ⟨by decide, by decide⟩ ⟨Nat.le_refl _, Nat.le_refl _⟩ dX5_holds_211) hB (fun q_35 σ_33 z_34 H locs hq_35 pq_35 hB => ?_)
    obtain ⟨pq_35, e1_, e2_⟩ := pq_35
    rw [e1_, e2_] at hB
    clear e1_ e2_
    refine z_if_eq (tgt := 255) hx hb dX5_holds_214 (by decide) ⟨by omega, by omega⟩ (fun c_36 => ?_) (fun c_36 => ?_)
    · refine lv_iconst (v := iZ 0) hx hb dX5_holds_255 rfl ?_
      exact g_zret hx hb hr hlk hB dX5_holds_256 (by decide) (⟨Or.inr ⟨rfl, fun q => by rcases q with q | q | ⟨q0, q1 | q1 | q1 | q1⟩ <;> omega⟩, fr.rf, rfl⟩)
    · refine lv_aload_n hx hb dX5_holds_217 rfl (lv_at hl 3 rfl) ?_
      refine lv_iload_n hx hb dX5_holds_218 rfl (lv_at hl 1 rfl) ?_
      refine g_calli (g_runV (i := 0) (As := [.int (iZ (((f / 100 % 10) : Nat) : Int))]) (rest := []) hx hb hml hown hts hK hst hB (mX5_isStream l θ hθ σ z (by omega) (((f / 100 % 10) : Nat) : Int) ⟨by omega, by omega⟩) mv_X5_isStream kw_462 cf5 (by decide) rfl rfl hl.1 rfl (Nat.le_of_ble_eq_true rfl) ⟨by decide, by decide⟩ ⟨Nat.le_refl _, Nat.le_refl _⟩ dX5_holds_219) hB (fun q_39 σ_37 z_38 H locs hq_39 pq_39 hB => ?_)
      obtain ⟨pq_39, e1_, e2_⟩ := pq_39
      rw [e1_, e2_] at hB
      clear e1_ e2_
      refine z_if_eq (tgt := 255) hx hb dX5_holds_222 (by decide) ⟨by omega, by omega⟩ (fun c_40 => ?_) (fun c_40 => ?_)
      · refine lv_iconst (v := iZ 0) hx hb dX5_holds_255 rfl ?_
        exact g_zret hx hb hr hlk hB dX5_holds_256 (by decide) (⟨Or.inr ⟨rfl, fun q => by rcases q with q | q | ⟨q0, q1 | q1 | q1 | q1⟩ <;> omega⟩, fr.rf, rfl⟩)
      · refine lv_iload hx hb dX5_holds_225 (lv_at hl 0 rfl) ?_
        refine z_if_ne (tgt := 255) hx hb dX5_holds_227 (by decide) ⟨by omega, by omega⟩ (fun c_41 => ?_) (fun c_41 => ?_)
        · refine lv_iconst (v := iZ 0) hx hb dX5_holds_255 rfl ?_
          exact g_zret hx hb hr hlk hB dX5_holds_256 (by decide) (⟨Or.inr ⟨rfl, fun q => by rcases q with q | q | ⟨q0, q1 | q1 | q1 | q1⟩ <;> omega⟩, fr.rf, rfl⟩)
        · refine lv_aload_n hx hb dX5_holds_230 rfl (lv_at hl 3 rfl) ?_
          refine g_getr (k := 3) (j := 13) hx hb hts hown hK hθ hB cf5 (by decide) rfl (by decide) kw_169 rfl rfl dX5_holds_231 ?_
          refine g_getr (k := 6) (j := 16) hx hb hts hown hK hθ hB cf2 (by decide) rfl (by decide) kw_90 rfl rfl dX5_holds_234 ?_
          refine lv_iload_n hx hb dX5_holds_237 rfl (lv_at hl 2 rfl) ?_
          refine g_iald (k := (f / 1000 % 10)) hx hb hK hB (by decide) rfl (by omega) (Nat.lt_of_lt_of_eq (by omega : (f / 1000 % 10) < 8) (Eq.symm rfl)) (by decide) dX5_holds_238 ?_
          have hr_42 := hR 16 (f / 1000 % 10)
          refine lv_aload_n hx hb dX5_holds_239 rfl (lv_at hl 3 rfl) ?_
          refine g_getr (k := 3) (j := 13) hx hb hts hown hK hθ hB cf5 (by decide) rfl (by decide) kw_169 rfl rfl dX5_holds_240 ?_
          refine g_getr (k := 6) (j := 16) hx hb hts hown hK hθ hB cf2 (by decide) rfl (by decide) kw_90 rfl rfl dX5_holds_243 ?_
          refine lv_iload_n hx hb dX5_holds_246 rfl (lv_at hl 1 rfl) ?_
          refine g_iald (k := (f / 100 % 10)) hx hb hK hB (by decide) rfl (by omega) (Nat.lt_of_lt_of_eq (by omega : (f / 100 % 10) < 8) (Eq.symm rfl)) (by decide) dX5_holds_247 ?_
          have hr_43 := hR 16 (f / 100 % 10)
          refine z_icmp_ne (tgt := 255) hx hb dX5_holds_248 (by decide) ⟨by omega, by omega⟩ ⟨by omega, by omega⟩ (fun c_44 => ?_) (fun c_44 => ?_)
          · refine lv_iconst (v := iZ 0) hx hb dX5_holds_255 rfl ?_
            exact g_zret hx hb hr hlk hB dX5_holds_256 (by decide) (⟨Or.inr ⟨rfl, fun q => by rcases q with q | q | ⟨q0, q1 | q1 | q1 | q1⟩ <;> omega⟩, fr.rf, rfl⟩)
          · refine lv_iconst (v := iZ 1) hx hb dX5_holds_251 rfl ?_
            refine lv_goto (tgt := 256) hx hb dX5_holds_252 (by decide) ?_
            exact g_zret hx hb hr hlk hB dX5_holds_256 (by decide) (⟨Or.inl ⟨rfl, Or.inr (Or.inr ⟨by omega, Or.inr (Or.inr (Or.inr ⟨by omega, by omega, by omega, by omega⟩))⟩), by rw [jcG, if_neg (by omega), if_neg (by omega)]⟩, fr.rf, rfl⟩)
