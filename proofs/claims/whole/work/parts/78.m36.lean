set_option maxHeartbeats 4000000 in
set_option maxRecDepth 100000 in
theorem mX5_judge (l : Launch) (θ : gT) (hθ : gOK θ) (σ : gS) (z : gZ) (N : Nat) (T : Nat → Nat) (h00 : σ 3 0 = (N : Int)) (hN8 : N ≤ 8) (hb9 : bC (fp σ 3)) (hTT : (σ 13 0 = -9 ∧ σ 13 1 = 0 ∧ σ 13 2 = -9) → ∀ j, j < N → σ 19 j = ((T j : Nat) : Int) ∧ (T j < 8 ∧ T j < N)) (n r : Int) (hnr : rg n) (hrr : rgL r) : GI l θ yX5_judge cX5_judge 8 (some .int) 5 118 [.ref (tad θ 0), .int (iZ n), .long (lZ r)] σ z (fun q σ' z' => ((¬ ((1 ≤ n ∧ n ≤ 3) ∧ 0 ≤ r ∧ r < ((100000 ^ n.toNat : Nat) : Int)) ∧ q = -2) ∨ (((1 ≤ n ∧ n ≤ 3) ∧ 0 ≤ r ∧ r < ((100000 ^ n.toNat : Nat) : Int)) ∧ ¬ (σ 13 0 = -9 ∧ σ 13 1 = 0 ∧ σ 13 2 = -9) ∧ q = -3) ∨ (((1 ≤ n ∧ n ≤ 3) ∧ 0 ≤ r ∧ r < ((100000 ^ n.toNat : Nat) : Int)) ∧ (σ 13 0 = -9 ∧ σ 13 1 = 0 ∧ σ 13 2 = -9) ∧ ∃ n0 r0 : Nat, n = (n0 : Int) ∧ r = (r0 : Int) ∧ jkP (fp σ 3) T (σ 16) (σ 17) N r0 n0 q)) ∧ fr (wF 8) σ σ' ∧ z' = z) := by
  refine g_enter (ret := (some .int)) (by decide +kernel) (Nat.le_of_ble_eq_true rfl) ?_
  intro p e s m args below meth c ls F hB hl
  obtain ⟨hx, hb, hr, hml, hown, hts, hlk, hK, hst⟩ := F
  have hR := hB.1.2
  have hl : lv_has ls 8 [(0, .ref (tad θ 0)), (1, .int (iZ n)), (2, .long (lZ r))] := hl
  refine lv_iload_n hx hb dX5_judge_0 rfl (lv_at hl 1 rfl) ?_
  refine lv_iconst (v := iZ 1) hx hb dX5_judge_1 rfl ?_
  refine z_icmp_lt (tgt := 28) hx hb dX5_judge_2 (by decide) ⟨by omega, by omega⟩ ⟨by decide, by decide⟩ (fun c_1 => ?_) (fun c_1 => ?_)
  · refine lv_bipush (v := iZ (-2)) hx hb dX5_judge_28 (by decide) ?_
    exact g_iret hx hb hr hlk hB dX5_judge_30 ⟨by decide, by decide⟩ (⟨Or.inl ⟨by omega, rfl⟩, fr.rf, rfl⟩)
  · refine lv_iload_n hx hb dX5_judge_5 rfl (lv_at hl 1 rfl) ?_
    refine lv_iconst (v := iZ 3) hx hb dX5_judge_6 rfl ?_
    refine z_icmp_gt (tgt := 28) hx hb dX5_judge_7 (by decide) ⟨by omega, by omega⟩ ⟨by decide, by decide⟩ (fun c_2 => ?_) (fun c_2 => ?_)
    · refine lv_bipush (v := iZ (-2)) hx hb dX5_judge_28 (by decide) ?_
      exact g_iret hx hb hr hlk hB dX5_judge_30 ⟨by decide, by decide⟩ (⟨Or.inl ⟨by omega, rfl⟩, fr.rf, rfl⟩)
    · obtain ⟨n0, hn0⟩ : ∃ n0 : Nat, n = (n0 : Int) := ⟨n.toNat, by omega⟩
      have hnt : n.toNat = n0 := by omega
      have h5 := pow_5 (show n0 ≤ 3 by omega)
      have hl : lv_has ls 8 [(0, .ref (tad θ 0)), (1, .int (iZ ((n0 : Nat) : Int))), (2, .long (lZ r))] := by rw [hn0] at hl; exact hl
      refine lv_lload_n hx hb dX5_judge_10 rfl (lv_at hl 2 rfl) ?_
      refine lv_lconst (v := lZ 0) hx hb dX5_judge_11 (by decide) ?_
      refine z_lcmp hx hb dX5_judge_12 ⟨by omega, by omega⟩ ⟨by omega, by omega⟩ ?_
      have hc_3 := cmpZ_sp r 0
      refine z_if_lt (tgt := 28) hx hb dX5_judge_13 (by decide) ⟨by omega, by omega⟩ (fun c_4 => ?_) (fun c_4 => ?_)
      · refine lv_bipush (v := iZ (-2)) hx hb dX5_judge_28 (by decide) ?_
        exact g_iret hx hb hr hlk hB dX5_judge_30 ⟨by decide, by decide⟩ (⟨Or.inl ⟨by rw [hnt]; omega, rfl⟩, fr.rf, rfl⟩)
      · refine lv_lload_n hx hb dX5_judge_16 rfl (lv_at hl 2 rfl) ?_
        refine lv_ldc2 (v := lZ 100000) hx hb hown (hts _ kw_577) dX5_judge_17 ?_
        refine lv_iload_n hx hb dX5_judge_20 rfl (lv_at hl 1 rfl) ?_
        refine g_calll (g_runS (As := [.long (lZ 100000), .int (iZ ((n0 : Nat) : Int))]) (rest := [.long (lZ r)]) hx hb hml hown hts hK hst hB (mX5_power l θ hθ σ z 100000 n0 (by omega)) ms_X5_power kw_578 rfl hl.1 rfl (Nat.le_of_ble_eq_true rfl) ⟨by decide, by decide⟩ ⟨Nat.le_refl _, Nat.le_refl _⟩ dX5_judge_21) hB (fun q_7 σ_5 z_6 H locs pq_7 hB => ?_)
        obtain ⟨pq_7, e1_, e2_⟩ := pq_7
        rw [e1_, e2_] at hB
        clear e1_ e2_
        subst pq_7
        refine z_lcmp hx hb dX5_judge_24 ⟨by omega, by omega⟩ ⟨by omega, by omega⟩ ?_
        have hc_8 := cmpZ_sp r ((100000 ^ n0 : Nat) : Int)
        refine z_if_lt (tgt := 31) hx hb dX5_judge_25 (by decide) ⟨by omega, by omega⟩ (fun c_9 => ?_) (fun c_9 => ?_)
        · have hJK : ((1 ≤ n ∧ n ≤ 3) ∧ 0 ≤ r ∧ r < ((100000 ^ n.toNat : Nat) : Int)) := by rw [hnt]; omega
          obtain ⟨r0, hr0⟩ : ∃ r0 : Nat, r = (r0 : Int) := ⟨r.toNat, by omega⟩
          have hl : lv_has ls 8 [(0, .ref (tad θ 0)), (1, .int (iZ ((n0 : Nat) : Int))), (2, .long (lZ ((r0 : Nat) : Int)))] := by rw [hr0] at hl; exact hl
          refine lv_aload_n hx hb dX5_judge_31 rfl (lv_at hl 0 rfl) ?_
          refine g_getr (k := 3) (j := 13) hx hb hts hown hK hθ hB cf5 (by decide) rfl (by decide) kw_169 rfl rfl dX5_judge_32 ?_
          refine g_calli (g_runV (i := 13) (As := []) (rest := []) hx hb hml hown hts hK hst hB (mX2_isSound l θ hθ σ z ) mv_X2_isSound kw_446 cf2 (by decide) rfl rfl hl.1 rfl (Nat.le_of_ble_eq_true rfl) ⟨by decide, by decide⟩ ⟨Nat.le_refl _, Nat.le_refl _⟩ dX5_judge_35) hB (fun qs σ_10 z_11 H locs hqs hps hB => ?_)
          obtain ⟨hps, e1_, e2_⟩ := hps
          rw [e1_, e2_] at hB
          clear e1_ e2_
          rcases hps with ⟨hqs, hsn⟩ | ⟨hqs, hsn⟩
          · subst hqs
            have hT := hTT hsn
            have hT8 : ∀ i, i < N → T i < 8 ∧ T i < N := fun i hi => (hT i hi).2
            refine z_if_ne (tgt := 44) hx hb dX5_judge_38 (by decide) ⟨by decide, by decide⟩ (fun c_12 => ?_) (fun c_12 => ?_)
            · refine lv_aload_n hx hb dX5_judge_44 rfl (lv_at hl 0 rfl) ?_
              refine g_getr (k := 2) (j := 8) hx hb hts hown hK hθ hB cf5 (by decide) rfl (by decide) kw_168 rfl rfl dX5_judge_45 ?_
              refine lv_aload_n hx hb dX5_judge_48 rfl (lv_at hl 0 rfl) ?_
              refine g_getr (k := 1) (j := 3) hx hb hts hown hK hθ hB cf5 (by decide) rfl (by decide) kw_167 rfl rfl dX5_judge_49 ?_
              refine g_callv (g_runV (i := 8) (As := [.ref (tad θ 3)]) (rest := []) hx hb hml hown hts hK hst hB (mX1_become l θ hθ σ z 8 isF_8 3 isF_3 (by decide)) mv_X1_become kw_342 cf1 (by decide) rfl rfl hl.1 rfl (Nat.le_of_ble_eq_true rfl) ⟨by decide, by decide⟩ ⟨Nat.le_refl _, Nat.le_refl _⟩ dX5_judge_52) hB (fun σ1 z_13 H locs hp1 hB => ?_)
              obtain ⟨hp1, hf1, e2_⟩ := hp1
              rw [e2_] at hB
              clear e2_
              have hR := hB.1.2
              refine lv_iconst (v := iZ 0) hx hb dX5_judge_55 rfl ?_
              refine lv_istore (lv' := [(4, .int (iZ 0)), (0, .ref (tad θ 0)), (1, .int (iZ ((n0 : Nat) : Int))), (2, .long (lZ ((r0 : Nat) : Int)))]) hx hb dX5_judge_56 hl (by decide) rfl (fun ls hl => ?_)
              have loop58 : ∀ (n58 : Nat) (i : Nat) (σ4 : gS) (H : Heap) (locs : List Loc) (ls : Array Slot), n0 - i < n58 → (i ≤ n0) → (fp σ4 8 = (jcR (fp σ 3) T (σ 16) N r0 n0) i) → (∀ j, j < i → jcB ((jcR (fp σ 3) T (σ 16) N r0 n0) j) (σ 16) (σ 17) N (jdF r0 n0 j)) → (fr (wF 8) σ σ4) →  gB θ σ4 z s.heap H locs → lv_has ls 8 [(4, .int (iZ ((i : Nat) : Int))), (0, .ref (tad θ 0)), (1, .int (iZ ((n0 : Nat) : Int))), (2, .long (lZ ((r0 : Nat) : Int)))] → W p l e (gRm 5 118) s m args below meth c H locs 0 0 (MQ below (gQi θ (fun q σ' z' => ((¬ ((1 ≤ n ∧ n ≤ 3) ∧ 0 ≤ r ∧ r < ((100000 ^ n.toNat : Nat) : Int)) ∧ q = -2) ∨ (((1 ≤ n ∧ n ≤ 3) ∧ 0 ≤ r ∧ r < ((100000 ^ n.toNat : Nat) : Int)) ∧ ¬ (σ 13 0 = -9 ∧ σ 13 1 = 0 ∧ σ 13 2 = -9) ∧ q = -3) ∨ (((1 ≤ n ∧ n ≤ 3) ∧ 0 ≤ r ∧ r < ((100000 ^ n.toNat : Nat) : Int)) ∧ (σ 13 0 = -9 ∧ σ 13 1 = 0 ∧ σ 13 2 = -9) ∧ ∃ n0 r0 : Nat, n = (n0 : Int) ∧ r = (r0 : Int) ∧ jkP (fp σ 3) T (σ 16) (σ 17) N r0 n0 q)) ∧ fr (wF 8) σ σ' ∧ z' = z)) args s 0 0 (tA θ)) (F0 m 58 ls []) := by
                intro n58
                induction n58 with
                | zero => intro i σ4 H locs ls hmu; exact absurd hmu (Nat.not_lt_zero _)
                | succ n58 ih58 =>
                  intro i σ4 H locs ls hmu hi hg hall hf4 hB hl
                  have hR := hB.1.2
                  refine lv_iload hx hb dX5_judge_58 (lv_at hl 0 rfl) ?_
                  refine lv_iload_n hx hb dX5_judge_60 rfl (lv_at hl 2 rfl) ?_
                  refine z_icmp_ge (tgt := 116) hx hb dX5_judge_61 (by decide) ⟨by omega, by omega⟩ ⟨by omega, by omega⟩ (fun c_15 => ?_) (fun c_15 => ?_)
                  · refine lv_bipush (v := iZ (-9)) hx hb dX5_judge_116 (by decide) ?_
                    exact g_iret hx hb hr hlk hB dX5_judge_118 ⟨by decide, by decide⟩ (⟨Or.inr (Or.inr ⟨hJK, hsn, n0, r0, hn0, hr0, Or.inl ⟨rfl, fun j hj => hall j (by omega)⟩⟩), hf4, rfl⟩)
                  · refine lv_lload_n hx hb dX5_judge_64 rfl (lv_at hl 3 rfl) ?_
                    refine lv_lstore (lv' := [(5, .long (lZ ((r0 : Nat) : Int))), (4, .int (iZ ((i : Nat) : Int))), (0, .ref (tad θ 0)), (1, .int (iZ ((n0 : Nat) : Int))), (2, .long (lZ ((r0 : Nat) : Int)))]) hx hb dX5_judge_65 hl (by decide) rfl (fun ls hl => ?_)
                    refine lv_iload hx hb dX5_judge_67 (lv_at hl 1 rfl) ?_
                    refine lv_iconst (v := iZ 1) hx hb dX5_judge_69 rfl ?_
                    refine z_iadd hx hb dX5_judge_70 ?_
                    refine lv_istore (lv' := [(7, .int (iZ (((i : Nat) : Int) + 1))), (5, .long (lZ ((r0 : Nat) : Int))), (4, .int (iZ ((i : Nat) : Int))), (0, .ref (tad θ 0)), (1, .int (iZ ((n0 : Nat) : Int))), (2, .long (lZ ((r0 : Nat) : Int)))]) hx hb dX5_judge_71 hl (by decide) rfl (fun ls hl => ?_)
                    have loop73 : ∀ (n73 : Nat) (j : Nat) (A : Nat) (H : Heap) (locs : List Loc) (ls : Array Slot), n0 - j < n73 → (j ≤ n0 - 1 - i) → (A = r0 / 100000 ^ j) →  gB θ σ4 z s.heap H locs → lv_has ls 8 [(7, .int (iZ (((i + 1 + j) : Nat) : Int))), (5, .long (lZ ((A : Nat) : Int))), (4, .int (iZ ((i : Nat) : Int))), (0, .ref (tad θ 0)), (1, .int (iZ ((n0 : Nat) : Int))), (2, .long (lZ ((r0 : Nat) : Int)))] → W p l e (gRm 5 118) s m args below meth c H locs 0 0 (MQ below (gQi θ (fun q σ' z' => ((¬ ((1 ≤ n ∧ n ≤ 3) ∧ 0 ≤ r ∧ r < ((100000 ^ n.toNat : Nat) : Int)) ∧ q = -2) ∨ (((1 ≤ n ∧ n ≤ 3) ∧ 0 ≤ r ∧ r < ((100000 ^ n.toNat : Nat) : Int)) ∧ ¬ (σ 13 0 = -9 ∧ σ 13 1 = 0 ∧ σ 13 2 = -9) ∧ q = -3) ∨ (((1 ≤ n ∧ n ≤ 3) ∧ 0 ≤ r ∧ r < ((100000 ^ n.toNat : Nat) : Int)) ∧ (σ 13 0 = -9 ∧ σ 13 1 = 0 ∧ σ 13 2 = -9) ∧ ∃ n0 r0 : Nat, n = (n0 : Int) ∧ r = (r0 : Int) ∧ jkP (fp σ 3) T (σ 16) (σ 17) N r0 n0 q)) ∧ fr (wF 8) σ σ' ∧ z' = z)) args s 0 0 (tA θ)) (F0 m 73 ls []) := by
                      intro n73
                      induction n73 with
                      | zero => intro j A H locs ls hmu; exact absurd hmu (Nat.not_lt_zero _)
                      | succ n73 ih73 =>
                        intro j A H locs ls hmu hj hA hB hl
                        have hR := hB.1.2
                        have hAl : A ≤ r0 := by rw [hA]; exact Nat.div_le_self _ _
                        refine lv_iload hx hb dX5_judge_73 (lv_at hl 0 rfl) ?_
                        refine lv_iload_n hx hb dX5_judge_75 rfl (lv_at hl 4 rfl) ?_
                        refine z_icmp_ge (tgt := 93) hx hb dX5_judge_76 (by decide) ⟨by omega, by omega⟩ ⟨by omega, by omega⟩ (fun c_16 => ?_) (fun c_16 => ?_)
                        · refine lv_aload_n hx hb dX5_judge_93 rfl (lv_at hl 3 rfl) ?_
                          refine lv_lload hx hb dX5_judge_94 (lv_at hl 1 rfl) ?_
                          refine lv_ldc2 (v := lZ 100000) hx hb hown (hts _ kw_577) dX5_judge_96 ?_
                          refine z_lrem hx hb dX5_judge_99 ⟨by omega, by omega⟩ (by omega) ⟨by omega, by omega⟩ (by omega) ?_
                          refine z_topl (b := ((jdF r0 n0 i : Nat) : Int)) (by rw [jdF, show n0 - 1 - i = j by omega, ← hA]; omega) ?_
                          refine z_l2i hx hb dX5_judge_100 ?_
                          refine z_top (b := (((jdF r0 n0 i) : Nat) : Int)) (rfl) ?_
                          refine g_calli (g_runV (i := 0) (As := [.int (iZ (((jdF r0 n0 i) : Nat) : Int))]) (rest := []) hx hb hml hown hts hK hst hB (mX5_holds l θ hθ σ4 z N T (by rw [hf4 3 0 rfl]; exact h00) hN8 (fun j hj => by rw [hf4 19 j rfl]; exact hT j hj) (by rw [hg, jcR_0 hT8]; exact h00) (by rw [hg]; exact jcR_b hb9 h00 hT8 r0 n0 i) (jdF r0 n0 i) (by rw [jdF]; omega)) mv_X5_holds kw_581 cf5 (by decide) rfl rfl hl.1 rfl (Nat.le_of_ble_eq_true rfl) ⟨by decide, by decide⟩ ⟨Nat.le_refl _, Nat.le_refl _⟩ dX5_judge_101) hB (fun q5 σ5 z_17 H locs hq5 hp5 hB => ?_)
                          obtain ⟨hp5, hf5, e2_⟩ := hp5
                          rw [e2_] at hB
                          clear e2_
                          have hR := hB.1.2
                          rw [hg, (hf4.row (fun k => isF_8.sn (by omega)) : σ4 16 = σ 16), (hf4.row (fun k => isF_8.sn (by omega)) : σ4 17 = σ 17)] at hp5
                          rcases hp5 with ⟨hq5, hjb, hg5⟩ | ⟨hq5, hjb⟩
                          · subst hq5
                            refine z_if_ne (tgt := 110) hx hb dX5_judge_104 (by decide) ⟨by decide, by decide⟩ (fun c_18 => ?_) (fun c_18 => ?_)
                            · refine z_iinc (k := 2) (lv' := [(4, .int (iZ (((i : Nat) : Int) + 1))), (7, .int (iZ (((i + 1 + j) : Nat) : Int))), (5, .long (lZ ((A : Nat) : Int))), (0, .ref (tad θ 0)), (1, .int (iZ ((n0 : Nat) : Int))), (2, .long (lZ ((r0 : Nat) : Int)))]) hx hb dX5_judge_110 hl rfl (by decide) rfl (fun ls hl => ?_)
                              have hl : lv_has ls 8 [(4, .int (iZ (((i + 1) : Nat) : Int))), (7, .int (iZ (((i + 1 + j) : Nat) : Int))), (5, .long (lZ ((A : Nat) : Int))), (0, .ref (tad θ 0)), (1, .int (iZ ((n0 : Nat) : Int))), (2, .long (lZ ((r0 : Nat) : Int)))] := by have e9 : (((i : Nat) : Int) + 1) = (((i + 1) : Nat) : Int) := (by omega); rw [e9] at hl; exact hl
                              refine lv_goto (tgt := 58) hx hb dX5_judge_113 (by decide) ?_
                              exact ih58 (i + 1) σ5 _ _ _ (by omega) (by omega) hg5 (lt_s hall hjb) (hf4.tr hf5) hB (lv_sub hl [0, 3, 4, 5] rfl)
                            · exact absurd c_18 (by decide)
                          · subst hq5
                            refine z_if_ne (tgt := 110) hx hb dX5_judge_104 (by decide) ⟨by decide, by decide⟩ (fun c_19 => ?_) (fun c_19 => ?_)
                            · exact absurd (by decide) c_19
                            · refine lv_iload hx hb dX5_judge_107 (lv_at hl 2 rfl) ?_
                              exact g_iret hx hb hr hlk hB dX5_judge_109 ⟨by omega, by omega⟩ (⟨Or.inr (Or.inr ⟨hJK, hsn, n0, r0, hn0, hr0, Or.inr ⟨i, by omega, rfl, hjb, hall⟩⟩), hf4.tr hf5, rfl⟩)
                        · refine lv_lload hx hb dX5_judge_79 (lv_at hl 1 rfl) ?_
                          refine lv_ldc2 (v := lZ 100000) hx hb hown (hts _ kw_577) dX5_judge_81 ?_
                          refine z_ldiv hx hb dX5_judge_84 ⟨by omega, by omega⟩ (by omega) ⟨by omega, by omega⟩ (by omega) ?_
                          refine z_topl (b := ((A / 100000 : Nat) : Int)) (by omega) ?_
                          refine lv_lstore (lv' := [(5, .long (lZ ((A / 100000 : Nat) : Int))), (7, .int (iZ (((i + 1 + j) : Nat) : Int))), (4, .int (iZ ((i : Nat) : Int))), (0, .ref (tad θ 0)), (1, .int (iZ ((n0 : Nat) : Int))), (2, .long (lZ ((r0 : Nat) : Int)))]) hx hb dX5_judge_85 hl (by decide) rfl (fun ls hl => ?_)
                          refine z_iinc (k := 1) (lv' := [(7, .int (iZ ((((i + 1 + j) : Nat) : Int) + 1))), (5, .long (lZ ((A / 100000 : Nat) : Int))), (4, .int (iZ ((i : Nat) : Int))), (0, .ref (tad θ 0)), (1, .int (iZ ((n0 : Nat) : Int))), (2, .long (lZ ((r0 : Nat) : Int)))]) hx hb dX5_judge_87 hl rfl (by decide) rfl (fun ls hl => ?_)
                          have hl : lv_has ls 8 [(7, .int (iZ ((((i + 1 + j) + 1) : Nat) : Int))), (5, .long (lZ ((A / 100000 : Nat) : Int))), (4, .int (iZ ((i : Nat) : Int))), (0, .ref (tad θ 0)), (1, .int (iZ ((n0 : Nat) : Int))), (2, .long (lZ ((r0 : Nat) : Int)))] := by have e9 : ((((i + 1 + j) : Nat) : Int) + 1) = ((((i + 1 + j) + 1) : Nat) : Int) := (by omega); rw [e9] at hl; exact hl
                          refine lv_goto (tgt := 73) hx hb dX5_judge_90 (by decide) ?_
                          exact ih73 (j + 1) (A / 100000) _ _ _ (by omega) (by omega) (by rw [hA, Nat.div_div_eq_div_mul, ← Nat.pow_succ]) hB (lv_sub hl [0, 1, 2, 3, 4, 5] rfl)
                    exact loop73 _ 0 r0 _ _ _ (Nat.lt_succ_self _) (by omega) (by rw [Nat.pow_zero, Nat.div_one]) hB (lv_sub hl [0, 1, 2, 3, 4, 5] rfl)
              exact loop58 _ 0 σ1 _ _ _ (Nat.lt_succ_self _) (by omega) hp1 (fun i h => absurd h (Nat.not_lt_zero _)) hf1 hB (lv_sub hl [0, 1, 2, 3] rfl)
            · exact absurd c_12 (by decide)
          · subst hqs
            refine z_if_ne (tgt := 44) hx hb dX5_judge_38 (by decide) ⟨by decide, by decide⟩ (fun c_20 => ?_) (fun c_20 => ?_)
            · exact absurd (by decide) c_20
            · refine lv_bipush (v := iZ (-3)) hx hb dX5_judge_41 (by decide) ?_
              exact g_iret hx hb hr hlk hB dX5_judge_43 ⟨by decide, by decide⟩ (⟨Or.inr (Or.inl ⟨hJK, hsn, rfl⟩), fr.rf, rfl⟩)
        · refine lv_bipush (v := iZ (-2)) hx hb dX5_judge_28 (by decide) ?_
          exact g_iret hx hb hr hlk hB dX5_judge_30 ⟨by decide, by decide⟩ (⟨Or.inl ⟨by rw [hnt]; omega, rfl⟩, fr.rf, rfl⟩)
