set_option maxHeartbeats 4000000 in
set_option maxRecDepth 100000 in
theorem mX5_runs (l : Launch) (θ : gT) (hθ : gOK θ) (σ : gS) (z : gZ) (N : Nat) (T : Nat → Nat) (h00 : σ 3 0 = (N : Int)) (hN8 : N ≤ 8) (hb9 : bC (fp σ 3)) (hTT : (σ 13 0 = -9 ∧ σ 13 1 = 0 ∧ σ 13 2 = -9) → ∀ j, j < N → σ 19 j = ((T j : Nat) : Int) ∧ (T j < 8 ∧ T j < N)) (x9 : Int) (hxr : rg x9) : GI l θ yX5_runs cX5_runs 5 (some .int) 4 94 [.ref (tad θ 0), .int (iZ x9)] σ z (fun q σ' z' => ((¬ (1 ≤ x9 ∧ x9 ≤ 30) ∧ q = -2 ∧ z' = z) ∨ ((1 ≤ x9 ∧ x9 ≤ 30) ∧ ¬ (σ 13 0 = -9 ∧ σ 13 1 = 0 ∧ σ 13 2 = -9) ∧ q = -3 ∧ z' = z) ∨ ((1 ≤ x9 ∧ x9 ≤ 30) ∧ (σ 13 0 = -9 ∧ σ 13 1 = 0 ∧ σ 13 2 = -9) ∧ ∃ m0 : Nat, x9 = (m0 : Int) ∧ q = rnK (wkI (fp σ 3) T (σ 16) N (sdU (z 0))) m0 ∧ z' = upr z 0 (sdI (z 0) m0))) ∧ fr (wF 8) σ σ') := by
  refine g_enter (ret := (some .int)) (by decide +kernel) (Nat.le_of_ble_eq_true rfl) ?_
  intro p e s m args below meth c ls F hB hl
  obtain ⟨hx, hb, hr, hml, hown, hts, hlk, hK, hst⟩ := F
  have hR := hB.1.2
  have hl : lv_has ls 5 [(0, .ref (tad θ 0)), (1, .int (iZ x9))] := hl
  refine lv_iload_n hx hb dX5_runs_0 rfl (lv_at hl 1 rfl) ?_
  refine lv_iconst (v := iZ 1) hx hb dX5_runs_1 rfl ?_
  refine z_icmp_lt (tgt := 11) hx hb dX5_runs_2 (by decide) ⟨by omega, by omega⟩ ⟨by decide, by decide⟩ (fun c_1 => ?_) (fun c_1 => ?_)
  · refine lv_bipush (v := iZ (-2)) hx hb dX5_runs_11 (by decide) ?_
    exact g_iret hx hb hr hlk hB dX5_runs_13 ⟨by decide, by decide⟩ (⟨Or.inl ⟨by omega, rfl, rfl⟩, fr.rf⟩)
  · refine lv_iload_n hx hb dX5_runs_5 rfl (lv_at hl 1 rfl) ?_
    refine lv_bipush (v := iZ 30) hx hb dX5_runs_6 (by decide) ?_
    refine z_icmp_le (tgt := 14) hx hb dX5_runs_8 (by decide) ⟨by omega, by omega⟩ ⟨by decide, by decide⟩ (fun c_2 => ?_) (fun c_2 => ?_)
    · obtain ⟨m0, hm0⟩ : ∃ m0 : Nat, x9 = (m0 : Int) := ⟨x9.toNat, by omega⟩
      have hl : lv_has ls 5 [(0, .ref (tad θ 0)), (1, .int (iZ ((m0 : Nat) : Int)))] := by rw [hm0] at hl; exact hl
      refine lv_aload_n hx hb dX5_runs_14 rfl (lv_at hl 0 rfl) ?_
      refine g_getr (k := 3) (j := 13) hx hb hts hown hK hθ hB cf5 (by decide) rfl (by decide) kw_169 rfl rfl dX5_runs_15 ?_
      refine g_calli (g_runV (i := 13) (As := []) (rest := []) hx hb hml hown hts hK hst hB (mX2_isSound l θ hθ σ z ) mv_X2_isSound kw_446 cf2 (by decide) rfl rfl hl.1 rfl (Nat.le_of_ble_eq_true rfl) ⟨by decide, by decide⟩ ⟨Nat.le_refl _, Nat.le_refl _⟩ dX5_runs_18) hB (fun qs σ_3 z_4 H locs hqs hps hB => ?_)
      obtain ⟨hps, e1_, e2_⟩ := hps
      rw [e1_, e2_] at hB
      clear e1_ e2_
      rcases hps with ⟨hqs, hsn⟩ | ⟨hqs, hsn⟩
      · subst hqs
        have hT := hTT hsn
        have hT8 : ∀ i, i < N → T i < 8 ∧ T i < N := fun i hi => (hT i hi).2
        refine z_if_ne (tgt := 27) hx hb dX5_runs_21 (by decide) ⟨by decide, by decide⟩ (fun c_5 => ?_) (fun c_5 => ?_)
        · refine lv_iconst (v := iZ 0) hx hb dX5_runs_27 rfl ?_
          refine z_top (b := (rnK (wkI (fp σ 3) T (σ 16) N (sdU (z 0))) 0)) (rfl) ?_
          refine lv_istore_n (lv' := [(2, .int (iZ (rnK (wkI (fp σ 3) T (σ 16) N (sdU (z 0))) 0))), (0, .ref (tad θ 0)), (1, .int (iZ ((m0 : Nat) : Int)))]) hx hb dX5_runs_28 rfl hl (by decide) rfl (fun ls hl => ?_)
          refine lv_aload_n hx hb dX5_runs_29 rfl (lv_at hl 1 rfl) ?_
          refine g_getr (k := 2) (j := 8) hx hb hts hown hK hθ hB cf5 (by decide) rfl (by decide) kw_168 rfl rfl dX5_runs_30 ?_
          refine lv_aload_n hx hb dX5_runs_33 rfl (lv_at hl 1 rfl) ?_
          refine g_getr (k := 1) (j := 3) hx hb hts hown hK hθ hB cf5 (by decide) rfl (by decide) kw_167 rfl rfl dX5_runs_34 ?_
          refine g_callv (g_runV (i := 8) (As := [.ref (tad θ 3)]) (rest := []) hx hb hml hown hts hK hst hB (mX1_become l θ hθ σ z 8 isF_8 3 isF_3 (by decide)) mv_X1_become kw_342 cf1 (by decide) rfl rfl hl.1 rfl (Nat.le_of_ble_eq_true rfl) ⟨by decide, by decide⟩ ⟨Nat.le_refl _, Nat.le_refl _⟩ dX5_runs_37) hB (fun σ1 z_6 H locs hp1 hB => ?_)
          obtain ⟨hp1, hf1, e2_⟩ := hp1
          rw [e2_] at hB
          clear e2_
          have hR := hB.1.2
          refine lv_iconst (v := iZ 0) hx hb dX5_runs_40 rfl ?_
          refine lv_istore_n (lv' := [(3, .int (iZ 0)), (2, .int (iZ (rnK (wkI (fp σ 3) T (σ 16) N (sdU (z 0))) 0))), (0, .ref (tad θ 0)), (1, .int (iZ ((m0 : Nat) : Int)))]) hx hb dX5_runs_41 rfl hl (by decide) rfl (fun ls hl => ?_)
          have loop42 : ∀ (n42 : Nat) (k : Nat) (σ4 : gS) (z4 : gZ) (H : Heap) (locs : List Loc) (ls : Array Slot), m0 - k < n42 → (k ≤ m0) → (z4 = upr z 0 (sdI (z 0) k)) → (fp σ4 8 = (wkI (fp σ 3) T (σ 16) N (sdU (z 0))) k) → (fr (wF 8) σ σ4) →  gB θ σ4 z4 s.heap H locs → lv_has ls 5 [(3, .int (iZ ((k : Nat) : Int))), (2, .int (iZ (rnK (wkI (fp σ 3) T (σ 16) N (sdU (z 0))) k))), (0, .ref (tad θ 0)), (1, .int (iZ ((m0 : Nat) : Int)))] → W p l e (gRm 4 94) s m args below meth c H locs 0 0 (MQ below (gQi θ (fun q σ' z' => ((¬ (1 ≤ x9 ∧ x9 ≤ 30) ∧ q = -2 ∧ z' = z) ∨ ((1 ≤ x9 ∧ x9 ≤ 30) ∧ ¬ (σ 13 0 = -9 ∧ σ 13 1 = 0 ∧ σ 13 2 = -9) ∧ q = -3 ∧ z' = z) ∨ ((1 ≤ x9 ∧ x9 ≤ 30) ∧ (σ 13 0 = -9 ∧ σ 13 1 = 0 ∧ σ 13 2 = -9) ∧ ∃ m0 : Nat, x9 = (m0 : Int) ∧ q = rnK (wkI (fp σ 3) T (σ 16) N (sdU (z 0))) m0 ∧ z' = upr z 0 (sdI (z 0) m0))) ∧ fr (wF 8) σ σ')) args s 0 0 (tA θ)) (F0 m 42 ls []) := by
            intro n42
            induction n42 with
            | zero => intro k σ4 z4 H locs ls hmu; exact absurd hmu (Nat.not_lt_zero _)
            | succ n42 ih42 =>
              intro k σ4 z4 H locs ls hmu hk hz hg hf4 hB hl
              have hR := hB.1.2
              refine lv_iload_n hx hb dX5_runs_42 rfl (lv_at hl 0 rfl) ?_
              refine lv_iload_n hx hb dX5_runs_43 rfl (lv_at hl 3 rfl) ?_
              refine z_icmp_ge (tgt := 113) hx hb dX5_runs_44 (by decide) ⟨by omega, by omega⟩ ⟨by omega, by omega⟩ (fun c_8 => ?_) (fun c_8 => ?_)
              · refine lv_iload_n hx hb dX5_runs_113 rfl (lv_at hl 1 rfl) ?_
                have hrng : rg (rnK (wkI (fp σ 3) T (σ 16) N (sdU (z 0))) k) := by have h9 := rnK_in (R := (wkI (fp σ 3) T (σ 16) N (sdU (z 0)))) (fun i => wkI_b hb9 h00 hT8 (sdU_in (z 0)) i) k; exact ⟨by omega, by omega⟩
                exact g_iret hx hb hr hlk hB dX5_runs_114 hrng (⟨Or.inr (Or.inr ⟨by omega, hsn, m0, hm0, by rw [show k = m0 by omega], by rw [hz, show k = m0 by omega]⟩), hf4⟩)
              · refine lv_aload_n hx hb dX5_runs_47 rfl (lv_at hl 2 rfl) ?_
                refine lv_aload_n hx hb dX5_runs_48 rfl (lv_at hl 2 rfl) ?_
                refine g_getl (k := 9) hx hb hts hown hK hB cf5 (by decide) rfl (by decide) kw_175 rfl dX5_runs_49 ?_
                refine lv_ldc2 hx hb hown (hts _ kw_638) dX5_runs_52 ?_
                refine lv_lmul hx hb dX5_runs_55 ?_
                refine lv_ldc2 hx hb hown (hts _ kw_639) dX5_runs_56 ?_
                refine lv_ladd hx hb dX5_runs_59 ?_
                refine g_putL (k := 9) hx hb hts hown hK hθ hB cf5 tyX5 tyX5_ok (by decide) rfl (by decide) kw_175 rfl (by decide) rfl rfl dX5_runs_60 (fun H locs hB => ?_)
                refine lv_aload_n hx hb dX5_runs_63 rfl (lv_at hl 2 rfl) ?_
                refine g_getl (k := 9) hx hb hts hown hK hB cf5 (by decide) rfl (by decide) kw_175 rfl dX5_runs_64 ?_
                refine lv_bipush (v := iZ 33) hx hb dX5_runs_67 (by decide) ?_
                refine z_draw hx hb dX5_runs_69 ?_
                refine z_topl (b := (((dr (sdI (z 0) (k + 1))) : Nat) : Int)) (by rw [upr_eq, hz, upr_eq]; rfl) ?_
                refine z_l2i hx hb dX5_runs_70 ?_
                have hdl := dr_lt (sdI (z 0) (k + 1))
                refine z_top (b := (((dr (sdI (z 0) (k + 1))) : Nat) : Int)) (rfl) ?_
                refine lv_istore (lv' := [(4, .int (iZ (((dr (sdI (z 0) (k + 1))) : Nat) : Int))), (3, .int (iZ ((k : Nat) : Int))), (2, .int (iZ (rnK (wkI (fp σ 3) T (σ 16) N (sdU (z 0))) k))), (0, .ref (tad θ 0)), (1, .int (iZ ((m0 : Nat) : Int)))]) hx hb dX5_runs_71 hl (by decide) rfl (fun ls hl => ?_)
                refine lv_aload_n hx hb dX5_runs_73 rfl (lv_at hl 3 rfl) ?_
                refine g_getr (k := 2) (j := 8) hx hb hts hown hK hθ hB cf5 (by decide) rfl (by decide) kw_168 rfl rfl dX5_runs_74 ?_
                refine lv_aload_n hx hb dX5_runs_77 rfl (lv_at hl 3 rfl) ?_
                refine g_getr (k := 3) (j := 13) hx hb hts hown hK hθ hB cf5 (by decide) rfl (by decide) kw_169 rfl rfl dX5_runs_78 ?_
                refine lv_iload hx hb dX5_runs_81 (lv_at hl 0 rfl) ?_
                refine lv_bipush (v := iZ 10) hx hb dX5_runs_83 (by decide) ?_
                refine z_irem hx hb dX5_runs_85 ⟨by omega, by omega⟩ (by omega) ⟨by decide, by decide⟩ (by decide) ?_
                refine z_top (b := ((((dr (sdI (z 0) (k + 1))) % 10) : Nat) : Int)) (by omega) ?_
                refine lv_iload hx hb dX5_runs_86 (lv_at hl 0 rfl) ?_
                refine lv_bipush (v := iZ 16) hx hb dX5_runs_88 (by decide) ?_
                refine z_idiv hx hb dX5_runs_90 ⟨by omega, by omega⟩ (by omega) ⟨by decide, by decide⟩ (by decide) ?_
                refine lv_bipush (v := iZ 10) hx hb dX5_runs_91 (by decide) ?_
                refine z_irem hx hb dX5_runs_93 ⟨by omega, by omega⟩ (by omega) ⟨by decide, by decide⟩ (by decide) ?_
                refine z_top (b := ((((dr (sdI (z 0) (k + 1))) / 16 % 10) : Nat) : Int)) (by omega) ?_
                refine g_callv (g_runV (i := 8) (As := [.ref (tad θ 13), .int (iZ ((((dr (sdI (z 0) (k + 1))) % 10) : Nat) : Int)), .int (iZ ((((dr (sdI (z 0) (k + 1))) / 16 % 10) : Nat) : Int))]) (rest := []) hx hb hml hown hts hK hst hB (mX1_work l θ hθ σ4 (upr z4 0 (((z4 0) * (6364136223846793005 : Int64)) + (1442695040888963407 : Int64))) 8 isF_8 N T (by rw [hg, wkI_0 hT8]; exact h00) hN8 (fun j hj => by rw [hf4 19 j (isF_8.sn (by omega))]; exact hT j hj) (by rw [hg]; exact wkI_b hb9 h00 hT8 (sdU_in (z 0)) _) (((dr (sdI (z 0) (k + 1))) % 10 : Nat) : Int) (((dr (sdI (z 0) (k + 1))) / 16 % 10 : Nat) : Int) (by omega) (by omega)) mv_X1_work kw_498 cf1 (by decide) rfl rfl hl.1 rfl (Nat.le_of_ble_eq_true rfl) ⟨by decide, by decide⟩ ⟨Nat.le_refl _, Nat.le_refl _⟩ dX5_runs_94) hB (fun σ5 z_9 H locs hp5 hB => ?_)
                obtain ⟨hp5, hf5, e2_⟩ := hp5
                rw [e2_] at hB
                clear e2_
                have hR := hB.1.2
                rw [hg, hf4.row (fun k => isF_8.sn (by omega))] at hp5
                have hg5 : fp σ5 8 = (wkI (fp σ 3) T (σ 16) N (sdU (z 0)) (k + 1)) := hp5
                refine lv_iload_n hx hb dX5_runs_97 rfl (lv_at hl 2 rfl) ?_
                refine lv_aload_n hx hb dX5_runs_98 rfl (lv_at hl 3 rfl) ?_
                refine g_getr (k := 2) (j := 8) hx hb hts hown hK hθ hB cf5 (by decide) rfl (by decide) kw_168 rfl rfl dX5_runs_99 ?_
                refine g_calli (g_runV (i := 8) (As := []) (rest := [.int (iZ (rnK (wkI (fp σ 3) T (σ 16) N (sdU (z 0))) k))]) hx hb hml hown hts hK hst hB (mX1_sumOfThere l θ hθ σ5 (upr z4 0 (((z4 0) * (6364136223846793005 : Int64)) + (1442695040888963407 : Int64))) 8 isF_8 (by rw [hg5]; exact wkI_b hb9 h00 hT8 (sdU_in (z 0)) _)) mv_X1_sumOfThere kw_640 cf1 (by decide) rfl rfl hl.1 rfl (Nat.le_of_ble_eq_true rfl) ⟨by decide, by decide⟩ ⟨Nat.le_refl _, Nat.le_refl _⟩ dX5_runs_102) hB (fun q_13 σ_11 z_12 H locs hq_13 pq_13 hB => ?_)
                obtain ⟨pq_13, e1_, e2_⟩ := pq_13
                rw [e1_, e2_] at hB
                clear e1_ e2_
                subst pq_13
                refine z_top (b := (smC ((wkI (fp σ 3) T (σ 16) N (sdU (z 0))) (k + 1)) 8)) (by rw [hg5]) ?_
                refine z_iadd hx hb dX5_runs_105 ?_
                refine z_top (b := (rnK (wkI (fp σ 3) T (σ 16) N (sdU (z 0))) (k + 1))) (rfl) ?_
                refine lv_istore_n (lv' := [(2, .int (iZ (rnK (wkI (fp σ 3) T (σ 16) N (sdU (z 0))) (k + 1)))), (4, .int (iZ (((dr (sdI (z 0) (k + 1))) : Nat) : Int))), (3, .int (iZ ((k : Nat) : Int))), (0, .ref (tad θ 0)), (1, .int (iZ ((m0 : Nat) : Int)))]) hx hb dX5_runs_106 rfl hl (by decide) rfl (fun ls hl => ?_)
                refine z_iinc (k := 2) (lv' := [(3, .int (iZ (((k : Nat) : Int) + 1))), (2, .int (iZ (rnK (wkI (fp σ 3) T (σ 16) N (sdU (z 0))) (k + 1)))), (4, .int (iZ (((dr (sdI (z 0) (k + 1))) : Nat) : Int))), (0, .ref (tad θ 0)), (1, .int (iZ ((m0 : Nat) : Int)))]) hx hb dX5_runs_107 hl rfl (by decide) rfl (fun ls hl => ?_)
                have hl : lv_has ls 5 [(3, .int (iZ (((k + 1) : Nat) : Int))), (2, .int (iZ (rnK (wkI (fp σ 3) T (σ 16) N (sdU (z 0))) (k + 1)))), (4, .int (iZ (((dr (sdI (z 0) (k + 1))) : Nat) : Int))), (0, .ref (tad θ 0)), (1, .int (iZ ((m0 : Nat) : Int)))] := by have e9 : (((k : Nat) : Int) + 1) = (((k + 1) : Nat) : Int) := (by omega); rw [e9] at hl; exact hl
                refine lv_goto (tgt := 42) hx hb dX5_runs_110 (by decide) ?_
                exact ih42 (k + 1) σ5 (upr z4 0 (((z4 0) * (6364136223846793005 : Int64)) + (1442695040888963407 : Int64))) _ _ _ (by omega) (by omega) (by rw [hz, upr_eq, upr_upr]; rfl) hg5 (hf4.tr hf5) hB (lv_sub hl [0, 1, 3, 4] rfl)
          exact loop42 _ 0 σ1 z _ _ _ (Nat.lt_succ_self _) (by omega) (upr_self z 0) hp1 hf1 hB (lv_sub hl [0, 1, 2, 3] rfl)
        · exact absurd c_5 (by decide)
      · subst hqs
        refine z_if_ne (tgt := 27) hx hb dX5_runs_21 (by decide) ⟨by decide, by decide⟩ (fun c_14 => ?_) (fun c_14 => ?_)
        · exact absurd (by decide) c_14
        · refine lv_bipush (v := iZ (-3)) hx hb dX5_runs_24 (by decide) ?_
          exact g_iret hx hb hr hlk hB dX5_runs_26 ⟨by decide, by decide⟩ (⟨Or.inr (Or.inl ⟨by omega, hsn, rfl, rfl⟩), fr.rf⟩)
    · refine lv_bipush (v := iZ (-2)) hx hb dX5_runs_11 (by decide) ?_
      exact g_iret hx hb hr hlk hB dX5_runs_13 ⟨by decide, by decide⟩ (⟨Or.inl ⟨by omega, rfl, rfl⟩, fr.rf⟩)
set_option maxHeartbeats 4000000 in
set_option maxRecDepth 100000 in
theorem mX5_explains (l : Launch) (θ : gT) (hθ : gOK θ) (σ : gS) (z : gZ) (N : Nat) (T : Nat → Nat) (h00 : σ 3 0 = (N : Int)) (hN8 : N ≤ 8) (hb9 : bC (fp σ 3)) (hT : ∀ j, j < N → σ 19 j = ((T j : Nat) : Int) ∧ (T j < 8 ∧ T j < N)) (n : Nat) (hn : σ 93 0 = (n : Int)) (hn6 : n ≤ 6) (h01 : ∀ i, i < n → σ 97 i = 0 ∨ σ 97 i = 1) (hat : ∀ i, i < n → 0 ≤ σ 94 i ∧ σ 94 i ≤ 12) (a0 b0 : Int) (ha : 0 ≤ a0 ∧ a0 ≤ 99) (hb0 : 0 ≤ b0 ∧ b0 ≤ 99) : GI l θ yX5_explains cX5_explains 5 (some .boolean) 4 94 [.ref (tad θ 0), .int (iZ a0), .int (iZ b0)] σ z (fun q σ' z' => ((q = 1 ∧ exK σ n (lsT (σ 94) n).toNat (wkI (rsC (fp σ 3)) T (σ 16) N (cst a0 b0)) = true) ∨ (q = 0 ∧ exK σ n (lsT (σ 94) n).toNat (wkI (rsC (fp σ 3)) T (σ 16) N (cst a0 b0)) = false)) ∧ fr (wF 8) σ σ' ∧ z' = z) := by
  refine g_enter (ret := (some .boolean)) (by decide +kernel) (Nat.le_of_ble_eq_true rfl) ?_
  intro p e s m args below meth c ls F hB hl
  obtain ⟨hx, hb, hr, hml, hown, hts, hlk, hK, hst⟩ := F
  have hR := hB.1.2
  have hl : lv_has ls 5 [(0, .ref (tad θ 0)), (1, .int (iZ a0)), (2, .int (iZ b0))] := hl
  have hT8 : ∀ i, i < N → T i < 8 ∧ T i < N := fun i hi => (hT i hi).2
  have hls := lsT_in hat (Nat.le_refl n)
  obtain ⟨l0, hl0⟩ : ∃ l0, l0 = (lsT (σ 94) n).toNat := ⟨_, rfl⟩
  have hll : lsT (σ 94) n = (l0 : Int) := by omega
  have hbr : bC (rsC (fp σ 3)) := rsC_b hb9
  have h0r : rsC (fp σ 3) 0 = (N : Int) := (rsP_low _ (by omega)).trans h00
  refine lv_aload_n hx hb dX5_explains_0 rfl (lv_at hl 0 rfl) ?_
  refine g_getr (k := 2) (j := 8) hx hb hts hown hK hθ hB cf5 (by decide) rfl (by decide) kw_168 rfl rfl dX5_explains_1 ?_
  refine lv_aload_n hx hb dX5_explains_4 rfl (lv_at hl 0 rfl) ?_
  refine g_getr (k := 1) (j := 3) hx hb hts hown hK hθ hB cf5 (by decide) rfl (by decide) kw_167 rfl rfl dX5_explains_5 ?_
  refine g_callv (g_runV (i := 8) (As := [.ref (tad θ 3)]) (rest := []) hx hb hml hown hts hK hst hB (mX1_become l θ hθ σ z 8 isF_8 3 isF_3 (by decide)) mv_X1_become kw_342 cf1 (by decide) rfl rfl hl.1 rfl (Nat.le_of_ble_eq_true rfl) ⟨by decide, by decide⟩ ⟨Nat.le_refl _, Nat.le_refl _⟩ dX5_explains_8) hB (fun σ1 z_1 H locs hp1 hB => ?_)
  obtain ⟨hp1, hf1, e2_⟩ := hp1
  rw [e2_] at hB
  clear e2_
  have hR := hB.1.2
  refine lv_aload_n hx hb dX5_explains_11 rfl (lv_at hl 0 rfl) ?_
  refine g_getr (k := 2) (j := 8) hx hb hts hown hK hθ hB cf5 (by decide) rfl (by decide) kw_168 rfl rfl dX5_explains_12 ?_
  refine g_callv (g_runV (i := 8) (As := []) (rest := []) hx hb hml hown hts hK hst hB (mX1_restart l θ hθ σ1 z 8 isF_8) mv_X1_restart kw_349 cf1 (by decide) rfl rfl hl.1 rfl (Nat.le_of_ble_eq_true rfl) ⟨by decide, by decide⟩ ⟨Nat.le_refl _, Nat.le_refl _⟩ dX5_explains_15) hB (fun σ1b z_3 H locs hp1b hB => ?_)
  obtain ⟨hp1b, hf1b, e2_⟩ := hp1b
  rw [e2_] at hB
  clear e2_
  have hR := hB.1.2
  refine lv_aload_n hx hb dX5_explains_18 rfl (lv_at hl 0 rfl) ?_
  refine g_getr (k := 5) (j := 93) hx hb hts hown hK hθ hB cf5 (by decide) rfl (by decide) kw_171 rfl rfl dX5_explains_19 ?_
  refine g_calli (g_runV (i := 93) (As := []) (rest := []) hx hb hml hown hts hK hst hB (mX3_lastTick l θ hθ σ1b z n (by rw [(hf1.tr hf1b) 93 0 (w8_93 _ _ (by omega))]; exact hn) hn6) mv_X3_lastTick kw_605 cf3 (by decide) rfl rfl hl.1 rfl (Nat.le_of_ble_eq_true rfl) ⟨by decide, by decide⟩ ⟨Nat.le_refl _, Nat.le_refl _⟩ dX5_explains_22) hB (fun ql σ_5 z_6 H locs hql hpl hB => ?_)
  obtain ⟨hpl, e1_, e2_⟩ := hpl
  rw [e1_, e2_] at hB
  clear e1_ e2_
  rw [(hf1.tr hf1b).row (fun k => w8_93 _ _ (by omega)), hll] at hpl
  rw [hpl]
  refine lv_istore_n (lv' := [(3, .int (iZ ((l0 : Nat) : Int))), (0, .ref (tad θ 0)), (1, .int (iZ a0)), (2, .int (iZ b0))]) hx hb dX5_explains_25 rfl hl (by decide) rfl (fun ls hl => ?_)
  refine lv_iconst (v := iZ 1) hx hb dX5_explains_26 rfl ?_
  refine z_top (b := (((0 + 1) : Nat) : Int)) (rfl) ?_
  refine lv_istore (lv' := [(4, .int (iZ (((0 + 1) : Nat) : Int))), (3, .int (iZ ((l0 : Nat) : Int))), (0, .ref (tad θ 0)), (1, .int (iZ a0)), (2, .int (iZ b0))]) hx hb dX5_explains_27 hl (by decide) rfl (fun ls hl => ?_)
  have loop29 : ∀ (n29 : Nat) (t : Nat) (σ2 : gS) (H : Heap) (locs : List Loc) (ls : Array Slot), l0 - t < n29 → (t ≤ l0) → (fp σ2 8 = (wkI (rsC (fp σ 3)) T (σ 16) N (cst a0 b0)) t) → (∀ u, u < t → ∀ i, i < n → (σ 94 i = ((u + 1 : Nat) : Int) → (vc ((wkI (rsC (fp σ 3)) T (σ 16) N (cst a0 b0)) (u + 1)) (σ 95 i) = σ 96 i ↔ σ 97 i = 1))) → (fr (wF 8) σ σ2) →  gB θ σ2 z s.heap H locs → lv_has ls 5 [(4, .int (iZ (((t + 1) : Nat) : Int))), (3, .int (iZ ((l0 : Nat) : Int))), (0, .ref (tad θ 0)), (1, .int (iZ a0)), (2, .int (iZ b0))] → W p l e (gRm 4 94) s m args below meth c H locs 0 0 (MQ below (gQi θ (fun q σ' z' => ((q = 1 ∧ exK σ n (lsT (σ 94) n).toNat (wkI (rsC (fp σ 3)) T (σ 16) N (cst a0 b0)) = true) ∨ (q = 0 ∧ exK σ n (lsT (σ 94) n).toNat (wkI (rsC (fp σ 3)) T (σ 16) N (cst a0 b0)) = false)) ∧ fr (wF 8) σ σ' ∧ z' = z)) args s 0 0 (tA θ)) (F0 m 29 ls []) := by
    intro n29
    induction n29 with
    | zero => intro t σ2 H locs ls hmu; exact absurd hmu (Nat.not_lt_zero _)
    | succ n29 ih29 =>
      intro t σ2 H locs ls hmu ht hg hall hf hB hl
      have hR := hB.1.2
      refine lv_iload hx hb dX5_explains_29 (lv_at hl 0 rfl) ?_
      refine lv_iload_n hx hb dX5_explains_31 rfl (lv_at hl 1 rfl) ?_
      refine z_icmp_gt (tgt := 72) hx hb dX5_explains_32 (by decide) ⟨by omega, by omega⟩ ⟨by omega, by omega⟩ (fun c_7 => ?_) (fun c_7 => ?_)
      · refine lv_iconst (v := iZ 1) hx hb dX5_explains_72 rfl ?_
        exact g_zret hx hb hr hlk hB dX5_explains_73 (by decide) (⟨Or.inl ⟨rfl, decide_eq_true (fun u hu => hall u (by omega))⟩, hf, rfl⟩)
      · refine lv_aload_n hx hb dX5_explains_35 rfl (lv_at hl 2 rfl) ?_
        refine g_getr (k := 2) (j := 8) hx hb hts hown hK hθ hB cf5 (by decide) rfl (by decide) kw_168 rfl rfl dX5_explains_36 ?_
        refine lv_aload_n hx hb dX5_explains_39 rfl (lv_at hl 2 rfl) ?_
        refine g_getr (k := 3) (j := 13) hx hb hts hown hK hθ hB cf5 (by decide) rfl (by decide) kw_169 rfl rfl dX5_explains_40 ?_
        refine lv_iload_n hx hb dX5_explains_43 rfl (lv_at hl 3 rfl) ?_
        refine lv_iload_n hx hb dX5_explains_44 rfl (lv_at hl 4 rfl) ?_
        refine g_callv (g_runV (i := 8) (As := [.ref (tad θ 13), .int (iZ a0), .int (iZ b0)]) (rest := []) hx hb hml hown hts hK hst hB (mX1_work l θ hθ σ2 z 8 isF_8 N T (by rw [hg, wkI_0 hT8]; exact h0r) hN8 (fun j hj => by rw [hf 19 j (isF_8.sn (by omega))]; exact hT j hj) (by rw [hg]; exact wkI_b hbr h0r hT8 (cst_in ha hb0) _) a0 b0 (ha) (hb0)) mv_X1_work kw_498 cf1 (by decide) rfl rfl hl.1 rfl (Nat.le_of_ble_eq_true rfl) ⟨by decide, by decide⟩ ⟨Nat.le_refl _, Nat.le_refl _⟩ dX5_explains_45) hB (fun σ3 z_8 H locs hp3 hB => ?_)
        obtain ⟨hp3, hf3, e2_⟩ := hp3
        rw [e2_] at hB
        clear e2_
        have hR := hB.1.2
        rw [hg, hf.row (fun k => isF_8.sn (by omega))] at hp3
        have hg3 : fp σ3 8 = (wkI (rsC (fp σ 3)) T (σ 16) N (cst a0 b0)) (t + 1) := hp3
        have hf03 := hf.tr hf3
        refine lv_aload_n hx hb dX5_explains_48 rfl (lv_at hl 2 rfl) ?_
        refine g_getr (k := 5) (j := 93) hx hb hts hown hK hθ hB cf5 (by decide) rfl (by decide) kw_171 rfl rfl dX5_explains_49 ?_
        refine lv_iload hx hb dX5_explains_52 (lv_at hl 0 rfl) ?_
        refine lv_aload_n hx hb dX5_explains_54 rfl (lv_at hl 2 rfl) ?_
        refine g_getr (k := 2) (j := 8) hx hb hts hown hK hθ hB cf5 (by decide) rfl (by decide) kw_168 rfl rfl dX5_explains_55 ?_
        refine g_calli (g_runV (i := 93) (As := [.int (iZ (((t + 1) : Nat) : Int)), .ref (tad θ 8)]) (rest := []) hx hb hml hown hts hK hst hB (mX3_fit l θ hθ σ3 z n (by rw [hf03 93 0 (w8_93 _ _ (by omega))]; exact hn) hn6 (by rw [(hf03.row (fun k => w8_93 _ _ (by omega)) : σ3 97 = σ 97)]; exact h01) (t + 1) (by omega)) mv_X3_fit kw_610 cf3 (by decide) rfl rfl hl.1 rfl (Nat.le_of_ble_eq_true rfl) ⟨by decide, by decide⟩ ⟨Nat.le_refl _, Nat.le_refl _⟩ dX5_explains_58) hB (fun qf σ_10 z_11 H locs hqf hpf hB => ?_)
        obtain ⟨hpf, e1_, e2_⟩ := hpf
        rw [e1_, e2_] at hB
        clear e1_ e2_
        have hft : ∀ i, ftC σ3 (t + 1) i ↔ (σ 94 i = ((t + 1 : Nat) : Int) → (vc ((wkI (rsC (fp σ 3)) T (σ 16) N (cst a0 b0)) (t + 1)) (σ 95 i) = σ 96 i ↔ σ 97 i = 1)) := fun i => ftC_r hg3 (hf03.row (fun k => w8_93 _ _ (by omega)) : σ3 94 = σ 94) (hf03.row (fun k => w8_93 _ _ (by omega)) : σ3 95 = σ 95) (hf03.row (fun k => w8_93 _ _ (by omega)) : σ3 96 = σ 96) (hf03.row (fun k => w8_93 _ _ (by omega)) : σ3 97 = σ 97)
        rcases hpf with ⟨hqf, hok⟩ | ⟨hqf, hok⟩
        · subst hqf
          have hfit := fun i hi => (hft i).mp (hok i hi)
          refine z_if_ne (tgt := 66) hx hb dX5_explains_61 (by decide) ⟨by decide, by decide⟩ (fun c_12 => ?_) (fun c_12 => ?_)
          · refine z_iinc (k := 0) (lv' := [(4, .int (iZ ((((t + 1) : Nat) : Int) + 1))), (3, .int (iZ ((l0 : Nat) : Int))), (0, .ref (tad θ 0)), (1, .int (iZ a0)), (2, .int (iZ b0))]) hx hb dX5_explains_66 hl rfl (by decide) rfl (fun ls hl => ?_)
            have hl : lv_has ls 5 [(4, .int (iZ ((((t + 1) + 1) : Nat) : Int))), (3, .int (iZ ((l0 : Nat) : Int))), (0, .ref (tad θ 0)), (1, .int (iZ a0)), (2, .int (iZ b0))] := by have e9 : ((((t + 1) : Nat) : Int) + 1) = ((((t + 1) + 1) : Nat) : Int) := (by omega); rw [e9] at hl; exact hl
            refine lv_goto (tgt := 29) hx hb dX5_explains_69 (by decide) ?_
            exact ih29 (t + 1) σ3 _ _ _ (by omega) (by omega) hg3 (lt_s hall hfit) (hf.tr hf3) hB (lv_sub hl [0, 1, 2, 3, 4] rfl)
          · exact absurd c_12 (by decide)
        · subst hqf
          refine z_if_ne (tgt := 66) hx hb dX5_explains_61 (by decide) ⟨by decide, by decide⟩ (fun c_13 => ?_) (fun c_13 => ?_)
          · exact absurd (by decide) c_13
          · refine lv_iconst (v := iZ 0) hx hb dX5_explains_64 rfl ?_
            exact g_zret hx hb hr hlk hB dX5_explains_65 (by decide) (⟨Or.inr ⟨rfl, decide_eq_false (fun q => hok (fun i hi => (hft i).mpr (q t (by omega) i hi)))⟩, hf03, rfl⟩)
  exact loop29 _ 0 σ1b _ _ _ (Nat.lt_succ_self _) (by omega) (by rw [hp1b, hp1]; rfl) (fun u h => absurd h (Nat.not_lt_zero _)) (hf1.tr hf1b) hB (lv_sub hl [0, 1, 2, 3, 4] rfl)
