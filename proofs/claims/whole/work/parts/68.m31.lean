set_option maxHeartbeats 4000000 in
set_option maxRecDepth 100000 in
theorem mX5_later (l : Launch) (θ : gT) (hθ : gOK θ) (σ : gS) (z : gZ) (N : Nat) (T : Nat → Nat) (h00 : σ 3 0 = (N : Int)) (hN8 : N ≤ 8) (hb9 : bC (fp σ 3)) (hTT : (σ 13 0 = -9 ∧ σ 13 1 = 0 ∧ σ 13 2 = -9) → ∀ j, j < N → σ 19 j = ((T j : Nat) : Int) ∧ (T j < 8 ∧ T j < N)) (x9 y a0 b0 : Int) (hxr : rg x9) (hyr : rg y) (har : rg a0) (hbr : rg b0) : GI l θ yX5_later cX5_later 6 (some .int) 4 94 [.ref (tad θ 0), .int (iZ x9), .int (iZ y), .int (iZ a0), .int (iZ b0)] σ z (fun q σ' z' => ((¬ (0 ≤ x9 ∧ x9 < σ 3 0) ∧ q = -1) ∨ ∃ s0 : Nat, x9 = (s0 : Int) ∧ (s0 : Int) < σ 3 0 ∧ ((¬ ((1 ≤ y ∧ y ≤ 40) ∧ (0 ≤ a0 ∧ a0 ≤ 99) ∧ (0 ≤ b0 ∧ b0 ≤ 99)) ∧ q = -2) ∨ (((1 ≤ y ∧ y ≤ 40) ∧ (0 ≤ a0 ∧ a0 ≤ 99) ∧ (0 ≤ b0 ∧ b0 ≤ 99)) ∧ ¬ (σ 13 0 = -9 ∧ σ 13 1 = 0 ∧ σ 13 2 = -9) ∧ q = -3) ∨ (((1 ≤ y ∧ y ≤ 40) ∧ (0 ≤ a0 ∧ a0 ≤ 99) ∧ (0 ≤ b0 ∧ b0 ≤ 99)) ∧ (σ 13 0 = -9 ∧ σ 13 1 = 0 ∧ σ 13 2 = -9) ∧ q = (wkI (fp σ 3) T (σ 16) N (cst a0 b0) y.toNat) (41 + s0)))) ∧ fr (wF 8) σ σ' ∧ z' = z) := by
  refine g_enter (ret := (some .int)) (by decide +kernel) (Nat.le_of_ble_eq_true rfl) ?_
  intro p e s m args below meth c ls F hB hl
  obtain ⟨hx, hb, hr, hml, hown, hts, hlk, hK, hst⟩ := F
  have hR := hB.1.2
  have hl : lv_has ls 6 [(0, .ref (tad θ 0)), (1, .int (iZ x9)), (2, .int (iZ y)), (3, .int (iZ a0)), (4, .int (iZ b0))] := hl
  refine lv_aload_n hx hb dX5_later_0 rfl (lv_at hl 0 rfl) ?_
  refine lv_iload_n hx hb dX5_later_1 rfl (lv_at hl 1 rfl) ?_
  refine g_calli (g_runV (i := 0) (As := [.int (iZ x9)]) (rest := []) hx hb hml hown hts hK hst hB (mX5_isStream l θ hθ σ z (by omega) x9 ⟨by omega, by omega⟩) mv_X5_isStream kw_462 cf5 (by decide) rfl rfl hl.1 rfl (Nat.le_of_ble_eq_true rfl) ⟨by decide, by decide⟩ ⟨Nat.le_refl _, Nat.le_refl _⟩ dX5_later_2) hB (fun qi σ_1 z_2 H locs hqi hpi hB => ?_)
  obtain ⟨hpi, e1_, e2_⟩ := hpi
  rw [e1_, e2_] at hB
  clear e1_ e2_
  refine z_if_ne (tgt := 10) hx hb dX5_later_5 (by decide) ⟨by omega, by omega⟩ (fun c_3 => ?_) (fun c_3 => ?_)
  · obtain ⟨s0, hs0⟩ : ∃ s0 : Nat, x9 = (s0 : Int) := ⟨x9.toNat, by omega⟩
    have hs8 : s0 < 8 := by omega
    have hl : lv_has ls 6 [(0, .ref (tad θ 0)), (1, .int (iZ ((s0 : Nat) : Int))), (2, .int (iZ y)), (3, .int (iZ a0)), (4, .int (iZ b0))] := by rw [hs0] at hl; exact hl
    refine lv_iload_n hx hb dX5_later_10 rfl (lv_at hl 2 rfl) ?_
    refine lv_iconst (v := iZ 1) hx hb dX5_later_11 rfl ?_
    refine z_icmp_lt (tgt := 36) hx hb dX5_later_12 (by decide) ⟨by omega, by omega⟩ ⟨by decide, by decide⟩ (fun c_4 => ?_) (fun c_4 => ?_)
    · refine lv_bipush (v := iZ (-2)) hx hb dX5_later_36 (by decide) ?_
      exact g_iret hx hb hr hlk hB dX5_later_38 ⟨by decide, by decide⟩ (⟨Or.inr ⟨s0, hs0, by omega, Or.inl ⟨by omega, rfl⟩⟩, fr.rf, rfl⟩)
    · refine lv_iload_n hx hb dX5_later_15 rfl (lv_at hl 2 rfl) ?_
      refine lv_bipush (v := iZ 40) hx hb dX5_later_16 (by decide) ?_
      refine z_icmp_gt (tgt := 36) hx hb dX5_later_18 (by decide) ⟨by omega, by omega⟩ ⟨by decide, by decide⟩ (fun c_5 => ?_) (fun c_5 => ?_)
      · refine lv_bipush (v := iZ (-2)) hx hb dX5_later_36 (by decide) ?_
        exact g_iret hx hb hr hlk hB dX5_later_38 ⟨by decide, by decide⟩ (⟨Or.inr ⟨s0, hs0, by omega, Or.inl ⟨by omega, rfl⟩⟩, fr.rf, rfl⟩)
      · refine lv_iload_n hx hb dX5_later_21 rfl (lv_at hl 3 rfl) ?_
        refine g_calli (g_runS (As := [.int (iZ a0)]) (rest := []) hx hb hml hown hts hK hst hB (mX5_isValue l θ hθ σ z a0 ⟨by omega, by omega⟩) ms_X5_isValue kw_488 rfl hl.1 rfl (Nat.le_of_ble_eq_true rfl) ⟨by decide, by decide⟩ ⟨Nat.le_refl _, Nat.le_refl _⟩ dX5_later_22) hB (fun q_8 σ_6 z_7 H locs hq_8 pq_8 hB => ?_)
        obtain ⟨pq_8, e1_, e2_⟩ := pq_8
        rw [e1_, e2_] at hB
        clear e1_ e2_
        refine z_if_eq (tgt := 36) hx hb dX5_later_25 (by decide) ⟨by omega, by omega⟩ (fun c_9 => ?_) (fun c_9 => ?_)
        · refine lv_bipush (v := iZ (-2)) hx hb dX5_later_36 (by decide) ?_
          exact g_iret hx hb hr hlk hB dX5_later_38 ⟨by decide, by decide⟩ (⟨Or.inr ⟨s0, hs0, by omega, Or.inl ⟨by omega, rfl⟩⟩, fr.rf, rfl⟩)
        · refine lv_iload hx hb dX5_later_28 (lv_at hl 4 rfl) ?_
          refine g_calli (g_runS (As := [.int (iZ b0)]) (rest := []) hx hb hml hown hts hK hst hB (mX5_isValue l θ hθ σ z b0 ⟨by omega, by omega⟩) ms_X5_isValue kw_488 rfl hl.1 rfl (Nat.le_of_ble_eq_true rfl) ⟨by decide, by decide⟩ ⟨Nat.le_refl _, Nat.le_refl _⟩ dX5_later_30) hB (fun q_12 σ_10 z_11 H locs hq_12 pq_12 hB => ?_)
          obtain ⟨pq_12, e1_, e2_⟩ := pq_12
          rw [e1_, e2_] at hB
          clear e1_ e2_
          refine z_if_ne (tgt := 39) hx hb dX5_later_33 (by decide) ⟨by omega, by omega⟩ (fun c_13 => ?_) (fun c_13 => ?_)
          · obtain ⟨n0, hn0⟩ : ∃ n0 : Nat, y = (n0 : Int) := ⟨y.toNat, by omega⟩
            have hnt : y.toNat = n0 := by omega
            have hl : lv_has ls 6 [(0, .ref (tad θ 0)), (1, .int (iZ ((s0 : Nat) : Int))), (2, .int (iZ ((n0 : Nat) : Int))), (3, .int (iZ a0)), (4, .int (iZ b0))] := by rw [hn0] at hl; exact hl
            refine lv_aload_n hx hb dX5_later_39 rfl (lv_at hl 0 rfl) ?_
            refine g_getr (k := 3) (j := 13) hx hb hts hown hK hθ hB cf5 (by decide) rfl (by decide) kw_169 rfl rfl dX5_later_40 ?_
            refine g_calli (g_runV (i := 13) (As := []) (rest := []) hx hb hml hown hts hK hst hB (mX2_isSound l θ hθ σ z ) mv_X2_isSound kw_446 cf2 (by decide) rfl rfl hl.1 rfl (Nat.le_of_ble_eq_true rfl) ⟨by decide, by decide⟩ ⟨Nat.le_refl _, Nat.le_refl _⟩ dX5_later_43) hB (fun qs σ_14 z_15 H locs hqs hps hB => ?_)
            obtain ⟨hps, e1_, e2_⟩ := hps
            rw [e1_, e2_] at hB
            clear e1_ e2_
            rcases hps with ⟨hqs, hsn⟩ | ⟨hqs, hsn⟩
            · subst hqs
              have hT := hTT hsn
              have hT8 : ∀ i, i < N → T i < 8 ∧ T i < N := fun i hi => (hT i hi).2
              refine z_if_ne (tgt := 52) hx hb dX5_later_46 (by decide) ⟨by decide, by decide⟩ (fun c_16 => ?_) (fun c_16 => ?_)
              · refine lv_aload_n hx hb dX5_later_52 rfl (lv_at hl 0 rfl) ?_
                refine g_getr (k := 2) (j := 8) hx hb hts hown hK hθ hB cf5 (by decide) rfl (by decide) kw_168 rfl rfl dX5_later_53 ?_
                refine lv_aload_n hx hb dX5_later_56 rfl (lv_at hl 0 rfl) ?_
                refine g_getr (k := 1) (j := 3) hx hb hts hown hK hθ hB cf5 (by decide) rfl (by decide) kw_167 rfl rfl dX5_later_57 ?_
                refine g_callv (g_runV (i := 8) (As := [.ref (tad θ 3)]) (rest := []) hx hb hml hown hts hK hst hB (mX1_become l θ hθ σ z 8 isF_8 3 isF_3 (by decide)) mv_X1_become kw_342 cf1 (by decide) rfl rfl hl.1 rfl (Nat.le_of_ble_eq_true rfl) ⟨by decide, by decide⟩ ⟨Nat.le_refl _, Nat.le_refl _⟩ dX5_later_60) hB (fun σ1 z_17 H locs hp1 hB => ?_)
                obtain ⟨hp1, hf1, e2_⟩ := hp1
                rw [e2_] at hB
                clear e2_
                have hR := hB.1.2
                refine lv_iconst (v := iZ 0) hx hb dX5_later_63 rfl ?_
                refine lv_istore (lv' := [(5, .int (iZ 0)), (0, .ref (tad θ 0)), (1, .int (iZ ((s0 : Nat) : Int))), (2, .int (iZ ((n0 : Nat) : Int))), (3, .int (iZ a0)), (4, .int (iZ b0))]) hx hb dX5_later_64 hl (by decide) rfl (fun ls hl => ?_)
                have loop66 : ∀ (n66 : Nat) (i : Nat) (σ2 : gS) (H : Heap) (locs : List Loc) (ls : Array Slot), n0 - i < n66 → (i ≤ n0) → (fp σ2 8 = (wkI (fp σ 3) T (σ 16) N (cst a0 b0) i)) → (fr (wF 8) σ σ2) →  gB θ σ2 z s.heap H locs → lv_has ls 6 [(5, .int (iZ ((i : Nat) : Int))), (0, .ref (tad θ 0)), (1, .int (iZ ((s0 : Nat) : Int))), (2, .int (iZ ((n0 : Nat) : Int))), (3, .int (iZ a0)), (4, .int (iZ b0))] → W p l e (gRm 4 94) s m args below meth c H locs 0 0 (MQ below (gQi θ (fun q σ' z' => ((¬ (0 ≤ x9 ∧ x9 < σ 3 0) ∧ q = -1) ∨ ∃ s0 : Nat, x9 = (s0 : Int) ∧ (s0 : Int) < σ 3 0 ∧ ((¬ ((1 ≤ y ∧ y ≤ 40) ∧ (0 ≤ a0 ∧ a0 ≤ 99) ∧ (0 ≤ b0 ∧ b0 ≤ 99)) ∧ q = -2) ∨ (((1 ≤ y ∧ y ≤ 40) ∧ (0 ≤ a0 ∧ a0 ≤ 99) ∧ (0 ≤ b0 ∧ b0 ≤ 99)) ∧ ¬ (σ 13 0 = -9 ∧ σ 13 1 = 0 ∧ σ 13 2 = -9) ∧ q = -3) ∨ (((1 ≤ y ∧ y ≤ 40) ∧ (0 ≤ a0 ∧ a0 ≤ 99) ∧ (0 ≤ b0 ∧ b0 ≤ 99)) ∧ (σ 13 0 = -9 ∧ σ 13 1 = 0 ∧ σ 13 2 = -9) ∧ q = (wkI (fp σ 3) T (σ 16) N (cst a0 b0) y.toNat) (41 + s0)))) ∧ fr (wF 8) σ σ' ∧ z' = z)) args s 0 0 (tA θ)) (F0 m 66 ls []) := by
                  intro n66
                  induction n66 with
                  | zero => intro i σ2 H locs ls hmu; exact absurd hmu (Nat.not_lt_zero _)
                  | succ n66 ih66 =>
                    intro i σ2 H locs ls hmu hi hg hf hB hl
                    have hR := hB.1.2
                    refine lv_iload hx hb dX5_later_66 (lv_at hl 0 rfl) ?_
                    refine lv_iload_n hx hb dX5_later_68 rfl (lv_at hl 3 rfl) ?_
                    refine z_icmp_ge (tgt := 92) hx hb dX5_later_69 (by decide) ⟨by omega, by omega⟩ ⟨by omega, by omega⟩ (fun c_19 => ?_) (fun c_19 => ?_)
                    · refine lv_aload_n hx hb dX5_later_92 rfl (lv_at hl 1 rfl) ?_
                      refine g_getr (k := 2) (j := 8) hx hb hts hown hK hθ hB cf5 (by decide) rfl (by decide) kw_168 rfl rfl dX5_later_93 ?_
                      refine lv_iload_n hx hb dX5_later_96 rfl (lv_at hl 2 rfl) ?_
                      refine g_calli (g_runV (i := 8) (As := [.int (iZ ((s0 : Nat) : Int))]) (rest := []) hx hb hml hown hts hK hst hB (mX1_valueOf l θ hθ σ2 z 8 isF_8 ((s0 : Nat) : Int) (show rg _ from ⟨by omega, by omega⟩)) mv_X1_valueOf kw_467 cf1 (by decide) rfl rfl hl.1 rfl (Nat.le_of_ble_eq_true rfl) ⟨by decide, by decide⟩ ⟨Nat.le_refl _, Nat.le_refl _⟩ dX5_later_97) hB (fun q_22 σ_20 z_21 H locs hq_22 pq_22 hB => ?_)
                      obtain ⟨pq_22, e1_, e2_⟩ := pq_22
                      rw [e1_, e2_] at hB
                      clear e1_ e2_
                      subst pq_22
                      refine z_top (b := ((wkI (fp σ 3) T (σ 16) N (cst a0 b0) i) (41 + s0))) (by rw [vc_n _ hs8, hg]) ?_
                      have hrv : rg ((wkI (fp σ 3) T (σ 16) N (cst a0 b0) i) (41 + s0)) := by have h9 := fp_rg hR 8 (41 + s0); rw [hg] at h9; exact h9
                      exact g_iret hx hb hr hlk hB dX5_later_100 hrv (⟨Or.inr ⟨s0, hs0, by omega, Or.inr (Or.inr ⟨by omega, hsn, by rw [hnt, show n0 = i by omega]⟩)⟩, hf, rfl⟩)
                    · refine lv_aload_n hx hb dX5_later_72 rfl (lv_at hl 1 rfl) ?_
                      refine g_getr (k := 2) (j := 8) hx hb hts hown hK hθ hB cf5 (by decide) rfl (by decide) kw_168 rfl rfl dX5_later_73 ?_
                      refine lv_aload_n hx hb dX5_later_76 rfl (lv_at hl 1 rfl) ?_
                      refine g_getr (k := 3) (j := 13) hx hb hts hown hK hθ hB cf5 (by decide) rfl (by decide) kw_169 rfl rfl dX5_later_77 ?_
                      refine lv_iload_n hx hb dX5_later_80 rfl (lv_at hl 4 rfl) ?_
                      refine lv_iload hx hb dX5_later_81 (lv_at hl 5 rfl) ?_
                      refine g_callv (g_runV (i := 8) (As := [.ref (tad θ 13), .int (iZ a0), .int (iZ b0)]) (rest := []) hx hb hml hown hts hK hst hB (mX1_work l θ hθ σ2 z 8 isF_8 N T (by rw [hg, wkI_0 hT8]; exact h00) hN8 (fun j hj => by rw [hf 19 j (isF_8.sn (by omega))]; exact hT j hj) (by rw [hg]; exact wkI_b hb9 h00 hT8 (cst_in (by omega) (by omega)) _) a0 b0 (by omega) (by omega)) mv_X1_work kw_498 cf1 (by decide) rfl rfl hl.1 rfl (Nat.le_of_ble_eq_true rfl) ⟨by decide, by decide⟩ ⟨Nat.le_refl _, Nat.le_refl _⟩ dX5_later_83) hB (fun σ3 z_23 H locs hp3 hB => ?_)
                      obtain ⟨hp3, hf3, e2_⟩ := hp3
                      rw [e2_] at hB
                      clear e2_
                      have hR := hB.1.2
                      rw [hg, hf.row (fun k => isF_8.sn (by omega))] at hp3
                      have hg3 : fp σ3 8 = (wkI (fp σ 3) T (σ 16) N (cst a0 b0) (i + 1)) := hp3
                      refine z_iinc (k := 0) (lv' := [(5, .int (iZ (((i : Nat) : Int) + 1))), (0, .ref (tad θ 0)), (1, .int (iZ ((s0 : Nat) : Int))), (2, .int (iZ ((n0 : Nat) : Int))), (3, .int (iZ a0)), (4, .int (iZ b0))]) hx hb dX5_later_86 hl rfl (by decide) rfl (fun ls hl => ?_)
                      have hl : lv_has ls 6 [(5, .int (iZ (((i + 1) : Nat) : Int))), (0, .ref (tad θ 0)), (1, .int (iZ ((s0 : Nat) : Int))), (2, .int (iZ ((n0 : Nat) : Int))), (3, .int (iZ a0)), (4, .int (iZ b0))] := by have e9 : (((i : Nat) : Int) + 1) = (((i + 1) : Nat) : Int) := (by omega); rw [e9] at hl; exact hl
                      refine lv_goto (tgt := 66) hx hb dX5_later_89 (by decide) ?_
                      exact ih66 (i + 1) σ3 _ _ _ (by omega) (by omega) hg3 (hf.tr hf3) hB (lv_sub hl [0, 1, 2, 3, 4, 5] rfl)
                exact loop66 _ 0 σ1 _ _ _ (Nat.lt_succ_self _) (by omega) hp1 hf1 hB (lv_sub hl [0, 1, 2, 3, 4, 5] rfl)
              · exact absurd c_16 (by decide)
            · subst hqs
              refine z_if_ne (tgt := 52) hx hb dX5_later_46 (by decide) ⟨by decide, by decide⟩ (fun c_25 => ?_) (fun c_25 => ?_)
              · exact absurd (by decide) c_25
              · refine lv_bipush (v := iZ (-3)) hx hb dX5_later_49 (by decide) ?_
                exact g_iret hx hb hr hlk hB dX5_later_51 ⟨by decide, by decide⟩ (⟨Or.inr ⟨s0, hs0, by omega, Or.inr (Or.inl ⟨by omega, hsn, rfl⟩)⟩, fr.rf, rfl⟩)
          · refine lv_bipush (v := iZ (-2)) hx hb dX5_later_36 (by decide) ?_
            exact g_iret hx hb hr hlk hB dX5_later_38 ⟨by decide, by decide⟩ (⟨Or.inr ⟨s0, hs0, by omega, Or.inl ⟨by omega, rfl⟩⟩, fr.rf, rfl⟩)
  · refine lv_iconst (v := iZ (-1)) hx hb dX5_later_8 rfl ?_
    exact g_iret hx hb hr hlk hB dX5_later_9 ⟨by decide, by decide⟩ (⟨Or.inl ⟨by omega, rfl⟩, fr.rf, rfl⟩)
set_option maxHeartbeats 4000000 in
set_option maxRecDepth 100000 in
theorem mX5_first (l : Launch) (θ : gT) (hθ : gOK θ) (σ : gS) (z : gZ) (N : Nat) (T : Nat → Nat) (h00 : σ 3 0 = (N : Int)) (hN8 : N ≤ 8) (hb9 : bC (fp σ 3)) (hTT : (σ 13 0 = -9 ∧ σ 13 1 = 0 ∧ σ 13 2 = -9) → ∀ j, j < N → σ 19 j = ((T j : Nat) : Int) ∧ (T j < 8 ∧ T j < N)) (x9 y a0 b0 : Int) (hxr : rg x9) (hyr : rg y) (har : rg a0) (hbr : rg b0) : GI l θ yX5_first cX5_first 6 (some .int) 4 94 [.ref (tad θ 0), .int (iZ x9), .int (iZ y), .int (iZ a0), .int (iZ b0)] σ z (fun q σ' z' => ((¬ (0 ≤ x9 ∧ x9 < σ 3 0) ∧ q = -1) ∨ ∃ s0 : Nat, x9 = (s0 : Int) ∧ (s0 : Int) < σ 3 0 ∧ ((¬ ((0 ≤ y ∧ y ≤ 99) ∧ (0 ≤ a0 ∧ a0 ≤ 99) ∧ (0 ≤ b0 ∧ b0 ≤ 99)) ∧ q = -2) ∨ (((0 ≤ y ∧ y ≤ 99) ∧ (0 ≤ a0 ∧ a0 ≤ 99) ∧ (0 ≤ b0 ∧ b0 ≤ 99)) ∧ ¬ (σ 13 0 = -9 ∧ σ 13 1 = 0 ∧ σ 13 2 = -9) ∧ q = -3) ∨ (((0 ≤ y ∧ y ≤ 99) ∧ (0 ≤ a0 ∧ a0 ≤ 99) ∧ (0 ≤ b0 ∧ b0 ≤ 99)) ∧ (σ 13 0 = -9 ∧ σ 13 1 = 0 ∧ σ 13 2 = -9) ∧ fiP (fun t => (wkI (fp σ 3) T (σ 16) N (cst a0 b0) t)) s0 y 40 q))) ∧ fr (wF 8) σ σ' ∧ z' = z) := by
  refine g_enter (ret := (some .int)) (by decide +kernel) (Nat.le_of_ble_eq_true rfl) ?_
  intro p e s m args below meth c ls F hB hl
  obtain ⟨hx, hb, hr, hml, hown, hts, hlk, hK, hst⟩ := F
  have hR := hB.1.2
  have hl : lv_has ls 6 [(0, .ref (tad θ 0)), (1, .int (iZ x9)), (2, .int (iZ y)), (3, .int (iZ a0)), (4, .int (iZ b0))] := hl
  refine lv_aload_n hx hb dX5_first_0 rfl (lv_at hl 0 rfl) ?_
  refine lv_iload_n hx hb dX5_first_1 rfl (lv_at hl 1 rfl) ?_
  refine g_calli (g_runV (i := 0) (As := [.int (iZ x9)]) (rest := []) hx hb hml hown hts hK hst hB (mX5_isStream l θ hθ σ z (by omega) x9 ⟨by omega, by omega⟩) mv_X5_isStream kw_462 cf5 (by decide) rfl rfl hl.1 rfl (Nat.le_of_ble_eq_true rfl) ⟨by decide, by decide⟩ ⟨Nat.le_refl _, Nat.le_refl _⟩ dX5_first_2) hB (fun qi σ_1 z_2 H locs hqi hpi hB => ?_)
  obtain ⟨hpi, e1_, e2_⟩ := hpi
  rw [e1_, e2_] at hB
  clear e1_ e2_
  refine z_if_ne (tgt := 10) hx hb dX5_first_5 (by decide) ⟨by omega, by omega⟩ (fun c_3 => ?_) (fun c_3 => ?_)
  · obtain ⟨s0, hs0⟩ : ∃ s0 : Nat, x9 = (s0 : Int) := ⟨x9.toNat, by omega⟩
    have hs8 : s0 < 8 := by omega
    have hl : lv_has ls 6 [(0, .ref (tad θ 0)), (1, .int (iZ ((s0 : Nat) : Int))), (2, .int (iZ y)), (3, .int (iZ a0)), (4, .int (iZ b0))] := by rw [hs0] at hl; exact hl
    refine lv_iload_n hx hb dX5_first_10 rfl (lv_at hl 2 rfl) ?_
    refine g_calli (g_runS (As := [.int (iZ y)]) (rest := []) hx hb hml hown hts hK hst hB (mX5_isValue l θ hθ σ z y ⟨by omega, by omega⟩) ms_X5_isValue kw_488 rfl hl.1 rfl (Nat.le_of_ble_eq_true rfl) ⟨by decide, by decide⟩ ⟨Nat.le_refl _, Nat.le_refl _⟩ dX5_first_11) hB (fun q_6 σ_4 z_5 H locs hq_6 pq_6 hB => ?_)
    obtain ⟨pq_6, e1_, e2_⟩ := pq_6
    rw [e1_, e2_] at hB
    clear e1_ e2_
    refine z_if_eq (tgt := 32) hx hb dX5_first_14 (by decide) ⟨by omega, by omega⟩ (fun c_7 => ?_) (fun c_7 => ?_)
    · refine lv_bipush (v := iZ (-2)) hx hb dX5_first_32 (by decide) ?_
      exact g_iret hx hb hr hlk hB dX5_first_34 ⟨by decide, by decide⟩ (⟨Or.inr ⟨s0, hs0, by omega, Or.inl ⟨by omega, rfl⟩⟩, fr.rf, rfl⟩)
    · refine lv_iload_n hx hb dX5_first_17 rfl (lv_at hl 3 rfl) ?_
      refine g_calli (g_runS (As := [.int (iZ a0)]) (rest := []) hx hb hml hown hts hK hst hB (mX5_isValue l θ hθ σ z a0 ⟨by omega, by omega⟩) ms_X5_isValue kw_488 rfl hl.1 rfl (Nat.le_of_ble_eq_true rfl) ⟨by decide, by decide⟩ ⟨Nat.le_refl _, Nat.le_refl _⟩ dX5_first_18) hB (fun q_10 σ_8 z_9 H locs hq_10 pq_10 hB => ?_)
      obtain ⟨pq_10, e1_, e2_⟩ := pq_10
      rw [e1_, e2_] at hB
      clear e1_ e2_
      refine z_if_eq (tgt := 32) hx hb dX5_first_21 (by decide) ⟨by omega, by omega⟩ (fun c_11 => ?_) (fun c_11 => ?_)
      · refine lv_bipush (v := iZ (-2)) hx hb dX5_first_32 (by decide) ?_
        exact g_iret hx hb hr hlk hB dX5_first_34 ⟨by decide, by decide⟩ (⟨Or.inr ⟨s0, hs0, by omega, Or.inl ⟨by omega, rfl⟩⟩, fr.rf, rfl⟩)
      · refine lv_iload hx hb dX5_first_24 (lv_at hl 4 rfl) ?_
        refine g_calli (g_runS (As := [.int (iZ b0)]) (rest := []) hx hb hml hown hts hK hst hB (mX5_isValue l θ hθ σ z b0 ⟨by omega, by omega⟩) ms_X5_isValue kw_488 rfl hl.1 rfl (Nat.le_of_ble_eq_true rfl) ⟨by decide, by decide⟩ ⟨Nat.le_refl _, Nat.le_refl _⟩ dX5_first_26) hB (fun q_14 σ_12 z_13 H locs hq_14 pq_14 hB => ?_)
        obtain ⟨pq_14, e1_, e2_⟩ := pq_14
        rw [e1_, e2_] at hB
        clear e1_ e2_
        refine z_if_ne (tgt := 35) hx hb dX5_first_29 (by decide) ⟨by omega, by omega⟩ (fun c_15 => ?_) (fun c_15 => ?_)
        · refine lv_aload_n hx hb dX5_first_35 rfl (lv_at hl 0 rfl) ?_
          refine g_getr (k := 3) (j := 13) hx hb hts hown hK hθ hB cf5 (by decide) rfl (by decide) kw_169 rfl rfl dX5_first_36 ?_
          refine g_calli (g_runV (i := 13) (As := []) (rest := []) hx hb hml hown hts hK hst hB (mX2_isSound l θ hθ σ z ) mv_X2_isSound kw_446 cf2 (by decide) rfl rfl hl.1 rfl (Nat.le_of_ble_eq_true rfl) ⟨by decide, by decide⟩ ⟨Nat.le_refl _, Nat.le_refl _⟩ dX5_first_39) hB (fun qs σ_16 z_17 H locs hqs hps hB => ?_)
          obtain ⟨hps, e1_, e2_⟩ := hps
          rw [e1_, e2_] at hB
          clear e1_ e2_
          rcases hps with ⟨hqs, hsn⟩ | ⟨hqs, hsn⟩
          · subst hqs
            have hT := hTT hsn
            have hT8 : ∀ i, i < N → T i < 8 ∧ T i < N := fun i hi => (hT i hi).2
            refine z_if_ne (tgt := 48) hx hb dX5_first_42 (by decide) ⟨by decide, by decide⟩ (fun c_18 => ?_) (fun c_18 => ?_)
            · refine lv_aload_n hx hb dX5_first_48 rfl (lv_at hl 0 rfl) ?_
              refine g_getr (k := 2) (j := 8) hx hb hts hown hK hθ hB cf5 (by decide) rfl (by decide) kw_168 rfl rfl dX5_first_49 ?_
              refine lv_aload_n hx hb dX5_first_52 rfl (lv_at hl 0 rfl) ?_
              refine g_getr (k := 1) (j := 3) hx hb hts hown hK hθ hB cf5 (by decide) rfl (by decide) kw_167 rfl rfl dX5_first_53 ?_
              refine g_callv (g_runV (i := 8) (As := [.ref (tad θ 3)]) (rest := []) hx hb hml hown hts hK hst hB (mX1_become l θ hθ σ z 8 isF_8 3 isF_3 (by decide)) mv_X1_become kw_342 cf1 (by decide) rfl rfl hl.1 rfl (Nat.le_of_ble_eq_true rfl) ⟨by decide, by decide⟩ ⟨Nat.le_refl _, Nat.le_refl _⟩ dX5_first_56) hB (fun σ1 z_19 H locs hp1 hB => ?_)
              obtain ⟨hp1, hf1, e2_⟩ := hp1
              rw [e2_] at hB
              clear e2_
              have hR := hB.1.2
              refine lv_iconst (v := iZ 1) hx hb dX5_first_59 rfl ?_
              refine z_top (b := (((0 + 1) : Nat) : Int)) (rfl) ?_
              refine lv_istore (lv' := [(5, .int (iZ (((0 + 1) : Nat) : Int))), (0, .ref (tad θ 0)), (1, .int (iZ ((s0 : Nat) : Int))), (2, .int (iZ y)), (3, .int (iZ a0)), (4, .int (iZ b0))]) hx hb dX5_first_60 hl (by decide) rfl (fun ls hl => ?_)
              have loop62 : ∀ (n62 : Nat) (i : Nat) (σ2 : gS) (H : Heap) (locs : List Loc) (ls : Array Slot), 40 - i < n62 → (i ≤ 40) → (fp σ2 8 = (wkI (fp σ 3) T (σ 16) N (cst a0 b0) i)) → (∀ u, u < i → (wkI (fp σ 3) T (σ 16) N (cst a0 b0) (u + 1)) (41 + s0) ≠ y) → (fr (wF 8) σ σ2) →  gB θ σ2 z s.heap H locs → lv_has ls 6 [(5, .int (iZ (((i + 1) : Nat) : Int))), (0, .ref (tad θ 0)), (1, .int (iZ ((s0 : Nat) : Int))), (2, .int (iZ y)), (3, .int (iZ a0)), (4, .int (iZ b0))] → W p l e (gRm 4 94) s m args below meth c H locs 0 0 (MQ below (gQi θ (fun q σ' z' => ((¬ (0 ≤ x9 ∧ x9 < σ 3 0) ∧ q = -1) ∨ ∃ s0 : Nat, x9 = (s0 : Int) ∧ (s0 : Int) < σ 3 0 ∧ ((¬ ((0 ≤ y ∧ y ≤ 99) ∧ (0 ≤ a0 ∧ a0 ≤ 99) ∧ (0 ≤ b0 ∧ b0 ≤ 99)) ∧ q = -2) ∨ (((0 ≤ y ∧ y ≤ 99) ∧ (0 ≤ a0 ∧ a0 ≤ 99) ∧ (0 ≤ b0 ∧ b0 ≤ 99)) ∧ ¬ (σ 13 0 = -9 ∧ σ 13 1 = 0 ∧ σ 13 2 = -9) ∧ q = -3) ∨ (((0 ≤ y ∧ y ≤ 99) ∧ (0 ≤ a0 ∧ a0 ≤ 99) ∧ (0 ≤ b0 ∧ b0 ≤ 99)) ∧ (σ 13 0 = -9 ∧ σ 13 1 = 0 ∧ σ 13 2 = -9) ∧ fiP (fun t => (wkI (fp σ 3) T (σ 16) N (cst a0 b0) t)) s0 y 40 q))) ∧ fr (wF 8) σ σ' ∧ z' = z)) args s 0 0 (tA θ)) (F0 m 62 ls []) := by
                intro n62
                induction n62 with
                | zero => intro i σ2 H locs ls hmu; exact absurd hmu (Nat.not_lt_zero _)
                | succ n62 ih62 =>
                  intro i σ2 H locs ls hmu hi hg hno hf hB hl
                  have hR := hB.1.2
                  refine lv_iload hx hb dX5_first_62 (lv_at hl 0 rfl) ?_
                  refine lv_bipush (v := iZ 40) hx hb dX5_first_64 (by decide) ?_
                  refine z_icmp_gt (tgt := 104) hx hb dX5_first_66 (by decide) ⟨by omega, by omega⟩ ⟨by decide, by decide⟩ (fun c_21 => ?_) (fun c_21 => ?_)
                  · refine lv_bipush (v := iZ (-9)) hx hb dX5_first_104 (by decide) ?_
                    exact g_iret hx hb hr hlk hB dX5_first_106 ⟨by decide, by decide⟩ (⟨Or.inr ⟨s0, hs0, by omega, Or.inr (Or.inr ⟨by omega, hsn, Or.inl ⟨rfl, fun u hu => hno u (by omega)⟩⟩)⟩, hf, rfl⟩)
                  · refine lv_aload_n hx hb dX5_first_69 rfl (lv_at hl 1 rfl) ?_
                    refine g_getr (k := 2) (j := 8) hx hb hts hown hK hθ hB cf5 (by decide) rfl (by decide) kw_168 rfl rfl dX5_first_70 ?_
                    refine lv_aload_n hx hb dX5_first_73 rfl (lv_at hl 1 rfl) ?_
                    refine g_getr (k := 3) (j := 13) hx hb hts hown hK hθ hB cf5 (by decide) rfl (by decide) kw_169 rfl rfl dX5_first_74 ?_
                    refine lv_iload_n hx hb dX5_first_77 rfl (lv_at hl 4 rfl) ?_
                    refine lv_iload hx hb dX5_first_78 (lv_at hl 5 rfl) ?_
                    refine g_callv (g_runV (i := 8) (As := [.ref (tad θ 13), .int (iZ a0), .int (iZ b0)]) (rest := []) hx hb hml hown hts hK hst hB (mX1_work l θ hθ σ2 z 8 isF_8 N T (by rw [hg, wkI_0 hT8]; exact h00) hN8 (fun j hj => by rw [hf 19 j (isF_8.sn (by omega))]; exact hT j hj) (by rw [hg]; exact wkI_b hb9 h00 hT8 (cst_in (by omega) (by omega)) _) a0 b0 (by omega) (by omega)) mv_X1_work kw_498 cf1 (by decide) rfl rfl hl.1 rfl (Nat.le_of_ble_eq_true rfl) ⟨by decide, by decide⟩ ⟨Nat.le_refl _, Nat.le_refl _⟩ dX5_first_80) hB (fun σ3 z_22 H locs hp3 hB => ?_)
                    obtain ⟨hp3, hf3, e2_⟩ := hp3
                    rw [e2_] at hB
                    clear e2_
                    have hR := hB.1.2
                    rw [hg, hf.row (fun k => isF_8.sn (by omega))] at hp3
                    have hg3 : fp σ3 8 = (wkI (fp σ 3) T (σ 16) N (cst a0 b0) (i + 1)) := hp3
                    refine lv_aload_n hx hb dX5_first_83 rfl (lv_at hl 1 rfl) ?_
                    refine g_getr (k := 2) (j := 8) hx hb hts hown hK hθ hB cf5 (by decide) rfl (by decide) kw_168 rfl rfl dX5_first_84 ?_
                    refine lv_iload_n hx hb dX5_first_87 rfl (lv_at hl 2 rfl) ?_
                    refine g_calli (g_runV (i := 8) (As := [.int (iZ ((s0 : Nat) : Int))]) (rest := []) hx hb hml hown hts hK hst hB (mX1_valueOf l θ hθ σ3 z 8 isF_8 ((s0 : Nat) : Int) (show rg _ from ⟨by omega, by omega⟩)) mv_X1_valueOf kw_467 cf1 (by decide) rfl rfl hl.1 rfl (Nat.le_of_ble_eq_true rfl) ⟨by decide, by decide⟩ ⟨Nat.le_refl _, Nat.le_refl _⟩ dX5_first_88) hB (fun q_26 σ_24 z_25 H locs hq_26 pq_26 hB => ?_)
                    obtain ⟨pq_26, e1_, e2_⟩ := pq_26
                    rw [e1_, e2_] at hB
                    clear e1_ e2_
                    subst pq_26
                    refine z_top (b := ((wkI (fp σ 3) T (σ 16) N (cst a0 b0) (i + 1)) (41 + s0))) (by rw [vc_n _ hs8, hg3]) ?_
                    have hrv : rg ((wkI (fp σ 3) T (σ 16) N (cst a0 b0) (i + 1)) (41 + s0)) := by have h9 := fp_rg hR 8 (41 + s0); rw [hg3] at h9; exact h9
                    refine lv_iload_n hx hb dX5_first_91 rfl (lv_at hl 3 rfl) ?_
                    refine z_icmp_ne (tgt := 98) hx hb dX5_first_92 (by decide) ⟨by omega, by omega⟩ ⟨by omega, by omega⟩ (fun c_27 => ?_) (fun c_27 => ?_)
                    · refine z_iinc (k := 0) (lv' := [(5, .int (iZ ((((i + 1) : Nat) : Int) + 1))), (0, .ref (tad θ 0)), (1, .int (iZ ((s0 : Nat) : Int))), (2, .int (iZ y)), (3, .int (iZ a0)), (4, .int (iZ b0))]) hx hb dX5_first_98 hl rfl (by decide) rfl (fun ls hl => ?_)
                      have hl : lv_has ls 6 [(5, .int (iZ ((((i + 1) + 1) : Nat) : Int))), (0, .ref (tad θ 0)), (1, .int (iZ ((s0 : Nat) : Int))), (2, .int (iZ y)), (3, .int (iZ a0)), (4, .int (iZ b0))] := by have e9 : ((((i + 1) : Nat) : Int) + 1) = ((((i + 1) + 1) : Nat) : Int) := (by omega); rw [e9] at hl; exact hl
                      refine lv_goto (tgt := 62) hx hb dX5_first_101 (by decide) ?_
                      exact ih62 (i + 1) σ3 _ _ _ (by omega) (by omega) hg3 (lt_s hno (by omega)) (hf.tr hf3) hB (lv_sub hl [0, 1, 2, 3, 4, 5] rfl)
                    · refine lv_iload hx hb dX5_first_95 (lv_at hl 0 rfl) ?_
                      exact g_iret hx hb hr hlk hB dX5_first_97 ⟨by omega, by omega⟩ (⟨Or.inr ⟨s0, hs0, by omega, Or.inr (Or.inr ⟨by omega, hsn, Or.inr ⟨i, by omega, rfl, by omega, hno⟩⟩)⟩, (hf.tr hf3), rfl⟩)
              exact loop62 _ 0 σ1 _ _ _ (Nat.lt_succ_self _) (by omega) hp1 (fun u h => absurd h (Nat.not_lt_zero _)) hf1 hB (lv_sub hl [0, 1, 2, 3, 4, 5] rfl)
            · exact absurd c_18 (by decide)
          · subst hqs
            refine z_if_ne (tgt := 48) hx hb dX5_first_42 (by decide) ⟨by decide, by decide⟩ (fun c_28 => ?_) (fun c_28 => ?_)
            · exact absurd (by decide) c_28
            · refine lv_bipush (v := iZ (-3)) hx hb dX5_first_45 (by decide) ?_
              exact g_iret hx hb hr hlk hB dX5_first_47 ⟨by decide, by decide⟩ (⟨Or.inr ⟨s0, hs0, by omega, Or.inr (Or.inl ⟨by omega, hsn, rfl⟩)⟩, fr.rf, rfl⟩)
        · refine lv_bipush (v := iZ (-2)) hx hb dX5_first_32 (by decide) ?_
          exact g_iret hx hb hr hlk hB dX5_first_34 ⟨by decide, by decide⟩ (⟨Or.inr ⟨s0, hs0, by omega, Or.inl ⟨by omega, rfl⟩⟩, fr.rf, rfl⟩)
  · refine lv_iconst (v := iZ (-1)) hx hb dX5_first_8 rfl ?_
    exact g_iret hx hb hr hlk hB dX5_first_9 ⟨by decide, by decide⟩ (⟨Or.inl ⟨by omega, rfl⟩, fr.rf, rfl⟩)
set_option maxHeartbeats 4000000 in
set_option maxRecDepth 100000 in
theorem mX5_timesThere (l : Launch) (θ : gT) (hθ : gOK θ) (σ : gS) (z : gZ) (N : Nat) (T : Nat → Nat) (h00 : σ 3 0 = (N : Int)) (hN8 : N ≤ 8) (hb9 : bC (fp σ 3)) (hT : ∀ j, j < N → σ 19 j = ((T j : Nat) : Int) ∧ (T j < 8 ∧ T j < N)) (s0 : Nat) (hs : s0 < 8) (n : Nat) (hn : n ≤ 6) (d : Nat) (hd : d < 64) : GI l θ yX5_timesThere cX5_timesThere 6 (some .int) 4 94 [.ref (tad θ 0), .int (iZ ((s0 : Nat) : Int)), .int (iZ ((n : Nat) : Int)), .int (iZ ((d : Nat) : Int))] σ z (fun q σ' z' => (q = ((tcN (wkI (fp σ 3) T (σ 16) N (bitI d)) s0 n : Nat) : Int)) ∧ fr (wF 8) σ σ' ∧ z' = z) := by
  refine g_enter (ret := (some .int)) (by decide +kernel) (Nat.le_of_ble_eq_true rfl) ?_
  intro p e s m args below meth c ls F hB hl
  obtain ⟨hx, hb, hr, hml, hown, hts, hlk, hK, hst⟩ := F
  have hR := hB.1.2
  have hl : lv_has ls 6 [(0, .ref (tad θ 0)), (1, .int (iZ ((s0 : Nat) : Int))), (2, .int (iZ ((n : Nat) : Int))), (3, .int (iZ ((d : Nat) : Int)))] := hl
  have hT8 : ∀ i, i < N → T i < 8 ∧ T i < N := fun i hi => (hT i hi).2
  refine lv_iconst (v := iZ 0) hx hb dX5_timesThere_0 rfl ?_
  refine z_top (b := (((tcN (wkI (fp σ 3) T (σ 16) N (bitI d)) s0 0) : Nat) : Int)) (rfl) ?_
  refine lv_istore (lv' := [(4, .int (iZ (((tcN (wkI (fp σ 3) T (σ 16) N (bitI d)) s0 0) : Nat) : Int))), (0, .ref (tad θ 0)), (1, .int (iZ ((s0 : Nat) : Int))), (2, .int (iZ ((n : Nat) : Int))), (3, .int (iZ ((d : Nat) : Int)))]) hx hb dX5_timesThere_1 hl (by decide) rfl (fun ls hl => ?_)
  refine lv_aload_n hx hb dX5_timesThere_3 rfl (lv_at hl 1 rfl) ?_
  refine g_getr (k := 2) (j := 8) hx hb hts hown hK hθ hB cf5 (by decide) rfl (by decide) kw_168 rfl rfl dX5_timesThere_4 ?_
  refine lv_aload_n hx hb dX5_timesThere_7 rfl (lv_at hl 1 rfl) ?_
  refine g_getr (k := 1) (j := 3) hx hb hts hown hK hθ hB cf5 (by decide) rfl (by decide) kw_167 rfl rfl dX5_timesThere_8 ?_
  refine g_callv (g_runV (i := 8) (As := [.ref (tad θ 3)]) (rest := []) hx hb hml hown hts hK hst hB (mX1_become l θ hθ σ z 8 isF_8 3 isF_3 (by decide)) mv_X1_become kw_342 cf1 (by decide) rfl rfl hl.1 rfl (Nat.le_of_ble_eq_true rfl) ⟨by decide, by decide⟩ ⟨Nat.le_refl _, Nat.le_refl _⟩ dX5_timesThere_11) hB (fun σ1 z_1 H locs hp1 hB => ?_)
  obtain ⟨hp1, hf1, e2_⟩ := hp1
  rw [e2_] at hB
  clear e2_
  have hR := hB.1.2
  refine lv_iconst (v := iZ 0) hx hb dX5_timesThere_14 rfl ?_
  refine lv_istore (lv' := [(5, .int (iZ 0)), (4, .int (iZ (((tcN (wkI (fp σ 3) T (σ 16) N (bitI d)) s0 0) : Nat) : Int))), (0, .ref (tad θ 0)), (1, .int (iZ ((s0 : Nat) : Int))), (2, .int (iZ ((n : Nat) : Int))), (3, .int (iZ ((d : Nat) : Int)))]) hx hb dX5_timesThere_15 hl (by decide) rfl (fun ls hl => ?_)
  have loop17 : ∀ (n17 : Nat) (i : Nat) (σ2 : gS) (H : Heap) (locs : List Loc) (ls : Array Slot), n - i < n17 → (i ≤ n) → (fp σ2 8 = (wkI (fp σ 3) T (σ 16) N (bitI d)) i) → (fr (wF 8) σ σ2) →  gB θ σ2 z s.heap H locs → lv_has ls 6 [(5, .int (iZ ((i : Nat) : Int))), (4, .int (iZ (((tcN (wkI (fp σ 3) T (σ 16) N (bitI d)) s0 i) : Nat) : Int))), (0, .ref (tad θ 0)), (1, .int (iZ ((s0 : Nat) : Int))), (2, .int (iZ ((n : Nat) : Int))), (3, .int (iZ ((d : Nat) : Int)))] → W p l e (gRm 4 94) s m args below meth c H locs 0 0 (MQ below (gQi θ (fun q σ' z' => (q = ((tcN (wkI (fp σ 3) T (σ 16) N (bitI d)) s0 n : Nat) : Int)) ∧ fr (wF 8) σ σ' ∧ z' = z)) args s 0 0 (tA θ)) (F0 m 17 ls []) := by
    intro n17
    induction n17 with
    | zero => intro i σ2 H locs ls hmu; exact absurd hmu (Nat.not_lt_zero _)
    | succ n17 ih17 =>
      intro i σ2 H locs ls hmu hi hg hf hB hl
      have hR := hB.1.2
      have htc := tcN_le (wkI (fp σ 3) T (σ 16) N (bitI d)) s0 i
      have hbt := Nat.mod_lt (d / 2 ^ i) (show 0 < 2 by omega)
      refine lv_iload hx hb dX5_timesThere_17 (lv_at hl 0 rfl) ?_
      refine lv_iload_n hx hb dX5_timesThere_19 rfl (lv_at hl 4 rfl) ?_
      refine z_icmp_ge (tgt := 63) hx hb dX5_timesThere_20 (by decide) ⟨by omega, by omega⟩ ⟨by omega, by omega⟩ (fun c_3 => ?_) (fun c_3 => ?_)
      · refine lv_iload hx hb dX5_timesThere_63 (lv_at hl 1 rfl) ?_
        exact g_iret hx hb hr hlk hB dX5_timesThere_65 ⟨by omega, by omega⟩ (⟨by rw [show i = n by omega], hf, rfl⟩)
      · refine lv_aload_n hx hb dX5_timesThere_23 rfl (lv_at hl 2 rfl) ?_
        refine g_getr (k := 2) (j := 8) hx hb hts hown hK hθ hB cf5 (by decide) rfl (by decide) kw_168 rfl rfl dX5_timesThere_24 ?_
        refine lv_aload_n hx hb dX5_timesThere_27 rfl (lv_at hl 2 rfl) ?_
        refine g_getr (k := 3) (j := 13) hx hb hts hown hK hθ hB cf5 (by decide) rfl (by decide) kw_169 rfl rfl dX5_timesThere_28 ?_
        refine lv_iload_n hx hb dX5_timesThere_31 rfl (lv_at hl 5 rfl) ?_
        refine lv_iload hx hb dX5_timesThere_32 (lv_at hl 0 rfl) ?_
        refine z_ishr (a := d) (j := i) hx hb (by omega) (by omega) dX5_timesThere_34 ?_
        refine lv_iconst (v := iZ 1) hx hb dX5_timesThere_35 rfl ?_
        refine z_iand (a := (d / 2 ^ i)) (b := 1) hx hb dX5_timesThere_36 ?_
        refine z_top (b := (((d / 2 ^ i % 2) : Nat) : Int)) (by rw [Nat.and_one_is_mod]) ?_
        refine lv_iconst (v := iZ 0) hx hb dX5_timesThere_37 rfl ?_
        refine g_callv (g_runV (i := 8) (As := [.ref (tad θ 13), .int (iZ (((d / 2 ^ i % 2) : Nat) : Int)), .int (iZ 0)]) (rest := []) hx hb hml hown hts hK hst hB (mX1_work l θ hθ σ2 z 8 isF_8 N T (by rw [hg, wkI_0 hT8]; exact h00) hN8 (fun j hj => by rw [hf 19 j (isF_8.sn (by omega))]; exact hT j hj) (by rw [hg]; exact wkI_b hb9 h00 hT8 (bitI_in d) _) ((d / 2 ^ i % 2 : Nat) : Int) 0 (by omega) (by omega)) mv_X1_work kw_498 cf1 (by decide) rfl rfl hl.1 rfl (Nat.le_of_ble_eq_true rfl) ⟨by decide, by decide⟩ ⟨Nat.le_refl _, Nat.le_refl _⟩ dX5_timesThere_38) hB (fun σ3 z_4 H locs hp3 hB => ?_)
        obtain ⟨hp3, hf3, e2_⟩ := hp3
        rw [e2_] at hB
        clear e2_
        have hR := hB.1.2
        rw [hg, hf.row (fun k => isF_8.sn (by omega))] at hp3
        have hg3 : fp σ3 8 = (wkI (fp σ 3) T (σ 16) N (bitI d) (i + 1)) := hp3
        refine lv_aload_n hx hb dX5_timesThere_41 rfl (lv_at hl 2 rfl) ?_
        refine g_getr (k := 2) (j := 8) hx hb hts hown hK hθ hB cf5 (by decide) rfl (by decide) kw_168 rfl rfl dX5_timesThere_42 ?_
        refine lv_iload_n hx hb dX5_timesThere_45 rfl (lv_at hl 3 rfl) ?_
        refine g_calli (g_runV (i := 8) (As := [.int (iZ ((s0 : Nat) : Int))]) (rest := []) hx hb hml hown hts hK hst hB (mX1_valueOf l θ hθ σ3 z 8 isF_8 ((s0 : Nat) : Int) (show rg _ from ⟨by omega, by omega⟩)) mv_X1_valueOf kw_467 cf1 (by decide) rfl rfl hl.1 rfl (Nat.le_of_ble_eq_true rfl) ⟨by decide, by decide⟩ ⟨Nat.le_refl _, Nat.le_refl _⟩ dX5_timesThere_46) hB (fun q_8 σ_6 z_7 H locs hq_8 pq_8 hB => ?_)
        obtain ⟨pq_8, e1_, e2_⟩ := pq_8
        rw [e1_, e2_] at hB
        clear e1_ e2_
        subst pq_8
        refine z_top (b := ((wkI (fp σ 3) T (σ 16) N (bitI d)) (i + 1) (41 + s0))) (by rw [vc_n _ hs, hg3]) ?_
        have hrv : rg ((wkI (fp σ 3) T (σ 16) N (bitI d)) (i + 1) (41 + s0)) := by have h9 := fp_rg hR 8 (41 + s0); rw [hg3] at h9; exact h9
        refine lv_bipush (v := iZ (-9)) hx hb dX5_timesThere_49 (by decide) ?_
        refine z_icmp_eq (tgt := 57) hx hb dX5_timesThere_51 (by decide) ⟨by omega, by omega⟩ ⟨by decide, by decide⟩ (fun c_9 => ?_) (fun c_9 => ?_)
        · have hth := c_9
          have htn : tcN (wkI (fp σ 3) T (σ 16) N (bitI d)) s0 (i + 1) = tcN (wkI (fp σ 3) T (σ 16) N (bitI d)) s0 i := by rw [tcN, if_pos hth]; omega
          have hl : lv_has ls 6 [(5, .int (iZ ((i : Nat) : Int))), (4, .int (iZ (((tcN (wkI (fp σ 3) T (σ 16) N (bitI d)) s0 (i + 1)) : Nat) : Int))), (0, .ref (tad θ 0)), (1, .int (iZ ((s0 : Nat) : Int))), (2, .int (iZ ((n : Nat) : Int))), (3, .int (iZ ((d : Nat) : Int)))] := by rw [← htn] at hl; exact hl
          refine z_iinc (k := 0) (lv' := [(5, .int (iZ (((i : Nat) : Int) + 1))), (4, .int (iZ (((tcN (wkI (fp σ 3) T (σ 16) N (bitI d)) s0 (i + 1)) : Nat) : Int))), (0, .ref (tad θ 0)), (1, .int (iZ ((s0 : Nat) : Int))), (2, .int (iZ ((n : Nat) : Int))), (3, .int (iZ ((d : Nat) : Int)))]) hx hb dX5_timesThere_57 hl rfl (by decide) rfl (fun ls hl => ?_)
          have hl : lv_has ls 6 [(5, .int (iZ (((i + 1) : Nat) : Int))), (4, .int (iZ (((tcN (wkI (fp σ 3) T (σ 16) N (bitI d)) s0 (i + 1)) : Nat) : Int))), (0, .ref (tad θ 0)), (1, .int (iZ ((s0 : Nat) : Int))), (2, .int (iZ ((n : Nat) : Int))), (3, .int (iZ ((d : Nat) : Int)))] := by have e9 : (((i : Nat) : Int) + 1) = (((i + 1) : Nat) : Int) := (by omega); rw [e9] at hl; exact hl
          refine lv_goto (tgt := 17) hx hb dX5_timesThere_60 (by decide) ?_
          exact ih17 (i + 1) σ3 _ _ _ (by omega) (by omega) hg3 (hf.tr hf3) hB (lv_sub hl [0, 1, 2, 3, 4, 5] rfl)
        · have hth := c_9
          have htn : tcN (wkI (fp σ 3) T (σ 16) N (bitI d)) s0 (i + 1) = tcN (wkI (fp σ 3) T (σ 16) N (bitI d)) s0 i + 1 := by rw [tcN, if_neg hth]
          refine z_iinc (k := 1) (lv' := [(4, .int (iZ ((((tcN (wkI (fp σ 3) T (σ 16) N (bitI d)) s0 i) : Nat) : Int) + 1))), (5, .int (iZ ((i : Nat) : Int))), (0, .ref (tad θ 0)), (1, .int (iZ ((s0 : Nat) : Int))), (2, .int (iZ ((n : Nat) : Int))), (3, .int (iZ ((d : Nat) : Int)))]) hx hb dX5_timesThere_54 hl rfl (by decide) rfl (fun ls hl => ?_)
          have hl : lv_has ls 6 [(4, .int (iZ (((tcN (wkI (fp σ 3) T (σ 16) N (bitI d)) s0 (i + 1)) : Nat) : Int))), (5, .int (iZ ((i : Nat) : Int))), (0, .ref (tad θ 0)), (1, .int (iZ ((s0 : Nat) : Int))), (2, .int (iZ ((n : Nat) : Int))), (3, .int (iZ ((d : Nat) : Int)))] := by have e9 : ((((tcN (wkI (fp σ 3) T (σ 16) N (bitI d)) s0 i) : Nat) : Int) + 1) = (((tcN (wkI (fp σ 3) T (σ 16) N (bitI d)) s0 (i + 1)) : Nat) : Int) := (by omega); rw [e9] at hl; exact hl
          refine z_iinc (k := 1) (lv' := [(5, .int (iZ (((i : Nat) : Int) + 1))), (4, .int (iZ (((tcN (wkI (fp σ 3) T (σ 16) N (bitI d)) s0 (i + 1)) : Nat) : Int))), (0, .ref (tad θ 0)), (1, .int (iZ ((s0 : Nat) : Int))), (2, .int (iZ ((n : Nat) : Int))), (3, .int (iZ ((d : Nat) : Int)))]) hx hb dX5_timesThere_57 hl rfl (by decide) rfl (fun ls hl => ?_)
          have hl : lv_has ls 6 [(5, .int (iZ (((i + 1) : Nat) : Int))), (4, .int (iZ (((tcN (wkI (fp σ 3) T (σ 16) N (bitI d)) s0 (i + 1)) : Nat) : Int))), (0, .ref (tad θ 0)), (1, .int (iZ ((s0 : Nat) : Int))), (2, .int (iZ ((n : Nat) : Int))), (3, .int (iZ ((d : Nat) : Int)))] := by have e9 : (((i : Nat) : Int) + 1) = (((i + 1) : Nat) : Int) := (by omega); rw [e9] at hl; exact hl
          refine lv_goto (tgt := 17) hx hb dX5_timesThere_60 (by decide) ?_
          exact ih17 (i + 1) σ3 _ _ _ (by omega) (by omega) hg3 (hf.tr hf3) hB (lv_sub hl [0, 1, 2, 3, 4, 5] rfl)
  exact loop17 _ 0 σ1 _ _ _ (Nat.lt_succ_self _) (by omega) hp1 hf1 hB (lv_sub hl [0, 1, 2, 3, 4, 5] rfl)
