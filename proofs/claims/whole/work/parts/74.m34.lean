set_option maxHeartbeats 4000000 in
set_option maxRecDepth 100000 in
theorem mX5_inputs (l : Launch) (θ : gT) (hθ : gOK θ) (σ : gS) (z : gZ) (N : Nat) (T : Nat → Nat) (h00 : σ 3 0 = (N : Int)) (hN8 : N ≤ 8) (hb9 : bC (fp σ 3)) (hTT : (σ 13 0 = -9 ∧ σ 13 1 = 0 ∧ σ 13 2 = -9) → ∀ j, j < N → σ 19 j = ((T j : Nat) : Int) ∧ (T j < 8 ∧ T j < N)) (n : Nat) (hn : σ 93 0 = (n : Int)) (hn6 : n ≤ 6) (h01 : ∀ i, i < n → σ 97 i = 0 ∨ σ 97 i = 1) (hat : ∀ i, i < n → 0 ≤ σ 94 i ∧ σ 94 i ≤ 12) (y : Int) (hyr : rg y) : GI l θ yX5_inputs cX5_inputs 5 (some .int) 5 118 [.ref (tad θ 0), .int (iZ y)] σ z (fun q σ' z' => ((¬ (0 ≤ y ∧ y ≤ 1) ∧ q = -2) ∨ ((0 ≤ y ∧ y ≤ 1) ∧ ¬ (σ 13 0 = -9 ∧ σ 13 1 = 0 ∧ σ 13 2 = -9) ∧ q = -3) ∨ ((0 ≤ y ∧ y ≤ 1) ∧ (σ 13 0 = -9 ∧ σ 13 1 = 0 ∧ σ 13 2 = -9) ∧ ((y = 0 ∧ q = ((cnB (fun k => exK σ n (lsT (σ 94) n).toNat (wkI (rsC (fp σ 3)) T (σ 16) N (cst ((k / 10 : Nat) : Int) ((k % 10 : Nat) : Int)))) 100 : Nat) : Int)) ∨ (y ≠ 0 ∧ q = nO (fsR (fun k => exK σ n (lsT (σ 94) n).toNat (wkI (rsC (fp σ 3)) T (σ 16) N (cst ((k / 10 : Nat) : Int) ((k % 10 : Nat) : Int)))) 100))))) ∧ fr (wF 8) σ σ' ∧ z' = z) := by
  refine g_enter (ret := (some .int)) (by decide +kernel) (Nat.le_of_ble_eq_true rfl) ?_
  intro p e s m args below meth c ls F hB hl
  obtain ⟨hx, hb, hr, hml, hown, hts, hlk, hK, hst⟩ := F
  have hR := hB.1.2
  have hl : lv_has ls 5 [(0, .ref (tad θ 0)), (1, .int (iZ y))] := hl
  refine lv_iload_n hx hb dX5_inputs_0 rfl (lv_at hl 1 rfl) ?_
  refine z_if_lt (tgt := 9) hx hb dX5_inputs_1 (by decide) ⟨by omega, by omega⟩ (fun c_1 => ?_) (fun c_1 => ?_)
  · refine lv_bipush (v := iZ (-2)) hx hb dX5_inputs_9 (by decide) ?_
    exact g_iret hx hb hr hlk hB dX5_inputs_11 ⟨by decide, by decide⟩ (⟨Or.inl ⟨by omega, rfl⟩, fr.rf, rfl⟩)
  · refine lv_iload_n hx hb dX5_inputs_4 rfl (lv_at hl 1 rfl) ?_
    refine lv_iconst (v := iZ 1) hx hb dX5_inputs_5 rfl ?_
    refine z_icmp_le (tgt := 12) hx hb dX5_inputs_6 (by decide) ⟨by omega, by omega⟩ ⟨by decide, by decide⟩ (fun c_2 => ?_) (fun c_2 => ?_)
    · refine lv_aload_n hx hb dX5_inputs_12 rfl (lv_at hl 0 rfl) ?_
      refine g_getr (k := 3) (j := 13) hx hb hts hown hK hθ hB cf5 (by decide) rfl (by decide) kw_169 rfl rfl dX5_inputs_13 ?_
      refine g_calli (g_runV (i := 13) (As := []) (rest := []) hx hb hml hown hts hK hst hB (mX2_isSound l θ hθ σ z ) mv_X2_isSound kw_446 cf2 (by decide) rfl rfl hl.1 rfl (Nat.le_of_ble_eq_true rfl) ⟨by decide, by decide⟩ ⟨Nat.le_refl _, Nat.le_refl _⟩ dX5_inputs_16) hB (fun qs σ_3 z_4 H locs hqs hps hB => ?_)
      obtain ⟨hps, e1_, e2_⟩ := hps
      rw [e1_, e2_] at hB
      clear e1_ e2_
      rcases hps with ⟨hqs, hsn⟩ | ⟨hqs, hsn⟩
      · subst hqs
        have hT := hTT hsn
        have hT8 : ∀ i, i < N → T i < 8 ∧ T i < N := fun i hi => (hT i hi).2
        refine z_if_ne (tgt := 25) hx hb dX5_inputs_19 (by decide) ⟨by decide, by decide⟩ (fun c_5 => ?_) (fun c_5 => ?_)
        · refine lv_iconst (v := iZ 0) hx hb dX5_inputs_25 rfl ?_
          refine z_top (b := (((cnB (fun k => exK σ n (lsT (σ 94) n).toNat (wkI (rsC (fp σ 3)) T (σ 16) N (cst ((k / 10 : Nat) : Int) ((k % 10 : Nat) : Int)))) 0) : Nat) : Int)) (rfl) ?_
          refine lv_istore_n (lv' := [(2, .int (iZ (((cnB (fun k => exK σ n (lsT (σ 94) n).toNat (wkI (rsC (fp σ 3)) T (σ 16) N (cst ((k / 10 : Nat) : Int) ((k % 10 : Nat) : Int)))) 0) : Nat) : Int))), (0, .ref (tad θ 0)), (1, .int (iZ y))]) hx hb dX5_inputs_26 rfl hl (by decide) rfl (fun ls hl => ?_)
          refine lv_bipush (v := iZ (-9)) hx hb dX5_inputs_27 (by decide) ?_
          refine z_top (b := (nO (fsR (fun k => exK σ n (lsT (σ 94) n).toNat (wkI (rsC (fp σ 3)) T (σ 16) N (cst ((k / 10 : Nat) : Int) ((k % 10 : Nat) : Int)))) 0))) (rfl) ?_
          refine lv_istore_n (lv' := [(3, .int (iZ (nO (fsR (fun k => exK σ n (lsT (σ 94) n).toNat (wkI (rsC (fp σ 3)) T (σ 16) N (cst ((k / 10 : Nat) : Int) ((k % 10 : Nat) : Int)))) 0)))), (2, .int (iZ (((cnB (fun k => exK σ n (lsT (σ 94) n).toNat (wkI (rsC (fp σ 3)) T (σ 16) N (cst ((k / 10 : Nat) : Int) ((k % 10 : Nat) : Int)))) 0) : Nat) : Int))), (0, .ref (tad θ 0)), (1, .int (iZ y))]) hx hb dX5_inputs_29 rfl hl (by decide) rfl (fun ls hl => ?_)
          refine lv_iconst (v := iZ 0) hx hb dX5_inputs_30 rfl ?_
          refine lv_istore (lv' := [(4, .int (iZ 0)), (3, .int (iZ (nO (fsR (fun k => exK σ n (lsT (σ 94) n).toNat (wkI (rsC (fp σ 3)) T (σ 16) N (cst ((k / 10 : Nat) : Int) ((k % 10 : Nat) : Int)))) 0)))), (2, .int (iZ (((cnB (fun k => exK σ n (lsT (σ 94) n).toNat (wkI (rsC (fp σ 3)) T (σ 16) N (cst ((k / 10 : Nat) : Int) ((k % 10 : Nat) : Int)))) 0) : Nat) : Int))), (0, .ref (tad θ 0)), (1, .int (iZ y))]) hx hb dX5_inputs_31 hl (by decide) rfl (fun ls hl => ?_)
          have loop33 : ∀ (n33 : Nat) (k : Nat) (σ4 : gS) (H : Heap) (locs : List Loc) (ls : Array Slot), 100 - k < n33 → (k ≤ 100) → (fr (wF 8) σ σ4) →  gB θ σ4 z s.heap H locs → lv_has ls 5 [(4, .int (iZ ((k : Nat) : Int))), (3, .int (iZ (nO (fsR (fun k => exK σ n (lsT (σ 94) n).toNat (wkI (rsC (fp σ 3)) T (σ 16) N (cst ((k / 10 : Nat) : Int) ((k % 10 : Nat) : Int)))) k)))), (2, .int (iZ (((cnB (fun k => exK σ n (lsT (σ 94) n).toNat (wkI (rsC (fp σ 3)) T (σ 16) N (cst ((k / 10 : Nat) : Int) ((k % 10 : Nat) : Int)))) k) : Nat) : Int))), (0, .ref (tad θ 0)), (1, .int (iZ y))] → W p l e (gRm 5 118) s m args below meth c H locs 0 0 (MQ below (gQi θ (fun q σ' z' => ((¬ (0 ≤ y ∧ y ≤ 1) ∧ q = -2) ∨ ((0 ≤ y ∧ y ≤ 1) ∧ ¬ (σ 13 0 = -9 ∧ σ 13 1 = 0 ∧ σ 13 2 = -9) ∧ q = -3) ∨ ((0 ≤ y ∧ y ≤ 1) ∧ (σ 13 0 = -9 ∧ σ 13 1 = 0 ∧ σ 13 2 = -9) ∧ ((y = 0 ∧ q = ((cnB (fun k => exK σ n (lsT (σ 94) n).toNat (wkI (rsC (fp σ 3)) T (σ 16) N (cst ((k / 10 : Nat) : Int) ((k % 10 : Nat) : Int)))) 100 : Nat) : Int)) ∨ (y ≠ 0 ∧ q = nO (fsR (fun k => exK σ n (lsT (σ 94) n).toNat (wkI (rsC (fp σ 3)) T (σ 16) N (cst ((k / 10 : Nat) : Int) ((k % 10 : Nat) : Int)))) 100))))) ∧ fr (wF 8) σ σ' ∧ z' = z)) args s 0 0 (tA θ)) (F0 m 33 ls []) := by
            intro n33
            induction n33 with
            | zero => intro k σ4 H locs ls hmu; exact absurd hmu (Nat.not_lt_zero _)
            | succ n33 ih33 =>
              intro k σ4 H locs ls hmu hk hf4 hB hl
              have hR := hB.1.2
              have hcl := cnB_le (fun k => exK σ n (lsT (σ 94) n).toNat (wkI (rsC (fp σ 3)) T (σ 16) N (cst ((k / 10 : Nat) : Int) ((k % 10 : Nat) : Int)))) k
              have hni := nO_in (R := (fun k => exK σ n (lsT (σ 94) n).toNat (wkI (rsC (fp σ 3)) T (σ 16) N (cst ((k / 10 : Nat) : Int) ((k % 10 : Nat) : Int))))) (N := k)
              have hnr : rg (nO (fsR (fun k => exK σ n (lsT (σ 94) n).toNat (wkI (rsC (fp σ 3)) T (σ 16) N (cst ((k / 10 : Nat) : Int) ((k % 10 : Nat) : Int)))) k)) := by rcases hni with h | ⟨j, h1, h2, h3⟩ <;> exact ⟨by omega, by omega⟩
              have hg43 : fp σ4 3 = fp σ 3 := fp_ne hf4 isF_8 isF_3 (by decide)
              refine lv_iload hx hb dX5_inputs_33 (lv_at hl 0 rfl) ?_
              refine lv_bipush (v := iZ 100) hx hb dX5_inputs_35 (by decide) ?_
              refine z_icmp_ge (tgt := 77) hx hb dX5_inputs_37 (by decide) ⟨by omega, by omega⟩ ⟨by decide, by decide⟩ (fun c_6 => ?_) (fun c_6 => ?_)
              · refine lv_iload_n hx hb dX5_inputs_77 rfl (lv_at hl 4 rfl) ?_
                refine z_if_ne (tgt := 85) hx hb dX5_inputs_78 (by decide) ⟨by omega, by omega⟩ (fun c_7 => ?_) (fun c_7 => ?_)
                · refine lv_iload_n hx hb dX5_inputs_85 rfl (lv_at hl 1 rfl) ?_
                  exact g_iret hx hb hr hlk hB dX5_inputs_86 hnr (⟨Or.inr (Or.inr ⟨by omega, hsn, Or.inr ⟨by omega, by rw [show k = 100 by omega]⟩⟩), hf4, rfl⟩)
                · refine lv_iload_n hx hb dX5_inputs_81 rfl (lv_at hl 2 rfl) ?_
                  refine lv_goto (tgt := 86) hx hb dX5_inputs_82 (by decide) ?_
                  exact g_iret hx hb hr hlk hB dX5_inputs_86 ⟨by omega, by omega⟩ (⟨Or.inr (Or.inr ⟨by omega, hsn, Or.inl ⟨by omega, by rw [show k = 100 by omega]⟩⟩), hf4, rfl⟩)
              · refine lv_aload_n hx hb dX5_inputs_40 rfl (lv_at hl 3 rfl) ?_
                refine lv_iload hx hb dX5_inputs_41 (lv_at hl 0 rfl) ?_
                refine lv_bipush (v := iZ 10) hx hb dX5_inputs_43 (by decide) ?_
                refine z_idiv hx hb dX5_inputs_45 ⟨by omega, by omega⟩ (by omega) ⟨by decide, by decide⟩ (by decide) ?_
                refine z_top (b := (((k / 10) : Nat) : Int)) (by omega) ?_
                refine lv_iload hx hb dX5_inputs_46 (lv_at hl 0 rfl) ?_
                refine lv_bipush (v := iZ 10) hx hb dX5_inputs_48 (by decide) ?_
                refine z_irem hx hb dX5_inputs_50 ⟨by omega, by omega⟩ (by omega) ⟨by decide, by decide⟩ (by decide) ?_
                refine z_top (b := (((k % 10) : Nat) : Int)) (by omega) ?_
                refine g_calli (g_runV (i := 0) (As := [.int (iZ (((k / 10) : Nat) : Int)), .int (iZ (((k % 10) : Nat) : Int))]) (rest := []) hx hb hml hown hts hK hst hB (mX5_explains l θ hθ σ4 z N T (by rw [hf4 3 0 rfl]; exact h00) hN8 (by rw [hg43]; exact hb9) (fun j hj => by rw [hf4 19 j rfl]; exact hT j hj) n (by rw [hf4 93 0 rfl]; exact hn) hn6 (by rw [(hf4.row (fun k => w8_93 _ _ (by omega)) : σ4 97 = σ 97)]; exact h01) (by rw [(hf4.row (fun k => w8_93 _ _ (by omega)) : σ4 94 = σ 94)]; exact hat) ((k / 10 : Nat) : Int) ((k % 10 : Nat) : Int) (by omega) (by omega)) mv_X5_explains kw_601 cf5 (by decide) rfl rfl hl.1 rfl (Nat.le_of_ble_eq_true rfl) ⟨by decide, by decide⟩ ⟨Nat.le_refl _, Nat.le_refl _⟩ dX5_inputs_51) hB (fun q5 σ5 z_8 H locs hq5 hp5 hB => ?_)
                obtain ⟨hp5, hf5, e2_⟩ := hp5
                rw [e2_] at hB
                clear e2_
                have hR := hB.1.2
                rw [exK_r (hf4.row (fun k => w8_93 _ _ (by omega)) : σ4 94 = σ 94) (hf4.row (fun k => w8_93 _ _ (by omega)) : σ4 95 = σ 95) (hf4.row (fun k => w8_93 _ _ (by omega)) : σ4 96 = σ 96) (hf4.row (fun k => w8_93 _ _ (by omega)) : σ4 97 = σ 97), hg43, (hf4.row (fun k => isF_8.sn (by omega)) : σ4 16 = σ 16), (hf4.row (fun k => w8_93 _ _ (by omega)) : σ4 94 = σ 94)] at hp5
                rcases hp5 with ⟨hq5, hex⟩ | ⟨hq5, hex⟩
                · subst hq5
                  have hek : (fun k => exK σ n (lsT (σ 94) n).toNat (wkI (rsC (fp σ 3)) T (σ 16) N (cst ((k / 10 : Nat) : Int) ((k % 10 : Nat) : Int)))) k = true := hex
                  have hcn : cnB (fun k => exK σ n (lsT (σ 94) n).toNat (wkI (rsC (fp σ 3)) T (σ 16) N (cst ((k / 10 : Nat) : Int) ((k % 10 : Nat) : Int)))) (k + 1) = cnB (fun k => exK σ n (lsT (σ 94) n).toNat (wkI (rsC (fp σ 3)) T (σ 16) N (cst ((k / 10 : Nat) : Int) ((k % 10 : Nat) : Int)))) k + 1 := by rw [cnB, if_pos hek]
                  refine z_if_eq (tgt := 71) hx hb dX5_inputs_54 (by decide) ⟨by decide, by decide⟩ (fun c_9 => ?_) (fun c_9 => ?_)
                  · exact absurd c_9 (by decide)
                  · refine lv_iload_n hx hb dX5_inputs_57 rfl (lv_at hl 2 rfl) ?_
                    refine z_if_ne (tgt := 66) hx hb dX5_inputs_58 (by decide) ⟨by omega, by omega⟩ (fun c_10 => ?_) (fun c_10 => ?_)
                    · refine lv_iload_n hx hb dX5_inputs_66 rfl (lv_at hl 1 rfl) ?_
                      refine z_top (b := (nO (fsR (fun k => exK σ n (lsT (σ 94) n).toNat (wkI (rsC (fp σ 3)) T (σ 16) N (cst ((k / 10 : Nat) : Int) ((k % 10 : Nat) : Int)))) (k + 1)))) (by rw [fsR_step, if_neg (fun q => by have := q.2; omega)]) ?_
                      refine lv_istore_n (lv' := [(3, .int (iZ (nO (fsR (fun k => exK σ n (lsT (σ 94) n).toNat (wkI (rsC (fp σ 3)) T (σ 16) N (cst ((k / 10 : Nat) : Int) ((k % 10 : Nat) : Int)))) (k + 1))))), (4, .int (iZ ((k : Nat) : Int))), (2, .int (iZ (((cnB (fun k => exK σ n (lsT (σ 94) n).toNat (wkI (rsC (fp σ 3)) T (σ 16) N (cst ((k / 10 : Nat) : Int) ((k % 10 : Nat) : Int)))) k) : Nat) : Int))), (0, .ref (tad θ 0)), (1, .int (iZ y))]) hx hb dX5_inputs_67 rfl hl (by decide) rfl (fun ls hl => ?_)
                      refine z_iinc (k := 2) (lv' := [(2, .int (iZ ((((cnB (fun k => exK σ n (lsT (σ 94) n).toNat (wkI (rsC (fp σ 3)) T (σ 16) N (cst ((k / 10 : Nat) : Int) ((k % 10 : Nat) : Int)))) k) : Nat) : Int) + 1))), (3, .int (iZ (nO (fsR (fun k => exK σ n (lsT (σ 94) n).toNat (wkI (rsC (fp σ 3)) T (σ 16) N (cst ((k / 10 : Nat) : Int) ((k % 10 : Nat) : Int)))) (k + 1))))), (4, .int (iZ ((k : Nat) : Int))), (0, .ref (tad θ 0)), (1, .int (iZ y))]) hx hb dX5_inputs_68 hl rfl (by decide) rfl (fun ls hl => ?_)
                      have hl : lv_has ls 5 [(2, .int (iZ (((cnB (fun k => exK σ n (lsT (σ 94) n).toNat (wkI (rsC (fp σ 3)) T (σ 16) N (cst ((k / 10 : Nat) : Int) ((k % 10 : Nat) : Int)))) (k + 1)) : Nat) : Int))), (3, .int (iZ (nO (fsR (fun k => exK σ n (lsT (σ 94) n).toNat (wkI (rsC (fp σ 3)) T (σ 16) N (cst ((k / 10 : Nat) : Int) ((k % 10 : Nat) : Int)))) (k + 1))))), (4, .int (iZ ((k : Nat) : Int))), (0, .ref (tad θ 0)), (1, .int (iZ y))] := by have e9 : ((((cnB (fun k => exK σ n (lsT (σ 94) n).toNat (wkI (rsC (fp σ 3)) T (σ 16) N (cst ((k / 10 : Nat) : Int) ((k % 10 : Nat) : Int)))) k) : Nat) : Int) + 1) = (((cnB (fun k => exK σ n (lsT (σ 94) n).toNat (wkI (rsC (fp σ 3)) T (σ 16) N (cst ((k / 10 : Nat) : Int) ((k % 10 : Nat) : Int)))) (k + 1)) : Nat) : Int) := (by omega); rw [e9] at hl; exact hl
                      refine z_iinc (k := 2) (lv' := [(4, .int (iZ (((k : Nat) : Int) + 1))), (2, .int (iZ (((cnB (fun k => exK σ n (lsT (σ 94) n).toNat (wkI (rsC (fp σ 3)) T (σ 16) N (cst ((k / 10 : Nat) : Int) ((k % 10 : Nat) : Int)))) (k + 1)) : Nat) : Int))), (3, .int (iZ (nO (fsR (fun k => exK σ n (lsT (σ 94) n).toNat (wkI (rsC (fp σ 3)) T (σ 16) N (cst ((k / 10 : Nat) : Int) ((k % 10 : Nat) : Int)))) (k + 1))))), (0, .ref (tad θ 0)), (1, .int (iZ y))]) hx hb dX5_inputs_71 hl rfl (by decide) rfl (fun ls hl => ?_)
                      have hl : lv_has ls 5 [(4, .int (iZ (((k + 1) : Nat) : Int))), (2, .int (iZ (((cnB (fun k => exK σ n (lsT (σ 94) n).toNat (wkI (rsC (fp σ 3)) T (σ 16) N (cst ((k / 10 : Nat) : Int) ((k % 10 : Nat) : Int)))) (k + 1)) : Nat) : Int))), (3, .int (iZ (nO (fsR (fun k => exK σ n (lsT (σ 94) n).toNat (wkI (rsC (fp σ 3)) T (σ 16) N (cst ((k / 10 : Nat) : Int) ((k % 10 : Nat) : Int)))) (k + 1))))), (0, .ref (tad θ 0)), (1, .int (iZ y))] := by have e9 : (((k : Nat) : Int) + 1) = (((k + 1) : Nat) : Int) := (by omega); rw [e9] at hl; exact hl
                      refine lv_goto (tgt := 33) hx hb dX5_inputs_74 (by decide) ?_
                      exact ih33 (k + 1) σ5 _ _ _ (by omega) (by omega) (hf4.tr hf5) hB (lv_sub hl [0, 2, 1, 3, 4] rfl)
                    · refine lv_iload hx hb dX5_inputs_61 (lv_at hl 0 rfl) ?_
                      refine lv_goto (tgt := 67) hx hb dX5_inputs_63 (by decide) ?_
                      refine z_top (b := (nO (fsR (fun k => exK σ n (lsT (σ 94) n).toNat (wkI (rsC (fp σ 3)) T (σ 16) N (cst ((k / 10 : Nat) : Int) ((k % 10 : Nat) : Int)))) (k + 1)))) (by rw [fsR_step, if_pos ⟨hek, by omega⟩]) ?_
                      refine lv_istore_n (lv' := [(3, .int (iZ (nO (fsR (fun k => exK σ n (lsT (σ 94) n).toNat (wkI (rsC (fp σ 3)) T (σ 16) N (cst ((k / 10 : Nat) : Int) ((k % 10 : Nat) : Int)))) (k + 1))))), (4, .int (iZ ((k : Nat) : Int))), (2, .int (iZ (((cnB (fun k => exK σ n (lsT (σ 94) n).toNat (wkI (rsC (fp σ 3)) T (σ 16) N (cst ((k / 10 : Nat) : Int) ((k % 10 : Nat) : Int)))) k) : Nat) : Int))), (0, .ref (tad θ 0)), (1, .int (iZ y))]) hx hb dX5_inputs_67 rfl hl (by decide) rfl (fun ls hl => ?_)
                      refine z_iinc (k := 2) (lv' := [(2, .int (iZ ((((cnB (fun k => exK σ n (lsT (σ 94) n).toNat (wkI (rsC (fp σ 3)) T (σ 16) N (cst ((k / 10 : Nat) : Int) ((k % 10 : Nat) : Int)))) k) : Nat) : Int) + 1))), (3, .int (iZ (nO (fsR (fun k => exK σ n (lsT (σ 94) n).toNat (wkI (rsC (fp σ 3)) T (σ 16) N (cst ((k / 10 : Nat) : Int) ((k % 10 : Nat) : Int)))) (k + 1))))), (4, .int (iZ ((k : Nat) : Int))), (0, .ref (tad θ 0)), (1, .int (iZ y))]) hx hb dX5_inputs_68 hl rfl (by decide) rfl (fun ls hl => ?_)
                      have hl : lv_has ls 5 [(2, .int (iZ (((cnB (fun k => exK σ n (lsT (σ 94) n).toNat (wkI (rsC (fp σ 3)) T (σ 16) N (cst ((k / 10 : Nat) : Int) ((k % 10 : Nat) : Int)))) (k + 1)) : Nat) : Int))), (3, .int (iZ (nO (fsR (fun k => exK σ n (lsT (σ 94) n).toNat (wkI (rsC (fp σ 3)) T (σ 16) N (cst ((k / 10 : Nat) : Int) ((k % 10 : Nat) : Int)))) (k + 1))))), (4, .int (iZ ((k : Nat) : Int))), (0, .ref (tad θ 0)), (1, .int (iZ y))] := by have e9 : ((((cnB (fun k => exK σ n (lsT (σ 94) n).toNat (wkI (rsC (fp σ 3)) T (σ 16) N (cst ((k / 10 : Nat) : Int) ((k % 10 : Nat) : Int)))) k) : Nat) : Int) + 1) = (((cnB (fun k => exK σ n (lsT (σ 94) n).toNat (wkI (rsC (fp σ 3)) T (σ 16) N (cst ((k / 10 : Nat) : Int) ((k % 10 : Nat) : Int)))) (k + 1)) : Nat) : Int) := (by omega); rw [e9] at hl; exact hl
                      refine z_iinc (k := 2) (lv' := [(4, .int (iZ (((k : Nat) : Int) + 1))), (2, .int (iZ (((cnB (fun k => exK σ n (lsT (σ 94) n).toNat (wkI (rsC (fp σ 3)) T (σ 16) N (cst ((k / 10 : Nat) : Int) ((k % 10 : Nat) : Int)))) (k + 1)) : Nat) : Int))), (3, .int (iZ (nO (fsR (fun k => exK σ n (lsT (σ 94) n).toNat (wkI (rsC (fp σ 3)) T (σ 16) N (cst ((k / 10 : Nat) : Int) ((k % 10 : Nat) : Int)))) (k + 1))))), (0, .ref (tad θ 0)), (1, .int (iZ y))]) hx hb dX5_inputs_71 hl rfl (by decide) rfl (fun ls hl => ?_)
                      have hl : lv_has ls 5 [(4, .int (iZ (((k + 1) : Nat) : Int))), (2, .int (iZ (((cnB (fun k => exK σ n (lsT (σ 94) n).toNat (wkI (rsC (fp σ 3)) T (σ 16) N (cst ((k / 10 : Nat) : Int) ((k % 10 : Nat) : Int)))) (k + 1)) : Nat) : Int))), (3, .int (iZ (nO (fsR (fun k => exK σ n (lsT (σ 94) n).toNat (wkI (rsC (fp σ 3)) T (σ 16) N (cst ((k / 10 : Nat) : Int) ((k % 10 : Nat) : Int)))) (k + 1))))), (0, .ref (tad θ 0)), (1, .int (iZ y))] := by have e9 : (((k : Nat) : Int) + 1) = (((k + 1) : Nat) : Int) := (by omega); rw [e9] at hl; exact hl
                      refine lv_goto (tgt := 33) hx hb dX5_inputs_74 (by decide) ?_
                      exact ih33 (k + 1) σ5 _ _ _ (by omega) (by omega) (hf4.tr hf5) hB (lv_sub hl [0, 2, 1, 3, 4] rfl)
                · subst hq5
                  have hek : (fun k => exK σ n (lsT (σ 94) n).toNat (wkI (rsC (fp σ 3)) T (σ 16) N (cst ((k / 10 : Nat) : Int) ((k % 10 : Nat) : Int)))) k = false := hex
                  have hcn : cnB (fun k => exK σ n (lsT (σ 94) n).toNat (wkI (rsC (fp σ 3)) T (σ 16) N (cst ((k / 10 : Nat) : Int) ((k % 10 : Nat) : Int)))) (k + 1) = cnB (fun k => exK σ n (lsT (σ 94) n).toNat (wkI (rsC (fp σ 3)) T (σ 16) N (cst ((k / 10 : Nat) : Int) ((k % 10 : Nat) : Int)))) k := by rw [cnB, if_neg (by rw [hex]; exact Bool.false_ne_true)]; omega
                  have hfn : nO (fsR (fun k => exK σ n (lsT (σ 94) n).toNat (wkI (rsC (fp σ 3)) T (σ 16) N (cst ((k / 10 : Nat) : Int) ((k % 10 : Nat) : Int)))) (k + 1)) = nO (fsR (fun k => exK σ n (lsT (σ 94) n).toNat (wkI (rsC (fp σ 3)) T (σ 16) N (cst ((k / 10 : Nat) : Int) ((k % 10 : Nat) : Int)))) k) := by rw [fsR_step, if_neg (fun q => by have h9 := q.1; rw [hex] at h9; exact Bool.false_ne_true h9)]
                  refine z_if_eq (tgt := 71) hx hb dX5_inputs_54 (by decide) ⟨by decide, by decide⟩ (fun c_11 => ?_) (fun c_11 => ?_)
                  · have hl : lv_has ls 5 [(4, .int (iZ ((k : Nat) : Int))), (3, .int (iZ (nO (fsR (fun k => exK σ n (lsT (σ 94) n).toNat (wkI (rsC (fp σ 3)) T (σ 16) N (cst ((k / 10 : Nat) : Int) ((k % 10 : Nat) : Int)))) (k + 1))))), (2, .int (iZ (((cnB (fun k => exK σ n (lsT (σ 94) n).toNat (wkI (rsC (fp σ 3)) T (σ 16) N (cst ((k / 10 : Nat) : Int) ((k % 10 : Nat) : Int)))) (k + 1)) : Nat) : Int))), (0, .ref (tad θ 0)), (1, .int (iZ y))] := by rw [← hcn, ← hfn] at hl; exact hl
                    refine z_iinc (k := 0) (lv' := [(4, .int (iZ (((k : Nat) : Int) + 1))), (3, .int (iZ (nO (fsR (fun k => exK σ n (lsT (σ 94) n).toNat (wkI (rsC (fp σ 3)) T (σ 16) N (cst ((k / 10 : Nat) : Int) ((k % 10 : Nat) : Int)))) (k + 1))))), (2, .int (iZ (((cnB (fun k => exK σ n (lsT (σ 94) n).toNat (wkI (rsC (fp σ 3)) T (σ 16) N (cst ((k / 10 : Nat) : Int) ((k % 10 : Nat) : Int)))) (k + 1)) : Nat) : Int))), (0, .ref (tad θ 0)), (1, .int (iZ y))]) hx hb dX5_inputs_71 hl rfl (by decide) rfl (fun ls hl => ?_)
                    have hl : lv_has ls 5 [(4, .int (iZ (((k + 1) : Nat) : Int))), (3, .int (iZ (nO (fsR (fun k => exK σ n (lsT (σ 94) n).toNat (wkI (rsC (fp σ 3)) T (σ 16) N (cst ((k / 10 : Nat) : Int) ((k % 10 : Nat) : Int)))) (k + 1))))), (2, .int (iZ (((cnB (fun k => exK σ n (lsT (σ 94) n).toNat (wkI (rsC (fp σ 3)) T (σ 16) N (cst ((k / 10 : Nat) : Int) ((k % 10 : Nat) : Int)))) (k + 1)) : Nat) : Int))), (0, .ref (tad θ 0)), (1, .int (iZ y))] := by have e9 : (((k : Nat) : Int) + 1) = (((k + 1) : Nat) : Int) := (by omega); rw [e9] at hl; exact hl
                    refine lv_goto (tgt := 33) hx hb dX5_inputs_74 (by decide) ?_
                    exact ih33 (k + 1) σ5 _ _ _ (by omega) (by omega) (hf4.tr hf5) hB (lv_sub hl [0, 1, 2, 3, 4] rfl)
                  · exact absurd (by decide) c_11
          exact loop33 _ 0 σ _ _ _ (Nat.lt_succ_self _) (by omega) fr.rf hB (lv_sub hl [0, 1, 2, 3, 4] rfl)
        · exact absurd c_5 (by decide)
      · subst hqs
        refine z_if_ne (tgt := 25) hx hb dX5_inputs_19 (by decide) ⟨by decide, by decide⟩ (fun c_12 => ?_) (fun c_12 => ?_)
        · exact absurd (by decide) c_12
        · refine lv_bipush (v := iZ (-3)) hx hb dX5_inputs_22 (by decide) ?_
          exact g_iret hx hb hr hlk hB dX5_inputs_24 ⟨by decide, by decide⟩ (⟨Or.inr (Or.inl ⟨by omega, hsn, rfl⟩), fr.rf, rfl⟩)
    · refine lv_bipush (v := iZ (-2)) hx hb dX5_inputs_9 (by decide) ?_
      exact g_iret hx hb hr hlk hB dX5_inputs_11 ⟨by decide, by decide⟩ (⟨Or.inl ⟨by omega, rfl⟩, fr.rf, rfl⟩)
set_option maxHeartbeats 4000000 in
set_option maxRecDepth 100000 in
theorem mX5_layTrail (l : Launch) (θ : gT) (hθ : gOK θ) (σ : gS) (z : gZ) (N : Nat) (T : Nat → Nat) (h00 : σ 3 0 = (N : Int)) (hN8 : N ≤ 8) (hb9 : bC (fp σ 3)) (hT : ∀ j, j < N → σ 19 j = ((T j : Nat) : Int) ∧ (T j < 8 ∧ T j < N)) (a0 b0 : Int) (ha : 0 ≤ a0 ∧ a0 ≤ 99) (hb0 : 0 ≤ b0 ∧ b0 ≤ 99) : GV l θ yX5_layTrail cX5_layTrail 4 4 94 [.ref (tad θ 0), .int (iZ a0), .int (iZ b0)] σ z (fun σ' z' => (∀ u, u < 41 → ∀ s, s < 8 → σ' 100 (8 * u + s) = (wkI (fp σ 3) T (σ 16) N (cst a0 b0)) u (33 + s)) ∧ fr wTr σ σ' ∧ z' = z) := by
  refine g_enter (ret := none) (by decide +kernel) (Nat.le_of_ble_eq_true rfl) ?_
  intro p e s m args below meth c ls F hB hl
  obtain ⟨hx, hb, hr, hml, hown, hts, hlk, hK, hst⟩ := F
  have hR := hB.1.2
  have hl : lv_has ls 4 [(0, .ref (tad θ 0)), (1, .int (iZ a0)), (2, .int (iZ b0))] := hl
  have hT8 : ∀ i, i < N → T i < 8 ∧ T i < N := fun i hi => (hT i hi).2
  refine lv_aload_n hx hb dX5_layTrail_0 rfl (lv_at hl 0 rfl) ?_
  refine g_getr (k := 2) (j := 8) hx hb hts hown hK hθ hB cf5 (by decide) rfl (by decide) kw_168 rfl rfl dX5_layTrail_1 ?_
  refine lv_aload_n hx hb dX5_layTrail_4 rfl (lv_at hl 0 rfl) ?_
  refine g_getr (k := 1) (j := 3) hx hb hts hown hK hθ hB cf5 (by decide) rfl (by decide) kw_167 rfl rfl dX5_layTrail_5 ?_
  refine g_callv (g_runV (i := 8) (As := [.ref (tad θ 3)]) (rest := []) hx hb hml hown hts hK hst hB (mX1_become l θ hθ σ z 8 isF_8 3 isF_3 (by decide)) mv_X1_become kw_342 cf1 (by decide) rfl rfl hl.1 rfl (Nat.le_of_ble_eq_true rfl) ⟨by decide, by decide⟩ ⟨Nat.le_refl _, Nat.le_refl _⟩ dX5_layTrail_8) hB (fun σ1 z_1 H locs hp1 hB => ?_)
  obtain ⟨hp1, hf1, e2_⟩ := hp1
  rw [e2_] at hB
  clear e2_
  have hR := hB.1.2
  refine lv_iconst (v := iZ 0) hx hb dX5_layTrail_11 rfl ?_
  refine lv_istore_n (lv' := [(3, .int (iZ 0)), (0, .ref (tad θ 0)), (1, .int (iZ a0)), (2, .int (iZ b0))]) hx hb dX5_layTrail_12 rfl hl (by decide) rfl (fun ls hl => ?_)
  have loop13 : ∀ (n13 : Nat) (t : Nat) (σ2 : gS) (H : Heap) (locs : List Loc) (ls : Array Slot), 41 - t < n13 → (t ≤ 41) → (fp σ2 8 = (wkI (fp σ 3) T (σ 16) N (cst a0 b0)) t) → (∀ u, u < t → ∀ s, s < 8 → σ2 100 (8 * u + s) = (wkI (fp σ 3) T (σ 16) N (cst a0 b0)) u (33 + s)) → (fr wTr σ σ2) →  gB θ σ2 z s.heap H locs → lv_has ls 4 [(3, .int (iZ ((t : Nat) : Int))), (0, .ref (tad θ 0)), (1, .int (iZ a0)), (2, .int (iZ b0))] → W p l e (gRm 4 94) s m args below meth c H locs 0 0 (MQ below (gQv θ (fun σ' z' => (∀ u, u < 41 → ∀ s, s < 8 → σ' 100 (8 * u + s) = (wkI (fp σ 3) T (σ 16) N (cst a0 b0)) u (33 + s)) ∧ fr wTr σ σ' ∧ z' = z)) args s 0 0 (tA θ)) (F0 m 13 ls []) := by
    intro n13
    induction n13 with
    | zero => intro t σ2 H locs ls hmu; exact absurd hmu (Nat.not_lt_zero _)
    | succ n13 ih13 =>
      intro t σ2 H locs ls hmu ht hg h1 hf hB hl
      have hR := hB.1.2
      refine lv_iload_n hx hb dX5_layTrail_13 rfl (lv_at hl 0 rfl) ?_
      refine lv_bipush (v := iZ 40) hx hb dX5_layTrail_14 (by decide) ?_
      refine z_icmp_gt (tgt := 59) hx hb dX5_layTrail_16 (by decide) ⟨by omega, by omega⟩ ⟨by decide, by decide⟩ (fun c_3 => ?_) (fun c_3 => ?_)
      · exact g_vret hx hb hr hlk hB dX5_layTrail_59 (⟨fun u hu => h1 u (by omega), hf, rfl⟩)
      · refine lv_aload_n hx hb dX5_layTrail_19 rfl (lv_at hl 1 rfl) ?_
        refine g_getr (k := 2) (j := 8) hx hb hts hown hK hθ hB cf5 (by decide) rfl (by decide) kw_168 rfl rfl dX5_layTrail_20 ?_
        refine g_getr (k := 4) (j := 11) hx hb hts hown hK hθ hB cf1 (by decide) rfl (by decide) kw_58 rfl rfl dX5_layTrail_23 ?_
        refine lv_iconst (v := iZ 0) hx hb dX5_layTrail_26 rfl ?_
        refine lv_aload_n hx hb dX5_layTrail_27 rfl (lv_at hl 1 rfl) ?_
        refine g_getr (k := 8) (j := 100) hx hb hts hown hK hθ hB cf5 (by decide) rfl (by decide) kw_174 rfl rfl dX5_layTrail_28 ?_
        refine lv_iload_n hx hb dX5_layTrail_31 rfl (lv_at hl 0 rfl) ?_
        refine lv_bipush (v := iZ 8) hx hb dX5_layTrail_32 (by decide) ?_
        refine z_imul hx hb dX5_layTrail_34 ?_
        refine z_top (b := (((t * 8) : Nat) : Int)) (by omega) ?_
        refine lv_bipush (v := iZ 8) hx hb dX5_layTrail_35 (by decide) ?_
        refine g_copy (sp := 0) (dp := (t * 8)) (n := 8) hx hb hml hl.1 hown kw_568 hts hK hθ hB rfl rfl rfl (by decide) rfl (by decide) rfl (Nat.le_of_lt_succ (Nat.lt_of_lt_of_eq (by omega : 0 + 8 < 8 + 1) (congrArg Nat.succ (Eq.symm rfl)))) (Nat.le_of_lt_succ (Nat.lt_of_lt_of_eq (by omega : (t * 8) + 8 < 328 + 1) (congrArg Nat.succ (Eq.symm rfl)))) (by decide) (by decide) (Nat.le_of_ble_eq_true rfl) ⟨by decide, by decide⟩ dX5_layTrail_37 (fun H locs hB => ?_)
        obtain ⟨σ3, hσ3⟩ : ∃ x_ : gS, x_ = upr σ2 100 (cpR (σ2 11) (σ2 100) 0 (t * 8) 8) := ⟨_, rfl⟩
        rw [← hσ3] at hB
        have hR := hB.1.2
        have hf3 : fr wTr σ σ3 := by rw [hσ3]; exact hf.tr (fr.upr (fun k _ => rfl))
        have hg3 : fp σ3 8 = (wkI (fp σ 3) T (σ 16) N (cst a0 b0)) t := by rw [hσ3, fp_upr (by omega)]; exact hg
        refine lv_aload_n hx hb dX5_layTrail_40 rfl (lv_at hl 1 rfl) ?_
        refine g_getr (k := 2) (j := 8) hx hb hts hown hK hθ hB cf5 (by decide) rfl (by decide) kw_168 rfl rfl dX5_layTrail_41 ?_
        refine lv_aload_n hx hb dX5_layTrail_44 rfl (lv_at hl 1 rfl) ?_
        refine g_getr (k := 3) (j := 13) hx hb hts hown hK hθ hB cf5 (by decide) rfl (by decide) kw_169 rfl rfl dX5_layTrail_45 ?_
        refine lv_iload_n hx hb dX5_layTrail_48 rfl (lv_at hl 2 rfl) ?_
        refine lv_iload_n hx hb dX5_layTrail_49 rfl (lv_at hl 3 rfl) ?_
        refine g_callv (g_runV (i := 8) (As := [.ref (tad θ 13), .int (iZ a0), .int (iZ b0)]) (rest := []) hx hb hml hown hts hK hst hB (mX1_work l θ hθ σ3 z 8 isF_8 N T (by rw [hg3, wkI_0 hT8]; exact h00) hN8 (fun j hj => by rw [hf3 19 j rfl]; exact hT j hj) (by rw [hg3]; exact wkI_b hb9 h00 hT8 (cst_in ha hb0) _) a0 b0 (ha) (hb0)) mv_X1_work kw_498 cf1 (by decide) rfl rfl hl.1 rfl (Nat.le_of_ble_eq_true rfl) ⟨by decide, by decide⟩ ⟨Nat.le_refl _, Nat.le_refl _⟩ dX5_layTrail_50) hB (fun σ4 z_4 H locs hp4 hB => ?_)
        obtain ⟨hp4, hf4, e2_⟩ := hp4
        rw [e2_] at hB
        clear e2_
        have hR := hB.1.2
        rw [hg3, hf3.row (fun k => rfl)] at hp4
        have hg4 : fp σ4 8 = (wkI (fp σ 3) T (σ 16) N (cst a0 b0)) (t + 1) := hp4
        refine z_iinc (k := 0) (lv' := [(3, .int (iZ (((t : Nat) : Int) + 1))), (0, .ref (tad θ 0)), (1, .int (iZ a0)), (2, .int (iZ b0))]) hx hb dX5_layTrail_53 hl rfl (by decide) rfl (fun ls hl => ?_)
        have hl : lv_has ls 4 [(3, .int (iZ (((t + 1) : Nat) : Int))), (0, .ref (tad θ 0)), (1, .int (iZ a0)), (2, .int (iZ b0))] := by have e9 : (((t : Nat) : Int) + 1) = (((t + 1) : Nat) : Int) := (by omega); rw [e9] at hl; exact hl
        refine lv_goto (tgt := 13) hx hb dX5_layTrail_56 (by decide) ?_
        exact ih13 (t + 1) σ4 _ _ _ (by omega) (by omega) hg4 (lt_s (fun u hu s hs => by rw [hf4 100 _ (w8_93 _ _ (by omega)), hσ3, upr_eq, cpR_out (by omega)]; exact h1 u hu s hs) (fun s hs => by rw [hf4 100 _ (w8_93 _ _ (by omega)), hσ3, upr_eq, show 8 * t + s = t * 8 + s by omega, cpR_in hs, ← hg, fp_h _ _ hs])) (hf3.tr (hf4.mono tr_8)) hB (lv_sub hl [0, 1, 2, 3] rfl)
  exact loop13 _ 0 σ1 _ _ _ (Nat.lt_succ_self _) (by omega) hp1 (fun u h => absurd h (Nat.not_lt_zero _)) (hf1.mono tr_8) hB (lv_sub hl [0, 1, 2, 3] rfl)
set_option maxHeartbeats 4000000 in
set_option maxRecDepth 100000 in
theorem mX5_sameOnTrail (l : Launch) (θ : gT) (hθ : gOK θ) (σ : gS) (z : gZ) (t u : Nat) (ht : t ≤ 40) (hu : u ≤ 40) : GI l θ yX5_sameOnTrail cX5_sameOnTrail 4 (some .boolean) 0 0 [.ref (tad θ 0), .int (iZ ((t : Nat) : Int)), .int (iZ ((u : Nat) : Int))] σ z (fun q σ' z' => ((q = 1 ∧ (alk (σ 100) t u)) ∨ (q = 0 ∧ ¬ (alk (σ 100) t u))) ∧ σ' = σ ∧ z' = z) := by
  refine g_enter (ret := (some .boolean)) (by decide +kernel) (Nat.le_of_ble_eq_true rfl) ?_
  intro p e s m args below meth c ls F hB hl
  obtain ⟨hx, hb, hr, hml, hown, hts, hlk, hK, hst⟩ := F
  have hR := hB.1.2
  have hl : lv_has ls 4 [(0, .ref (tad θ 0)), (1, .int (iZ ((t : Nat) : Int))), (2, .int (iZ ((u : Nat) : Int)))] := hl
  refine lv_iconst (v := iZ 0) hx hb dX5_sameOnTrail_0 rfl ?_
  refine lv_istore_n (lv' := [(3, .int (iZ 0)), (0, .ref (tad θ 0)), (1, .int (iZ ((t : Nat) : Int))), (2, .int (iZ ((u : Nat) : Int)))]) hx hb dX5_sameOnTrail_1 rfl hl (by decide) rfl (fun ls hl => ?_)
  have loop2 : ∀ (n2 : Nat) (i : Nat) (H : Heap) (locs : List Loc) (ls : Array Slot), 8 - i < n2 → (i ≤ 8) → (∀ s, s < i → σ 100 (8 * t + s) = σ 100 (8 * u + s)) →  gB θ σ z s.heap H locs → lv_has ls 4 [(3, .int (iZ ((i : Nat) : Int))), (0, .ref (tad θ 0)), (1, .int (iZ ((t : Nat) : Int))), (2, .int (iZ ((u : Nat) : Int)))] → W p l e (gRm 0 0) s m args below meth c H locs 0 0 (MQ below (gQi θ (fun q σ' z' => ((q = 1 ∧ (alk (σ 100) t u)) ∨ (q = 0 ∧ ¬ (alk (σ 100) t u))) ∧ σ' = σ ∧ z' = z)) args s 0 0 (tA θ)) (F0 m 2 ls []) := by
    intro n2
    induction n2 with
    | zero => intro i H locs ls hmu; exact absurd hmu (Nat.not_lt_zero _)
    | succ n2 ih2 =>
      intro i H locs ls hmu hi hall hB hl
      have hR := hB.1.2
      refine lv_iload_n hx hb dX5_sameOnTrail_2 rfl (lv_at hl 0 rfl) ?_
      refine lv_bipush (v := iZ 8) hx hb dX5_sameOnTrail_3 (by decide) ?_
      refine z_icmp_ge (tgt := 41) hx hb dX5_sameOnTrail_5 (by decide) ⟨by omega, by omega⟩ ⟨by decide, by decide⟩ (fun c_1 => ?_) (fun c_1 => ?_)
      · refine lv_iconst (v := iZ 1) hx hb dX5_sameOnTrail_41 rfl ?_
        exact g_zret hx hb hr hlk hB dX5_sameOnTrail_42 (by decide) (⟨Or.inl ⟨rfl, fun s hs => hall s (by omega)⟩, rfl, rfl⟩)
      · refine lv_aload_n hx hb dX5_sameOnTrail_8 rfl (lv_at hl 1 rfl) ?_
        refine g_getr (k := 8) (j := 100) hx hb hts hown hK hθ hB cf5 (by decide) rfl (by decide) kw_174 rfl rfl dX5_sameOnTrail_9 ?_
        refine lv_iload_n hx hb dX5_sameOnTrail_12 rfl (lv_at hl 2 rfl) ?_
        refine lv_bipush (v := iZ 8) hx hb dX5_sameOnTrail_13 (by decide) ?_
        refine z_imul hx hb dX5_sameOnTrail_15 ?_
        refine lv_iload_n hx hb dX5_sameOnTrail_16 rfl (lv_at hl 0 rfl) ?_
        refine z_iadd hx hb dX5_sameOnTrail_17 ?_
        refine g_iald (k := (8 * t + i)) hx hb hK hB (by decide) rfl (by omega) (Nat.lt_of_lt_of_eq (by omega : (8 * t + i) < 328) (Eq.symm rfl)) (by decide) dX5_sameOnTrail_18 ?_
        have hr_2 := hR 100 (8 * t + i)
        refine lv_aload_n hx hb dX5_sameOnTrail_19 rfl (lv_at hl 1 rfl) ?_
        refine g_getr (k := 8) (j := 100) hx hb hts hown hK hθ hB cf5 (by decide) rfl (by decide) kw_174 rfl rfl dX5_sameOnTrail_20 ?_
        refine lv_iload_n hx hb dX5_sameOnTrail_23 rfl (lv_at hl 3 rfl) ?_
        refine lv_bipush (v := iZ 8) hx hb dX5_sameOnTrail_24 (by decide) ?_
        refine z_imul hx hb dX5_sameOnTrail_26 ?_
        refine lv_iload_n hx hb dX5_sameOnTrail_27 rfl (lv_at hl 0 rfl) ?_
        refine z_iadd hx hb dX5_sameOnTrail_28 ?_
        refine g_iald (k := (8 * u + i)) hx hb hK hB (by decide) rfl (by omega) (Nat.lt_of_lt_of_eq (by omega : (8 * u + i) < 328) (Eq.symm rfl)) (by decide) dX5_sameOnTrail_29 ?_
        have hr_3 := hR 100 (8 * u + i)
        refine z_icmp_eq (tgt := 35) hx hb dX5_sameOnTrail_30 (by decide) ⟨by omega, by omega⟩ ⟨by omega, by omega⟩ (fun c_4 => ?_) (fun c_4 => ?_)
        · refine z_iinc (k := 0) (lv' := [(3, .int (iZ (((i : Nat) : Int) + 1))), (0, .ref (tad θ 0)), (1, .int (iZ ((t : Nat) : Int))), (2, .int (iZ ((u : Nat) : Int)))]) hx hb dX5_sameOnTrail_35 hl rfl (by decide) rfl (fun ls hl => ?_)
          have hl : lv_has ls 4 [(3, .int (iZ (((i + 1) : Nat) : Int))), (0, .ref (tad θ 0)), (1, .int (iZ ((t : Nat) : Int))), (2, .int (iZ ((u : Nat) : Int)))] := by have e9 : (((i : Nat) : Int) + 1) = (((i + 1) : Nat) : Int) := (by omega); rw [e9] at hl; exact hl
          refine lv_goto (tgt := 2) hx hb dX5_sameOnTrail_38 (by decide) ?_
          exact ih2 (i + 1) _ _ _ (by omega) (by omega) (lt_s hall (by omega)) hB (lv_sub hl [0, 1, 2, 3] rfl)
        · refine lv_iconst (v := iZ 0) hx hb dX5_sameOnTrail_33 rfl ?_
          exact g_zret hx hb hr hlk hB dX5_sameOnTrail_34 (by decide) (⟨Or.inr ⟨rfl, fun q => by have := q i (by omega); omega⟩, rfl, rfl⟩)
  exact loop2 _ 0 _ _ _ (Nat.lt_succ_self _) (by omega) (fun s h => absurd h (Nat.not_lt_zero _)) hB (lv_sub hl [0, 1, 2, 3] rfl)
