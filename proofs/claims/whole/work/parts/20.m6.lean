set_option maxHeartbeats 4000000 in
set_option maxRecDepth 100000 in
theorem mX6_isOne (l : Launch) (θ : gT) (hθ : gOK θ) (σ : gS) (z : gZ) (hW : Wf (σ 114)) (k : Nat) (hk : k < 8) (hn : (k : Int) < σ 114 0) : GI l θ yX6_isOne cX6_isOne 8 (some .boolean) 2 44 [.ref (tad θ 111), .ref (tad θ 114), .int (iZ ((k : Nat) : Int))] σ z (fun q σ' z' => (q = o1 (σ 114) (σ 126) k 3) ∧ σ' = σ ∧ z' = z) := by
  refine g_enter (ret := (some .boolean)) (by decide +kernel) (Nat.le_of_ble_eq_true rfl) ?_
  intro p e s m args below meth c ls F hB hl
  obtain ⟨hx, hb, hr, hml, hown, hts, hlk, hK, hst⟩ := F
  have hR := hB.1.2
  have hl : lv_has ls 8 [(0, .ref (tad θ 111)), (1, .ref (tad θ 114)), (2, .int (iZ ((k : Nat) : Int)))] := hl
  refine lv_aload_n hx hb dX6_isOne_0 rfl (lv_at hl 1 rfl) ?_
  refine lv_iconst (v := iZ 1) hx hb dX6_isOne_1 rfl ?_
  refine lv_iload_n hx hb dX6_isOne_2 rfl (lv_at hl 2 rfl) ?_
  refine z_iadd hx hb dX6_isOne_3 ?_
  refine g_iald (k := (1 + k)) hx hb hK hB (by decide) rfl (by omega) (Nat.lt_of_lt_of_eq (by omega : (1 + k) < 50) (Eq.symm rfl)) (by decide) dX6_isOne_4 ?_
  have hr_1 := hR 114 (1 + k)
  refine lv_istore_n (lv' := [(3, .int (iZ (σ 114 (1 + k)))), (0, .ref (tad θ 111)), (1, .ref (tad θ 114)), (2, .int (iZ ((k : Nat) : Int)))]) hx hb dX6_isOne_5 rfl hl (by decide) rfl (fun ls hl => ?_)
  refine lv_iload_n hx hb dX6_isOne_6 rfl (lv_at hl 0 rfl) ?_
  refine lv_bipush (v := iZ 7) hx hb dX6_isOne_7 (by decide) ?_
  refine z_icmp_ne (tgt := 16) hx hb dX6_isOne_9 (by decide) ⟨by omega, by omega⟩ ⟨by decide, by decide⟩ (fun c_2 => ?_) (fun c_2 => ?_)
  · refine lv_iconst (v := iZ 0) hx hb dX6_isOne_16 rfl ?_
    refine lv_istore (lv' := [(4, .int (iZ 0)), (3, .int (iZ (σ 114 (1 + k)))), (0, .ref (tad θ 111)), (1, .ref (tad θ 114)), (2, .int (iZ ((k : Nat) : Int)))]) hx hb dX6_isOne_17 hl (by decide) rfl (fun ls hl => ?_)
    refine lv_iconst (v := iZ 0) hx hb dX6_isOne_19 rfl ?_
    refine lv_istore (lv' := [(5, .int (iZ 0)), (4, .int (iZ 0)), (3, .int (iZ (σ 114 (1 + k)))), (0, .ref (tad θ 111)), (1, .ref (tad θ 114)), (2, .int (iZ ((k : Nat) : Int)))]) hx hb dX6_isOne_20 hl (by decide) rfl (fun ls hl => ?_)
    have loop22 : ∀ (n22 : Nat) (i : Nat) (v : Int) (H : Heap) (locs : List Loc) (ls : Array Slot), 3 - i < n22 → (i ≤ 3) → (v = o1 (σ 114) (σ 126) k i) →  gB θ σ z s.heap H locs → lv_has ls 8 [(5, .int (iZ ((i : Nat) : Int))), (4, .int (iZ v)), (3, .int (iZ (σ 114 (1 + k)))), (0, .ref (tad θ 111)), (1, .ref (tad θ 114)), (2, .int (iZ ((k : Nat) : Int)))] → W p l e (gRm 2 44) s m args below meth c H locs 0 0 (MQ below (gQi θ (fun q σ' z' => (q = o1 (σ 114) (σ 126) k 3) ∧ σ' = σ ∧ z' = z)) args s 0 0 (tA θ)) (F0 m 22 ls []) := by
      intro n22
      induction n22 with
      | zero => intro i v H locs ls hmu; exact absurd hmu (Nat.not_lt_zero _)
      | succ n22 ih22 =>
        intro i v H locs ls hmu hi hv hB hl
        have hR := hB.1.2
        have hv01 := o1_01 (σ 114) (σ 126) k i
        rw [← hv] at hv01
        refine lv_iload hx hb dX6_isOne_22 (lv_at hl 0 rfl) ?_
        refine lv_iconst (v := iZ 3) hx hb dX6_isOne_24 rfl ?_
        refine z_icmp_ge (tgt := 116) hx hb dX6_isOne_25 (by decide) ⟨by omega, by omega⟩ ⟨by decide, by decide⟩ (fun c_3 => ?_) (fun c_3 => ?_)
        · refine lv_iload hx hb dX6_isOne_116 (lv_at hl 1 rfl) ?_
          exact g_zret hx hb hr hlk hB dX6_isOne_118 (by omega) (⟨by rw [hv, show i = 3 by omega], rfl, rfl⟩)
        · refine lv_aload_n hx hb dX6_isOne_28 rfl (lv_at hl 4 rfl) ?_
          refine lv_iload_n hx hb dX6_isOne_29 rfl (lv_at hl 5 rfl) ?_
          refine lv_iload hx hb dX6_isOne_30 (lv_at hl 0 rfl) ?_
          refine g_calli (g_runS (As := [.ref (tad θ 114), .int (iZ ((k : Nat) : Int)), .int (iZ ((i : Nat) : Int))]) (rest := []) hx hb hml hown hts hK hst hB (mX6_streamOf l θ hθ σ z 114 (Or.inl rfl) k i hk (by omega)) ms_X6_streamOf kw_832 rfl hl.1 rfl (Nat.le_of_ble_eq_true rfl) ⟨by decide, by decide⟩ ⟨Nat.le_refl _, Nat.le_refl _⟩ dX6_isOne_32) hB (fun qs σ_4 z_5 H locs hqs hps hB => ?_)
          obtain ⟨hps, e1_, e2_⟩ := hps
          rw [e1_, e2_] at hB
          clear e1_ e2_
          have hs := sO_of hps
          have hin := sO_in hW hk hn (show i < 3 by omega)
          rw [← hs] at hin
          refine lv_istore (lv' := [(6, .int (iZ qs)), (5, .int (iZ ((i : Nat) : Int))), (4, .int (iZ v)), (3, .int (iZ (σ 114 (1 + k)))), (0, .ref (tad θ 111)), (1, .ref (tad θ 114)), (2, .int (iZ ((k : Nat) : Int)))]) hx hb dX6_isOne_35 hl (by decide) rfl (fun ls hl => ?_)
          refine lv_iload_n hx hb dX6_isOne_37 rfl (lv_at hl 3 rfl) ?_
          refine z_i2l hx hb ⟨by omega, by omega⟩ dX6_isOne_38 ?_
          refine lv_ldc2 (v := lZ 2) hx hb hown (hts _ kw_847) dX6_isOne_39 ?_
          refine lv_ldc2 (v := lZ 5) hx hb hown (hts _ kw_848) dX6_isOne_42 ?_
          refine g_calli (g_runS (As := [.long (lZ (σ 114 (1 + k))), .long (lZ 2), .long (lZ 5)]) (rest := []) hx hb hml hown hts hK hst hB (mX6_in l θ hθ σ z (σ 114 (1 + k)) 2 5 ⟨by omega, by omega⟩ ⟨by omega, by omega⟩ ⟨by omega, by omega⟩) ms_X6_in kw_749 rfl hl.1 rfl (Nat.le_of_ble_eq_true rfl) ⟨by decide, by decide⟩ ⟨Nat.le_refl _, Nat.le_refl _⟩ dX6_isOne_45) hB (fun q_8 σ_6 z_7 H locs hq_8 pq_8 hB => ?_)
          obtain ⟨pq_8, e1_, e2_⟩ := pq_8
          rw [e1_, e2_] at hB
          clear e1_ e2_
          refine z_if_ne (tgt := 68) hx hb dX6_isOne_48 (by decide) ⟨by omega, by omega⟩ (fun c_9 => ?_) (fun c_9 => ?_)
          · refine lv_iconst (v := iZ 1) hx hb dX6_isOne_68 rfl ?_
            refine lv_goto (tgt := 73) hx hb dX6_isOne_69 (by decide) ?_
            refine lv_istore (lv' := [(7, .int (iZ 1)), (6, .int (iZ qs)), (5, .int (iZ ((i : Nat) : Int))), (4, .int (iZ v)), (3, .int (iZ (σ 114 (1 + k)))), (0, .ref (tad θ 111)), (1, .ref (tad θ 114)), (2, .int (iZ ((k : Nat) : Int)))]) hx hb dX6_isOne_73 hl (by decide) rfl (fun ls hl => ?_)
            refine lv_iload hx hb dX6_isOne_75 (lv_at hl 3 rfl) ?_
            refine z_if_ne (tgt := 103) hx hb dX6_isOne_77 (by decide) ⟨by omega, by omega⟩ (fun c_10 => ?_) (fun c_10 => ?_)
            · refine lv_iconst (v := iZ 1) hx hb dX6_isOne_103 rfl ?_
              refine lv_goto (tgt := 108) hx hb dX6_isOne_104 (by decide) ?_
              refine lv_istore (lv' := [(4, .int (iZ 1)), (7, .int (iZ 1)), (6, .int (iZ qs)), (5, .int (iZ ((i : Nat) : Int))), (3, .int (iZ (σ 114 (1 + k)))), (0, .ref (tad θ 111)), (1, .ref (tad θ 114)), (2, .int (iZ ((k : Nat) : Int)))]) hx hb dX6_isOne_108 hl (by decide) rfl (fun ls hl => ?_)
              refine z_iinc (k := 3) (lv' := [(5, .int (iZ (((i : Nat) : Int) + 1))), (4, .int (iZ 1)), (7, .int (iZ 1)), (6, .int (iZ qs)), (3, .int (iZ (σ 114 (1 + k)))), (0, .ref (tad θ 111)), (1, .ref (tad θ 114)), (2, .int (iZ ((k : Nat) : Int)))]) hx hb dX6_isOne_110 hl rfl (by decide) rfl (fun ls hl => ?_)
              have hl : lv_has ls 8 [(5, .int (iZ (((i + 1) : Nat) : Int))), (4, .int (iZ 1)), (7, .int (iZ 1)), (6, .int (iZ qs)), (3, .int (iZ (σ 114 (1 + k)))), (0, .ref (tad θ 111)), (1, .ref (tad θ 114)), (2, .int (iZ ((k : Nat) : Int)))] := by have e9 : (((i : Nat) : Int) + 1) = (((i + 1) : Nat) : Int) := (by omega); rw [e9] at hl; exact hl
              refine lv_goto (tgt := 22) hx hb dX6_isOne_113 (by decide) ?_
              exact ih22 (i + 1) 1 _ _ _ (by omega) (by omega) (by rw [o1, ← hv, ← hs, if_pos (by omega)]) hB (lv_sub hl [0, 1, 4, 5, 6, 7] rfl)
            · refine lv_iload hx hb dX6_isOne_80 (lv_at hl 0 rfl) ?_
              refine z_if_eq (tgt := 107) hx hb dX6_isOne_82 (by decide) ⟨by decide, by decide⟩ (fun c_11 => ?_) (fun c_11 => ?_)
              · exact absurd c_11 (by decide)
              · refine lv_iload hx hb dX6_isOne_85 (lv_at hl 1 rfl) ?_
                refine lv_bipush (v := iZ (-9)) hx hb dX6_isOne_87 (by decide) ?_
                refine z_icmp_eq (tgt := 107) hx hb dX6_isOne_89 (by decide) ⟨by omega, by omega⟩ ⟨by decide, by decide⟩ (fun c_12 => ?_) (fun c_12 => ?_)
                · refine lv_iconst (v := iZ 0) hx hb dX6_isOne_107 rfl ?_
                  refine lv_istore (lv' := [(4, .int (iZ 0)), (7, .int (iZ 1)), (6, .int (iZ qs)), (5, .int (iZ ((i : Nat) : Int))), (3, .int (iZ (σ 114 (1 + k)))), (0, .ref (tad θ 111)), (1, .ref (tad θ 114)), (2, .int (iZ ((k : Nat) : Int)))]) hx hb dX6_isOne_108 hl (by decide) rfl (fun ls hl => ?_)
                  refine z_iinc (k := 3) (lv' := [(5, .int (iZ (((i : Nat) : Int) + 1))), (4, .int (iZ 0)), (7, .int (iZ 1)), (6, .int (iZ qs)), (3, .int (iZ (σ 114 (1 + k)))), (0, .ref (tad θ 111)), (1, .ref (tad θ 114)), (2, .int (iZ ((k : Nat) : Int)))]) hx hb dX6_isOne_110 hl rfl (by decide) rfl (fun ls hl => ?_)
                  have hl : lv_has ls 8 [(5, .int (iZ (((i + 1) : Nat) : Int))), (4, .int (iZ 0)), (7, .int (iZ 1)), (6, .int (iZ qs)), (3, .int (iZ (σ 114 (1 + k)))), (0, .ref (tad θ 111)), (1, .ref (tad θ 114)), (2, .int (iZ ((k : Nat) : Int)))] := by have e9 : (((i : Nat) : Int) + 1) = (((i + 1) : Nat) : Int) := (by omega); rw [e9] at hl; exact hl
                  refine lv_goto (tgt := 22) hx hb dX6_isOne_113 (by decide) ?_
                  exact ih22 (i + 1) 0 _ _ _ (by omega) (by omega) (by rw [o1, ← hv, ← hs, if_neg (by omega)]) hB (lv_sub hl [0, 1, 4, 5, 6, 7] rfl)
                · refine lv_aload_n hx hb dX6_isOne_92 rfl (lv_at hl 5 rfl) ?_
                  refine g_getr (k := 23) (j := 126) hx hb hts hown hK hθ hB cf6 (by decide) rfl (by decide) kw_682 rfl rfl dX6_isOne_93 ?_
                  refine lv_iload hx hb dX6_isOne_96 (lv_at hl 1 rfl) ?_
                  refine g_iald (k := qs.toNat) hx hb hK hB (by decide) rfl (by omega) (Nat.lt_of_lt_of_eq (by omega : qs.toNat < 8) (Eq.symm rfl)) (by decide) dX6_isOne_98 ?_
                  have hr_13 := hR 126 (qs.toNat)
                  refine lv_iconst (v := iZ 1) hx hb dX6_isOne_99 rfl ?_
                  refine z_icmp_ne (tgt := 107) hx hb dX6_isOne_100 (by decide) ⟨by omega, by omega⟩ ⟨by decide, by decide⟩ (fun c_14 => ?_) (fun c_14 => ?_)
                  · refine lv_iconst (v := iZ 0) hx hb dX6_isOne_107 rfl ?_
                    refine lv_istore (lv' := [(4, .int (iZ 0)), (7, .int (iZ 1)), (6, .int (iZ qs)), (5, .int (iZ ((i : Nat) : Int))), (3, .int (iZ (σ 114 (1 + k)))), (0, .ref (tad θ 111)), (1, .ref (tad θ 114)), (2, .int (iZ ((k : Nat) : Int)))]) hx hb dX6_isOne_108 hl (by decide) rfl (fun ls hl => ?_)
                    refine z_iinc (k := 3) (lv' := [(5, .int (iZ (((i : Nat) : Int) + 1))), (4, .int (iZ 0)), (7, .int (iZ 1)), (6, .int (iZ qs)), (3, .int (iZ (σ 114 (1 + k)))), (0, .ref (tad θ 111)), (1, .ref (tad θ 114)), (2, .int (iZ ((k : Nat) : Int)))]) hx hb dX6_isOne_110 hl rfl (by decide) rfl (fun ls hl => ?_)
                    have hl : lv_has ls 8 [(5, .int (iZ (((i + 1) : Nat) : Int))), (4, .int (iZ 0)), (7, .int (iZ 1)), (6, .int (iZ qs)), (3, .int (iZ (σ 114 (1 + k)))), (0, .ref (tad θ 111)), (1, .ref (tad θ 114)), (2, .int (iZ ((k : Nat) : Int)))] := by have e9 : (((i : Nat) : Int) + 1) = (((i + 1) : Nat) : Int) := (by omega); rw [e9] at hl; exact hl
                    refine lv_goto (tgt := 22) hx hb dX6_isOne_113 (by decide) ?_
                    exact ih22 (i + 1) 0 _ _ _ (by omega) (by omega) (by rw [o1, ← hv, ← hs, if_neg (by omega)]) hB (lv_sub hl [0, 1, 4, 5, 6, 7] rfl)
                  · refine lv_iconst (v := iZ 1) hx hb dX6_isOne_103 rfl ?_
                    refine lv_goto (tgt := 108) hx hb dX6_isOne_104 (by decide) ?_
                    refine lv_istore (lv' := [(4, .int (iZ 1)), (7, .int (iZ 1)), (6, .int (iZ qs)), (5, .int (iZ ((i : Nat) : Int))), (3, .int (iZ (σ 114 (1 + k)))), (0, .ref (tad θ 111)), (1, .ref (tad θ 114)), (2, .int (iZ ((k : Nat) : Int)))]) hx hb dX6_isOne_108 hl (by decide) rfl (fun ls hl => ?_)
                    refine z_iinc (k := 3) (lv' := [(5, .int (iZ (((i : Nat) : Int) + 1))), (4, .int (iZ 1)), (7, .int (iZ 1)), (6, .int (iZ qs)), (3, .int (iZ (σ 114 (1 + k)))), (0, .ref (tad θ 111)), (1, .ref (tad θ 114)), (2, .int (iZ ((k : Nat) : Int)))]) hx hb dX6_isOne_110 hl rfl (by decide) rfl (fun ls hl => ?_)
                    have hl : lv_has ls 8 [(5, .int (iZ (((i + 1) : Nat) : Int))), (4, .int (iZ 1)), (7, .int (iZ 1)), (6, .int (iZ qs)), (3, .int (iZ (σ 114 (1 + k)))), (0, .ref (tad θ 111)), (1, .ref (tad θ 114)), (2, .int (iZ ((k : Nat) : Int)))] := by have e9 : (((i : Nat) : Int) + 1) = (((i + 1) : Nat) : Int) := (by omega); rw [e9] at hl; exact hl
                    refine lv_goto (tgt := 22) hx hb dX6_isOne_113 (by decide) ?_
                    exact ih22 (i + 1) 1 _ _ _ (by omega) (by omega) (by rw [o1, ← hv, ← hs, if_pos (by omega)]) hB (lv_sub hl [0, 1, 4, 5, 6, 7] rfl)
          · refine lv_iload_n hx hb dX6_isOne_51 rfl (lv_at hl 3 rfl) ?_
            refine lv_bipush (v := iZ 9) hx hb dX6_isOne_52 (by decide) ?_
            refine z_icmp_eq (tgt := 63) hx hb dX6_isOne_54 (by decide) ⟨by omega, by omega⟩ ⟨by decide, by decide⟩ (fun c_15 => ?_) (fun c_15 => ?_)
            · refine lv_iload hx hb dX6_isOne_63 (lv_at hl 1 rfl) ?_
              refine z_if_ne (tgt := 72) hx hb dX6_isOne_65 (by decide) ⟨by omega, by omega⟩ (fun c_16 => ?_) (fun c_16 => ?_)
              · refine lv_iconst (v := iZ 0) hx hb dX6_isOne_72 rfl ?_
                refine lv_istore (lv' := [(7, .int (iZ 0)), (6, .int (iZ qs)), (5, .int (iZ ((i : Nat) : Int))), (4, .int (iZ v)), (3, .int (iZ (σ 114 (1 + k)))), (0, .ref (tad θ 111)), (1, .ref (tad θ 114)), (2, .int (iZ ((k : Nat) : Int)))]) hx hb dX6_isOne_73 hl (by decide) rfl (fun ls hl => ?_)
                refine lv_iload hx hb dX6_isOne_75 (lv_at hl 3 rfl) ?_
                refine z_if_ne (tgt := 103) hx hb dX6_isOne_77 (by decide) ⟨by omega, by omega⟩ (fun c_17 => ?_) (fun c_17 => ?_)
                · refine lv_iconst (v := iZ 1) hx hb dX6_isOne_103 rfl ?_
                  refine lv_goto (tgt := 108) hx hb dX6_isOne_104 (by decide) ?_
                  refine lv_istore (lv' := [(4, .int (iZ 1)), (7, .int (iZ 0)), (6, .int (iZ qs)), (5, .int (iZ ((i : Nat) : Int))), (3, .int (iZ (σ 114 (1 + k)))), (0, .ref (tad θ 111)), (1, .ref (tad θ 114)), (2, .int (iZ ((k : Nat) : Int)))]) hx hb dX6_isOne_108 hl (by decide) rfl (fun ls hl => ?_)
                  refine z_iinc (k := 3) (lv' := [(5, .int (iZ (((i : Nat) : Int) + 1))), (4, .int (iZ 1)), (7, .int (iZ 0)), (6, .int (iZ qs)), (3, .int (iZ (σ 114 (1 + k)))), (0, .ref (tad θ 111)), (1, .ref (tad θ 114)), (2, .int (iZ ((k : Nat) : Int)))]) hx hb dX6_isOne_110 hl rfl (by decide) rfl (fun ls hl => ?_)
                  have hl : lv_has ls 8 [(5, .int (iZ (((i + 1) : Nat) : Int))), (4, .int (iZ 1)), (7, .int (iZ 0)), (6, .int (iZ qs)), (3, .int (iZ (σ 114 (1 + k)))), (0, .ref (tad θ 111)), (1, .ref (tad θ 114)), (2, .int (iZ ((k : Nat) : Int)))] := by have e9 : (((i : Nat) : Int) + 1) = (((i + 1) : Nat) : Int) := (by omega); rw [e9] at hl; exact hl
                  refine lv_goto (tgt := 22) hx hb dX6_isOne_113 (by decide) ?_
                  exact ih22 (i + 1) 1 _ _ _ (by omega) (by omega) (by rw [o1, ← hv, ← hs, if_pos (by omega)]) hB (lv_sub hl [0, 1, 4, 5, 6, 7] rfl)
                · refine lv_iload hx hb dX6_isOne_80 (lv_at hl 0 rfl) ?_
                  refine z_if_eq (tgt := 107) hx hb dX6_isOne_82 (by decide) ⟨by decide, by decide⟩ (fun c_18 => ?_) (fun c_18 => ?_)
                  · refine lv_iconst (v := iZ 0) hx hb dX6_isOne_107 rfl ?_
                    refine lv_istore (lv' := [(4, .int (iZ 0)), (7, .int (iZ 0)), (6, .int (iZ qs)), (5, .int (iZ ((i : Nat) : Int))), (3, .int (iZ (σ 114 (1 + k)))), (0, .ref (tad θ 111)), (1, .ref (tad θ 114)), (2, .int (iZ ((k : Nat) : Int)))]) hx hb dX6_isOne_108 hl (by decide) rfl (fun ls hl => ?_)
                    refine z_iinc (k := 3) (lv' := [(5, .int (iZ (((i : Nat) : Int) + 1))), (4, .int (iZ 0)), (7, .int (iZ 0)), (6, .int (iZ qs)), (3, .int (iZ (σ 114 (1 + k)))), (0, .ref (tad θ 111)), (1, .ref (tad θ 114)), (2, .int (iZ ((k : Nat) : Int)))]) hx hb dX6_isOne_110 hl rfl (by decide) rfl (fun ls hl => ?_)
                    have hl : lv_has ls 8 [(5, .int (iZ (((i + 1) : Nat) : Int))), (4, .int (iZ 0)), (7, .int (iZ 0)), (6, .int (iZ qs)), (3, .int (iZ (σ 114 (1 + k)))), (0, .ref (tad θ 111)), (1, .ref (tad θ 114)), (2, .int (iZ ((k : Nat) : Int)))] := by have e9 : (((i : Nat) : Int) + 1) = (((i + 1) : Nat) : Int) := (by omega); rw [e9] at hl; exact hl
                    refine lv_goto (tgt := 22) hx hb dX6_isOne_113 (by decide) ?_
                    exact ih22 (i + 1) 0 _ _ _ (by omega) (by omega) (by rw [o1, ← hv, ← hs, if_neg (by omega)]) hB (lv_sub hl [0, 1, 4, 5, 6, 7] rfl)
                  · exact absurd (by decide) c_18
              · refine lv_iconst (v := iZ 1) hx hb dX6_isOne_68 rfl ?_
                refine lv_goto (tgt := 73) hx hb dX6_isOne_69 (by decide) ?_
                refine lv_istore (lv' := [(7, .int (iZ 1)), (6, .int (iZ qs)), (5, .int (iZ ((i : Nat) : Int))), (4, .int (iZ v)), (3, .int (iZ (σ 114 (1 + k)))), (0, .ref (tad θ 111)), (1, .ref (tad θ 114)), (2, .int (iZ ((k : Nat) : Int)))]) hx hb dX6_isOne_73 hl (by decide) rfl (fun ls hl => ?_)
                refine lv_iload hx hb dX6_isOne_75 (lv_at hl 3 rfl) ?_
                refine z_if_ne (tgt := 103) hx hb dX6_isOne_77 (by decide) ⟨by omega, by omega⟩ (fun c_19 => ?_) (fun c_19 => ?_)
                · refine lv_iconst (v := iZ 1) hx hb dX6_isOne_103 rfl ?_
                  refine lv_goto (tgt := 108) hx hb dX6_isOne_104 (by decide) ?_
                  refine lv_istore (lv' := [(4, .int (iZ 1)), (7, .int (iZ 1)), (6, .int (iZ qs)), (5, .int (iZ ((i : Nat) : Int))), (3, .int (iZ (σ 114 (1 + k)))), (0, .ref (tad θ 111)), (1, .ref (tad θ 114)), (2, .int (iZ ((k : Nat) : Int)))]) hx hb dX6_isOne_108 hl (by decide) rfl (fun ls hl => ?_)
                  refine z_iinc (k := 3) (lv' := [(5, .int (iZ (((i : Nat) : Int) + 1))), (4, .int (iZ 1)), (7, .int (iZ 1)), (6, .int (iZ qs)), (3, .int (iZ (σ 114 (1 + k)))), (0, .ref (tad θ 111)), (1, .ref (tad θ 114)), (2, .int (iZ ((k : Nat) : Int)))]) hx hb dX6_isOne_110 hl rfl (by decide) rfl (fun ls hl => ?_)
                  have hl : lv_has ls 8 [(5, .int (iZ (((i + 1) : Nat) : Int))), (4, .int (iZ 1)), (7, .int (iZ 1)), (6, .int (iZ qs)), (3, .int (iZ (σ 114 (1 + k)))), (0, .ref (tad θ 111)), (1, .ref (tad θ 114)), (2, .int (iZ ((k : Nat) : Int)))] := by have e9 : (((i : Nat) : Int) + 1) = (((i + 1) : Nat) : Int) := (by omega); rw [e9] at hl; exact hl
                  refine lv_goto (tgt := 22) hx hb dX6_isOne_113 (by decide) ?_
                  exact ih22 (i + 1) 1 _ _ _ (by omega) (by omega) (by rw [o1, ← hv, ← hs, if_pos (by omega)]) hB (lv_sub hl [0, 1, 4, 5, 6, 7] rfl)
                · refine lv_iload hx hb dX6_isOne_80 (lv_at hl 0 rfl) ?_
                  refine z_if_eq (tgt := 107) hx hb dX6_isOne_82 (by decide) ⟨by decide, by decide⟩ (fun c_20 => ?_) (fun c_20 => ?_)
                  · exact absurd c_20 (by decide)
                  · refine lv_iload hx hb dX6_isOne_85 (lv_at hl 1 rfl) ?_
                    refine lv_bipush (v := iZ (-9)) hx hb dX6_isOne_87 (by decide) ?_
                    refine z_icmp_eq (tgt := 107) hx hb dX6_isOne_89 (by decide) ⟨by omega, by omega⟩ ⟨by decide, by decide⟩ (fun c_21 => ?_) (fun c_21 => ?_)
                    · refine lv_iconst (v := iZ 0) hx hb dX6_isOne_107 rfl ?_
                      refine lv_istore (lv' := [(4, .int (iZ 0)), (7, .int (iZ 1)), (6, .int (iZ qs)), (5, .int (iZ ((i : Nat) : Int))), (3, .int (iZ (σ 114 (1 + k)))), (0, .ref (tad θ 111)), (1, .ref (tad θ 114)), (2, .int (iZ ((k : Nat) : Int)))]) hx hb dX6_isOne_108 hl (by decide) rfl (fun ls hl => ?_)
                      refine z_iinc (k := 3) (lv' := [(5, .int (iZ (((i : Nat) : Int) + 1))), (4, .int (iZ 0)), (7, .int (iZ 1)), (6, .int (iZ qs)), (3, .int (iZ (σ 114 (1 + k)))), (0, .ref (tad θ 111)), (1, .ref (tad θ 114)), (2, .int (iZ ((k : Nat) : Int)))]) hx hb dX6_isOne_110 hl rfl (by decide) rfl (fun ls hl => ?_)
                      have hl : lv_has ls 8 [(5, .int (iZ (((i + 1) : Nat) : Int))), (4, .int (iZ 0)), (7, .int (iZ 1)), (6, .int (iZ qs)), (3, .int (iZ (σ 114 (1 + k)))), (0, .ref (tad θ 111)), (1, .ref (tad θ 114)), (2, .int (iZ ((k : Nat) : Int)))] := by have e9 : (((i : Nat) : Int) + 1) = (((i + 1) : Nat) : Int) := (by omega); rw [e9] at hl; exact hl
                      refine lv_goto (tgt := 22) hx hb dX6_isOne_113 (by decide) ?_
                      exact ih22 (i + 1) 0 _ _ _ (by omega) (by omega) (by rw [o1, ← hv, ← hs, if_neg (by omega)]) hB (lv_sub hl [0, 1, 4, 5, 6, 7] rfl)
                    · refine lv_aload_n hx hb dX6_isOne_92 rfl (lv_at hl 5 rfl) ?_
                      refine g_getr (k := 23) (j := 126) hx hb hts hown hK hθ hB cf6 (by decide) rfl (by decide) kw_682 rfl rfl dX6_isOne_93 ?_
                      refine lv_iload hx hb dX6_isOne_96 (lv_at hl 1 rfl) ?_
                      refine g_iald (k := qs.toNat) hx hb hK hB (by decide) rfl (by omega) (Nat.lt_of_lt_of_eq (by omega : qs.toNat < 8) (Eq.symm rfl)) (by decide) dX6_isOne_98 ?_
                      have hr_22 := hR 126 (qs.toNat)
                      refine lv_iconst (v := iZ 1) hx hb dX6_isOne_99 rfl ?_
                      refine z_icmp_ne (tgt := 107) hx hb dX6_isOne_100 (by decide) ⟨by omega, by omega⟩ ⟨by decide, by decide⟩ (fun c_23 => ?_) (fun c_23 => ?_)
                      · refine lv_iconst (v := iZ 0) hx hb dX6_isOne_107 rfl ?_
                        refine lv_istore (lv' := [(4, .int (iZ 0)), (7, .int (iZ 1)), (6, .int (iZ qs)), (5, .int (iZ ((i : Nat) : Int))), (3, .int (iZ (σ 114 (1 + k)))), (0, .ref (tad θ 111)), (1, .ref (tad θ 114)), (2, .int (iZ ((k : Nat) : Int)))]) hx hb dX6_isOne_108 hl (by decide) rfl (fun ls hl => ?_)
                        refine z_iinc (k := 3) (lv' := [(5, .int (iZ (((i : Nat) : Int) + 1))), (4, .int (iZ 0)), (7, .int (iZ 1)), (6, .int (iZ qs)), (3, .int (iZ (σ 114 (1 + k)))), (0, .ref (tad θ 111)), (1, .ref (tad θ 114)), (2, .int (iZ ((k : Nat) : Int)))]) hx hb dX6_isOne_110 hl rfl (by decide) rfl (fun ls hl => ?_)
                        have hl : lv_has ls 8 [(5, .int (iZ (((i + 1) : Nat) : Int))), (4, .int (iZ 0)), (7, .int (iZ 1)), (6, .int (iZ qs)), (3, .int (iZ (σ 114 (1 + k)))), (0, .ref (tad θ 111)), (1, .ref (tad θ 114)), (2, .int (iZ ((k : Nat) : Int)))] := by have e9 : (((i : Nat) : Int) + 1) = (((i + 1) : Nat) : Int) := (by omega); rw [e9] at hl; exact hl
                        refine lv_goto (tgt := 22) hx hb dX6_isOne_113 (by decide) ?_
                        exact ih22 (i + 1) 0 _ _ _ (by omega) (by omega) (by rw [o1, ← hv, ← hs, if_neg (by omega)]) hB (lv_sub hl [0, 1, 4, 5, 6, 7] rfl)
                      · refine lv_iconst (v := iZ 1) hx hb dX6_isOne_103 rfl ?_
                        refine lv_goto (tgt := 108) hx hb dX6_isOne_104 (by decide) ?_
                        refine lv_istore (lv' := [(4, .int (iZ 1)), (7, .int (iZ 1)), (6, .int (iZ qs)), (5, .int (iZ ((i : Nat) : Int))), (3, .int (iZ (σ 114 (1 + k)))), (0, .ref (tad θ 111)), (1, .ref (tad θ 114)), (2, .int (iZ ((k : Nat) : Int)))]) hx hb dX6_isOne_108 hl (by decide) rfl (fun ls hl => ?_)
                        refine z_iinc (k := 3) (lv' := [(5, .int (iZ (((i : Nat) : Int) + 1))), (4, .int (iZ 1)), (7, .int (iZ 1)), (6, .int (iZ qs)), (3, .int (iZ (σ 114 (1 + k)))), (0, .ref (tad θ 111)), (1, .ref (tad θ 114)), (2, .int (iZ ((k : Nat) : Int)))]) hx hb dX6_isOne_110 hl rfl (by decide) rfl (fun ls hl => ?_)
                        have hl : lv_has ls 8 [(5, .int (iZ (((i + 1) : Nat) : Int))), (4, .int (iZ 1)), (7, .int (iZ 1)), (6, .int (iZ qs)), (3, .int (iZ (σ 114 (1 + k)))), (0, .ref (tad θ 111)), (1, .ref (tad θ 114)), (2, .int (iZ ((k : Nat) : Int)))] := by have e9 : (((i : Nat) : Int) + 1) = (((i + 1) : Nat) : Int) := (by omega); rw [e9] at hl; exact hl
                        refine lv_goto (tgt := 22) hx hb dX6_isOne_113 (by decide) ?_
                        exact ih22 (i + 1) 1 _ _ _ (by omega) (by omega) (by rw [o1, ← hv, ← hs, if_pos (by omega)]) hB (lv_sub hl [0, 1, 4, 5, 6, 7] rfl)
            · refine lv_iload_n hx hb dX6_isOne_57 rfl (lv_at hl 3 rfl) ?_
              refine lv_bipush (v := iZ 10) hx hb dX6_isOne_58 (by decide) ?_
              refine z_icmp_ne (tgt := 72) hx hb dX6_isOne_60 (by decide) ⟨by omega, by omega⟩ ⟨by decide, by decide⟩ (fun c_24 => ?_) (fun c_24 => ?_)
              · refine lv_iconst (v := iZ 0) hx hb dX6_isOne_72 rfl ?_
                refine lv_istore (lv' := [(7, .int (iZ 0)), (6, .int (iZ qs)), (5, .int (iZ ((i : Nat) : Int))), (4, .int (iZ v)), (3, .int (iZ (σ 114 (1 + k)))), (0, .ref (tad θ 111)), (1, .ref (tad θ 114)), (2, .int (iZ ((k : Nat) : Int)))]) hx hb dX6_isOne_73 hl (by decide) rfl (fun ls hl => ?_)
                refine lv_iload hx hb dX6_isOne_75 (lv_at hl 3 rfl) ?_
                refine z_if_ne (tgt := 103) hx hb dX6_isOne_77 (by decide) ⟨by omega, by omega⟩ (fun c_25 => ?_) (fun c_25 => ?_)
                · refine lv_iconst (v := iZ 1) hx hb dX6_isOne_103 rfl ?_
                  refine lv_goto (tgt := 108) hx hb dX6_isOne_104 (by decide) ?_
                  refine lv_istore (lv' := [(4, .int (iZ 1)), (7, .int (iZ 0)), (6, .int (iZ qs)), (5, .int (iZ ((i : Nat) : Int))), (3, .int (iZ (σ 114 (1 + k)))), (0, .ref (tad θ 111)), (1, .ref (tad θ 114)), (2, .int (iZ ((k : Nat) : Int)))]) hx hb dX6_isOne_108 hl (by decide) rfl (fun ls hl => ?_)
                  refine z_iinc (k := 3) (lv' := [(5, .int (iZ (((i : Nat) : Int) + 1))), (4, .int (iZ 1)), (7, .int (iZ 0)), (6, .int (iZ qs)), (3, .int (iZ (σ 114 (1 + k)))), (0, .ref (tad θ 111)), (1, .ref (tad θ 114)), (2, .int (iZ ((k : Nat) : Int)))]) hx hb dX6_isOne_110 hl rfl (by decide) rfl (fun ls hl => ?_)
                  have hl : lv_has ls 8 [(5, .int (iZ (((i + 1) : Nat) : Int))), (4, .int (iZ 1)), (7, .int (iZ 0)), (6, .int (iZ qs)), (3, .int (iZ (σ 114 (1 + k)))), (0, .ref (tad θ 111)), (1, .ref (tad θ 114)), (2, .int (iZ ((k : Nat) : Int)))] := by have e9 : (((i : Nat) : Int) + 1) = (((i + 1) : Nat) : Int) := (by omega); rw [e9] at hl; exact hl
                  refine lv_goto (tgt := 22) hx hb dX6_isOne_113 (by decide) ?_
                  exact ih22 (i + 1) 1 _ _ _ (by omega) (by omega) (by rw [o1, ← hv, ← hs, if_pos (by omega)]) hB (lv_sub hl [0, 1, 4, 5, 6, 7] rfl)
                · refine lv_iload hx hb dX6_isOne_80 (lv_at hl 0 rfl) ?_
                  refine z_if_eq (tgt := 107) hx hb dX6_isOne_82 (by decide) ⟨by decide, by decide⟩ (fun c_26 => ?_) (fun c_26 => ?_)
                  · refine lv_iconst (v := iZ 0) hx hb dX6_isOne_107 rfl ?_
                    refine lv_istore (lv' := [(4, .int (iZ 0)), (7, .int (iZ 0)), (6, .int (iZ qs)), (5, .int (iZ ((i : Nat) : Int))), (3, .int (iZ (σ 114 (1 + k)))), (0, .ref (tad θ 111)), (1, .ref (tad θ 114)), (2, .int (iZ ((k : Nat) : Int)))]) hx hb dX6_isOne_108 hl (by decide) rfl (fun ls hl => ?_)
                    refine z_iinc (k := 3) (lv' := [(5, .int (iZ (((i : Nat) : Int) + 1))), (4, .int (iZ 0)), (7, .int (iZ 0)), (6, .int (iZ qs)), (3, .int (iZ (σ 114 (1 + k)))), (0, .ref (tad θ 111)), (1, .ref (tad θ 114)), (2, .int (iZ ((k : Nat) : Int)))]) hx hb dX6_isOne_110 hl rfl (by decide) rfl (fun ls hl => ?_)
                    have hl : lv_has ls 8 [(5, .int (iZ (((i + 1) : Nat) : Int))), (4, .int (iZ 0)), (7, .int (iZ 0)), (6, .int (iZ qs)), (3, .int (iZ (σ 114 (1 + k)))), (0, .ref (tad θ 111)), (1, .ref (tad θ 114)), (2, .int (iZ ((k : Nat) : Int)))] := by have e9 : (((i : Nat) : Int) + 1) = (((i + 1) : Nat) : Int) := (by omega); rw [e9] at hl; exact hl
                    refine lv_goto (tgt := 22) hx hb dX6_isOne_113 (by decide) ?_
                    exact ih22 (i + 1) 0 _ _ _ (by omega) (by omega) (by rw [o1, ← hv, ← hs, if_neg (by omega)]) hB (lv_sub hl [0, 1, 4, 5, 6, 7] rfl)
                  · exact absurd (by decide) c_26
              · refine lv_iload hx hb dX6_isOne_63 (lv_at hl 1 rfl) ?_
                refine z_if_ne (tgt := 72) hx hb dX6_isOne_65 (by decide) ⟨by omega, by omega⟩ (fun c_27 => ?_) (fun c_27 => ?_)
                · refine lv_iconst (v := iZ 0) hx hb dX6_isOne_72 rfl ?_
                  refine lv_istore (lv' := [(7, .int (iZ 0)), (6, .int (iZ qs)), (5, .int (iZ ((i : Nat) : Int))), (4, .int (iZ v)), (3, .int (iZ (σ 114 (1 + k)))), (0, .ref (tad θ 111)), (1, .ref (tad θ 114)), (2, .int (iZ ((k : Nat) : Int)))]) hx hb dX6_isOne_73 hl (by decide) rfl (fun ls hl => ?_)
                  refine lv_iload hx hb dX6_isOne_75 (lv_at hl 3 rfl) ?_
                  refine z_if_ne (tgt := 103) hx hb dX6_isOne_77 (by decide) ⟨by omega, by omega⟩ (fun c_28 => ?_) (fun c_28 => ?_)
                  · refine lv_iconst (v := iZ 1) hx hb dX6_isOne_103 rfl ?_
                    refine lv_goto (tgt := 108) hx hb dX6_isOne_104 (by decide) ?_
                    refine lv_istore (lv' := [(4, .int (iZ 1)), (7, .int (iZ 0)), (6, .int (iZ qs)), (5, .int (iZ ((i : Nat) : Int))), (3, .int (iZ (σ 114 (1 + k)))), (0, .ref (tad θ 111)), (1, .ref (tad θ 114)), (2, .int (iZ ((k : Nat) : Int)))]) hx hb dX6_isOne_108 hl (by decide) rfl (fun ls hl => ?_)
                    refine z_iinc (k := 3) (lv' := [(5, .int (iZ (((i : Nat) : Int) + 1))), (4, .int (iZ 1)), (7, .int (iZ 0)), (6, .int (iZ qs)), (3, .int (iZ (σ 114 (1 + k)))), (0, .ref (tad θ 111)), (1, .ref (tad θ 114)), (2, .int (iZ ((k : Nat) : Int)))]) hx hb dX6_isOne_110 hl rfl (by decide) rfl (fun ls hl => ?_)
                    have hl : lv_has ls 8 [(5, .int (iZ (((i + 1) : Nat) : Int))), (4, .int (iZ 1)), (7, .int (iZ 0)), (6, .int (iZ qs)), (3, .int (iZ (σ 114 (1 + k)))), (0, .ref (tad θ 111)), (1, .ref (tad θ 114)), (2, .int (iZ ((k : Nat) : Int)))] := by have e9 : (((i : Nat) : Int) + 1) = (((i + 1) : Nat) : Int) := (by omega); rw [e9] at hl; exact hl
                    refine lv_goto (tgt := 22) hx hb dX6_isOne_113 (by decide) ?_
                    exact ih22 (i + 1) 1 _ _ _ (by omega) (by omega) (by rw [o1, ← hv, ← hs, if_pos (by omega)]) hB (lv_sub hl [0, 1, 4, 5, 6, 7] rfl)
                  · refine lv_iload hx hb dX6_isOne_80 (lv_at hl 0 rfl) ?_
                    refine z_if_eq (tgt := 107) hx hb dX6_isOne_82 (by decide) ⟨by decide, by decide⟩ (fun c_29 => ?_) (fun c_29 => ?_)
                    · refine lv_iconst (v := iZ 0) hx hb dX6_isOne_107 rfl ?_
                      refine lv_istore (lv' := [(4, .int (iZ 0)), (7, .int (iZ 0)), (6, .int (iZ qs)), (5, .int (iZ ((i : Nat) : Int))), (3, .int (iZ (σ 114 (1 + k)))), (0, .ref (tad θ 111)), (1, .ref (tad θ 114)), (2, .int (iZ ((k : Nat) : Int)))]) hx hb dX6_isOne_108 hl (by decide) rfl (fun ls hl => ?_)
                      refine z_iinc (k := 3) (lv' := [(5, .int (iZ (((i : Nat) : Int) + 1))), (4, .int (iZ 0)), (7, .int (iZ 0)), (6, .int (iZ qs)), (3, .int (iZ (σ 114 (1 + k)))), (0, .ref (tad θ 111)), (1, .ref (tad θ 114)), (2, .int (iZ ((k : Nat) : Int)))]) hx hb dX6_isOne_110 hl rfl (by decide) rfl (fun ls hl => ?_)
                      have hl : lv_has ls 8 [(5, .int (iZ (((i + 1) : Nat) : Int))), (4, .int (iZ 0)), (7, .int (iZ 0)), (6, .int (iZ qs)), (3, .int (iZ (σ 114 (1 + k)))), (0, .ref (tad θ 111)), (1, .ref (tad θ 114)), (2, .int (iZ ((k : Nat) : Int)))] := by have e9 : (((i : Nat) : Int) + 1) = (((i + 1) : Nat) : Int) := (by omega); rw [e9] at hl; exact hl
                      refine lv_goto (tgt := 22) hx hb dX6_isOne_113 (by decide) ?_
                      exact ih22 (i + 1) 0 _ _ _ (by omega) (by omega) (by rw [o1, ← hv, ← hs, if_neg (by omega)]) hB (lv_sub hl [0, 1, 4, 5, 6, 7] rfl)
                    · exact absurd (by decide) c_29
                · refine lv_iconst (v := iZ 1) hx hb dX6_isOne_68 rfl ?_
                  refine lv_goto (tgt := 73) hx hb dX6_isOne_69 (by decide) ?_
                  refine lv_istore (lv' := [(7, .int (iZ 1)), (6, .int (iZ qs)), (5, .int (iZ ((i : Nat) : Int))), (4, .int (iZ v)), (3, .int (iZ (σ 114 (1 + k)))), (0, .ref (tad θ 111)), (1, .ref (tad θ 114)), (2, .int (iZ ((k : Nat) : Int)))]) hx hb dX6_isOne_73 hl (by decide) rfl (fun ls hl => ?_)
                  refine lv_iload hx hb dX6_isOne_75 (lv_at hl 3 rfl) ?_
                  refine z_if_ne (tgt := 103) hx hb dX6_isOne_77 (by decide) ⟨by omega, by omega⟩ (fun c_30 => ?_) (fun c_30 => ?_)
                  · refine lv_iconst (v := iZ 1) hx hb dX6_isOne_103 rfl ?_
                    refine lv_goto (tgt := 108) hx hb dX6_isOne_104 (by decide) ?_
                    refine lv_istore (lv' := [(4, .int (iZ 1)), (7, .int (iZ 1)), (6, .int (iZ qs)), (5, .int (iZ ((i : Nat) : Int))), (3, .int (iZ (σ 114 (1 + k)))), (0, .ref (tad θ 111)), (1, .ref (tad θ 114)), (2, .int (iZ ((k : Nat) : Int)))]) hx hb dX6_isOne_108 hl (by decide) rfl (fun ls hl => ?_)
                    refine z_iinc (k := 3) (lv' := [(5, .int (iZ (((i : Nat) : Int) + 1))), (4, .int (iZ 1)), (7, .int (iZ 1)), (6, .int (iZ qs)), (3, .int (iZ (σ 114 (1 + k)))), (0, .ref (tad θ 111)), (1, .ref (tad θ 114)), (2, .int (iZ ((k : Nat) : Int)))]) hx hb dX6_isOne_110 hl rfl (by decide) rfl (fun ls hl => ?_)
                    have hl : lv_has ls 8 [(5, .int (iZ (((i + 1) : Nat) : Int))), (4, .int (iZ 1)), (7, .int (iZ 1)), (6, .int (iZ qs)), (3, .int (iZ (σ 114 (1 + k)))), (0, .ref (tad θ 111)), (1, .ref (tad θ 114)), (2, .int (iZ ((k : Nat) : Int)))] := by have e9 : (((i : Nat) : Int) + 1) = (((i + 1) : Nat) : Int) := (by omega); rw [e9] at hl; exact hl
                    refine lv_goto (tgt := 22) hx hb dX6_isOne_113 (by decide) ?_
                    exact ih22 (i + 1) 1 _ _ _ (by omega) (by omega) (by rw [o1, ← hv, ← hs, if_pos (by omega)]) hB (lv_sub hl [0, 1, 4, 5, 6, 7] rfl)
                  · refine lv_iload hx hb dX6_isOne_80 (lv_at hl 0 rfl) ?_
                    refine z_if_eq (tgt := 107) hx hb dX6_isOne_82 (by decide) ⟨by decide, by decide⟩ (fun c_31 => ?_) (fun c_31 => ?_)
                    · exact absurd c_31 (by decide)
                    · refine lv_iload hx hb dX6_isOne_85 (lv_at hl 1 rfl) ?_
                      refine lv_bipush (v := iZ (-9)) hx hb dX6_isOne_87 (by decide) ?_
                      refine z_icmp_eq (tgt := 107) hx hb dX6_isOne_89 (by decide) ⟨by omega, by omega⟩ ⟨by decide, by decide⟩ (fun c_32 => ?_) (fun c_32 => ?_)
                      · refine lv_iconst (v := iZ 0) hx hb dX6_isOne_107 rfl ?_
                        refine lv_istore (lv' := [(4, .int (iZ 0)), (7, .int (iZ 1)), (6, .int (iZ qs)), (5, .int (iZ ((i : Nat) : Int))), (3, .int (iZ (σ 114 (1 + k)))), (0, .ref (tad θ 111)), (1, .ref (tad θ 114)), (2, .int (iZ ((k : Nat) : Int)))]) hx hb dX6_isOne_108 hl (by decide) rfl (fun ls hl => ?_)
                        refine z_iinc (k := 3) (lv' := [(5, .int (iZ (((i : Nat) : Int) + 1))), (4, .int (iZ 0)), (7, .int (iZ 1)), (6, .int (iZ qs)), (3, .int (iZ (σ 114 (1 + k)))), (0, .ref (tad θ 111)), (1, .ref (tad θ 114)), (2, .int (iZ ((k : Nat) : Int)))]) hx hb dX6_isOne_110 hl rfl (by decide) rfl (fun ls hl => ?_)
                        have hl : lv_has ls 8 [(5, .int (iZ (((i + 1) : Nat) : Int))), (4, .int (iZ 0)), (7, .int (iZ 1)), (6, .int (iZ qs)), (3, .int (iZ (σ 114 (1 + k)))), (0, .ref (tad θ 111)), (1, .ref (tad θ 114)), (2, .int (iZ ((k : Nat) : Int)))] := by have e9 : (((i : Nat) : Int) + 1) = (((i + 1) : Nat) : Int) := (by omega); rw [e9] at hl; exact hl
                        refine lv_goto (tgt := 22) hx hb dX6_isOne_113 (by decide) ?_
                        exact ih22 (i + 1) 0 _ _ _ (by omega) (by omega) (by rw [o1, ← hv, ← hs, if_neg (by omega)]) hB (lv_sub hl [0, 1, 4, 5, 6, 7] rfl)
                      · refine lv_aload_n hx hb dX6_isOne_92 rfl (lv_at hl 5 rfl) ?_
                        refine g_getr (k := 23) (j := 126) hx hb hts hown hK hθ hB cf6 (by decide) rfl (by decide) kw_682 rfl rfl dX6_isOne_93 ?_
                        refine lv_iload hx hb dX6_isOne_96 (lv_at hl 1 rfl) ?_
                        refine g_iald (k := qs.toNat) hx hb hK hB (by decide) rfl (by omega) (Nat.lt_of_lt_of_eq (by omega : qs.toNat < 8) (Eq.symm rfl)) (by decide) dX6_isOne_98 ?_
                        have hr_33 := hR 126 (qs.toNat)
                        refine lv_iconst (v := iZ 1) hx hb dX6_isOne_99 rfl ?_
                        refine z_icmp_ne (tgt := 107) hx hb dX6_isOne_100 (by decide) ⟨by omega, by omega⟩ ⟨by decide, by decide⟩ (fun c_34 => ?_) (fun c_34 => ?_)
                        · refine lv_iconst (v := iZ 0) hx hb dX6_isOne_107 rfl ?_
                          refine lv_istore (lv' := [(4, .int (iZ 0)), (7, .int (iZ 1)), (6, .int (iZ qs)), (5, .int (iZ ((i : Nat) : Int))), (3, .int (iZ (σ 114 (1 + k)))), (0, .ref (tad θ 111)), (1, .ref (tad θ 114)), (2, .int (iZ ((k : Nat) : Int)))]) hx hb dX6_isOne_108 hl (by decide) rfl (fun ls hl => ?_)
                          refine z_iinc (k := 3) (lv' := [(5, .int (iZ (((i : Nat) : Int) + 1))), (4, .int (iZ 0)), (7, .int (iZ 1)), (6, .int (iZ qs)), (3, .int (iZ (σ 114 (1 + k)))), (0, .ref (tad θ 111)), (1, .ref (tad θ 114)), (2, .int (iZ ((k : Nat) : Int)))]) hx hb dX6_isOne_110 hl rfl (by decide) rfl (fun ls hl => ?_)
                          have hl : lv_has ls 8 [(5, .int (iZ (((i + 1) : Nat) : Int))), (4, .int (iZ 0)), (7, .int (iZ 1)), (6, .int (iZ qs)), (3, .int (iZ (σ 114 (1 + k)))), (0, .ref (tad θ 111)), (1, .ref (tad θ 114)), (2, .int (iZ ((k : Nat) : Int)))] := by have e9 : (((i : Nat) : Int) + 1) = (((i + 1) : Nat) : Int) := (by omega); rw [e9] at hl; exact hl
                          refine lv_goto (tgt := 22) hx hb dX6_isOne_113 (by decide) ?_
                          exact ih22 (i + 1) 0 _ _ _ (by omega) (by omega) (by rw [o1, ← hv, ← hs, if_neg (by omega)]) hB (lv_sub hl [0, 1, 4, 5, 6, 7] rfl)
                        · refine lv_iconst (v := iZ 1) hx hb dX6_isOne_103 rfl ?_
                          refine lv_goto (tgt := 108) hx hb dX6_isOne_104 (by decide) ?_
                          refine lv_istore (lv' := [(4, .int (iZ 1)), (7, .int (iZ 1)), (6, .int (iZ qs)), (5, .int (iZ ((i : Nat) : Int))), (3, .int (iZ (σ 114 (1 + k)))), (0, .ref (tad θ 111)), (1, .ref (tad θ 114)), (2, .int (iZ ((k : Nat) : Int)))]) hx hb dX6_isOne_108 hl (by decide) rfl (fun ls hl => ?_)
                          refine z_iinc (k := 3) (lv' := [(5, .int (iZ (((i : Nat) : Int) + 1))), (4, .int (iZ 1)), (7, .int (iZ 1)), (6, .int (iZ qs)), (3, .int (iZ (σ 114 (1 + k)))), (0, .ref (tad θ 111)), (1, .ref (tad θ 114)), (2, .int (iZ ((k : Nat) : Int)))]) hx hb dX6_isOne_110 hl rfl (by decide) rfl (fun ls hl => ?_)
                          have hl : lv_has ls 8 [(5, .int (iZ (((i + 1) : Nat) : Int))), (4, .int (iZ 1)), (7, .int (iZ 1)), (6, .int (iZ qs)), (3, .int (iZ (σ 114 (1 + k)))), (0, .ref (tad θ 111)), (1, .ref (tad θ 114)), (2, .int (iZ ((k : Nat) : Int)))] := by have e9 : (((i : Nat) : Int) + 1) = (((i + 1) : Nat) : Int) := (by omega); rw [e9] at hl; exact hl
                          refine lv_goto (tgt := 22) hx hb dX6_isOne_113 (by decide) ?_
                          exact ih22 (i + 1) 1 _ _ _ (by omega) (by omega) (by rw [o1, ← hv, ← hs, if_pos (by omega)]) hB (lv_sub hl [0, 1, 4, 5, 6, 7] rfl)
    exact loop22 _ 0 0 _ _ _ (Nat.lt_succ_self _) (by omega) (by rw [o1, if_neg (by omega)]) hB (lv_sub hl [0, 1, 2, 3, 4, 5] rfl)
  · refine lv_iconst (v := iZ 1) hx hb dX6_isOne_12 rfl ?_
    refine lv_goto (tgt := 17) hx hb dX6_isOne_13 (by decide) ?_
    refine lv_istore (lv' := [(4, .int (iZ 1)), (3, .int (iZ (σ 114 (1 + k)))), (0, .ref (tad θ 111)), (1, .ref (tad θ 114)), (2, .int (iZ ((k : Nat) : Int)))]) hx hb dX6_isOne_17 hl (by decide) rfl (fun ls hl => ?_)
    refine lv_iconst (v := iZ 0) hx hb dX6_isOne_19 rfl ?_
    refine lv_istore (lv' := [(5, .int (iZ 0)), (4, .int (iZ 1)), (3, .int (iZ (σ 114 (1 + k)))), (0, .ref (tad θ 111)), (1, .ref (tad θ 114)), (2, .int (iZ ((k : Nat) : Int)))]) hx hb dX6_isOne_20 hl (by decide) rfl (fun ls hl => ?_)
    have loop22 : ∀ (n22 : Nat) (i : Nat) (v : Int) (H : Heap) (locs : List Loc) (ls : Array Slot), 3 - i < n22 → (i ≤ 3) → (v = o1 (σ 114) (σ 126) k i) →  gB θ σ z s.heap H locs → lv_has ls 8 [(5, .int (iZ ((i : Nat) : Int))), (4, .int (iZ v)), (3, .int (iZ (σ 114 (1 + k)))), (0, .ref (tad θ 111)), (1, .ref (tad θ 114)), (2, .int (iZ ((k : Nat) : Int)))] → W p l e (gRm 2 44) s m args below meth c H locs 0 0 (MQ below (gQi θ (fun q σ' z' => (q = o1 (σ 114) (σ 126) k 3) ∧ σ' = σ ∧ z' = z)) args s 0 0 (tA θ)) (F0 m 22 ls []) := by
      intro n22
      induction n22 with
      | zero => intro i v H locs ls hmu; exact absurd hmu (Nat.not_lt_zero _)
      | succ n22 ih22 =>
        intro i v H locs ls hmu hi hv hB hl
        have hR := hB.1.2
        have hv01 := o1_01 (σ 114) (σ 126) k i
        rw [← hv] at hv01
        refine lv_iload hx hb dX6_isOne_22 (lv_at hl 0 rfl) ?_
        refine lv_iconst (v := iZ 3) hx hb dX6_isOne_24 rfl ?_
        refine z_icmp_ge (tgt := 116) hx hb dX6_isOne_25 (by decide) ⟨by omega, by omega⟩ ⟨by decide, by decide⟩ (fun c_35 => ?_) (fun c_35 => ?_)
        · refine lv_iload hx hb dX6_isOne_116 (lv_at hl 1 rfl) ?_
          exact g_zret hx hb hr hlk hB dX6_isOne_118 (by omega) (⟨by rw [hv, show i = 3 by omega], rfl, rfl⟩)
        · refine lv_aload_n hx hb dX6_isOne_28 rfl (lv_at hl 4 rfl) ?_
          refine lv_iload_n hx hb dX6_isOne_29 rfl (lv_at hl 5 rfl) ?_
          refine lv_iload hx hb dX6_isOne_30 (lv_at hl 0 rfl) ?_
          refine g_calli (g_runS (As := [.ref (tad θ 114), .int (iZ ((k : Nat) : Int)), .int (iZ ((i : Nat) : Int))]) (rest := []) hx hb hml hown hts hK hst hB (mX6_streamOf l θ hθ σ z 114 (Or.inl rfl) k i hk (by omega)) ms_X6_streamOf kw_832 rfl hl.1 rfl (Nat.le_of_ble_eq_true rfl) ⟨by decide, by decide⟩ ⟨Nat.le_refl _, Nat.le_refl _⟩ dX6_isOne_32) hB (fun qs σ_36 z_37 H locs hqs hps hB => ?_)
          obtain ⟨hps, e1_, e2_⟩ := hps
          rw [e1_, e2_] at hB
          clear e1_ e2_
          have hs := sO_of hps
          have hin := sO_in hW hk hn (show i < 3 by omega)
          rw [← hs] at hin
          refine lv_istore (lv' := [(6, .int (iZ qs)), (5, .int (iZ ((i : Nat) : Int))), (4, .int (iZ v)), (3, .int (iZ (σ 114 (1 + k)))), (0, .ref (tad θ 111)), (1, .ref (tad θ 114)), (2, .int (iZ ((k : Nat) : Int)))]) hx hb dX6_isOne_35 hl (by decide) rfl (fun ls hl => ?_)
          refine lv_iload_n hx hb dX6_isOne_37 rfl (lv_at hl 3 rfl) ?_
          refine z_i2l hx hb ⟨by omega, by omega⟩ dX6_isOne_38 ?_
          refine lv_ldc2 (v := lZ 2) hx hb hown (hts _ kw_847) dX6_isOne_39 ?_
          refine lv_ldc2 (v := lZ 5) hx hb hown (hts _ kw_848) dX6_isOne_42 ?_
          refine g_calli (g_runS (As := [.long (lZ (σ 114 (1 + k))), .long (lZ 2), .long (lZ 5)]) (rest := []) hx hb hml hown hts hK hst hB (mX6_in l θ hθ σ z (σ 114 (1 + k)) 2 5 ⟨by omega, by omega⟩ ⟨by omega, by omega⟩ ⟨by omega, by omega⟩) ms_X6_in kw_749 rfl hl.1 rfl (Nat.le_of_ble_eq_true rfl) ⟨by decide, by decide⟩ ⟨Nat.le_refl _, Nat.le_refl _⟩ dX6_isOne_45) hB (fun q_40 σ_38 z_39 H locs hq_40 pq_40 hB => ?_)
          obtain ⟨pq_40, e1_, e2_⟩ := pq_40
          rw [e1_, e2_] at hB
          clear e1_ e2_
          refine z_if_ne (tgt := 68) hx hb dX6_isOne_48 (by decide) ⟨by omega, by omega⟩ (fun c_41 => ?_) (fun c_41 => ?_)
          · refine lv_iconst (v := iZ 1) hx hb dX6_isOne_68 rfl ?_
            refine lv_goto (tgt := 73) hx hb dX6_isOne_69 (by decide) ?_
            refine lv_istore (lv' := [(7, .int (iZ 1)), (6, .int (iZ qs)), (5, .int (iZ ((i : Nat) : Int))), (4, .int (iZ v)), (3, .int (iZ (σ 114 (1 + k)))), (0, .ref (tad θ 111)), (1, .ref (tad θ 114)), (2, .int (iZ ((k : Nat) : Int)))]) hx hb dX6_isOne_73 hl (by decide) rfl (fun ls hl => ?_)
            refine lv_iload hx hb dX6_isOne_75 (lv_at hl 3 rfl) ?_
            refine z_if_ne (tgt := 103) hx hb dX6_isOne_77 (by decide) ⟨by omega, by omega⟩ (fun c_42 => ?_) (fun c_42 => ?_)
            · refine lv_iconst (v := iZ 1) hx hb dX6_isOne_103 rfl ?_
              refine lv_goto (tgt := 108) hx hb dX6_isOne_104 (by decide) ?_
              refine lv_istore (lv' := [(4, .int (iZ 1)), (7, .int (iZ 1)), (6, .int (iZ qs)), (5, .int (iZ ((i : Nat) : Int))), (3, .int (iZ (σ 114 (1 + k)))), (0, .ref (tad θ 111)), (1, .ref (tad θ 114)), (2, .int (iZ ((k : Nat) : Int)))]) hx hb dX6_isOne_108 hl (by decide) rfl (fun ls hl => ?_)
              refine z_iinc (k := 3) (lv' := [(5, .int (iZ (((i : Nat) : Int) + 1))), (4, .int (iZ 1)), (7, .int (iZ 1)), (6, .int (iZ qs)), (3, .int (iZ (σ 114 (1 + k)))), (0, .ref (tad θ 111)), (1, .ref (tad θ 114)), (2, .int (iZ ((k : Nat) : Int)))]) hx hb dX6_isOne_110 hl rfl (by decide) rfl (fun ls hl => ?_)
              have hl : lv_has ls 8 [(5, .int (iZ (((i + 1) : Nat) : Int))), (4, .int (iZ 1)), (7, .int (iZ 1)), (6, .int (iZ qs)), (3, .int (iZ (σ 114 (1 + k)))), (0, .ref (tad θ 111)), (1, .ref (tad θ 114)), (2, .int (iZ ((k : Nat) : Int)))] := by have e9 : (((i : Nat) : Int) + 1) = (((i + 1) : Nat) : Int) := (by omega); rw [e9] at hl; exact hl
              refine lv_goto (tgt := 22) hx hb dX6_isOne_113 (by decide) ?_
              exact ih22 (i + 1) 1 _ _ _ (by omega) (by omega) (by rw [o1, ← hv, ← hs, if_pos (by omega)]) hB (lv_sub hl [0, 1, 4, 5, 6, 7] rfl)
            · refine lv_iload hx hb dX6_isOne_80 (lv_at hl 0 rfl) ?_
              refine z_if_eq (tgt := 107) hx hb dX6_isOne_82 (by decide) ⟨by decide, by decide⟩ (fun c_43 => ?_) (fun c_43 => ?_)
              · exact absurd c_43 (by decide)
              · refine lv_iload hx hb dX6_isOne_85 (lv_at hl 1 rfl) ?_
                refine lv_bipush (v := iZ (-9)) hx hb dX6_isOne_87 (by decide) ?_
                refine z_icmp_eq (tgt := 107) hx hb dX6_isOne_89 (by decide) ⟨by omega, by omega⟩ ⟨by decide, by decide⟩ (fun c_44 => ?_) (fun c_44 => ?_)
                · refine lv_iconst (v := iZ 0) hx hb dX6_isOne_107 rfl ?_
                  refine lv_istore (lv' := [(4, .int (iZ 0)), (7, .int (iZ 1)), (6, .int (iZ qs)), (5, .int (iZ ((i : Nat) : Int))), (3, .int (iZ (σ 114 (1 + k)))), (0, .ref (tad θ 111)), (1, .ref (tad θ 114)), (2, .int (iZ ((k : Nat) : Int)))]) hx hb dX6_isOne_108 hl (by decide) rfl (fun ls hl => ?_)
                  refine z_iinc (k := 3) (lv' := [(5, .int (iZ (((i : Nat) : Int) + 1))), (4, .int (iZ 0)), (7, .int (iZ 1)), (6, .int (iZ qs)), (3, .int (iZ (σ 114 (1 + k)))), (0, .ref (tad θ 111)), (1, .ref (tad θ 114)), (2, .int (iZ ((k : Nat) : Int)))]) hx hb dX6_isOne_110 hl rfl (by decide) rfl (fun ls hl => ?_)
                  have hl : lv_has ls 8 [(5, .int (iZ (((i + 1) : Nat) : Int))), (4, .int (iZ 0)), (7, .int (iZ 1)), (6, .int (iZ qs)), (3, .int (iZ (σ 114 (1 + k)))), (0, .ref (tad θ 111)), (1, .ref (tad θ 114)), (2, .int (iZ ((k : Nat) : Int)))] := by have e9 : (((i : Nat) : Int) + 1) = (((i + 1) : Nat) : Int) := (by omega); rw [e9] at hl; exact hl
                  refine lv_goto (tgt := 22) hx hb dX6_isOne_113 (by decide) ?_
                  exact ih22 (i + 1) 0 _ _ _ (by omega) (by omega) (by rw [o1, ← hv, ← hs, if_neg (by omega)]) hB (lv_sub hl [0, 1, 4, 5, 6, 7] rfl)
                · refine lv_aload_n hx hb dX6_isOne_92 rfl (lv_at hl 5 rfl) ?_
                  refine g_getr (k := 23) (j := 126) hx hb hts hown hK hθ hB cf6 (by decide) rfl (by decide) kw_682 rfl rfl dX6_isOne_93 ?_
                  refine lv_iload hx hb dX6_isOne_96 (lv_at hl 1 rfl) ?_
                  refine g_iald (k := qs.toNat) hx hb hK hB (by decide) rfl (by omega) (Nat.lt_of_lt_of_eq (by omega : qs.toNat < 8) (Eq.symm rfl)) (by decide) dX6_isOne_98 ?_
                  have hr_45 := hR 126 (qs.toNat)
                  refine lv_iconst (v := iZ 1) hx hb dX6_isOne_99 rfl ?_
                  refine z_icmp_ne (tgt := 107) hx hb dX6_isOne_100 (by decide) ⟨by omega, by omega⟩ ⟨by decide, by decide⟩ (fun c_46 => ?_) (fun c_46 => ?_)
                  · refine lv_iconst (v := iZ 0) hx hb dX6_isOne_107 rfl ?_
                    refine lv_istore (lv' := [(4, .int (iZ 0)), (7, .int (iZ 1)), (6, .int (iZ qs)), (5, .int (iZ ((i : Nat) : Int))), (3, .int (iZ (σ 114 (1 + k)))), (0, .ref (tad θ 111)), (1, .ref (tad θ 114)), (2, .int (iZ ((k : Nat) : Int)))]) hx hb dX6_isOne_108 hl (by decide) rfl (fun ls hl => ?_)
                    refine z_iinc (k := 3) (lv' := [(5, .int (iZ (((i : Nat) : Int) + 1))), (4, .int (iZ 0)), (7, .int (iZ 1)), (6, .int (iZ qs)), (3, .int (iZ (σ 114 (1 + k)))), (0, .ref (tad θ 111)), (1, .ref (tad θ 114)), (2, .int (iZ ((k : Nat) : Int)))]) hx hb dX6_isOne_110 hl rfl (by decide) rfl (fun ls hl => ?_)
                    have hl : lv_has ls 8 [(5, .int (iZ (((i + 1) : Nat) : Int))), (4, .int (iZ 0)), (7, .int (iZ 1)), (6, .int (iZ qs)), (3, .int (iZ (σ 114 (1 + k)))), (0, .ref (tad θ 111)), (1, .ref (tad θ 114)), (2, .int (iZ ((k : Nat) : Int)))] := by have e9 : (((i : Nat) : Int) + 1) = (((i + 1) : Nat) : Int) := (by omega); rw [e9] at hl; exact hl
                    refine lv_goto (tgt := 22) hx hb dX6_isOne_113 (by decide) ?_
                    exact ih22 (i + 1) 0 _ _ _ (by omega) (by omega) (by rw [o1, ← hv, ← hs, if_neg (by omega)]) hB (lv_sub hl [0, 1, 4, 5, 6, 7] rfl)
                  · refine lv_iconst (v := iZ 1) hx hb dX6_isOne_103 rfl ?_
                    refine lv_goto (tgt := 108) hx hb dX6_isOne_104 (by decide) ?_
                    refine lv_istore (lv' := [(4, .int (iZ 1)), (7, .int (iZ 1)), (6, .int (iZ qs)), (5, .int (iZ ((i : Nat) : Int))), (3, .int (iZ (σ 114 (1 + k)))), (0, .ref (tad θ 111)), (1, .ref (tad θ 114)), (2, .int (iZ ((k : Nat) : Int)))]) hx hb dX6_isOne_108 hl (by decide) rfl (fun ls hl => ?_)
                    refine z_iinc (k := 3) (lv' := [(5, .int (iZ (((i : Nat) : Int) + 1))), (4, .int (iZ 1)), (7, .int (iZ 1)), (6, .int (iZ qs)), (3, .int (iZ (σ 114 (1 + k)))), (0, .ref (tad θ 111)), (1, .ref (tad θ 114)), (2, .int (iZ ((k : Nat) : Int)))]) hx hb dX6_isOne_110 hl rfl (by decide) rfl (fun ls hl => ?_)
                    have hl : lv_has ls 8 [(5, .int (iZ (((i + 1) : Nat) : Int))), (4, .int (iZ 1)), (7, .int (iZ 1)), (6, .int (iZ qs)), (3, .int (iZ (σ 114 (1 + k)))), (0, .ref (tad θ 111)), (1, .ref (tad θ 114)), (2, .int (iZ ((k : Nat) : Int)))] := by have e9 : (((i : Nat) : Int) + 1) = (((i + 1) : Nat) : Int) := (by omega); rw [e9] at hl; exact hl
                    refine lv_goto (tgt := 22) hx hb dX6_isOne_113 (by decide) ?_
                    exact ih22 (i + 1) 1 _ _ _ (by omega) (by omega) (by rw [o1, ← hv, ← hs, if_pos (by omega)]) hB (lv_sub hl [0, 1, 4, 5, 6, 7] rfl)
          · refine lv_iload_n hx hb dX6_isOne_51 rfl (lv_at hl 3 rfl) ?_
            refine lv_bipush (v := iZ 9) hx hb dX6_isOne_52 (by decide) ?_
            refine z_icmp_eq (tgt := 63) hx hb dX6_isOne_54 (by decide) ⟨by omega, by omega⟩ ⟨by decide, by decide⟩ (fun c_47 => ?_) (fun c_47 => ?_)
            · refine lv_iload hx hb dX6_isOne_63 (lv_at hl 1 rfl) ?_
              refine z_if_ne (tgt := 72) hx hb dX6_isOne_65 (by decide) ⟨by omega, by omega⟩ (fun c_48 => ?_) (fun c_48 => ?_)
              · refine lv_iconst (v := iZ 0) hx hb dX6_isOne_72 rfl ?_
                refine lv_istore (lv' := [(7, .int (iZ 0)), (6, .int (iZ qs)), (5, .int (iZ ((i : Nat) : Int))), (4, .int (iZ v)), (3, .int (iZ (σ 114 (1 + k)))), (0, .ref (tad θ 111)), (1, .ref (tad θ 114)), (2, .int (iZ ((k : Nat) : Int)))]) hx hb dX6_isOne_73 hl (by decide) rfl (fun ls hl => ?_)
                refine lv_iload hx hb dX6_isOne_75 (lv_at hl 3 rfl) ?_
                refine z_if_ne (tgt := 103) hx hb dX6_isOne_77 (by decide) ⟨by omega, by omega⟩ (fun c_49 => ?_) (fun c_49 => ?_)
                · refine lv_iconst (v := iZ 1) hx hb dX6_isOne_103 rfl ?_
                  refine lv_goto (tgt := 108) hx hb dX6_isOne_104 (by decide) ?_
                  refine lv_istore (lv' := [(4, .int (iZ 1)), (7, .int (iZ 0)), (6, .int (iZ qs)), (5, .int (iZ ((i : Nat) : Int))), (3, .int (iZ (σ 114 (1 + k)))), (0, .ref (tad θ 111)), (1, .ref (tad θ 114)), (2, .int (iZ ((k : Nat) : Int)))]) hx hb dX6_isOne_108 hl (by decide) rfl (fun ls hl => ?_)
                  refine z_iinc (k := 3) (lv' := [(5, .int (iZ (((i : Nat) : Int) + 1))), (4, .int (iZ 1)), (7, .int (iZ 0)), (6, .int (iZ qs)), (3, .int (iZ (σ 114 (1 + k)))), (0, .ref (tad θ 111)), (1, .ref (tad θ 114)), (2, .int (iZ ((k : Nat) : Int)))]) hx hb dX6_isOne_110 hl rfl (by decide) rfl (fun ls hl => ?_)
                  have hl : lv_has ls 8 [(5, .int (iZ (((i + 1) : Nat) : Int))), (4, .int (iZ 1)), (7, .int (iZ 0)), (6, .int (iZ qs)), (3, .int (iZ (σ 114 (1 + k)))), (0, .ref (tad θ 111)), (1, .ref (tad θ 114)), (2, .int (iZ ((k : Nat) : Int)))] := by have e9 : (((i : Nat) : Int) + 1) = (((i + 1) : Nat) : Int) := (by omega); rw [e9] at hl; exact hl
                  refine lv_goto (tgt := 22) hx hb dX6_isOne_113 (by decide) ?_
                  exact ih22 (i + 1) 1 _ _ _ (by omega) (by omega) (by rw [o1, ← hv, ← hs, if_pos (by omega)]) hB (lv_sub hl [0, 1, 4, 5, 6, 7] rfl)
                · refine lv_iload hx hb dX6_isOne_80 (lv_at hl 0 rfl) ?_
                  refine z_if_eq (tgt := 107) hx hb dX6_isOne_82 (by decide) ⟨by decide, by decide⟩ (fun c_50 => ?_) (fun c_50 => ?_)
                  · refine lv_iconst (v := iZ 0) hx hb dX6_isOne_107 rfl ?_
                    refine lv_istore (lv' := [(4, .int (iZ 0)), (7, .int (iZ 0)), (6, .int (iZ qs)), (5, .int (iZ ((i : Nat) : Int))), (3, .int (iZ (σ 114 (1 + k)))), (0, .ref (tad θ 111)), (1, .ref (tad θ 114)), (2, .int (iZ ((k : Nat) : Int)))]) hx hb dX6_isOne_108 hl (by decide) rfl (fun ls hl => ?_)
                    refine z_iinc (k := 3) (lv' := [(5, .int (iZ (((i : Nat) : Int) + 1))), (4, .int (iZ 0)), (7, .int (iZ 0)), (6, .int (iZ qs)), (3, .int (iZ (σ 114 (1 + k)))), (0, .ref (tad θ 111)), (1, .ref (tad θ 114)), (2, .int (iZ ((k : Nat) : Int)))]) hx hb dX6_isOne_110 hl rfl (by decide) rfl (fun ls hl => ?_)
                    have hl : lv_has ls 8 [(5, .int (iZ (((i + 1) : Nat) : Int))), (4, .int (iZ 0)), (7, .int (iZ 0)), (6, .int (iZ qs)), (3, .int (iZ (σ 114 (1 + k)))), (0, .ref (tad θ 111)), (1, .ref (tad θ 114)), (2, .int (iZ ((k : Nat) : Int)))] := by have e9 : (((i : Nat) : Int) + 1) = (((i + 1) : Nat) : Int) := (by omega); rw [e9] at hl; exact hl
                    refine lv_goto (tgt := 22) hx hb dX6_isOne_113 (by decide) ?_
                    exact ih22 (i + 1) 0 _ _ _ (by omega) (by omega) (by rw [o1, ← hv, ← hs, if_neg (by omega)]) hB (lv_sub hl [0, 1, 4, 5, 6, 7] rfl)
                  · exact absurd (by decide) c_50
              · refine lv_iconst (v := iZ 1) hx hb dX6_isOne_68 rfl ?_
                refine lv_goto (tgt := 73) hx hb dX6_isOne_69 (by decide) ?_
                refine lv_istore (lv' := [(7, .int (iZ 1)), (6, .int (iZ qs)), (5, .int (iZ ((i : Nat) : Int))), (4, .int (iZ v)), (3, .int (iZ (σ 114 (1 + k)))), (0, .ref (tad θ 111)), (1, .ref (tad θ 114)), (2, .int (iZ ((k : Nat) : Int)))]) hx hb dX6_isOne_73 hl (by decide) rfl (fun ls hl => ?_)
                refine lv_iload hx hb dX6_isOne_75 (lv_at hl 3 rfl) ?_
                refine z_if_ne (tgt := 103) hx hb dX6_isOne_77 (by decide) ⟨by omega, by omega⟩ (fun c_51 => ?_) (fun c_51 => ?_)
                · refine lv_iconst (v := iZ 1) hx hb dX6_isOne_103 rfl ?_
                  refine lv_goto (tgt := 108) hx hb dX6_isOne_104 (by decide) ?_
                  refine lv_istore (lv' := [(4, .int (iZ 1)), (7, .int (iZ 1)), (6, .int (iZ qs)), (5, .int (iZ ((i : Nat) : Int))), (3, .int (iZ (σ 114 (1 + k)))), (0, .ref (tad θ 111)), (1, .ref (tad θ 114)), (2, .int (iZ ((k : Nat) : Int)))]) hx hb dX6_isOne_108 hl (by decide) rfl (fun ls hl => ?_)
                  refine z_iinc (k := 3) (lv' := [(5, .int (iZ (((i : Nat) : Int) + 1))), (4, .int (iZ 1)), (7, .int (iZ 1)), (6, .int (iZ qs)), (3, .int (iZ (σ 114 (1 + k)))), (0, .ref (tad θ 111)), (1, .ref (tad θ 114)), (2, .int (iZ ((k : Nat) : Int)))]) hx hb dX6_isOne_110 hl rfl (by decide) rfl (fun ls hl => ?_)
                  have hl : lv_has ls 8 [(5, .int (iZ (((i + 1) : Nat) : Int))), (4, .int (iZ 1)), (7, .int (iZ 1)), (6, .int (iZ qs)), (3, .int (iZ (σ 114 (1 + k)))), (0, .ref (tad θ 111)), (1, .ref (tad θ 114)), (2, .int (iZ ((k : Nat) : Int)))] := by have e9 : (((i : Nat) : Int) + 1) = (((i + 1) : Nat) : Int) := (by omega); rw [e9] at hl; exact hl
                  refine lv_goto (tgt := 22) hx hb dX6_isOne_113 (by decide) ?_
                  exact ih22 (i + 1) 1 _ _ _ (by omega) (by omega) (by rw [o1, ← hv, ← hs, if_pos (by omega)]) hB (lv_sub hl [0, 1, 4, 5, 6, 7] rfl)
                · refine lv_iload hx hb dX6_isOne_80 (lv_at hl 0 rfl) ?_
                  refine z_if_eq (tgt := 107) hx hb dX6_isOne_82 (by decide) ⟨by decide, by decide⟩ (fun c_52 => ?_) (fun c_52 => ?_)
                  · exact absurd c_52 (by decide)
                  · refine lv_iload hx hb dX6_isOne_85 (lv_at hl 1 rfl) ?_
                    refine lv_bipush (v := iZ (-9)) hx hb dX6_isOne_87 (by decide) ?_
                    refine z_icmp_eq (tgt := 107) hx hb dX6_isOne_89 (by decide) ⟨by omega, by omega⟩ ⟨by decide, by decide⟩ (fun c_53 => ?_) (fun c_53 => ?_)
                    · refine lv_iconst (v := iZ 0) hx hb dX6_isOne_107 rfl ?_
                      refine lv_istore (lv' := [(4, .int (iZ 0)), (7, .int (iZ 1)), (6, .int (iZ qs)), (5, .int (iZ ((i : Nat) : Int))), (3, .int (iZ (σ 114 (1 + k)))), (0, .ref (tad θ 111)), (1, .ref (tad θ 114)), (2, .int (iZ ((k : Nat) : Int)))]) hx hb dX6_isOne_108 hl (by decide) rfl (fun ls hl => ?_)
                      refine z_iinc (k := 3) (lv' := [(5, .int (iZ (((i : Nat) : Int) + 1))), (4, .int (iZ 0)), (7, .int (iZ 1)), (6, .int (iZ qs)), (3, .int (iZ (σ 114 (1 + k)))), (0, .ref (tad θ 111)), (1, .ref (tad θ 114)), (2, .int (iZ ((k : Nat) : Int)))]) hx hb dX6_isOne_110 hl rfl (by decide) rfl (fun ls hl => ?_)
                      have hl : lv_has ls 8 [(5, .int (iZ (((i + 1) : Nat) : Int))), (4, .int (iZ 0)), (7, .int (iZ 1)), (6, .int (iZ qs)), (3, .int (iZ (σ 114 (1 + k)))), (0, .ref (tad θ 111)), (1, .ref (tad θ 114)), (2, .int (iZ ((k : Nat) : Int)))] := by have e9 : (((i : Nat) : Int) + 1) = (((i + 1) : Nat) : Int) := (by omega); rw [e9] at hl; exact hl
                      refine lv_goto (tgt := 22) hx hb dX6_isOne_113 (by decide) ?_
                      exact ih22 (i + 1) 0 _ _ _ (by omega) (by omega) (by rw [o1, ← hv, ← hs, if_neg (by omega)]) hB (lv_sub hl [0, 1, 4, 5, 6, 7] rfl)
                    · refine lv_aload_n hx hb dX6_isOne_92 rfl (lv_at hl 5 rfl) ?_
                      refine g_getr (k := 23) (j := 126) hx hb hts hown hK hθ hB cf6 (by decide) rfl (by decide) kw_682 rfl rfl dX6_isOne_93 ?_
                      refine lv_iload hx hb dX6_isOne_96 (lv_at hl 1 rfl) ?_
                      refine g_iald (k := qs.toNat) hx hb hK hB (by decide) rfl (by omega) (Nat.lt_of_lt_of_eq (by omega : qs.toNat < 8) (Eq.symm rfl)) (by decide) dX6_isOne_98 ?_
                      have hr_54 := hR 126 (qs.toNat)
                      refine lv_iconst (v := iZ 1) hx hb dX6_isOne_99 rfl ?_
                      refine z_icmp_ne (tgt := 107) hx hb dX6_isOne_100 (by decide) ⟨by omega, by omega⟩ ⟨by decide, by decide⟩ (fun c_55 => ?_) (fun c_55 => ?_)
                      · refine lv_iconst (v := iZ 0) hx hb dX6_isOne_107 rfl ?_
                        refine lv_istore (lv' := [(4, .int (iZ 0)), (7, .int (iZ 1)), (6, .int (iZ qs)), (5, .int (iZ ((i : Nat) : Int))), (3, .int (iZ (σ 114 (1 + k)))), (0, .ref (tad θ 111)), (1, .ref (tad θ 114)), (2, .int (iZ ((k : Nat) : Int)))]) hx hb dX6_isOne_108 hl (by decide) rfl (fun ls hl => ?_)
                        refine z_iinc (k := 3) (lv' := [(5, .int (iZ (((i : Nat) : Int) + 1))), (4, .int (iZ 0)), (7, .int (iZ 1)), (6, .int (iZ qs)), (3, .int (iZ (σ 114 (1 + k)))), (0, .ref (tad θ 111)), (1, .ref (tad θ 114)), (2, .int (iZ ((k : Nat) : Int)))]) hx hb dX6_isOne_110 hl rfl (by decide) rfl (fun ls hl => ?_)
                        have hl : lv_has ls 8 [(5, .int (iZ (((i + 1) : Nat) : Int))), (4, .int (iZ 0)), (7, .int (iZ 1)), (6, .int (iZ qs)), (3, .int (iZ (σ 114 (1 + k)))), (0, .ref (tad θ 111)), (1, .ref (tad θ 114)), (2, .int (iZ ((k : Nat) : Int)))] := by have e9 : (((i : Nat) : Int) + 1) = (((i + 1) : Nat) : Int) := (by omega); rw [e9] at hl; exact hl
                        refine lv_goto (tgt := 22) hx hb dX6_isOne_113 (by decide) ?_
                        exact ih22 (i + 1) 0 _ _ _ (by omega) (by omega) (by rw [o1, ← hv, ← hs, if_neg (by omega)]) hB (lv_sub hl [0, 1, 4, 5, 6, 7] rfl)
                      · refine lv_iconst (v := iZ 1) hx hb dX6_isOne_103 rfl ?_
                        refine lv_goto (tgt := 108) hx hb dX6_isOne_104 (by decide) ?_
                        refine lv_istore (lv' := [(4, .int (iZ 1)), (7, .int (iZ 1)), (6, .int (iZ qs)), (5, .int (iZ ((i : Nat) : Int))), (3, .int (iZ (σ 114 (1 + k)))), (0, .ref (tad θ 111)), (1, .ref (tad θ 114)), (2, .int (iZ ((k : Nat) : Int)))]) hx hb dX6_isOne_108 hl (by decide) rfl (fun ls hl => ?_)
                        refine z_iinc (k := 3) (lv' := [(5, .int (iZ (((i : Nat) : Int) + 1))), (4, .int (iZ 1)), (7, .int (iZ 1)), (6, .int (iZ qs)), (3, .int (iZ (σ 114 (1 + k)))), (0, .ref (tad θ 111)), (1, .ref (tad θ 114)), (2, .int (iZ ((k : Nat) : Int)))]) hx hb dX6_isOne_110 hl rfl (by decide) rfl (fun ls hl => ?_)
                        have hl : lv_has ls 8 [(5, .int (iZ (((i + 1) : Nat) : Int))), (4, .int (iZ 1)), (7, .int (iZ 1)), (6, .int (iZ qs)), (3, .int (iZ (σ 114 (1 + k)))), (0, .ref (tad θ 111)), (1, .ref (tad θ 114)), (2, .int (iZ ((k : Nat) : Int)))] := by have e9 : (((i : Nat) : Int) + 1) = (((i + 1) : Nat) : Int) := (by omega); rw [e9] at hl; exact hl
                        refine lv_goto (tgt := 22) hx hb dX6_isOne_113 (by decide) ?_
                        exact ih22 (i + 1) 1 _ _ _ (by omega) (by omega) (by rw [o1, ← hv, ← hs, if_pos (by omega)]) hB (lv_sub hl [0, 1, 4, 5, 6, 7] rfl)
            · refine lv_iload_n hx hb dX6_isOne_57 rfl (lv_at hl 3 rfl) ?_
              refine lv_bipush (v := iZ 10) hx hb dX6_isOne_58 (by decide) ?_
              refine z_icmp_ne (tgt := 72) hx hb dX6_isOne_60 (by decide) ⟨by omega, by omega⟩ ⟨by decide, by decide⟩ (fun c_56 => ?_) (fun c_56 => ?_)
              · refine lv_iconst (v := iZ 0) hx hb dX6_isOne_72 rfl ?_
                refine lv_istore (lv' := [(7, .int (iZ 0)), (6, .int (iZ qs)), (5, .int (iZ ((i : Nat) : Int))), (4, .int (iZ v)), (3, .int (iZ (σ 114 (1 + k)))), (0, .ref (tad θ 111)), (1, .ref (tad θ 114)), (2, .int (iZ ((k : Nat) : Int)))]) hx hb dX6_isOne_73 hl (by decide) rfl (fun ls hl => ?_)
                refine lv_iload hx hb dX6_isOne_75 (lv_at hl 3 rfl) ?_
                refine z_if_ne (tgt := 103) hx hb dX6_isOne_77 (by decide) ⟨by omega, by omega⟩ (fun c_57 => ?_) (fun c_57 => ?_)
                · refine lv_iconst (v := iZ 1) hx hb dX6_isOne_103 rfl ?_
                  refine lv_goto (tgt := 108) hx hb dX6_isOne_104 (by decide) ?_
                  refine lv_istore (lv' := [(4, .int (iZ 1)), (7, .int (iZ 0)), (6, .int (iZ qs)), (5, .int (iZ ((i : Nat) : Int))), (3, .int (iZ (σ 114 (1 + k)))), (0, .ref (tad θ 111)), (1, .ref (tad θ 114)), (2, .int (iZ ((k : Nat) : Int)))]) hx hb dX6_isOne_108 hl (by decide) rfl (fun ls hl => ?_)
                  refine z_iinc (k := 3) (lv' := [(5, .int (iZ (((i : Nat) : Int) + 1))), (4, .int (iZ 1)), (7, .int (iZ 0)), (6, .int (iZ qs)), (3, .int (iZ (σ 114 (1 + k)))), (0, .ref (tad θ 111)), (1, .ref (tad θ 114)), (2, .int (iZ ((k : Nat) : Int)))]) hx hb dX6_isOne_110 hl rfl (by decide) rfl (fun ls hl => ?_)
                  have hl : lv_has ls 8 [(5, .int (iZ (((i + 1) : Nat) : Int))), (4, .int (iZ 1)), (7, .int (iZ 0)), (6, .int (iZ qs)), (3, .int (iZ (σ 114 (1 + k)))), (0, .ref (tad θ 111)), (1, .ref (tad θ 114)), (2, .int (iZ ((k : Nat) : Int)))] := by have e9 : (((i : Nat) : Int) + 1) = (((i + 1) : Nat) : Int) := (by omega); rw [e9] at hl; exact hl
                  refine lv_goto (tgt := 22) hx hb dX6_isOne_113 (by decide) ?_
                  exact ih22 (i + 1) 1 _ _ _ (by omega) (by omega) (by rw [o1, ← hv, ← hs, if_pos (by omega)]) hB (lv_sub hl [0, 1, 4, 5, 6, 7] rfl)
                · refine lv_iload hx hb dX6_isOne_80 (lv_at hl 0 rfl) ?_
                  refine z_if_eq (tgt := 107) hx hb dX6_isOne_82 (by decide) ⟨by decide, by decide⟩ (fun c_58 => ?_) (fun c_58 => ?_)
                  · refine lv_iconst (v := iZ 0) hx hb dX6_isOne_107 rfl ?_
                    refine lv_istore (lv' := [(4, .int (iZ 0)), (7, .int (iZ 0)), (6, .int (iZ qs)), (5, .int (iZ ((i : Nat) : Int))), (3, .int (iZ (σ 114 (1 + k)))), (0, .ref (tad θ 111)), (1, .ref (tad θ 114)), (2, .int (iZ ((k : Nat) : Int)))]) hx hb dX6_isOne_108 hl (by decide) rfl (fun ls hl => ?_)
                    refine z_iinc (k := 3) (lv' := [(5, .int (iZ (((i : Nat) : Int) + 1))), (4, .int (iZ 0)), (7, .int (iZ 0)), (6, .int (iZ qs)), (3, .int (iZ (σ 114 (1 + k)))), (0, .ref (tad θ 111)), (1, .ref (tad θ 114)), (2, .int (iZ ((k : Nat) : Int)))]) hx hb dX6_isOne_110 hl rfl (by decide) rfl (fun ls hl => ?_)
                    have hl : lv_has ls 8 [(5, .int (iZ (((i + 1) : Nat) : Int))), (4, .int (iZ 0)), (7, .int (iZ 0)), (6, .int (iZ qs)), (3, .int (iZ (σ 114 (1 + k)))), (0, .ref (tad θ 111)), (1, .ref (tad θ 114)), (2, .int (iZ ((k : Nat) : Int)))] := by have e9 : (((i : Nat) : Int) + 1) = (((i + 1) : Nat) : Int) := (by omega); rw [e9] at hl; exact hl
                    refine lv_goto (tgt := 22) hx hb dX6_isOne_113 (by decide) ?_
                    exact ih22 (i + 1) 0 _ _ _ (by omega) (by omega) (by rw [o1, ← hv, ← hs, if_neg (by omega)]) hB (lv_sub hl [0, 1, 4, 5, 6, 7] rfl)
                  · exact absurd (by decide) c_58
              · refine lv_iload hx hb dX6_isOne_63 (lv_at hl 1 rfl) ?_
                refine z_if_ne (tgt := 72) hx hb dX6_isOne_65 (by decide) ⟨by omega, by omega⟩ (fun c_59 => ?_) (fun c_59 => ?_)
                · refine lv_iconst (v := iZ 0) hx hb dX6_isOne_72 rfl ?_
                  refine lv_istore (lv' := [(7, .int (iZ 0)), (6, .int (iZ qs)), (5, .int (iZ ((i : Nat) : Int))), (4, .int (iZ v)), (3, .int (iZ (σ 114 (1 + k)))), (0, .ref (tad θ 111)), (1, .ref (tad θ 114)), (2, .int (iZ ((k : Nat) : Int)))]) hx hb dX6_isOne_73 hl (by decide) rfl (fun ls hl => ?_)
                  refine lv_iload hx hb dX6_isOne_75 (lv_at hl 3 rfl) ?_
                  refine z_if_ne (tgt := 103) hx hb dX6_isOne_77 (by decide) ⟨by omega, by omega⟩ (fun c_60 => ?_) (fun c_60 => ?_)
                  · refine lv_iconst (v := iZ 1) hx hb dX6_isOne_103 rfl ?_
                    refine lv_goto (tgt := 108) hx hb dX6_isOne_104 (by decide) ?_
                    refine lv_istore (lv' := [(4, .int (iZ 1)), (7, .int (iZ 0)), (6, .int (iZ qs)), (5, .int (iZ ((i : Nat) : Int))), (3, .int (iZ (σ 114 (1 + k)))), (0, .ref (tad θ 111)), (1, .ref (tad θ 114)), (2, .int (iZ ((k : Nat) : Int)))]) hx hb dX6_isOne_108 hl (by decide) rfl (fun ls hl => ?_)
                    refine z_iinc (k := 3) (lv' := [(5, .int (iZ (((i : Nat) : Int) + 1))), (4, .int (iZ 1)), (7, .int (iZ 0)), (6, .int (iZ qs)), (3, .int (iZ (σ 114 (1 + k)))), (0, .ref (tad θ 111)), (1, .ref (tad θ 114)), (2, .int (iZ ((k : Nat) : Int)))]) hx hb dX6_isOne_110 hl rfl (by decide) rfl (fun ls hl => ?_)
                    have hl : lv_has ls 8 [(5, .int (iZ (((i + 1) : Nat) : Int))), (4, .int (iZ 1)), (7, .int (iZ 0)), (6, .int (iZ qs)), (3, .int (iZ (σ 114 (1 + k)))), (0, .ref (tad θ 111)), (1, .ref (tad θ 114)), (2, .int (iZ ((k : Nat) : Int)))] := by have e9 : (((i : Nat) : Int) + 1) = (((i + 1) : Nat) : Int) := (by omega); rw [e9] at hl; exact hl
                    refine lv_goto (tgt := 22) hx hb dX6_isOne_113 (by decide) ?_
                    exact ih22 (i + 1) 1 _ _ _ (by omega) (by omega) (by rw [o1, ← hv, ← hs, if_pos (by omega)]) hB (lv_sub hl [0, 1, 4, 5, 6, 7] rfl)
                  · refine lv_iload hx hb dX6_isOne_80 (lv_at hl 0 rfl) ?_
                    refine z_if_eq (tgt := 107) hx hb dX6_isOne_82 (by decide) ⟨by decide, by decide⟩ (fun c_61 => ?_) (fun c_61 => ?_)
                    · refine lv_iconst (v := iZ 0) hx hb dX6_isOne_107 rfl ?_
                      refine lv_istore (lv' := [(4, .int (iZ 0)), (7, .int (iZ 0)), (6, .int (iZ qs)), (5, .int (iZ ((i : Nat) : Int))), (3, .int (iZ (σ 114 (1 + k)))), (0, .ref (tad θ 111)), (1, .ref (tad θ 114)), (2, .int (iZ ((k : Nat) : Int)))]) hx hb dX6_isOne_108 hl (by decide) rfl (fun ls hl => ?_)
                      refine z_iinc (k := 3) (lv' := [(5, .int (iZ (((i : Nat) : Int) + 1))), (4, .int (iZ 0)), (7, .int (iZ 0)), (6, .int (iZ qs)), (3, .int (iZ (σ 114 (1 + k)))), (0, .ref (tad θ 111)), (1, .ref (tad θ 114)), (2, .int (iZ ((k : Nat) : Int)))]) hx hb dX6_isOne_110 hl rfl (by decide) rfl (fun ls hl => ?_)
                      have hl : lv_has ls 8 [(5, .int (iZ (((i + 1) : Nat) : Int))), (4, .int (iZ 0)), (7, .int (iZ 0)), (6, .int (iZ qs)), (3, .int (iZ (σ 114 (1 + k)))), (0, .ref (tad θ 111)), (1, .ref (tad θ 114)), (2, .int (iZ ((k : Nat) : Int)))] := by have e9 : (((i : Nat) : Int) + 1) = (((i + 1) : Nat) : Int) := (by omega); rw [e9] at hl; exact hl
                      refine lv_goto (tgt := 22) hx hb dX6_isOne_113 (by decide) ?_
                      exact ih22 (i + 1) 0 _ _ _ (by omega) (by omega) (by rw [o1, ← hv, ← hs, if_neg (by omega)]) hB (lv_sub hl [0, 1, 4, 5, 6, 7] rfl)
                    · exact absurd (by decide) c_61
                · refine lv_iconst (v := iZ 1) hx hb dX6_isOne_68 rfl ?_
                  refine lv_goto (tgt := 73) hx hb dX6_isOne_69 (by decide) ?_
                  refine lv_istore (lv' := [(7, .int (iZ 1)), (6, .int (iZ qs)), (5, .int (iZ ((i : Nat) : Int))), (4, .int (iZ v)), (3, .int (iZ (σ 114 (1 + k)))), (0, .ref (tad θ 111)), (1, .ref (tad θ 114)), (2, .int (iZ ((k : Nat) : Int)))]) hx hb dX6_isOne_73 hl (by decide) rfl (fun ls hl => ?_)
                  refine lv_iload hx hb dX6_isOne_75 (lv_at hl 3 rfl) ?_
                  refine z_if_ne (tgt := 103) hx hb dX6_isOne_77 (by decide) ⟨by omega, by omega⟩ (fun c_62 => ?_) (fun c_62 => ?_)
                  · refine lv_iconst (v := iZ 1) hx hb dX6_isOne_103 rfl ?_
                    refine lv_goto (tgt := 108) hx hb dX6_isOne_104 (by decide) ?_
                    refine lv_istore (lv' := [(4, .int (iZ 1)), (7, .int (iZ 1)), (6, .int (iZ qs)), (5, .int (iZ ((i : Nat) : Int))), (3, .int (iZ (σ 114 (1 + k)))), (0, .ref (tad θ 111)), (1, .ref (tad θ 114)), (2, .int (iZ ((k : Nat) : Int)))]) hx hb dX6_isOne_108 hl (by decide) rfl (fun ls hl => ?_)
                    refine z_iinc (k := 3) (lv' := [(5, .int (iZ (((i : Nat) : Int) + 1))), (4, .int (iZ 1)), (7, .int (iZ 1)), (6, .int (iZ qs)), (3, .int (iZ (σ 114 (1 + k)))), (0, .ref (tad θ 111)), (1, .ref (tad θ 114)), (2, .int (iZ ((k : Nat) : Int)))]) hx hb dX6_isOne_110 hl rfl (by decide) rfl (fun ls hl => ?_)
                    have hl : lv_has ls 8 [(5, .int (iZ (((i + 1) : Nat) : Int))), (4, .int (iZ 1)), (7, .int (iZ 1)), (6, .int (iZ qs)), (3, .int (iZ (σ 114 (1 + k)))), (0, .ref (tad θ 111)), (1, .ref (tad θ 114)), (2, .int (iZ ((k : Nat) : Int)))] := by have e9 : (((i : Nat) : Int) + 1) = (((i + 1) : Nat) : Int) := (by omega); rw [e9] at hl; exact hl
                    refine lv_goto (tgt := 22) hx hb dX6_isOne_113 (by decide) ?_
                    exact ih22 (i + 1) 1 _ _ _ (by omega) (by omega) (by rw [o1, ← hv, ← hs, if_pos (by omega)]) hB (lv_sub hl [0, 1, 4, 5, 6, 7] rfl)
                  · refine lv_iload hx hb dX6_isOne_80 (lv_at hl 0 rfl) ?_
                    refine z_if_eq (tgt := 107) hx hb dX6_isOne_82 (by decide) ⟨by decide, by decide⟩ (fun c_63 => ?_) (fun c_63 => ?_)
                    · exact absurd c_63 (by decide)
                    · refine lv_iload hx hb dX6_isOne_85 (lv_at hl 1 rfl) ?_
                      refine lv_bipush (v := iZ (-9)) hx hb dX6_isOne_87 (by decide) ?_
                      refine z_icmp_eq (tgt := 107) hx hb dX6_isOne_89 (by decide) ⟨by omega, by omega⟩ ⟨by decide, by decide⟩ (fun c_64 => ?_) (fun c_64 => ?_)
                      · refine lv_iconst (v := iZ 0) hx hb dX6_isOne_107 rfl ?_
                        refine lv_istore (lv' := [(4, .int (iZ 0)), (7, .int (iZ 1)), (6, .int (iZ qs)), (5, .int (iZ ((i : Nat) : Int))), (3, .int (iZ (σ 114 (1 + k)))), (0, .ref (tad θ 111)), (1, .ref (tad θ 114)), (2, .int (iZ ((k : Nat) : Int)))]) hx hb dX6_isOne_108 hl (by decide) rfl (fun ls hl => ?_)
                        refine z_iinc (k := 3) (lv' := [(5, .int (iZ (((i : Nat) : Int) + 1))), (4, .int (iZ 0)), (7, .int (iZ 1)), (6, .int (iZ qs)), (3, .int (iZ (σ 114 (1 + k)))), (0, .ref (tad θ 111)), (1, .ref (tad θ 114)), (2, .int (iZ ((k : Nat) : Int)))]) hx hb dX6_isOne_110 hl rfl (by decide) rfl (fun ls hl => ?_)
                        have hl : lv_has ls 8 [(5, .int (iZ (((i + 1) : Nat) : Int))), (4, .int (iZ 0)), (7, .int (iZ 1)), (6, .int (iZ qs)), (3, .int (iZ (σ 114 (1 + k)))), (0, .ref (tad θ 111)), (1, .ref (tad θ 114)), (2, .int (iZ ((k : Nat) : Int)))] := by have e9 : (((i : Nat) : Int) + 1) = (((i + 1) : Nat) : Int) := (by omega); rw [e9] at hl; exact hl
                        refine lv_goto (tgt := 22) hx hb dX6_isOne_113 (by decide) ?_
                        exact ih22 (i + 1) 0 _ _ _ (by omega) (by omega) (by rw [o1, ← hv, ← hs, if_neg (by omega)]) hB (lv_sub hl [0, 1, 4, 5, 6, 7] rfl)
                      · refine lv_aload_n hx hb dX6_isOne_92 rfl (lv_at hl 5 rfl) ?_
                        refine g_getr (k := 23) (j := 126) hx hb hts hown hK hθ hB cf6 (by decide) rfl (by decide) kw_682 rfl rfl dX6_isOne_93 ?_
                        refine lv_iload hx hb dX6_isOne_96 (lv_at hl 1 rfl) ?_
                        refine g_iald (k := qs.toNat) hx hb hK hB (by decide) rfl (by omega) (Nat.lt_of_lt_of_eq (by omega : qs.toNat < 8) (Eq.symm rfl)) (by decide) dX6_isOne_98 ?_
                        have hr_65 := hR 126 (qs.toNat)
                        refine lv_iconst (v := iZ 1) hx hb dX6_isOne_99 rfl ?_
                        refine z_icmp_ne (tgt := 107) hx hb dX6_isOne_100 (by decide) ⟨by omega, by omega⟩ ⟨by decide, by decide⟩ (fun c_66 => ?_) (fun c_66 => ?_)
                        · refine lv_iconst (v := iZ 0) hx hb dX6_isOne_107 rfl ?_
                          refine lv_istore (lv' := [(4, .int (iZ 0)), (7, .int (iZ 1)), (6, .int (iZ qs)), (5, .int (iZ ((i : Nat) : Int))), (3, .int (iZ (σ 114 (1 + k)))), (0, .ref (tad θ 111)), (1, .ref (tad θ 114)), (2, .int (iZ ((k : Nat) : Int)))]) hx hb dX6_isOne_108 hl (by decide) rfl (fun ls hl => ?_)
                          refine z_iinc (k := 3) (lv' := [(5, .int (iZ (((i : Nat) : Int) + 1))), (4, .int (iZ 0)), (7, .int (iZ 1)), (6, .int (iZ qs)), (3, .int (iZ (σ 114 (1 + k)))), (0, .ref (tad θ 111)), (1, .ref (tad θ 114)), (2, .int (iZ ((k : Nat) : Int)))]) hx hb dX6_isOne_110 hl rfl (by decide) rfl (fun ls hl => ?_)
                          have hl : lv_has ls 8 [(5, .int (iZ (((i + 1) : Nat) : Int))), (4, .int (iZ 0)), (7, .int (iZ 1)), (6, .int (iZ qs)), (3, .int (iZ (σ 114 (1 + k)))), (0, .ref (tad θ 111)), (1, .ref (tad θ 114)), (2, .int (iZ ((k : Nat) : Int)))] := by have e9 : (((i : Nat) : Int) + 1) = (((i + 1) : Nat) : Int) := (by omega); rw [e9] at hl; exact hl
                          refine lv_goto (tgt := 22) hx hb dX6_isOne_113 (by decide) ?_
                          exact ih22 (i + 1) 0 _ _ _ (by omega) (by omega) (by rw [o1, ← hv, ← hs, if_neg (by omega)]) hB (lv_sub hl [0, 1, 4, 5, 6, 7] rfl)
                        · refine lv_iconst (v := iZ 1) hx hb dX6_isOne_103 rfl ?_
                          refine lv_goto (tgt := 108) hx hb dX6_isOne_104 (by decide) ?_
                          refine lv_istore (lv' := [(4, .int (iZ 1)), (7, .int (iZ 1)), (6, .int (iZ qs)), (5, .int (iZ ((i : Nat) : Int))), (3, .int (iZ (σ 114 (1 + k)))), (0, .ref (tad θ 111)), (1, .ref (tad θ 114)), (2, .int (iZ ((k : Nat) : Int)))]) hx hb dX6_isOne_108 hl (by decide) rfl (fun ls hl => ?_)
                          refine z_iinc (k := 3) (lv' := [(5, .int (iZ (((i : Nat) : Int) + 1))), (4, .int (iZ 1)), (7, .int (iZ 1)), (6, .int (iZ qs)), (3, .int (iZ (σ 114 (1 + k)))), (0, .ref (tad θ 111)), (1, .ref (tad θ 114)), (2, .int (iZ ((k : Nat) : Int)))]) hx hb dX6_isOne_110 hl rfl (by decide) rfl (fun ls hl => ?_)
                          have hl : lv_has ls 8 [(5, .int (iZ (((i + 1) : Nat) : Int))), (4, .int (iZ 1)), (7, .int (iZ 1)), (6, .int (iZ qs)), (3, .int (iZ (σ 114 (1 + k)))), (0, .ref (tad θ 111)), (1, .ref (tad θ 114)), (2, .int (iZ ((k : Nat) : Int)))] := by have e9 : (((i : Nat) : Int) + 1) = (((i + 1) : Nat) : Int) := (by omega); rw [e9] at hl; exact hl
                          refine lv_goto (tgt := 22) hx hb dX6_isOne_113 (by decide) ?_
                          exact ih22 (i + 1) 1 _ _ _ (by omega) (by omega) (by rw [o1, ← hv, ← hs, if_pos (by omega)]) hB (lv_sub hl [0, 1, 4, 5, 6, 7] rfl)
    exact loop22 _ 0 1 _ _ _ (Nat.lt_succ_self _) (by omega) (by rw [o1, if_pos (by omega)]) hB (lv_sub hl [0, 1, 2, 3, 4, 5] rfl)
set_option maxHeartbeats 4000000 in
set_option maxRecDepth 100000 in
theorem mX6_isRaw (l : Launch) (θ : gT) (hθ : gOK θ) (σ : gS) (z : gZ) (hW : Wf (σ 114)) (k : Nat) (hk : k < 8) (hn : (k : Int) < σ 114 0) : GI l θ yX6_isRaw cX6_isRaw 8 (some .boolean) 2 44 [.ref (tad θ 111), .ref (tad θ 114), .int (iZ ((k : Nat) : Int))] σ z (fun q σ' z' => (q = r1 (σ 114) (σ 126) k 3) ∧ σ' = σ ∧ z' = z) := by
  refine g_enter (ret := (some .boolean)) (by decide +kernel) (Nat.le_of_ble_eq_true rfl) ?_
  intro p e s m args below meth c ls F hB hl
  obtain ⟨hx, hb, hr, hml, hown, hts, hlk, hK, hst⟩ := F
  have hR := hB.1.2
  have hl : lv_has ls 8 [(0, .ref (tad θ 111)), (1, .ref (tad θ 114)), (2, .int (iZ ((k : Nat) : Int)))] := hl
  refine lv_aload_n hx hb dX6_isRaw_0 rfl (lv_at hl 1 rfl) ?_
  refine lv_iconst (v := iZ 1) hx hb dX6_isRaw_1 rfl ?_
  refine lv_iload_n hx hb dX6_isRaw_2 rfl (lv_at hl 2 rfl) ?_
  refine z_iadd hx hb dX6_isRaw_3 ?_
  refine g_iald (k := (1 + k)) hx hb hK hB (by decide) rfl (by omega) (Nat.lt_of_lt_of_eq (by omega : (1 + k) < 50) (Eq.symm rfl)) (by decide) dX6_isRaw_4 ?_
  have hr_1 := hR 114 (1 + k)
  refine lv_istore_n (lv' := [(3, .int (iZ (σ 114 (1 + k)))), (0, .ref (tad θ 111)), (1, .ref (tad θ 114)), (2, .int (iZ ((k : Nat) : Int)))]) hx hb dX6_isRaw_5 rfl hl (by decide) rfl (fun ls hl => ?_)
  refine lv_iconst (v := iZ 0) hx hb dX6_isRaw_6 rfl ?_
  refine lv_istore (lv' := [(4, .int (iZ 0)), (3, .int (iZ (σ 114 (1 + k)))), (0, .ref (tad θ 111)), (1, .ref (tad θ 114)), (2, .int (iZ ((k : Nat) : Int)))]) hx hb dX6_isRaw_7 hl (by decide) rfl (fun ls hl => ?_)
  refine lv_iconst (v := iZ 0) hx hb dX6_isRaw_9 rfl ?_
  refine lv_istore (lv' := [(5, .int (iZ 0)), (4, .int (iZ 0)), (3, .int (iZ (σ 114 (1 + k)))), (0, .ref (tad θ 111)), (1, .ref (tad θ 114)), (2, .int (iZ ((k : Nat) : Int)))]) hx hb dX6_isRaw_10 hl (by decide) rfl (fun ls hl => ?_)
  have loop12 : ∀ (n12 : Nat) (i : Nat) (v : Int) (H : Heap) (locs : List Loc) (ls : Array Slot), 3 - i < n12 → (i ≤ 3) → (v = r1 (σ 114) (σ 126) k i) →  gB θ σ z s.heap H locs → lv_has ls 8 [(5, .int (iZ ((i : Nat) : Int))), (4, .int (iZ v)), (3, .int (iZ (σ 114 (1 + k)))), (0, .ref (tad θ 111)), (1, .ref (tad θ 114)), (2, .int (iZ ((k : Nat) : Int)))] → W p l e (gRm 2 44) s m args below meth c H locs 0 0 (MQ below (gQi θ (fun q σ' z' => (q = r1 (σ 114) (σ 126) k 3) ∧ σ' = σ ∧ z' = z)) args s 0 0 (tA θ)) (F0 m 12 ls []) := by
    intro n12
    induction n12 with
    | zero => intro i v H locs ls hmu; exact absurd hmu (Nat.not_lt_zero _)
    | succ n12 ih12 =>
      intro i v H locs ls hmu hi hv hB hl
      have hR := hB.1.2
      have hv01 := r1_01 (σ 114) (σ 126) k i
      rw [← hv] at hv01
      refine lv_iload hx hb dX6_isRaw_12 (lv_at hl 0 rfl) ?_
      refine lv_iconst (v := iZ 3) hx hb dX6_isRaw_14 rfl ?_
      refine z_icmp_ge (tgt := 122) hx hb dX6_isRaw_15 (by decide) ⟨by omega, by omega⟩ ⟨by decide, by decide⟩ (fun c_2 => ?_) (fun c_2 => ?_)
      · refine lv_iload hx hb dX6_isRaw_122 (lv_at hl 1 rfl) ?_
        exact g_zret hx hb hr hlk hB dX6_isRaw_124 (by omega) (⟨by rw [hv, show i = 3 by omega], rfl, rfl⟩)
      · refine lv_aload_n hx hb dX6_isRaw_18 rfl (lv_at hl 4 rfl) ?_
        refine lv_iload_n hx hb dX6_isRaw_19 rfl (lv_at hl 5 rfl) ?_
        refine lv_iload hx hb dX6_isRaw_20 (lv_at hl 0 rfl) ?_
        refine g_calli (g_runS (As := [.ref (tad θ 114), .int (iZ ((k : Nat) : Int)), .int (iZ ((i : Nat) : Int))]) (rest := []) hx hb hml hown hts hK hst hB (mX6_streamOf l θ hθ σ z 114 (Or.inl rfl) k i hk (by omega)) ms_X6_streamOf kw_832 rfl hl.1 rfl (Nat.le_of_ble_eq_true rfl) ⟨by decide, by decide⟩ ⟨Nat.le_refl _, Nat.le_refl _⟩ dX6_isRaw_22) hB (fun qs σ_3 z_4 H locs hqs hps hB => ?_)
        obtain ⟨hps, e1_, e2_⟩ := hps
        rw [e1_, e2_] at hB
        clear e1_ e2_
        have hs := sO_of hps
        have hin := sO_in hW hk hn (show i < 3 by omega)
        rw [← hs] at hin
        refine lv_istore (lv' := [(6, .int (iZ qs)), (5, .int (iZ ((i : Nat) : Int))), (4, .int (iZ v)), (3, .int (iZ (σ 114 (1 + k)))), (0, .ref (tad θ 111)), (1, .ref (tad θ 114)), (2, .int (iZ ((k : Nat) : Int)))]) hx hb dX6_isRaw_25 hl (by decide) rfl (fun ls hl => ?_)
        refine lv_iload_n hx hb dX6_isRaw_27 rfl (lv_at hl 3 rfl) ?_
        refine lv_bipush (v := iZ 6) hx hb dX6_isRaw_28 (by decide) ?_
        refine z_icmp_eq (tgt := 74) hx hb dX6_isRaw_30 (by decide) ⟨by omega, by omega⟩ ⟨by decide, by decide⟩ (fun c_5 => ?_) (fun c_5 => ?_)
        · refine lv_iconst (v := iZ 1) hx hb dX6_isRaw_74 rfl ?_
          refine lv_goto (tgt := 79) hx hb dX6_isRaw_75 (by decide) ?_
          refine lv_istore (lv' := [(7, .int (iZ 1)), (6, .int (iZ qs)), (5, .int (iZ ((i : Nat) : Int))), (4, .int (iZ v)), (3, .int (iZ (σ 114 (1 + k)))), (0, .ref (tad θ 111)), (1, .ref (tad θ 114)), (2, .int (iZ ((k : Nat) : Int)))]) hx hb dX6_isRaw_79 hl (by decide) rfl (fun ls hl => ?_)
          refine lv_iload hx hb dX6_isRaw_81 (lv_at hl 3 rfl) ?_
          refine z_if_ne (tgt := 109) hx hb dX6_isRaw_83 (by decide) ⟨by omega, by omega⟩ (fun c_6 => ?_) (fun c_6 => ?_)
          · refine lv_iconst (v := iZ 1) hx hb dX6_isRaw_109 rfl ?_
            refine lv_goto (tgt := 114) hx hb dX6_isRaw_110 (by decide) ?_
            refine lv_istore (lv' := [(4, .int (iZ 1)), (7, .int (iZ 1)), (6, .int (iZ qs)), (5, .int (iZ ((i : Nat) : Int))), (3, .int (iZ (σ 114 (1 + k)))), (0, .ref (tad θ 111)), (1, .ref (tad θ 114)), (2, .int (iZ ((k : Nat) : Int)))]) hx hb dX6_isRaw_114 hl (by decide) rfl (fun ls hl => ?_)
            refine z_iinc (k := 3) (lv' := [(5, .int (iZ (((i : Nat) : Int) + 1))), (4, .int (iZ 1)), (7, .int (iZ 1)), (6, .int (iZ qs)), (3, .int (iZ (σ 114 (1 + k)))), (0, .ref (tad θ 111)), (1, .ref (tad θ 114)), (2, .int (iZ ((k : Nat) : Int)))]) hx hb dX6_isRaw_116 hl rfl (by decide) rfl (fun ls hl => ?_)
            have hl : lv_has ls 8 [(5, .int (iZ (((i + 1) : Nat) : Int))), (4, .int (iZ 1)), (7, .int (iZ 1)), (6, .int (iZ qs)), (3, .int (iZ (σ 114 (1 + k)))), (0, .ref (tad θ 111)), (1, .ref (tad θ 114)), (2, .int (iZ ((k : Nat) : Int)))] := by have e9 : (((i : Nat) : Int) + 1) = (((i + 1) : Nat) : Int) := (by omega); rw [e9] at hl; exact hl
            refine lv_goto (tgt := 12) hx hb dX6_isRaw_119 (by decide) ?_
            exact ih12 (i + 1) 1 _ _ _ (by omega) (by omega) (by rw [r1, ← hv, ← hs, if_pos (by omega)]) hB (lv_sub hl [0, 1, 4, 5, 6, 7] rfl)
          · refine lv_iload hx hb dX6_isRaw_86 (lv_at hl 0 rfl) ?_
            refine z_if_eq (tgt := 113) hx hb dX6_isRaw_88 (by decide) ⟨by decide, by decide⟩ (fun c_7 => ?_) (fun c_7 => ?_)
            · exact absurd c_7 (by decide)
            · refine lv_iload hx hb dX6_isRaw_91 (lv_at hl 1 rfl) ?_
              refine lv_bipush (v := iZ (-9)) hx hb dX6_isRaw_93 (by decide) ?_
              refine z_icmp_eq (tgt := 113) hx hb dX6_isRaw_95 (by decide) ⟨by omega, by omega⟩ ⟨by decide, by decide⟩ (fun c_8 => ?_) (fun c_8 => ?_)
              · refine lv_iconst (v := iZ 0) hx hb dX6_isRaw_113 rfl ?_
                refine lv_istore (lv' := [(4, .int (iZ 0)), (7, .int (iZ 1)), (6, .int (iZ qs)), (5, .int (iZ ((i : Nat) : Int))), (3, .int (iZ (σ 114 (1 + k)))), (0, .ref (tad θ 111)), (1, .ref (tad θ 114)), (2, .int (iZ ((k : Nat) : Int)))]) hx hb dX6_isRaw_114 hl (by decide) rfl (fun ls hl => ?_)
                refine z_iinc (k := 3) (lv' := [(5, .int (iZ (((i : Nat) : Int) + 1))), (4, .int (iZ 0)), (7, .int (iZ 1)), (6, .int (iZ qs)), (3, .int (iZ (σ 114 (1 + k)))), (0, .ref (tad θ 111)), (1, .ref (tad θ 114)), (2, .int (iZ ((k : Nat) : Int)))]) hx hb dX6_isRaw_116 hl rfl (by decide) rfl (fun ls hl => ?_)
                have hl : lv_has ls 8 [(5, .int (iZ (((i + 1) : Nat) : Int))), (4, .int (iZ 0)), (7, .int (iZ 1)), (6, .int (iZ qs)), (3, .int (iZ (σ 114 (1 + k)))), (0, .ref (tad θ 111)), (1, .ref (tad θ 114)), (2, .int (iZ ((k : Nat) : Int)))] := by have e9 : (((i : Nat) : Int) + 1) = (((i + 1) : Nat) : Int) := (by omega); rw [e9] at hl; exact hl
                refine lv_goto (tgt := 12) hx hb dX6_isRaw_119 (by decide) ?_
                exact ih12 (i + 1) 0 _ _ _ (by omega) (by omega) (by rw [r1, ← hv, ← hs, if_neg (by omega)]) hB (lv_sub hl [0, 1, 4, 5, 6, 7] rfl)
              · refine lv_aload_n hx hb dX6_isRaw_98 rfl (lv_at hl 5 rfl) ?_
                refine g_getr (k := 23) (j := 126) hx hb hts hown hK hθ hB cf6 (by decide) rfl (by decide) kw_682 rfl rfl dX6_isRaw_99 ?_
                refine lv_iload hx hb dX6_isRaw_102 (lv_at hl 1 rfl) ?_
                refine g_iald (k := qs.toNat) hx hb hK hB (by decide) rfl (by omega) (Nat.lt_of_lt_of_eq (by omega : qs.toNat < 8) (Eq.symm rfl)) (by decide) dX6_isRaw_104 ?_
                have hr_9 := hR 126 (qs.toNat)
                refine lv_iconst (v := iZ 1) hx hb dX6_isRaw_105 rfl ?_
                refine z_icmp_ne (tgt := 113) hx hb dX6_isRaw_106 (by decide) ⟨by omega, by omega⟩ ⟨by decide, by decide⟩ (fun c_10 => ?_) (fun c_10 => ?_)
                · refine lv_iconst (v := iZ 0) hx hb dX6_isRaw_113 rfl ?_
                  refine lv_istore (lv' := [(4, .int (iZ 0)), (7, .int (iZ 1)), (6, .int (iZ qs)), (5, .int (iZ ((i : Nat) : Int))), (3, .int (iZ (σ 114 (1 + k)))), (0, .ref (tad θ 111)), (1, .ref (tad θ 114)), (2, .int (iZ ((k : Nat) : Int)))]) hx hb dX6_isRaw_114 hl (by decide) rfl (fun ls hl => ?_)
                  refine z_iinc (k := 3) (lv' := [(5, .int (iZ (((i : Nat) : Int) + 1))), (4, .int (iZ 0)), (7, .int (iZ 1)), (6, .int (iZ qs)), (3, .int (iZ (σ 114 (1 + k)))), (0, .ref (tad θ 111)), (1, .ref (tad θ 114)), (2, .int (iZ ((k : Nat) : Int)))]) hx hb dX6_isRaw_116 hl rfl (by decide) rfl (fun ls hl => ?_)
                  have hl : lv_has ls 8 [(5, .int (iZ (((i + 1) : Nat) : Int))), (4, .int (iZ 0)), (7, .int (iZ 1)), (6, .int (iZ qs)), (3, .int (iZ (σ 114 (1 + k)))), (0, .ref (tad θ 111)), (1, .ref (tad θ 114)), (2, .int (iZ ((k : Nat) : Int)))] := by have e9 : (((i : Nat) : Int) + 1) = (((i + 1) : Nat) : Int) := (by omega); rw [e9] at hl; exact hl
                  refine lv_goto (tgt := 12) hx hb dX6_isRaw_119 (by decide) ?_
                  exact ih12 (i + 1) 0 _ _ _ (by omega) (by omega) (by rw [r1, ← hv, ← hs, if_neg (by omega)]) hB (lv_sub hl [0, 1, 4, 5, 6, 7] rfl)
                · refine lv_iconst (v := iZ 1) hx hb dX6_isRaw_109 rfl ?_
                  refine lv_goto (tgt := 114) hx hb dX6_isRaw_110 (by decide) ?_
                  refine lv_istore (lv' := [(4, .int (iZ 1)), (7, .int (iZ 1)), (6, .int (iZ qs)), (5, .int (iZ ((i : Nat) : Int))), (3, .int (iZ (σ 114 (1 + k)))), (0, .ref (tad θ 111)), (1, .ref (tad θ 114)), (2, .int (iZ ((k : Nat) : Int)))]) hx hb dX6_isRaw_114 hl (by decide) rfl (fun ls hl => ?_)
                  refine z_iinc (k := 3) (lv' := [(5, .int (iZ (((i : Nat) : Int) + 1))), (4, .int (iZ 1)), (7, .int (iZ 1)), (6, .int (iZ qs)), (3, .int (iZ (σ 114 (1 + k)))), (0, .ref (tad θ 111)), (1, .ref (tad θ 114)), (2, .int (iZ ((k : Nat) : Int)))]) hx hb dX6_isRaw_116 hl rfl (by decide) rfl (fun ls hl => ?_)
                  have hl : lv_has ls 8 [(5, .int (iZ (((i + 1) : Nat) : Int))), (4, .int (iZ 1)), (7, .int (iZ 1)), (6, .int (iZ qs)), (3, .int (iZ (σ 114 (1 + k)))), (0, .ref (tad θ 111)), (1, .ref (tad θ 114)), (2, .int (iZ ((k : Nat) : Int)))] := by have e9 : (((i : Nat) : Int) + 1) = (((i + 1) : Nat) : Int) := (by omega); rw [e9] at hl; exact hl
                  refine lv_goto (tgt := 12) hx hb dX6_isRaw_119 (by decide) ?_
                  exact ih12 (i + 1) 1 _ _ _ (by omega) (by omega) (by rw [r1, ← hv, ← hs, if_pos (by omega)]) hB (lv_sub hl [0, 1, 4, 5, 6, 7] rfl)
        · refine lv_iload_n hx hb dX6_isRaw_33 rfl (lv_at hl 3 rfl) ?_
          refine lv_bipush (v := iZ 7) hx hb dX6_isRaw_34 (by decide) ?_
          refine z_icmp_eq (tgt := 74) hx hb dX6_isRaw_36 (by decide) ⟨by omega, by omega⟩ ⟨by decide, by decide⟩ (fun c_11 => ?_) (fun c_11 => ?_)
          · refine lv_iconst (v := iZ 1) hx hb dX6_isRaw_74 rfl ?_
            refine lv_goto (tgt := 79) hx hb dX6_isRaw_75 (by decide) ?_
            refine lv_istore (lv' := [(7, .int (iZ 1)), (6, .int (iZ qs)), (5, .int (iZ ((i : Nat) : Int))), (4, .int (iZ v)), (3, .int (iZ (σ 114 (1 + k)))), (0, .ref (tad θ 111)), (1, .ref (tad θ 114)), (2, .int (iZ ((k : Nat) : Int)))]) hx hb dX6_isRaw_79 hl (by decide) rfl (fun ls hl => ?_)
            refine lv_iload hx hb dX6_isRaw_81 (lv_at hl 3 rfl) ?_
            refine z_if_ne (tgt := 109) hx hb dX6_isRaw_83 (by decide) ⟨by omega, by omega⟩ (fun c_12 => ?_) (fun c_12 => ?_)
            · refine lv_iconst (v := iZ 1) hx hb dX6_isRaw_109 rfl ?_
              refine lv_goto (tgt := 114) hx hb dX6_isRaw_110 (by decide) ?_
              refine lv_istore (lv' := [(4, .int (iZ 1)), (7, .int (iZ 1)), (6, .int (iZ qs)), (5, .int (iZ ((i : Nat) : Int))), (3, .int (iZ (σ 114 (1 + k)))), (0, .ref (tad θ 111)), (1, .ref (tad θ 114)), (2, .int (iZ ((k : Nat) : Int)))]) hx hb dX6_isRaw_114 hl (by decide) rfl (fun ls hl => ?_)
              refine z_iinc (k := 3) (lv' := [(5, .int (iZ (((i : Nat) : Int) + 1))), (4, .int (iZ 1)), (7, .int (iZ 1)), (6, .int (iZ qs)), (3, .int (iZ (σ 114 (1 + k)))), (0, .ref (tad θ 111)), (1, .ref (tad θ 114)), (2, .int (iZ ((k : Nat) : Int)))]) hx hb dX6_isRaw_116 hl rfl (by decide) rfl (fun ls hl => ?_)
              have hl : lv_has ls 8 [(5, .int (iZ (((i + 1) : Nat) : Int))), (4, .int (iZ 1)), (7, .int (iZ 1)), (6, .int (iZ qs)), (3, .int (iZ (σ 114 (1 + k)))), (0, .ref (tad θ 111)), (1, .ref (tad θ 114)), (2, .int (iZ ((k : Nat) : Int)))] := by have e9 : (((i : Nat) : Int) + 1) = (((i + 1) : Nat) : Int) := (by omega); rw [e9] at hl; exact hl
              refine lv_goto (tgt := 12) hx hb dX6_isRaw_119 (by decide) ?_
              exact ih12 (i + 1) 1 _ _ _ (by omega) (by omega) (by rw [r1, ← hv, ← hs, if_pos (by omega)]) hB (lv_sub hl [0, 1, 4, 5, 6, 7] rfl)
            · refine lv_iload hx hb dX6_isRaw_86 (lv_at hl 0 rfl) ?_
              refine z_if_eq (tgt := 113) hx hb dX6_isRaw_88 (by decide) ⟨by decide, by decide⟩ (fun c_13 => ?_) (fun c_13 => ?_)
              · exact absurd c_13 (by decide)
              · refine lv_iload hx hb dX6_isRaw_91 (lv_at hl 1 rfl) ?_
                refine lv_bipush (v := iZ (-9)) hx hb dX6_isRaw_93 (by decide) ?_
                refine z_icmp_eq (tgt := 113) hx hb dX6_isRaw_95 (by decide) ⟨by omega, by omega⟩ ⟨by decide, by decide⟩ (fun c_14 => ?_) (fun c_14 => ?_)
                · refine lv_iconst (v := iZ 0) hx hb dX6_isRaw_113 rfl ?_
                  refine lv_istore (lv' := [(4, .int (iZ 0)), (7, .int (iZ 1)), (6, .int (iZ qs)), (5, .int (iZ ((i : Nat) : Int))), (3, .int (iZ (σ 114 (1 + k)))), (0, .ref (tad θ 111)), (1, .ref (tad θ 114)), (2, .int (iZ ((k : Nat) : Int)))]) hx hb dX6_isRaw_114 hl (by decide) rfl (fun ls hl => ?_)
                  refine z_iinc (k := 3) (lv' := [(5, .int (iZ (((i : Nat) : Int) + 1))), (4, .int (iZ 0)), (7, .int (iZ 1)), (6, .int (iZ qs)), (3, .int (iZ (σ 114 (1 + k)))), (0, .ref (tad θ 111)), (1, .ref (tad θ 114)), (2, .int (iZ ((k : Nat) : Int)))]) hx hb dX6_isRaw_116 hl rfl (by decide) rfl (fun ls hl => ?_)
                  have hl : lv_has ls 8 [(5, .int (iZ (((i + 1) : Nat) : Int))), (4, .int (iZ 0)), (7, .int (iZ 1)), (6, .int (iZ qs)), (3, .int (iZ (σ 114 (1 + k)))), (0, .ref (tad θ 111)), (1, .ref (tad θ 114)), (2, .int (iZ ((k : Nat) : Int)))] := by have e9 : (((i : Nat) : Int) + 1) = (((i + 1) : Nat) : Int) := (by omega); rw [e9] at hl; exact hl
                  refine lv_goto (tgt := 12) hx hb dX6_isRaw_119 (by decide) ?_
                  exact ih12 (i + 1) 0 _ _ _ (by omega) (by omega) (by rw [r1, ← hv, ← hs, if_neg (by omega)]) hB (lv_sub hl [0, 1, 4, 5, 6, 7] rfl)
                · refine lv_aload_n hx hb dX6_isRaw_98 rfl (lv_at hl 5 rfl) ?_
                  refine g_getr (k := 23) (j := 126) hx hb hts hown hK hθ hB cf6 (by decide) rfl (by decide) kw_682 rfl rfl dX6_isRaw_99 ?_
                  refine lv_iload hx hb dX6_isRaw_102 (lv_at hl 1 rfl) ?_
                  refine g_iald (k := qs.toNat) hx hb hK hB (by decide) rfl (by omega) (Nat.lt_of_lt_of_eq (by omega : qs.toNat < 8) (Eq.symm rfl)) (by decide) dX6_isRaw_104 ?_
                  have hr_15 := hR 126 (qs.toNat)
                  refine lv_iconst (v := iZ 1) hx hb dX6_isRaw_105 rfl ?_
                  refine z_icmp_ne (tgt := 113) hx hb dX6_isRaw_106 (by decide) ⟨by omega, by omega⟩ ⟨by decide, by decide⟩ (fun c_16 => ?_) (fun c_16 => ?_)
                  · refine lv_iconst (v := iZ 0) hx hb dX6_isRaw_113 rfl ?_
                    refine lv_istore (lv' := [(4, .int (iZ 0)), (7, .int (iZ 1)), (6, .int (iZ qs)), (5, .int (iZ ((i : Nat) : Int))), (3, .int (iZ (σ 114 (1 + k)))), (0, .ref (tad θ 111)), (1, .ref (tad θ 114)), (2, .int (iZ ((k : Nat) : Int)))]) hx hb dX6_isRaw_114 hl (by decide) rfl (fun ls hl => ?_)
                    refine z_iinc (k := 3) (lv' := [(5, .int (iZ (((i : Nat) : Int) + 1))), (4, .int (iZ 0)), (7, .int (iZ 1)), (6, .int (iZ qs)), (3, .int (iZ (σ 114 (1 + k)))), (0, .ref (tad θ 111)), (1, .ref (tad θ 114)), (2, .int (iZ ((k : Nat) : Int)))]) hx hb dX6_isRaw_116 hl rfl (by decide) rfl (fun ls hl => ?_)
                    have hl : lv_has ls 8 [(5, .int (iZ (((i + 1) : Nat) : Int))), (4, .int (iZ 0)), (7, .int (iZ 1)), (6, .int (iZ qs)), (3, .int (iZ (σ 114 (1 + k)))), (0, .ref (tad θ 111)), (1, .ref (tad θ 114)), (2, .int (iZ ((k : Nat) : Int)))] := by have e9 : (((i : Nat) : Int) + 1) = (((i + 1) : Nat) : Int) := (by omega); rw [e9] at hl; exact hl
                    refine lv_goto (tgt := 12) hx hb dX6_isRaw_119 (by decide) ?_
                    exact ih12 (i + 1) 0 _ _ _ (by omega) (by omega) (by rw [r1, ← hv, ← hs, if_neg (by omega)]) hB (lv_sub hl [0, 1, 4, 5, 6, 7] rfl)
                  · refine lv_iconst (v := iZ 1) hx hb dX6_isRaw_109 rfl ?_
                    refine lv_goto (tgt := 114) hx hb dX6_isRaw_110 (by decide) ?_
                    refine lv_istore (lv' := [(4, .int (iZ 1)), (7, .int (iZ 1)), (6, .int (iZ qs)), (5, .int (iZ ((i : Nat) : Int))), (3, .int (iZ (σ 114 (1 + k)))), (0, .ref (tad θ 111)), (1, .ref (tad θ 114)), (2, .int (iZ ((k : Nat) : Int)))]) hx hb dX6_isRaw_114 hl (by decide) rfl (fun ls hl => ?_)
                    refine z_iinc (k := 3) (lv' := [(5, .int (iZ (((i : Nat) : Int) + 1))), (4, .int (iZ 1)), (7, .int (iZ 1)), (6, .int (iZ qs)), (3, .int (iZ (σ 114 (1 + k)))), (0, .ref (tad θ 111)), (1, .ref (tad θ 114)), (2, .int (iZ ((k : Nat) : Int)))]) hx hb dX6_isRaw_116 hl rfl (by decide) rfl (fun ls hl => ?_)
                    have hl : lv_has ls 8 [(5, .int (iZ (((i + 1) : Nat) : Int))), (4, .int (iZ 1)), (7, .int (iZ 1)), (6, .int (iZ qs)), (3, .int (iZ (σ 114 (1 + k)))), (0, .ref (tad θ 111)), (1, .ref (tad θ 114)), (2, .int (iZ ((k : Nat) : Int)))] := by have e9 : (((i : Nat) : Int) + 1) = (((i + 1) : Nat) : Int) := (by omega); rw [e9] at hl; exact hl
                    refine lv_goto (tgt := 12) hx hb dX6_isRaw_119 (by decide) ?_
                    exact ih12 (i + 1) 1 _ _ _ (by omega) (by omega) (by rw [r1, ← hv, ← hs, if_pos (by omega)]) hB (lv_sub hl [0, 1, 4, 5, 6, 7] rfl)
          · refine lv_iload_n hx hb dX6_isRaw_39 rfl (lv_at hl 3 rfl) ?_
            refine lv_bipush (v := iZ 8) hx hb dX6_isRaw_40 (by decide) ?_
            refine z_icmp_ne (tgt := 50) hx hb dX6_isRaw_42 (by decide) ⟨by omega, by omega⟩ ⟨by decide, by decide⟩ (fun c_17 => ?_) (fun c_17 => ?_)
            · refine lv_iload_n hx hb dX6_isRaw_50 rfl (lv_at hl 3 rfl) ?_
              refine lv_bipush (v := iZ 9) hx hb dX6_isRaw_51 (by decide) ?_
              refine z_icmp_eq (tgt := 62) hx hb dX6_isRaw_53 (by decide) ⟨by omega, by omega⟩ ⟨by decide, by decide⟩ (fun c_18 => ?_) (fun c_18 => ?_)
              · refine lv_iload hx hb dX6_isRaw_62 (lv_at hl 1 rfl) ?_
                refine lv_iconst (v := iZ 1) hx hb dX6_isRaw_64 rfl ?_
                refine z_icmp_eq (tgt := 74) hx hb dX6_isRaw_65 (by decide) ⟨by omega, by omega⟩ ⟨by decide, by decide⟩ (fun c_19 => ?_) (fun c_19 => ?_)
                · refine lv_iconst (v := iZ 1) hx hb dX6_isRaw_74 rfl ?_
                  refine lv_goto (tgt := 79) hx hb dX6_isRaw_75 (by decide) ?_
                  refine lv_istore (lv' := [(7, .int (iZ 1)), (6, .int (iZ qs)), (5, .int (iZ ((i : Nat) : Int))), (4, .int (iZ v)), (3, .int (iZ (σ 114 (1 + k)))), (0, .ref (tad θ 111)), (1, .ref (tad θ 114)), (2, .int (iZ ((k : Nat) : Int)))]) hx hb dX6_isRaw_79 hl (by decide) rfl (fun ls hl => ?_)
                  refine lv_iload hx hb dX6_isRaw_81 (lv_at hl 3 rfl) ?_
                  refine z_if_ne (tgt := 109) hx hb dX6_isRaw_83 (by decide) ⟨by omega, by omega⟩ (fun c_20 => ?_) (fun c_20 => ?_)
                  · refine lv_iconst (v := iZ 1) hx hb dX6_isRaw_109 rfl ?_
                    refine lv_goto (tgt := 114) hx hb dX6_isRaw_110 (by decide) ?_
                    refine lv_istore (lv' := [(4, .int (iZ 1)), (7, .int (iZ 1)), (6, .int (iZ qs)), (5, .int (iZ ((i : Nat) : Int))), (3, .int (iZ (σ 114 (1 + k)))), (0, .ref (tad θ 111)), (1, .ref (tad θ 114)), (2, .int (iZ ((k : Nat) : Int)))]) hx hb dX6_isRaw_114 hl (by decide) rfl (fun ls hl => ?_)
                    refine z_iinc (k := 3) (lv' := [(5, .int (iZ (((i : Nat) : Int) + 1))), (4, .int (iZ 1)), (7, .int (iZ 1)), (6, .int (iZ qs)), (3, .int (iZ (σ 114 (1 + k)))), (0, .ref (tad θ 111)), (1, .ref (tad θ 114)), (2, .int (iZ ((k : Nat) : Int)))]) hx hb dX6_isRaw_116 hl rfl (by decide) rfl (fun ls hl => ?_)
                    have hl : lv_has ls 8 [(5, .int (iZ (((i + 1) : Nat) : Int))), (4, .int (iZ 1)), (7, .int (iZ 1)), (6, .int (iZ qs)), (3, .int (iZ (σ 114 (1 + k)))), (0, .ref (tad θ 111)), (1, .ref (tad θ 114)), (2, .int (iZ ((k : Nat) : Int)))] := by have e9 : (((i : Nat) : Int) + 1) = (((i + 1) : Nat) : Int) := (by omega); rw [e9] at hl; exact hl
                    refine lv_goto (tgt := 12) hx hb dX6_isRaw_119 (by decide) ?_
                    exact ih12 (i + 1) 1 _ _ _ (by omega) (by omega) (by rw [r1, ← hv, ← hs, if_pos (by omega)]) hB (lv_sub hl [0, 1, 4, 5, 6, 7] rfl)
                  · refine lv_iload hx hb dX6_isRaw_86 (lv_at hl 0 rfl) ?_
                    refine z_if_eq (tgt := 113) hx hb dX6_isRaw_88 (by decide) ⟨by decide, by decide⟩ (fun c_21 => ?_) (fun c_21 => ?_)
                    · exact absurd c_21 (by decide)
                    · refine lv_iload hx hb dX6_isRaw_91 (lv_at hl 1 rfl) ?_
                      refine lv_bipush (v := iZ (-9)) hx hb dX6_isRaw_93 (by decide) ?_
                      refine z_icmp_eq (tgt := 113) hx hb dX6_isRaw_95 (by decide) ⟨by omega, by omega⟩ ⟨by decide, by decide⟩ (fun c_22 => ?_) (fun c_22 => ?_)
                      · refine lv_iconst (v := iZ 0) hx hb dX6_isRaw_113 rfl ?_
                        refine lv_istore (lv' := [(4, .int (iZ 0)), (7, .int (iZ 1)), (6, .int (iZ qs)), (5, .int (iZ ((i : Nat) : Int))), (3, .int (iZ (σ 114 (1 + k)))), (0, .ref (tad θ 111)), (1, .ref (tad θ 114)), (2, .int (iZ ((k : Nat) : Int)))]) hx hb dX6_isRaw_114 hl (by decide) rfl (fun ls hl => ?_)
                        refine z_iinc (k := 3) (lv' := [(5, .int (iZ (((i : Nat) : Int) + 1))), (4, .int (iZ 0)), (7, .int (iZ 1)), (6, .int (iZ qs)), (3, .int (iZ (σ 114 (1 + k)))), (0, .ref (tad θ 111)), (1, .ref (tad θ 114)), (2, .int (iZ ((k : Nat) : Int)))]) hx hb dX6_isRaw_116 hl rfl (by decide) rfl (fun ls hl => ?_)
                        have hl : lv_has ls 8 [(5, .int (iZ (((i + 1) : Nat) : Int))), (4, .int (iZ 0)), (7, .int (iZ 1)), (6, .int (iZ qs)), (3, .int (iZ (σ 114 (1 + k)))), (0, .ref (tad θ 111)), (1, .ref (tad θ 114)), (2, .int (iZ ((k : Nat) : Int)))] := by have e9 : (((i : Nat) : Int) + 1) = (((i + 1) : Nat) : Int) := (by omega); rw [e9] at hl; exact hl
                        refine lv_goto (tgt := 12) hx hb dX6_isRaw_119 (by decide) ?_
                        exact ih12 (i + 1) 0 _ _ _ (by omega) (by omega) (by rw [r1, ← hv, ← hs, if_neg (by omega)]) hB (lv_sub hl [0, 1, 4, 5, 6, 7] rfl)
                      · refine lv_aload_n hx hb dX6_isRaw_98 rfl (lv_at hl 5 rfl) ?_
                        refine g_getr (k := 23) (j := 126) hx hb hts hown hK hθ hB cf6 (by decide) rfl (by decide) kw_682 rfl rfl dX6_isRaw_99 ?_
                        refine lv_iload hx hb dX6_isRaw_102 (lv_at hl 1 rfl) ?_
                        refine g_iald (k := qs.toNat) hx hb hK hB (by decide) rfl (by omega) (Nat.lt_of_lt_of_eq (by omega : qs.toNat < 8) (Eq.symm rfl)) (by decide) dX6_isRaw_104 ?_
                        have hr_23 := hR 126 (qs.toNat)
                        refine lv_iconst (v := iZ 1) hx hb dX6_isRaw_105 rfl ?_
                        refine z_icmp_ne (tgt := 113) hx hb dX6_isRaw_106 (by decide) ⟨by omega, by omega⟩ ⟨by decide, by decide⟩ (fun c_24 => ?_) (fun c_24 => ?_)
                        · refine lv_iconst (v := iZ 0) hx hb dX6_isRaw_113 rfl ?_
                          refine lv_istore (lv' := [(4, .int (iZ 0)), (7, .int (iZ 1)), (6, .int (iZ qs)), (5, .int (iZ ((i : Nat) : Int))), (3, .int (iZ (σ 114 (1 + k)))), (0, .ref (tad θ 111)), (1, .ref (tad θ 114)), (2, .int (iZ ((k : Nat) : Int)))]) hx hb dX6_isRaw_114 hl (by decide) rfl (fun ls hl => ?_)
                          refine z_iinc (k := 3) (lv' := [(5, .int (iZ (((i : Nat) : Int) + 1))), (4, .int (iZ 0)), (7, .int (iZ 1)), (6, .int (iZ qs)), (3, .int (iZ (σ 114 (1 + k)))), (0, .ref (tad θ 111)), (1, .ref (tad θ 114)), (2, .int (iZ ((k : Nat) : Int)))]) hx hb dX6_isRaw_116 hl rfl (by decide) rfl (fun ls hl => ?_)
                          have hl : lv_has ls 8 [(5, .int (iZ (((i + 1) : Nat) : Int))), (4, .int (iZ 0)), (7, .int (iZ 1)), (6, .int (iZ qs)), (3, .int (iZ (σ 114 (1 + k)))), (0, .ref (tad θ 111)), (1, .ref (tad θ 114)), (2, .int (iZ ((k : Nat) : Int)))] := by have e9 : (((i : Nat) : Int) + 1) = (((i + 1) : Nat) : Int) := (by omega); rw [e9] at hl; exact hl
                          refine lv_goto (tgt := 12) hx hb dX6_isRaw_119 (by decide) ?_
                          exact ih12 (i + 1) 0 _ _ _ (by omega) (by omega) (by rw [r1, ← hv, ← hs, if_neg (by omega)]) hB (lv_sub hl [0, 1, 4, 5, 6, 7] rfl)
                        · refine lv_iconst (v := iZ 1) hx hb dX6_isRaw_109 rfl ?_
                          refine lv_goto (tgt := 114) hx hb dX6_isRaw_110 (by decide) ?_
                          refine lv_istore (lv' := [(4, .int (iZ 1)), (7, .int (iZ 1)), (6, .int (iZ qs)), (5, .int (iZ ((i : Nat) : Int))), (3, .int (iZ (σ 114 (1 + k)))), (0, .ref (tad θ 111)), (1, .ref (tad θ 114)), (2, .int (iZ ((k : Nat) : Int)))]) hx hb dX6_isRaw_114 hl (by decide) rfl (fun ls hl => ?_)
                          refine z_iinc (k := 3) (lv' := [(5, .int (iZ (((i : Nat) : Int) + 1))), (4, .int (iZ 1)), (7, .int (iZ 1)), (6, .int (iZ qs)), (3, .int (iZ (σ 114 (1 + k)))), (0, .ref (tad θ 111)), (1, .ref (tad θ 114)), (2, .int (iZ ((k : Nat) : Int)))]) hx hb dX6_isRaw_116 hl rfl (by decide) rfl (fun ls hl => ?_)
                          have hl : lv_has ls 8 [(5, .int (iZ (((i + 1) : Nat) : Int))), (4, .int (iZ 1)), (7, .int (iZ 1)), (6, .int (iZ qs)), (3, .int (iZ (σ 114 (1 + k)))), (0, .ref (tad θ 111)), (1, .ref (tad θ 114)), (2, .int (iZ ((k : Nat) : Int)))] := by have e9 : (((i : Nat) : Int) + 1) = (((i + 1) : Nat) : Int) := (by omega); rw [e9] at hl; exact hl
                          refine lv_goto (tgt := 12) hx hb dX6_isRaw_119 (by decide) ?_
                          exact ih12 (i + 1) 1 _ _ _ (by omega) (by omega) (by rw [r1, ← hv, ← hs, if_pos (by omega)]) hB (lv_sub hl [0, 1, 4, 5, 6, 7] rfl)
                · refine lv_iload_n hx hb dX6_isRaw_68 rfl (lv_at hl 3 rfl) ?_
                  refine lv_bipush (v := iZ 11) hx hb dX6_isRaw_69 (by decide) ?_
                  refine z_icmp_ne (tgt := 78) hx hb dX6_isRaw_71 (by decide) ⟨by omega, by omega⟩ ⟨by decide, by decide⟩ (fun c_25 => ?_) (fun c_25 => ?_)
                  · refine lv_iconst (v := iZ 0) hx hb dX6_isRaw_78 rfl ?_
                    refine lv_istore (lv' := [(7, .int (iZ 0)), (6, .int (iZ qs)), (5, .int (iZ ((i : Nat) : Int))), (4, .int (iZ v)), (3, .int (iZ (σ 114 (1 + k)))), (0, .ref (tad θ 111)), (1, .ref (tad θ 114)), (2, .int (iZ ((k : Nat) : Int)))]) hx hb dX6_isRaw_79 hl (by decide) rfl (fun ls hl => ?_)
                    refine lv_iload hx hb dX6_isRaw_81 (lv_at hl 3 rfl) ?_
                    refine z_if_ne (tgt := 109) hx hb dX6_isRaw_83 (by decide) ⟨by omega, by omega⟩ (fun c_26 => ?_) (fun c_26 => ?_)
                    · refine lv_iconst (v := iZ 1) hx hb dX6_isRaw_109 rfl ?_
                      refine lv_goto (tgt := 114) hx hb dX6_isRaw_110 (by decide) ?_
                      refine lv_istore (lv' := [(4, .int (iZ 1)), (7, .int (iZ 0)), (6, .int (iZ qs)), (5, .int (iZ ((i : Nat) : Int))), (3, .int (iZ (σ 114 (1 + k)))), (0, .ref (tad θ 111)), (1, .ref (tad θ 114)), (2, .int (iZ ((k : Nat) : Int)))]) hx hb dX6_isRaw_114 hl (by decide) rfl (fun ls hl => ?_)
                      refine z_iinc (k := 3) (lv' := [(5, .int (iZ (((i : Nat) : Int) + 1))), (4, .int (iZ 1)), (7, .int (iZ 0)), (6, .int (iZ qs)), (3, .int (iZ (σ 114 (1 + k)))), (0, .ref (tad θ 111)), (1, .ref (tad θ 114)), (2, .int (iZ ((k : Nat) : Int)))]) hx hb dX6_isRaw_116 hl rfl (by decide) rfl (fun ls hl => ?_)
                      have hl : lv_has ls 8 [(5, .int (iZ (((i + 1) : Nat) : Int))), (4, .int (iZ 1)), (7, .int (iZ 0)), (6, .int (iZ qs)), (3, .int (iZ (σ 114 (1 + k)))), (0, .ref (tad θ 111)), (1, .ref (tad θ 114)), (2, .int (iZ ((k : Nat) : Int)))] := by have e9 : (((i : Nat) : Int) + 1) = (((i + 1) : Nat) : Int) := (by omega); rw [e9] at hl; exact hl
                      refine lv_goto (tgt := 12) hx hb dX6_isRaw_119 (by decide) ?_
                      exact ih12 (i + 1) 1 _ _ _ (by omega) (by omega) (by rw [r1, ← hv, ← hs, if_pos (by omega)]) hB (lv_sub hl [0, 1, 4, 5, 6, 7] rfl)
                    · refine lv_iload hx hb dX6_isRaw_86 (lv_at hl 0 rfl) ?_
                      refine z_if_eq (tgt := 113) hx hb dX6_isRaw_88 (by decide) ⟨by decide, by decide⟩ (fun c_27 => ?_) (fun c_27 => ?_)
                      · refine lv_iconst (v := iZ 0) hx hb dX6_isRaw_113 rfl ?_
                        refine lv_istore (lv' := [(4, .int (iZ 0)), (7, .int (iZ 0)), (6, .int (iZ qs)), (5, .int (iZ ((i : Nat) : Int))), (3, .int (iZ (σ 114 (1 + k)))), (0, .ref (tad θ 111)), (1, .ref (tad θ 114)), (2, .int (iZ ((k : Nat) : Int)))]) hx hb dX6_isRaw_114 hl (by decide) rfl (fun ls hl => ?_)
                        refine z_iinc (k := 3) (lv' := [(5, .int (iZ (((i : Nat) : Int) + 1))), (4, .int (iZ 0)), (7, .int (iZ 0)), (6, .int (iZ qs)), (3, .int (iZ (σ 114 (1 + k)))), (0, .ref (tad θ 111)), (1, .ref (tad θ 114)), (2, .int (iZ ((k : Nat) : Int)))]) hx hb dX6_isRaw_116 hl rfl (by decide) rfl (fun ls hl => ?_)
                        have hl : lv_has ls 8 [(5, .int (iZ (((i + 1) : Nat) : Int))), (4, .int (iZ 0)), (7, .int (iZ 0)), (6, .int (iZ qs)), (3, .int (iZ (σ 114 (1 + k)))), (0, .ref (tad θ 111)), (1, .ref (tad θ 114)), (2, .int (iZ ((k : Nat) : Int)))] := by have e9 : (((i : Nat) : Int) + 1) = (((i + 1) : Nat) : Int) := (by omega); rw [e9] at hl; exact hl
                        refine lv_goto (tgt := 12) hx hb dX6_isRaw_119 (by decide) ?_
                        exact ih12 (i + 1) 0 _ _ _ (by omega) (by omega) (by rw [r1, ← hv, ← hs, if_neg (by omega)]) hB (lv_sub hl [0, 1, 4, 5, 6, 7] rfl)
                      · exact absurd (by decide) c_27
                  · refine lv_iconst (v := iZ 1) hx hb dX6_isRaw_74 rfl ?_
                    refine lv_goto (tgt := 79) hx hb dX6_isRaw_75 (by decide) ?_
                    refine lv_istore (lv' := [(7, .int (iZ 1)), (6, .int (iZ qs)), (5, .int (iZ ((i : Nat) : Int))), (4, .int (iZ v)), (3, .int (iZ (σ 114 (1 + k)))), (0, .ref (tad θ 111)), (1, .ref (tad θ 114)), (2, .int (iZ ((k : Nat) : Int)))]) hx hb dX6_isRaw_79 hl (by decide) rfl (fun ls hl => ?_)
                    refine lv_iload hx hb dX6_isRaw_81 (lv_at hl 3 rfl) ?_
                    refine z_if_ne (tgt := 109) hx hb dX6_isRaw_83 (by decide) ⟨by omega, by omega⟩ (fun c_28 => ?_) (fun c_28 => ?_)
                    · refine lv_iconst (v := iZ 1) hx hb dX6_isRaw_109 rfl ?_
                      refine lv_goto (tgt := 114) hx hb dX6_isRaw_110 (by decide) ?_
                      refine lv_istore (lv' := [(4, .int (iZ 1)), (7, .int (iZ 1)), (6, .int (iZ qs)), (5, .int (iZ ((i : Nat) : Int))), (3, .int (iZ (σ 114 (1 + k)))), (0, .ref (tad θ 111)), (1, .ref (tad θ 114)), (2, .int (iZ ((k : Nat) : Int)))]) hx hb dX6_isRaw_114 hl (by decide) rfl (fun ls hl => ?_)
                      refine z_iinc (k := 3) (lv' := [(5, .int (iZ (((i : Nat) : Int) + 1))), (4, .int (iZ 1)), (7, .int (iZ 1)), (6, .int (iZ qs)), (3, .int (iZ (σ 114 (1 + k)))), (0, .ref (tad θ 111)), (1, .ref (tad θ 114)), (2, .int (iZ ((k : Nat) : Int)))]) hx hb dX6_isRaw_116 hl rfl (by decide) rfl (fun ls hl => ?_)
                      have hl : lv_has ls 8 [(5, .int (iZ (((i + 1) : Nat) : Int))), (4, .int (iZ 1)), (7, .int (iZ 1)), (6, .int (iZ qs)), (3, .int (iZ (σ 114 (1 + k)))), (0, .ref (tad θ 111)), (1, .ref (tad θ 114)), (2, .int (iZ ((k : Nat) : Int)))] := by have e9 : (((i : Nat) : Int) + 1) = (((i + 1) : Nat) : Int) := (by omega); rw [e9] at hl; exact hl
                      refine lv_goto (tgt := 12) hx hb dX6_isRaw_119 (by decide) ?_
                      exact ih12 (i + 1) 1 _ _ _ (by omega) (by omega) (by rw [r1, ← hv, ← hs, if_pos (by omega)]) hB (lv_sub hl [0, 1, 4, 5, 6, 7] rfl)
                    · refine lv_iload hx hb dX6_isRaw_86 (lv_at hl 0 rfl) ?_
                      refine z_if_eq (tgt := 113) hx hb dX6_isRaw_88 (by decide) ⟨by decide, by decide⟩ (fun c_29 => ?_) (fun c_29 => ?_)
                      · exact absurd c_29 (by decide)
                      · refine lv_iload hx hb dX6_isRaw_91 (lv_at hl 1 rfl) ?_
                        refine lv_bipush (v := iZ (-9)) hx hb dX6_isRaw_93 (by decide) ?_
                        refine z_icmp_eq (tgt := 113) hx hb dX6_isRaw_95 (by decide) ⟨by omega, by omega⟩ ⟨by decide, by decide⟩ (fun c_30 => ?_) (fun c_30 => ?_)
                        · refine lv_iconst (v := iZ 0) hx hb dX6_isRaw_113 rfl ?_
                          refine lv_istore (lv' := [(4, .int (iZ 0)), (7, .int (iZ 1)), (6, .int (iZ qs)), (5, .int (iZ ((i : Nat) : Int))), (3, .int (iZ (σ 114 (1 + k)))), (0, .ref (tad θ 111)), (1, .ref (tad θ 114)), (2, .int (iZ ((k : Nat) : Int)))]) hx hb dX6_isRaw_114 hl (by decide) rfl (fun ls hl => ?_)
                          refine z_iinc (k := 3) (lv' := [(5, .int (iZ (((i : Nat) : Int) + 1))), (4, .int (iZ 0)), (7, .int (iZ 1)), (6, .int (iZ qs)), (3, .int (iZ (σ 114 (1 + k)))), (0, .ref (tad θ 111)), (1, .ref (tad θ 114)), (2, .int (iZ ((k : Nat) : Int)))]) hx hb dX6_isRaw_116 hl rfl (by decide) rfl (fun ls hl => ?_)
                          have hl : lv_has ls 8 [(5, .int (iZ (((i + 1) : Nat) : Int))), (4, .int (iZ 0)), (7, .int (iZ 1)), (6, .int (iZ qs)), (3, .int (iZ (σ 114 (1 + k)))), (0, .ref (tad θ 111)), (1, .ref (tad θ 114)), (2, .int (iZ ((k : Nat) : Int)))] := by have e9 : (((i : Nat) : Int) + 1) = (((i + 1) : Nat) : Int) := (by omega); rw [e9] at hl; exact hl
                          refine lv_goto (tgt := 12) hx hb dX6_isRaw_119 (by decide) ?_
                          exact ih12 (i + 1) 0 _ _ _ (by omega) (by omega) (by rw [r1, ← hv, ← hs, if_neg (by omega)]) hB (lv_sub hl [0, 1, 4, 5, 6, 7] rfl)
                        · refine lv_aload_n hx hb dX6_isRaw_98 rfl (lv_at hl 5 rfl) ?_
                          refine g_getr (k := 23) (j := 126) hx hb hts hown hK hθ hB cf6 (by decide) rfl (by decide) kw_682 rfl rfl dX6_isRaw_99 ?_
                          refine lv_iload hx hb dX6_isRaw_102 (lv_at hl 1 rfl) ?_
                          refine g_iald (k := qs.toNat) hx hb hK hB (by decide) rfl (by omega) (Nat.lt_of_lt_of_eq (by omega : qs.toNat < 8) (Eq.symm rfl)) (by decide) dX6_isRaw_104 ?_
                          have hr_31 := hR 126 (qs.toNat)
                          refine lv_iconst (v := iZ 1) hx hb dX6_isRaw_105 rfl ?_
                          refine z_icmp_ne (tgt := 113) hx hb dX6_isRaw_106 (by decide) ⟨by omega, by omega⟩ ⟨by decide, by decide⟩ (fun c_32 => ?_) (fun c_32 => ?_)
                          · refine lv_iconst (v := iZ 0) hx hb dX6_isRaw_113 rfl ?_
                            refine lv_istore (lv' := [(4, .int (iZ 0)), (7, .int (iZ 1)), (6, .int (iZ qs)), (5, .int (iZ ((i : Nat) : Int))), (3, .int (iZ (σ 114 (1 + k)))), (0, .ref (tad θ 111)), (1, .ref (tad θ 114)), (2, .int (iZ ((k : Nat) : Int)))]) hx hb dX6_isRaw_114 hl (by decide) rfl (fun ls hl => ?_)
                            refine z_iinc (k := 3) (lv' := [(5, .int (iZ (((i : Nat) : Int) + 1))), (4, .int (iZ 0)), (7, .int (iZ 1)), (6, .int (iZ qs)), (3, .int (iZ (σ 114 (1 + k)))), (0, .ref (tad θ 111)), (1, .ref (tad θ 114)), (2, .int (iZ ((k : Nat) : Int)))]) hx hb dX6_isRaw_116 hl rfl (by decide) rfl (fun ls hl => ?_)
                            have hl : lv_has ls 8 [(5, .int (iZ (((i + 1) : Nat) : Int))), (4, .int (iZ 0)), (7, .int (iZ 1)), (6, .int (iZ qs)), (3, .int (iZ (σ 114 (1 + k)))), (0, .ref (tad θ 111)), (1, .ref (tad θ 114)), (2, .int (iZ ((k : Nat) : Int)))] := by have e9 : (((i : Nat) : Int) + 1) = (((i + 1) : Nat) : Int) := (by omega); rw [e9] at hl; exact hl
                            refine lv_goto (tgt := 12) hx hb dX6_isRaw_119 (by decide) ?_
                            exact ih12 (i + 1) 0 _ _ _ (by omega) (by omega) (by rw [r1, ← hv, ← hs, if_neg (by omega)]) hB (lv_sub hl [0, 1, 4, 5, 6, 7] rfl)
                          · refine lv_iconst (v := iZ 1) hx hb dX6_isRaw_109 rfl ?_
                            refine lv_goto (tgt := 114) hx hb dX6_isRaw_110 (by decide) ?_
                            refine lv_istore (lv' := [(4, .int (iZ 1)), (7, .int (iZ 1)), (6, .int (iZ qs)), (5, .int (iZ ((i : Nat) : Int))), (3, .int (iZ (σ 114 (1 + k)))), (0, .ref (tad θ 111)), (1, .ref (tad θ 114)), (2, .int (iZ ((k : Nat) : Int)))]) hx hb dX6_isRaw_114 hl (by decide) rfl (fun ls hl => ?_)
                            refine z_iinc (k := 3) (lv' := [(5, .int (iZ (((i : Nat) : Int) + 1))), (4, .int (iZ 1)), (7, .int (iZ 1)), (6, .int (iZ qs)), (3, .int (iZ (σ 114 (1 + k)))), (0, .ref (tad θ 111)), (1, .ref (tad θ 114)), (2, .int (iZ ((k : Nat) : Int)))]) hx hb dX6_isRaw_116 hl rfl (by decide) rfl (fun ls hl => ?_)
                            have hl : lv_has ls 8 [(5, .int (iZ (((i + 1) : Nat) : Int))), (4, .int (iZ 1)), (7, .int (iZ 1)), (6, .int (iZ qs)), (3, .int (iZ (σ 114 (1 + k)))), (0, .ref (tad θ 111)), (1, .ref (tad θ 114)), (2, .int (iZ ((k : Nat) : Int)))] := by have e9 : (((i : Nat) : Int) + 1) = (((i + 1) : Nat) : Int) := (by omega); rw [e9] at hl; exact hl
                            refine lv_goto (tgt := 12) hx hb dX6_isRaw_119 (by decide) ?_
                            exact ih12 (i + 1) 1 _ _ _ (by omega) (by omega) (by rw [r1, ← hv, ← hs, if_pos (by omega)]) hB (lv_sub hl [0, 1, 4, 5, 6, 7] rfl)
              · refine lv_iload_n hx hb dX6_isRaw_56 rfl (lv_at hl 3 rfl) ?_
                refine lv_bipush (v := iZ 10) hx hb dX6_isRaw_57 (by decide) ?_
                refine z_icmp_ne (tgt := 68) hx hb dX6_isRaw_59 (by decide) ⟨by omega, by omega⟩ ⟨by decide, by decide⟩ (fun c_33 => ?_) (fun c_33 => ?_)
                · refine lv_iload_n hx hb dX6_isRaw_68 rfl (lv_at hl 3 rfl) ?_
                  refine lv_bipush (v := iZ 11) hx hb dX6_isRaw_69 (by decide) ?_
                  refine z_icmp_ne (tgt := 78) hx hb dX6_isRaw_71 (by decide) ⟨by omega, by omega⟩ ⟨by decide, by decide⟩ (fun c_34 => ?_) (fun c_34 => ?_)
                  · refine lv_iconst (v := iZ 0) hx hb dX6_isRaw_78 rfl ?_
                    refine lv_istore (lv' := [(7, .int (iZ 0)), (6, .int (iZ qs)), (5, .int (iZ ((i : Nat) : Int))), (4, .int (iZ v)), (3, .int (iZ (σ 114 (1 + k)))), (0, .ref (tad θ 111)), (1, .ref (tad θ 114)), (2, .int (iZ ((k : Nat) : Int)))]) hx hb dX6_isRaw_79 hl (by decide) rfl (fun ls hl => ?_)
                    refine lv_iload hx hb dX6_isRaw_81 (lv_at hl 3 rfl) ?_
                    refine z_if_ne (tgt := 109) hx hb dX6_isRaw_83 (by decide) ⟨by omega, by omega⟩ (fun c_35 => ?_) (fun c_35 => ?_)
                    · refine lv_iconst (v := iZ 1) hx hb dX6_isRaw_109 rfl ?_
                      refine lv_goto (tgt := 114) hx hb dX6_isRaw_110 (by decide) ?_
                      refine lv_istore (lv' := [(4, .int (iZ 1)), (7, .int (iZ 0)), (6, .int (iZ qs)), (5, .int (iZ ((i : Nat) : Int))), (3, .int (iZ (σ 114 (1 + k)))), (0, .ref (tad θ 111)), (1, .ref (tad θ 114)), (2, .int (iZ ((k : Nat) : Int)))]) hx hb dX6_isRaw_114 hl (by decide) rfl (fun ls hl => ?_)
                      refine z_iinc (k := 3) (lv' := [(5, .int (iZ (((i : Nat) : Int) + 1))), (4, .int (iZ 1)), (7, .int (iZ 0)), (6, .int (iZ qs)), (3, .int (iZ (σ 114 (1 + k)))), (0, .ref (tad θ 111)), (1, .ref (tad θ 114)), (2, .int (iZ ((k : Nat) : Int)))]) hx hb dX6_isRaw_116 hl rfl (by decide) rfl (fun ls hl => ?_)
                      have hl : lv_has ls 8 [(5, .int (iZ (((i + 1) : Nat) : Int))), (4, .int (iZ 1)), (7, .int (iZ 0)), (6, .int (iZ qs)), (3, .int (iZ (σ 114 (1 + k)))), (0, .ref (tad θ 111)), (1, .ref (tad θ 114)), (2, .int (iZ ((k : Nat) : Int)))] := by have e9 : (((i : Nat) : Int) + 1) = (((i + 1) : Nat) : Int) := (by omega); rw [e9] at hl; exact hl
                      refine lv_goto (tgt := 12) hx hb dX6_isRaw_119 (by decide) ?_
                      exact ih12 (i + 1) 1 _ _ _ (by omega) (by omega) (by rw [r1, ← hv, ← hs, if_pos (by omega)]) hB (lv_sub hl [0, 1, 4, 5, 6, 7] rfl)
                    · refine lv_iload hx hb dX6_isRaw_86 (lv_at hl 0 rfl) ?_
                      refine z_if_eq (tgt := 113) hx hb dX6_isRaw_88 (by decide) ⟨by decide, by decide⟩ (fun c_36 => ?_) (fun c_36 => ?_)
                      · refine lv_iconst (v := iZ 0) hx hb dX6_isRaw_113 rfl ?_
                        refine lv_istore (lv' := [(4, .int (iZ 0)), (7, .int (iZ 0)), (6, .int (iZ qs)), (5, .int (iZ ((i : Nat) : Int))), (3, .int (iZ (σ 114 (1 + k)))), (0, .ref (tad θ 111)), (1, .ref (tad θ 114)), (2, .int (iZ ((k : Nat) : Int)))]) hx hb dX6_isRaw_114 hl (by decide) rfl (fun ls hl => ?_)
                        refine z_iinc (k := 3) (lv' := [(5, .int (iZ (((i : Nat) : Int) + 1))), (4, .int (iZ 0)), (7, .int (iZ 0)), (6, .int (iZ qs)), (3, .int (iZ (σ 114 (1 + k)))), (0, .ref (tad θ 111)), (1, .ref (tad θ 114)), (2, .int (iZ ((k : Nat) : Int)))]) hx hb dX6_isRaw_116 hl rfl (by decide) rfl (fun ls hl => ?_)
                        have hl : lv_has ls 8 [(5, .int (iZ (((i + 1) : Nat) : Int))), (4, .int (iZ 0)), (7, .int (iZ 0)), (6, .int (iZ qs)), (3, .int (iZ (σ 114 (1 + k)))), (0, .ref (tad θ 111)), (1, .ref (tad θ 114)), (2, .int (iZ ((k : Nat) : Int)))] := by have e9 : (((i : Nat) : Int) + 1) = (((i + 1) : Nat) : Int) := (by omega); rw [e9] at hl; exact hl
                        refine lv_goto (tgt := 12) hx hb dX6_isRaw_119 (by decide) ?_
                        exact ih12 (i + 1) 0 _ _ _ (by omega) (by omega) (by rw [r1, ← hv, ← hs, if_neg (by omega)]) hB (lv_sub hl [0, 1, 4, 5, 6, 7] rfl)
                      · exact absurd (by decide) c_36
                  · refine lv_iconst (v := iZ 1) hx hb dX6_isRaw_74 rfl ?_
                    refine lv_goto (tgt := 79) hx hb dX6_isRaw_75 (by decide) ?_
                    refine lv_istore (lv' := [(7, .int (iZ 1)), (6, .int (iZ qs)), (5, .int (iZ ((i : Nat) : Int))), (4, .int (iZ v)), (3, .int (iZ (σ 114 (1 + k)))), (0, .ref (tad θ 111)), (1, .ref (tad θ 114)), (2, .int (iZ ((k : Nat) : Int)))]) hx hb dX6_isRaw_79 hl (by decide) rfl (fun ls hl => ?_)
                    refine lv_iload hx hb dX6_isRaw_81 (lv_at hl 3 rfl) ?_
                    refine z_if_ne (tgt := 109) hx hb dX6_isRaw_83 (by decide) ⟨by omega, by omega⟩ (fun c_37 => ?_) (fun c_37 => ?_)
                    · refine lv_iconst (v := iZ 1) hx hb dX6_isRaw_109 rfl ?_
                      refine lv_goto (tgt := 114) hx hb dX6_isRaw_110 (by decide) ?_
                      refine lv_istore (lv' := [(4, .int (iZ 1)), (7, .int (iZ 1)), (6, .int (iZ qs)), (5, .int (iZ ((i : Nat) : Int))), (3, .int (iZ (σ 114 (1 + k)))), (0, .ref (tad θ 111)), (1, .ref (tad θ 114)), (2, .int (iZ ((k : Nat) : Int)))]) hx hb dX6_isRaw_114 hl (by decide) rfl (fun ls hl => ?_)
                      refine z_iinc (k := 3) (lv' := [(5, .int (iZ (((i : Nat) : Int) + 1))), (4, .int (iZ 1)), (7, .int (iZ 1)), (6, .int (iZ qs)), (3, .int (iZ (σ 114 (1 + k)))), (0, .ref (tad θ 111)), (1, .ref (tad θ 114)), (2, .int (iZ ((k : Nat) : Int)))]) hx hb dX6_isRaw_116 hl rfl (by decide) rfl (fun ls hl => ?_)
                      have hl : lv_has ls 8 [(5, .int (iZ (((i + 1) : Nat) : Int))), (4, .int (iZ 1)), (7, .int (iZ 1)), (6, .int (iZ qs)), (3, .int (iZ (σ 114 (1 + k)))), (0, .ref (tad θ 111)), (1, .ref (tad θ 114)), (2, .int (iZ ((k : Nat) : Int)))] := by have e9 : (((i : Nat) : Int) + 1) = (((i + 1) : Nat) : Int) := (by omega); rw [e9] at hl; exact hl
                      refine lv_goto (tgt := 12) hx hb dX6_isRaw_119 (by decide) ?_
                      exact ih12 (i + 1) 1 _ _ _ (by omega) (by omega) (by rw [r1, ← hv, ← hs, if_pos (by omega)]) hB (lv_sub hl [0, 1, 4, 5, 6, 7] rfl)
                    · refine lv_iload hx hb dX6_isRaw_86 (lv_at hl 0 rfl) ?_
                      refine z_if_eq (tgt := 113) hx hb dX6_isRaw_88 (by decide) ⟨by decide, by decide⟩ (fun c_38 => ?_) (fun c_38 => ?_)
                      · exact absurd c_38 (by decide)
                      · refine lv_iload hx hb dX6_isRaw_91 (lv_at hl 1 rfl) ?_
                        refine lv_bipush (v := iZ (-9)) hx hb dX6_isRaw_93 (by decide) ?_
                        refine z_icmp_eq (tgt := 113) hx hb dX6_isRaw_95 (by decide) ⟨by omega, by omega⟩ ⟨by decide, by decide⟩ (fun c_39 => ?_) (fun c_39 => ?_)
                        · refine lv_iconst (v := iZ 0) hx hb dX6_isRaw_113 rfl ?_
                          refine lv_istore (lv' := [(4, .int (iZ 0)), (7, .int (iZ 1)), (6, .int (iZ qs)), (5, .int (iZ ((i : Nat) : Int))), (3, .int (iZ (σ 114 (1 + k)))), (0, .ref (tad θ 111)), (1, .ref (tad θ 114)), (2, .int (iZ ((k : Nat) : Int)))]) hx hb dX6_isRaw_114 hl (by decide) rfl (fun ls hl => ?_)
                          refine z_iinc (k := 3) (lv' := [(5, .int (iZ (((i : Nat) : Int) + 1))), (4, .int (iZ 0)), (7, .int (iZ 1)), (6, .int (iZ qs)), (3, .int (iZ (σ 114 (1 + k)))), (0, .ref (tad θ 111)), (1, .ref (tad θ 114)), (2, .int (iZ ((k : Nat) : Int)))]) hx hb dX6_isRaw_116 hl rfl (by decide) rfl (fun ls hl => ?_)
                          have hl : lv_has ls 8 [(5, .int (iZ (((i + 1) : Nat) : Int))), (4, .int (iZ 0)), (7, .int (iZ 1)), (6, .int (iZ qs)), (3, .int (iZ (σ 114 (1 + k)))), (0, .ref (tad θ 111)), (1, .ref (tad θ 114)), (2, .int (iZ ((k : Nat) : Int)))] := by have e9 : (((i : Nat) : Int) + 1) = (((i + 1) : Nat) : Int) := (by omega); rw [e9] at hl; exact hl
                          refine lv_goto (tgt := 12) hx hb dX6_isRaw_119 (by decide) ?_
                          exact ih12 (i + 1) 0 _ _ _ (by omega) (by omega) (by rw [r1, ← hv, ← hs, if_neg (by omega)]) hB (lv_sub hl [0, 1, 4, 5, 6, 7] rfl)
                        · refine lv_aload_n hx hb dX6_isRaw_98 rfl (lv_at hl 5 rfl) ?_
                          refine g_getr (k := 23) (j := 126) hx hb hts hown hK hθ hB cf6 (by decide) rfl (by decide) kw_682 rfl rfl dX6_isRaw_99 ?_
                          refine lv_iload hx hb dX6_isRaw_102 (lv_at hl 1 rfl) ?_
                          refine g_iald (k := qs.toNat) hx hb hK hB (by decide) rfl (by omega) (Nat.lt_of_lt_of_eq (by omega : qs.toNat < 8) (Eq.symm rfl)) (by decide) dX6_isRaw_104 ?_
                          have hr_40 := hR 126 (qs.toNat)
                          refine lv_iconst (v := iZ 1) hx hb dX6_isRaw_105 rfl ?_
                          refine z_icmp_ne (tgt := 113) hx hb dX6_isRaw_106 (by decide) ⟨by omega, by omega⟩ ⟨by decide, by decide⟩ (fun c_41 => ?_) (fun c_41 => ?_)
                          · refine lv_iconst (v := iZ 0) hx hb dX6_isRaw_113 rfl ?_
                            refine lv_istore (lv' := [(4, .int (iZ 0)), (7, .int (iZ 1)), (6, .int (iZ qs)), (5, .int (iZ ((i : Nat) : Int))), (3, .int (iZ (σ 114 (1 + k)))), (0, .ref (tad θ 111)), (1, .ref (tad θ 114)), (2, .int (iZ ((k : Nat) : Int)))]) hx hb dX6_isRaw_114 hl (by decide) rfl (fun ls hl => ?_)
                            refine z_iinc (k := 3) (lv' := [(5, .int (iZ (((i : Nat) : Int) + 1))), (4, .int (iZ 0)), (7, .int (iZ 1)), (6, .int (iZ qs)), (3, .int (iZ (σ 114 (1 + k)))), (0, .ref (tad θ 111)), (1, .ref (tad θ 114)), (2, .int (iZ ((k : Nat) : Int)))]) hx hb dX6_isRaw_116 hl rfl (by decide) rfl (fun ls hl => ?_)
                            have hl : lv_has ls 8 [(5, .int (iZ (((i + 1) : Nat) : Int))), (4, .int (iZ 0)), (7, .int (iZ 1)), (6, .int (iZ qs)), (3, .int (iZ (σ 114 (1 + k)))), (0, .ref (tad θ 111)), (1, .ref (tad θ 114)), (2, .int (iZ ((k : Nat) : Int)))] := by have e9 : (((i : Nat) : Int) + 1) = (((i + 1) : Nat) : Int) := (by omega); rw [e9] at hl; exact hl
                            refine lv_goto (tgt := 12) hx hb dX6_isRaw_119 (by decide) ?_
                            exact ih12 (i + 1) 0 _ _ _ (by omega) (by omega) (by rw [r1, ← hv, ← hs, if_neg (by omega)]) hB (lv_sub hl [0, 1, 4, 5, 6, 7] rfl)
                          · refine lv_iconst (v := iZ 1) hx hb dX6_isRaw_109 rfl ?_
                            refine lv_goto (tgt := 114) hx hb dX6_isRaw_110 (by decide) ?_
                            refine lv_istore (lv' := [(4, .int (iZ 1)), (7, .int (iZ 1)), (6, .int (iZ qs)), (5, .int (iZ ((i : Nat) : Int))), (3, .int (iZ (σ 114 (1 + k)))), (0, .ref (tad θ 111)), (1, .ref (tad θ 114)), (2, .int (iZ ((k : Nat) : Int)))]) hx hb dX6_isRaw_114 hl (by decide) rfl (fun ls hl => ?_)
                            refine z_iinc (k := 3) (lv' := [(5, .int (iZ (((i : Nat) : Int) + 1))), (4, .int (iZ 1)), (7, .int (iZ 1)), (6, .int (iZ qs)), (3, .int (iZ (σ 114 (1 + k)))), (0, .ref (tad θ 111)), (1, .ref (tad θ 114)), (2, .int (iZ ((k : Nat) : Int)))]) hx hb dX6_isRaw_116 hl rfl (by decide) rfl (fun ls hl => ?_)
                            have hl : lv_has ls 8 [(5, .int (iZ (((i + 1) : Nat) : Int))), (4, .int (iZ 1)), (7, .int (iZ 1)), (6, .int (iZ qs)), (3, .int (iZ (σ 114 (1 + k)))), (0, .ref (tad θ 111)), (1, .ref (tad θ 114)), (2, .int (iZ ((k : Nat) : Int)))] := by have e9 : (((i : Nat) : Int) + 1) = (((i + 1) : Nat) : Int) := (by omega); rw [e9] at hl; exact hl
                            refine lv_goto (tgt := 12) hx hb dX6_isRaw_119 (by decide) ?_
                            exact ih12 (i + 1) 1 _ _ _ (by omega) (by omega) (by rw [r1, ← hv, ← hs, if_pos (by omega)]) hB (lv_sub hl [0, 1, 4, 5, 6, 7] rfl)
                · refine lv_iload hx hb dX6_isRaw_62 (lv_at hl 1 rfl) ?_
                  refine lv_iconst (v := iZ 1) hx hb dX6_isRaw_64 rfl ?_
                  refine z_icmp_eq (tgt := 74) hx hb dX6_isRaw_65 (by decide) ⟨by omega, by omega⟩ ⟨by decide, by decide⟩ (fun c_42 => ?_) (fun c_42 => ?_)
                  · refine lv_iconst (v := iZ 1) hx hb dX6_isRaw_74 rfl ?_
                    refine lv_goto (tgt := 79) hx hb dX6_isRaw_75 (by decide) ?_
                    refine lv_istore (lv' := [(7, .int (iZ 1)), (6, .int (iZ qs)), (5, .int (iZ ((i : Nat) : Int))), (4, .int (iZ v)), (3, .int (iZ (σ 114 (1 + k)))), (0, .ref (tad θ 111)), (1, .ref (tad θ 114)), (2, .int (iZ ((k : Nat) : Int)))]) hx hb dX6_isRaw_79 hl (by decide) rfl (fun ls hl => ?_)
                    refine lv_iload hx hb dX6_isRaw_81 (lv_at hl 3 rfl) ?_
                    refine z_if_ne (tgt := 109) hx hb dX6_isRaw_83 (by decide) ⟨by omega, by omega⟩ (fun c_43 => ?_) (fun c_43 => ?_)
                    · refine lv_iconst (v := iZ 1) hx hb dX6_isRaw_109 rfl ?_
                      refine lv_goto (tgt := 114) hx hb dX6_isRaw_110 (by decide) ?_
                      refine lv_istore (lv' := [(4, .int (iZ 1)), (7, .int (iZ 1)), (6, .int (iZ qs)), (5, .int (iZ ((i : Nat) : Int))), (3, .int (iZ (σ 114 (1 + k)))), (0, .ref (tad θ 111)), (1, .ref (tad θ 114)), (2, .int (iZ ((k : Nat) : Int)))]) hx hb dX6_isRaw_114 hl (by decide) rfl (fun ls hl => ?_)
                      refine z_iinc (k := 3) (lv' := [(5, .int (iZ (((i : Nat) : Int) + 1))), (4, .int (iZ 1)), (7, .int (iZ 1)), (6, .int (iZ qs)), (3, .int (iZ (σ 114 (1 + k)))), (0, .ref (tad θ 111)), (1, .ref (tad θ 114)), (2, .int (iZ ((k : Nat) : Int)))]) hx hb dX6_isRaw_116 hl rfl (by decide) rfl (fun ls hl => ?_)
                      have hl : lv_has ls 8 [(5, .int (iZ (((i + 1) : Nat) : Int))), (4, .int (iZ 1)), (7, .int (iZ 1)), (6, .int (iZ qs)), (3, .int (iZ (σ 114 (1 + k)))), (0, .ref (tad θ 111)), (1, .ref (tad θ 114)), (2, .int (iZ ((k : Nat) : Int)))] := by have e9 : (((i : Nat) : Int) + 1) = (((i + 1) : Nat) : Int) := (by omega); rw [e9] at hl; exact hl
                      refine lv_goto (tgt := 12) hx hb dX6_isRaw_119 (by decide) ?_
                      exact ih12 (i + 1) 1 _ _ _ (by omega) (by omega) (by rw [r1, ← hv, ← hs, if_pos (by omega)]) hB (lv_sub hl [0, 1, 4, 5, 6, 7] rfl)
                    · refine lv_iload hx hb dX6_isRaw_86 (lv_at hl 0 rfl) ?_
                      refine z_if_eq (tgt := 113) hx hb dX6_isRaw_88 (by decide) ⟨by decide, by decide⟩ (fun c_44 => ?_) (fun c_44 => ?_)
                      · exact absurd c_44 (by decide)
                      · refine lv_iload hx hb dX6_isRaw_91 (lv_at hl 1 rfl) ?_
                        refine lv_bipush (v := iZ (-9)) hx hb dX6_isRaw_93 (by decide) ?_
                        refine z_icmp_eq (tgt := 113) hx hb dX6_isRaw_95 (by decide) ⟨by omega, by omega⟩ ⟨by decide, by decide⟩ (fun c_45 => ?_) (fun c_45 => ?_)
                        · refine lv_iconst (v := iZ 0) hx hb dX6_isRaw_113 rfl ?_
                          refine lv_istore (lv' := [(4, .int (iZ 0)), (7, .int (iZ 1)), (6, .int (iZ qs)), (5, .int (iZ ((i : Nat) : Int))), (3, .int (iZ (σ 114 (1 + k)))), (0, .ref (tad θ 111)), (1, .ref (tad θ 114)), (2, .int (iZ ((k : Nat) : Int)))]) hx hb dX6_isRaw_114 hl (by decide) rfl (fun ls hl => ?_)
                          refine z_iinc (k := 3) (lv' := [(5, .int (iZ (((i : Nat) : Int) + 1))), (4, .int (iZ 0)), (7, .int (iZ 1)), (6, .int (iZ qs)), (3, .int (iZ (σ 114 (1 + k)))), (0, .ref (tad θ 111)), (1, .ref (tad θ 114)), (2, .int (iZ ((k : Nat) : Int)))]) hx hb dX6_isRaw_116 hl rfl (by decide) rfl (fun ls hl => ?_)
                          have hl : lv_has ls 8 [(5, .int (iZ (((i + 1) : Nat) : Int))), (4, .int (iZ 0)), (7, .int (iZ 1)), (6, .int (iZ qs)), (3, .int (iZ (σ 114 (1 + k)))), (0, .ref (tad θ 111)), (1, .ref (tad θ 114)), (2, .int (iZ ((k : Nat) : Int)))] := by have e9 : (((i : Nat) : Int) + 1) = (((i + 1) : Nat) : Int) := (by omega); rw [e9] at hl; exact hl
                          refine lv_goto (tgt := 12) hx hb dX6_isRaw_119 (by decide) ?_
                          exact ih12 (i + 1) 0 _ _ _ (by omega) (by omega) (by rw [r1, ← hv, ← hs, if_neg (by omega)]) hB (lv_sub hl [0, 1, 4, 5, 6, 7] rfl)
                        · refine lv_aload_n hx hb dX6_isRaw_98 rfl (lv_at hl 5 rfl) ?_
                          refine g_getr (k := 23) (j := 126) hx hb hts hown hK hθ hB cf6 (by decide) rfl (by decide) kw_682 rfl rfl dX6_isRaw_99 ?_
                          refine lv_iload hx hb dX6_isRaw_102 (lv_at hl 1 rfl) ?_
                          refine g_iald (k := qs.toNat) hx hb hK hB (by decide) rfl (by omega) (Nat.lt_of_lt_of_eq (by omega : qs.toNat < 8) (Eq.symm rfl)) (by decide) dX6_isRaw_104 ?_
                          have hr_46 := hR 126 (qs.toNat)
                          refine lv_iconst (v := iZ 1) hx hb dX6_isRaw_105 rfl ?_
                          refine z_icmp_ne (tgt := 113) hx hb dX6_isRaw_106 (by decide) ⟨by omega, by omega⟩ ⟨by decide, by decide⟩ (fun c_47 => ?_) (fun c_47 => ?_)
                          · refine lv_iconst (v := iZ 0) hx hb dX6_isRaw_113 rfl ?_
                            refine lv_istore (lv' := [(4, .int (iZ 0)), (7, .int (iZ 1)), (6, .int (iZ qs)), (5, .int (iZ ((i : Nat) : Int))), (3, .int (iZ (σ 114 (1 + k)))), (0, .ref (tad θ 111)), (1, .ref (tad θ 114)), (2, .int (iZ ((k : Nat) : Int)))]) hx hb dX6_isRaw_114 hl (by decide) rfl (fun ls hl => ?_)
                            refine z_iinc (k := 3) (lv' := [(5, .int (iZ (((i : Nat) : Int) + 1))), (4, .int (iZ 0)), (7, .int (iZ 1)), (6, .int (iZ qs)), (3, .int (iZ (σ 114 (1 + k)))), (0, .ref (tad θ 111)), (1, .ref (tad θ 114)), (2, .int (iZ ((k : Nat) : Int)))]) hx hb dX6_isRaw_116 hl rfl (by decide) rfl (fun ls hl => ?_)
                            have hl : lv_has ls 8 [(5, .int (iZ (((i + 1) : Nat) : Int))), (4, .int (iZ 0)), (7, .int (iZ 1)), (6, .int (iZ qs)), (3, .int (iZ (σ 114 (1 + k)))), (0, .ref (tad θ 111)), (1, .ref (tad θ 114)), (2, .int (iZ ((k : Nat) : Int)))] := by have e9 : (((i : Nat) : Int) + 1) = (((i + 1) : Nat) : Int) := (by omega); rw [e9] at hl; exact hl
                            refine lv_goto (tgt := 12) hx hb dX6_isRaw_119 (by decide) ?_
                            exact ih12 (i + 1) 0 _ _ _ (by omega) (by omega) (by rw [r1, ← hv, ← hs, if_neg (by omega)]) hB (lv_sub hl [0, 1, 4, 5, 6, 7] rfl)
                          · refine lv_iconst (v := iZ 1) hx hb dX6_isRaw_109 rfl ?_
                            refine lv_goto (tgt := 114) hx hb dX6_isRaw_110 (by decide) ?_
                            refine lv_istore (lv' := [(4, .int (iZ 1)), (7, .int (iZ 1)), (6, .int (iZ qs)), (5, .int (iZ ((i : Nat) : Int))), (3, .int (iZ (σ 114 (1 + k)))), (0, .ref (tad θ 111)), (1, .ref (tad θ 114)), (2, .int (iZ ((k : Nat) : Int)))]) hx hb dX6_isRaw_114 hl (by decide) rfl (fun ls hl => ?_)
                            refine z_iinc (k := 3) (lv' := [(5, .int (iZ (((i : Nat) : Int) + 1))), (4, .int (iZ 1)), (7, .int (iZ 1)), (6, .int (iZ qs)), (3, .int (iZ (σ 114 (1 + k)))), (0, .ref (tad θ 111)), (1, .ref (tad θ 114)), (2, .int (iZ ((k : Nat) : Int)))]) hx hb dX6_isRaw_116 hl rfl (by decide) rfl (fun ls hl => ?_)
                            have hl : lv_has ls 8 [(5, .int (iZ (((i + 1) : Nat) : Int))), (4, .int (iZ 1)), (7, .int (iZ 1)), (6, .int (iZ qs)), (3, .int (iZ (σ 114 (1 + k)))), (0, .ref (tad θ 111)), (1, .ref (tad θ 114)), (2, .int (iZ ((k : Nat) : Int)))] := by have e9 : (((i : Nat) : Int) + 1) = (((i + 1) : Nat) : Int) := (by omega); rw [e9] at hl; exact hl
                            refine lv_goto (tgt := 12) hx hb dX6_isRaw_119 (by decide) ?_
                            exact ih12 (i + 1) 1 _ _ _ (by omega) (by omega) (by rw [r1, ← hv, ← hs, if_pos (by omega)]) hB (lv_sub hl [0, 1, 4, 5, 6, 7] rfl)
                  · refine lv_iload_n hx hb dX6_isRaw_68 rfl (lv_at hl 3 rfl) ?_
                    refine lv_bipush (v := iZ 11) hx hb dX6_isRaw_69 (by decide) ?_
                    refine z_icmp_ne (tgt := 78) hx hb dX6_isRaw_71 (by decide) ⟨by omega, by omega⟩ ⟨by decide, by decide⟩ (fun c_48 => ?_) (fun c_48 => ?_)
                    · refine lv_iconst (v := iZ 0) hx hb dX6_isRaw_78 rfl ?_
                      refine lv_istore (lv' := [(7, .int (iZ 0)), (6, .int (iZ qs)), (5, .int (iZ ((i : Nat) : Int))), (4, .int (iZ v)), (3, .int (iZ (σ 114 (1 + k)))), (0, .ref (tad θ 111)), (1, .ref (tad θ 114)), (2, .int (iZ ((k : Nat) : Int)))]) hx hb dX6_isRaw_79 hl (by decide) rfl (fun ls hl => ?_)
                      refine lv_iload hx hb dX6_isRaw_81 (lv_at hl 3 rfl) ?_
                      refine z_if_ne (tgt := 109) hx hb dX6_isRaw_83 (by decide) ⟨by omega, by omega⟩ (fun c_49 => ?_) (fun c_49 => ?_)
                      · refine lv_iconst (v := iZ 1) hx hb dX6_isRaw_109 rfl ?_
                        refine lv_goto (tgt := 114) hx hb dX6_isRaw_110 (by decide) ?_
                        refine lv_istore (lv' := [(4, .int (iZ 1)), (7, .int (iZ 0)), (6, .int (iZ qs)), (5, .int (iZ ((i : Nat) : Int))), (3, .int (iZ (σ 114 (1 + k)))), (0, .ref (tad θ 111)), (1, .ref (tad θ 114)), (2, .int (iZ ((k : Nat) : Int)))]) hx hb dX6_isRaw_114 hl (by decide) rfl (fun ls hl => ?_)
                        refine z_iinc (k := 3) (lv' := [(5, .int (iZ (((i : Nat) : Int) + 1))), (4, .int (iZ 1)), (7, .int (iZ 0)), (6, .int (iZ qs)), (3, .int (iZ (σ 114 (1 + k)))), (0, .ref (tad θ 111)), (1, .ref (tad θ 114)), (2, .int (iZ ((k : Nat) : Int)))]) hx hb dX6_isRaw_116 hl rfl (by decide) rfl (fun ls hl => ?_)
                        have hl : lv_has ls 8 [(5, .int (iZ (((i + 1) : Nat) : Int))), (4, .int (iZ 1)), (7, .int (iZ 0)), (6, .int (iZ qs)), (3, .int (iZ (σ 114 (1 + k)))), (0, .ref (tad θ 111)), (1, .ref (tad θ 114)), (2, .int (iZ ((k : Nat) : Int)))] := by have e9 : (((i : Nat) : Int) + 1) = (((i + 1) : Nat) : Int) := (by omega); rw [e9] at hl; exact hl
                        refine lv_goto (tgt := 12) hx hb dX6_isRaw_119 (by decide) ?_
                        exact ih12 (i + 1) 1 _ _ _ (by omega) (by omega) (by rw [r1, ← hv, ← hs, if_pos (by omega)]) hB (lv_sub hl [0, 1, 4, 5, 6, 7] rfl)
                      · refine lv_iload hx hb dX6_isRaw_86 (lv_at hl 0 rfl) ?_
                        refine z_if_eq (tgt := 113) hx hb dX6_isRaw_88 (by decide) ⟨by decide, by decide⟩ (fun c_50 => ?_) (fun c_50 => ?_)
                        · refine lv_iconst (v := iZ 0) hx hb dX6_isRaw_113 rfl ?_
                          refine lv_istore (lv' := [(4, .int (iZ 0)), (7, .int (iZ 0)), (6, .int (iZ qs)), (5, .int (iZ ((i : Nat) : Int))), (3, .int (iZ (σ 114 (1 + k)))), (0, .ref (tad θ 111)), (1, .ref (tad θ 114)), (2, .int (iZ ((k : Nat) : Int)))]) hx hb dX6_isRaw_114 hl (by decide) rfl (fun ls hl => ?_)
                          refine z_iinc (k := 3) (lv' := [(5, .int (iZ (((i : Nat) : Int) + 1))), (4, .int (iZ 0)), (7, .int (iZ 0)), (6, .int (iZ qs)), (3, .int (iZ (σ 114 (1 + k)))), (0, .ref (tad θ 111)), (1, .ref (tad θ 114)), (2, .int (iZ ((k : Nat) : Int)))]) hx hb dX6_isRaw_116 hl rfl (by decide) rfl (fun ls hl => ?_)
                          have hl : lv_has ls 8 [(5, .int (iZ (((i + 1) : Nat) : Int))), (4, .int (iZ 0)), (7, .int (iZ 0)), (6, .int (iZ qs)), (3, .int (iZ (σ 114 (1 + k)))), (0, .ref (tad θ 111)), (1, .ref (tad θ 114)), (2, .int (iZ ((k : Nat) : Int)))] := by have e9 : (((i : Nat) : Int) + 1) = (((i + 1) : Nat) : Int) := (by omega); rw [e9] at hl; exact hl
                          refine lv_goto (tgt := 12) hx hb dX6_isRaw_119 (by decide) ?_
                          exact ih12 (i + 1) 0 _ _ _ (by omega) (by omega) (by rw [r1, ← hv, ← hs, if_neg (by omega)]) hB (lv_sub hl [0, 1, 4, 5, 6, 7] rfl)
                        · exact absurd (by decide) c_50
                    · refine lv_iconst (v := iZ 1) hx hb dX6_isRaw_74 rfl ?_
                      refine lv_goto (tgt := 79) hx hb dX6_isRaw_75 (by decide) ?_
                      refine lv_istore (lv' := [(7, .int (iZ 1)), (6, .int (iZ qs)), (5, .int (iZ ((i : Nat) : Int))), (4, .int (iZ v)), (3, .int (iZ (σ 114 (1 + k)))), (0, .ref (tad θ 111)), (1, .ref (tad θ 114)), (2, .int (iZ ((k : Nat) : Int)))]) hx hb dX6_isRaw_79 hl (by decide) rfl (fun ls hl => ?_)
                      refine lv_iload hx hb dX6_isRaw_81 (lv_at hl 3 rfl) ?_
                      refine z_if_ne (tgt := 109) hx hb dX6_isRaw_83 (by decide) ⟨by omega, by omega⟩ (fun c_51 => ?_) (fun c_51 => ?_)
                      · refine lv_iconst (v := iZ 1) hx hb dX6_isRaw_109 rfl ?_
                        refine lv_goto (tgt := 114) hx hb dX6_isRaw_110 (by decide) ?_
                        refine lv_istore (lv' := [(4, .int (iZ 1)), (7, .int (iZ 1)), (6, .int (iZ qs)), (5, .int (iZ ((i : Nat) : Int))), (3, .int (iZ (σ 114 (1 + k)))), (0, .ref (tad θ 111)), (1, .ref (tad θ 114)), (2, .int (iZ ((k : Nat) : Int)))]) hx hb dX6_isRaw_114 hl (by decide) rfl (fun ls hl => ?_)
                        refine z_iinc (k := 3) (lv' := [(5, .int (iZ (((i : Nat) : Int) + 1))), (4, .int (iZ 1)), (7, .int (iZ 1)), (6, .int (iZ qs)), (3, .int (iZ (σ 114 (1 + k)))), (0, .ref (tad θ 111)), (1, .ref (tad θ 114)), (2, .int (iZ ((k : Nat) : Int)))]) hx hb dX6_isRaw_116 hl rfl (by decide) rfl (fun ls hl => ?_)
                        have hl : lv_has ls 8 [(5, .int (iZ (((i + 1) : Nat) : Int))), (4, .int (iZ 1)), (7, .int (iZ 1)), (6, .int (iZ qs)), (3, .int (iZ (σ 114 (1 + k)))), (0, .ref (tad θ 111)), (1, .ref (tad θ 114)), (2, .int (iZ ((k : Nat) : Int)))] := by have e9 : (((i : Nat) : Int) + 1) = (((i + 1) : Nat) : Int) := (by omega); rw [e9] at hl; exact hl
                        refine lv_goto (tgt := 12) hx hb dX6_isRaw_119 (by decide) ?_
                        exact ih12 (i + 1) 1 _ _ _ (by omega) (by omega) (by rw [r1, ← hv, ← hs, if_pos (by omega)]) hB (lv_sub hl [0, 1, 4, 5, 6, 7] rfl)
                      · refine lv_iload hx hb dX6_isRaw_86 (lv_at hl 0 rfl) ?_
                        refine z_if_eq (tgt := 113) hx hb dX6_isRaw_88 (by decide) ⟨by decide, by decide⟩ (fun c_52 => ?_) (fun c_52 => ?_)
                        · exact absurd c_52 (by decide)
                        · refine lv_iload hx hb dX6_isRaw_91 (lv_at hl 1 rfl) ?_
                          refine lv_bipush (v := iZ (-9)) hx hb dX6_isRaw_93 (by decide) ?_
                          refine z_icmp_eq (tgt := 113) hx hb dX6_isRaw_95 (by decide) ⟨by omega, by omega⟩ ⟨by decide, by decide⟩ (fun c_53 => ?_) (fun c_53 => ?_)
                          · refine lv_iconst (v := iZ 0) hx hb dX6_isRaw_113 rfl ?_
                            refine lv_istore (lv' := [(4, .int (iZ 0)), (7, .int (iZ 1)), (6, .int (iZ qs)), (5, .int (iZ ((i : Nat) : Int))), (3, .int (iZ (σ 114 (1 + k)))), (0, .ref (tad θ 111)), (1, .ref (tad θ 114)), (2, .int (iZ ((k : Nat) : Int)))]) hx hb dX6_isRaw_114 hl (by decide) rfl (fun ls hl => ?_)
                            refine z_iinc (k := 3) (lv' := [(5, .int (iZ (((i : Nat) : Int) + 1))), (4, .int (iZ 0)), (7, .int (iZ 1)), (6, .int (iZ qs)), (3, .int (iZ (σ 114 (1 + k)))), (0, .ref (tad θ 111)), (1, .ref (tad θ 114)), (2, .int (iZ ((k : Nat) : Int)))]) hx hb dX6_isRaw_116 hl rfl (by decide) rfl (fun ls hl => ?_)
                            have hl : lv_has ls 8 [(5, .int (iZ (((i + 1) : Nat) : Int))), (4, .int (iZ 0)), (7, .int (iZ 1)), (6, .int (iZ qs)), (3, .int (iZ (σ 114 (1 + k)))), (0, .ref (tad θ 111)), (1, .ref (tad θ 114)), (2, .int (iZ ((k : Nat) : Int)))] := by have e9 : (((i : Nat) : Int) + 1) = (((i + 1) : Nat) : Int) := (by omega); rw [e9] at hl; exact hl
                            refine lv_goto (tgt := 12) hx hb dX6_isRaw_119 (by decide) ?_
                            exact ih12 (i + 1) 0 _ _ _ (by omega) (by omega) (by rw [r1, ← hv, ← hs, if_neg (by omega)]) hB (lv_sub hl [0, 1, 4, 5, 6, 7] rfl)
                          · refine lv_aload_n hx hb dX6_isRaw_98 rfl (lv_at hl 5 rfl) ?_
                            refine g_getr (k := 23) (j := 126) hx hb hts hown hK hθ hB cf6 (by decide) rfl (by decide) kw_682 rfl rfl dX6_isRaw_99 ?_
                            refine lv_iload hx hb dX6_isRaw_102 (lv_at hl 1 rfl) ?_
                            refine g_iald (k := qs.toNat) hx hb hK hB (by decide) rfl (by omega) (Nat.lt_of_lt_of_eq (by omega : qs.toNat < 8) (Eq.symm rfl)) (by decide) dX6_isRaw_104 ?_
                            have hr_54 := hR 126 (qs.toNat)
                            refine lv_iconst (v := iZ 1) hx hb dX6_isRaw_105 rfl ?_
                            refine z_icmp_ne (tgt := 113) hx hb dX6_isRaw_106 (by decide) ⟨by omega, by omega⟩ ⟨by decide, by decide⟩ (fun c_55 => ?_) (fun c_55 => ?_)
                            · refine lv_iconst (v := iZ 0) hx hb dX6_isRaw_113 rfl ?_
                              refine lv_istore (lv' := [(4, .int (iZ 0)), (7, .int (iZ 1)), (6, .int (iZ qs)), (5, .int (iZ ((i : Nat) : Int))), (3, .int (iZ (σ 114 (1 + k)))), (0, .ref (tad θ 111)), (1, .ref (tad θ 114)), (2, .int (iZ ((k : Nat) : Int)))]) hx hb dX6_isRaw_114 hl (by decide) rfl (fun ls hl => ?_)
                              refine z_iinc (k := 3) (lv' := [(5, .int (iZ (((i : Nat) : Int) + 1))), (4, .int (iZ 0)), (7, .int (iZ 1)), (6, .int (iZ qs)), (3, .int (iZ (σ 114 (1 + k)))), (0, .ref (tad θ 111)), (1, .ref (tad θ 114)), (2, .int (iZ ((k : Nat) : Int)))]) hx hb dX6_isRaw_116 hl rfl (by decide) rfl (fun ls hl => ?_)
                              have hl : lv_has ls 8 [(5, .int (iZ (((i + 1) : Nat) : Int))), (4, .int (iZ 0)), (7, .int (iZ 1)), (6, .int (iZ qs)), (3, .int (iZ (σ 114 (1 + k)))), (0, .ref (tad θ 111)), (1, .ref (tad θ 114)), (2, .int (iZ ((k : Nat) : Int)))] := by have e9 : (((i : Nat) : Int) + 1) = (((i + 1) : Nat) : Int) := (by omega); rw [e9] at hl; exact hl
                              refine lv_goto (tgt := 12) hx hb dX6_isRaw_119 (by decide) ?_
                              exact ih12 (i + 1) 0 _ _ _ (by omega) (by omega) (by rw [r1, ← hv, ← hs, if_neg (by omega)]) hB (lv_sub hl [0, 1, 4, 5, 6, 7] rfl)
                            · refine lv_iconst (v := iZ 1) hx hb dX6_isRaw_109 rfl ?_
                              refine lv_goto (tgt := 114) hx hb dX6_isRaw_110 (by decide) ?_
                              refine lv_istore (lv' := [(4, .int (iZ 1)), (7, .int (iZ 1)), (6, .int (iZ qs)), (5, .int (iZ ((i : Nat) : Int))), (3, .int (iZ (σ 114 (1 + k)))), (0, .ref (tad θ 111)), (1, .ref (tad θ 114)), (2, .int (iZ ((k : Nat) : Int)))]) hx hb dX6_isRaw_114 hl (by decide) rfl (fun ls hl => ?_)
                              refine z_iinc (k := 3) (lv' := [(5, .int (iZ (((i : Nat) : Int) + 1))), (4, .int (iZ 1)), (7, .int (iZ 1)), (6, .int (iZ qs)), (3, .int (iZ (σ 114 (1 + k)))), (0, .ref (tad θ 111)), (1, .ref (tad θ 114)), (2, .int (iZ ((k : Nat) : Int)))]) hx hb dX6_isRaw_116 hl rfl (by decide) rfl (fun ls hl => ?_)
                              have hl : lv_has ls 8 [(5, .int (iZ (((i + 1) : Nat) : Int))), (4, .int (iZ 1)), (7, .int (iZ 1)), (6, .int (iZ qs)), (3, .int (iZ (σ 114 (1 + k)))), (0, .ref (tad θ 111)), (1, .ref (tad θ 114)), (2, .int (iZ ((k : Nat) : Int)))] := by have e9 : (((i : Nat) : Int) + 1) = (((i + 1) : Nat) : Int) := (by omega); rw [e9] at hl; exact hl
                              refine lv_goto (tgt := 12) hx hb dX6_isRaw_119 (by decide) ?_
                              exact ih12 (i + 1) 1 _ _ _ (by omega) (by omega) (by rw [r1, ← hv, ← hs, if_pos (by omega)]) hB (lv_sub hl [0, 1, 4, 5, 6, 7] rfl)
            · refine lv_iload hx hb dX6_isRaw_45 (lv_at hl 1 rfl) ?_
              refine z_if_eq (tgt := 74) hx hb dX6_isRaw_47 (by decide) ⟨by omega, by omega⟩ (fun c_56 => ?_) (fun c_56 => ?_)
              · refine lv_iconst (v := iZ 1) hx hb dX6_isRaw_74 rfl ?_
                refine lv_goto (tgt := 79) hx hb dX6_isRaw_75 (by decide) ?_
                refine lv_istore (lv' := [(7, .int (iZ 1)), (6, .int (iZ qs)), (5, .int (iZ ((i : Nat) : Int))), (4, .int (iZ v)), (3, .int (iZ (σ 114 (1 + k)))), (0, .ref (tad θ 111)), (1, .ref (tad θ 114)), (2, .int (iZ ((k : Nat) : Int)))]) hx hb dX6_isRaw_79 hl (by decide) rfl (fun ls hl => ?_)
                refine lv_iload hx hb dX6_isRaw_81 (lv_at hl 3 rfl) ?_
                refine z_if_ne (tgt := 109) hx hb dX6_isRaw_83 (by decide) ⟨by omega, by omega⟩ (fun c_57 => ?_) (fun c_57 => ?_)
                · refine lv_iconst (v := iZ 1) hx hb dX6_isRaw_109 rfl ?_
                  refine lv_goto (tgt := 114) hx hb dX6_isRaw_110 (by decide) ?_
                  refine lv_istore (lv' := [(4, .int (iZ 1)), (7, .int (iZ 1)), (6, .int (iZ qs)), (5, .int (iZ ((i : Nat) : Int))), (3, .int (iZ (σ 114 (1 + k)))), (0, .ref (tad θ 111)), (1, .ref (tad θ 114)), (2, .int (iZ ((k : Nat) : Int)))]) hx hb dX6_isRaw_114 hl (by decide) rfl (fun ls hl => ?_)
                  refine z_iinc (k := 3) (lv' := [(5, .int (iZ (((i : Nat) : Int) + 1))), (4, .int (iZ 1)), (7, .int (iZ 1)), (6, .int (iZ qs)), (3, .int (iZ (σ 114 (1 + k)))), (0, .ref (tad θ 111)), (1, .ref (tad θ 114)), (2, .int (iZ ((k : Nat) : Int)))]) hx hb dX6_isRaw_116 hl rfl (by decide) rfl (fun ls hl => ?_)
                  have hl : lv_has ls 8 [(5, .int (iZ (((i + 1) : Nat) : Int))), (4, .int (iZ 1)), (7, .int (iZ 1)), (6, .int (iZ qs)), (3, .int (iZ (σ 114 (1 + k)))), (0, .ref (tad θ 111)), (1, .ref (tad θ 114)), (2, .int (iZ ((k : Nat) : Int)))] := by have e9 : (((i : Nat) : Int) + 1) = (((i + 1) : Nat) : Int) := (by omega); rw [e9] at hl; exact hl
                  refine lv_goto (tgt := 12) hx hb dX6_isRaw_119 (by decide) ?_
                  exact ih12 (i + 1) 1 _ _ _ (by omega) (by omega) (by rw [r1, ← hv, ← hs, if_pos (by omega)]) hB (lv_sub hl [0, 1, 4, 5, 6, 7] rfl)
                · refine lv_iload hx hb dX6_isRaw_86 (lv_at hl 0 rfl) ?_
                  refine z_if_eq (tgt := 113) hx hb dX6_isRaw_88 (by decide) ⟨by decide, by decide⟩ (fun c_58 => ?_) (fun c_58 => ?_)
                  · exact absurd c_58 (by decide)
                  · refine lv_iload hx hb dX6_isRaw_91 (lv_at hl 1 rfl) ?_
                    refine lv_bipush (v := iZ (-9)) hx hb dX6_isRaw_93 (by decide) ?_
                    refine z_icmp_eq (tgt := 113) hx hb dX6_isRaw_95 (by decide) ⟨by omega, by omega⟩ ⟨by decide, by decide⟩ (fun c_59 => ?_) (fun c_59 => ?_)
                    · refine lv_iconst (v := iZ 0) hx hb dX6_isRaw_113 rfl ?_
                      refine lv_istore (lv' := [(4, .int (iZ 0)), (7, .int (iZ 1)), (6, .int (iZ qs)), (5, .int (iZ ((i : Nat) : Int))), (3, .int (iZ (σ 114 (1 + k)))), (0, .ref (tad θ 111)), (1, .ref (tad θ 114)), (2, .int (iZ ((k : Nat) : Int)))]) hx hb dX6_isRaw_114 hl (by decide) rfl (fun ls hl => ?_)
                      refine z_iinc (k := 3) (lv' := [(5, .int (iZ (((i : Nat) : Int) + 1))), (4, .int (iZ 0)), (7, .int (iZ 1)), (6, .int (iZ qs)), (3, .int (iZ (σ 114 (1 + k)))), (0, .ref (tad θ 111)), (1, .ref (tad θ 114)), (2, .int (iZ ((k : Nat) : Int)))]) hx hb dX6_isRaw_116 hl rfl (by decide) rfl (fun ls hl => ?_)
                      have hl : lv_has ls 8 [(5, .int (iZ (((i + 1) : Nat) : Int))), (4, .int (iZ 0)), (7, .int (iZ 1)), (6, .int (iZ qs)), (3, .int (iZ (σ 114 (1 + k)))), (0, .ref (tad θ 111)), (1, .ref (tad θ 114)), (2, .int (iZ ((k : Nat) : Int)))] := by have e9 : (((i : Nat) : Int) + 1) = (((i + 1) : Nat) : Int) := (by omega); rw [e9] at hl; exact hl
                      refine lv_goto (tgt := 12) hx hb dX6_isRaw_119 (by decide) ?_
                      exact ih12 (i + 1) 0 _ _ _ (by omega) (by omega) (by rw [r1, ← hv, ← hs, if_neg (by omega)]) hB (lv_sub hl [0, 1, 4, 5, 6, 7] rfl)
                    · refine lv_aload_n hx hb dX6_isRaw_98 rfl (lv_at hl 5 rfl) ?_
                      refine g_getr (k := 23) (j := 126) hx hb hts hown hK hθ hB cf6 (by decide) rfl (by decide) kw_682 rfl rfl dX6_isRaw_99 ?_
                      refine lv_iload hx hb dX6_isRaw_102 (lv_at hl 1 rfl) ?_
                      refine g_iald (k := qs.toNat) hx hb hK hB (by decide) rfl (by omega) (Nat.lt_of_lt_of_eq (by omega : qs.toNat < 8) (Eq.symm rfl)) (by decide) dX6_isRaw_104 ?_
                      have hr_60 := hR 126 (qs.toNat)
                      refine lv_iconst (v := iZ 1) hx hb dX6_isRaw_105 rfl ?_
                      refine z_icmp_ne (tgt := 113) hx hb dX6_isRaw_106 (by decide) ⟨by omega, by omega⟩ ⟨by decide, by decide⟩ (fun c_61 => ?_) (fun c_61 => ?_)
                      · refine lv_iconst (v := iZ 0) hx hb dX6_isRaw_113 rfl ?_
                        refine lv_istore (lv' := [(4, .int (iZ 0)), (7, .int (iZ 1)), (6, .int (iZ qs)), (5, .int (iZ ((i : Nat) : Int))), (3, .int (iZ (σ 114 (1 + k)))), (0, .ref (tad θ 111)), (1, .ref (tad θ 114)), (2, .int (iZ ((k : Nat) : Int)))]) hx hb dX6_isRaw_114 hl (by decide) rfl (fun ls hl => ?_)
                        refine z_iinc (k := 3) (lv' := [(5, .int (iZ (((i : Nat) : Int) + 1))), (4, .int (iZ 0)), (7, .int (iZ 1)), (6, .int (iZ qs)), (3, .int (iZ (σ 114 (1 + k)))), (0, .ref (tad θ 111)), (1, .ref (tad θ 114)), (2, .int (iZ ((k : Nat) : Int)))]) hx hb dX6_isRaw_116 hl rfl (by decide) rfl (fun ls hl => ?_)
                        have hl : lv_has ls 8 [(5, .int (iZ (((i + 1) : Nat) : Int))), (4, .int (iZ 0)), (7, .int (iZ 1)), (6, .int (iZ qs)), (3, .int (iZ (σ 114 (1 + k)))), (0, .ref (tad θ 111)), (1, .ref (tad θ 114)), (2, .int (iZ ((k : Nat) : Int)))] := by have e9 : (((i : Nat) : Int) + 1) = (((i + 1) : Nat) : Int) := (by omega); rw [e9] at hl; exact hl
                        refine lv_goto (tgt := 12) hx hb dX6_isRaw_119 (by decide) ?_
                        exact ih12 (i + 1) 0 _ _ _ (by omega) (by omega) (by rw [r1, ← hv, ← hs, if_neg (by omega)]) hB (lv_sub hl [0, 1, 4, 5, 6, 7] rfl)
                      · refine lv_iconst (v := iZ 1) hx hb dX6_isRaw_109 rfl ?_
                        refine lv_goto (tgt := 114) hx hb dX6_isRaw_110 (by decide) ?_
                        refine lv_istore (lv' := [(4, .int (iZ 1)), (7, .int (iZ 1)), (6, .int (iZ qs)), (5, .int (iZ ((i : Nat) : Int))), (3, .int (iZ (σ 114 (1 + k)))), (0, .ref (tad θ 111)), (1, .ref (tad θ 114)), (2, .int (iZ ((k : Nat) : Int)))]) hx hb dX6_isRaw_114 hl (by decide) rfl (fun ls hl => ?_)
                        refine z_iinc (k := 3) (lv' := [(5, .int (iZ (((i : Nat) : Int) + 1))), (4, .int (iZ 1)), (7, .int (iZ 1)), (6, .int (iZ qs)), (3, .int (iZ (σ 114 (1 + k)))), (0, .ref (tad θ 111)), (1, .ref (tad θ 114)), (2, .int (iZ ((k : Nat) : Int)))]) hx hb dX6_isRaw_116 hl rfl (by decide) rfl (fun ls hl => ?_)
                        have hl : lv_has ls 8 [(5, .int (iZ (((i + 1) : Nat) : Int))), (4, .int (iZ 1)), (7, .int (iZ 1)), (6, .int (iZ qs)), (3, .int (iZ (σ 114 (1 + k)))), (0, .ref (tad θ 111)), (1, .ref (tad θ 114)), (2, .int (iZ ((k : Nat) : Int)))] := by have e9 : (((i : Nat) : Int) + 1) = (((i + 1) : Nat) : Int) := (by omega); rw [e9] at hl; exact hl
                        refine lv_goto (tgt := 12) hx hb dX6_isRaw_119 (by decide) ?_
                        exact ih12 (i + 1) 1 _ _ _ (by omega) (by omega) (by rw [r1, ← hv, ← hs, if_pos (by omega)]) hB (lv_sub hl [0, 1, 4, 5, 6, 7] rfl)
              · refine lv_iload_n hx hb dX6_isRaw_50 rfl (lv_at hl 3 rfl) ?_
                refine lv_bipush (v := iZ 9) hx hb dX6_isRaw_51 (by decide) ?_
                refine z_icmp_eq (tgt := 62) hx hb dX6_isRaw_53 (by decide) ⟨by omega, by omega⟩ ⟨by decide, by decide⟩ (fun c_62 => ?_) (fun c_62 => ?_)
                · refine lv_iload hx hb dX6_isRaw_62 (lv_at hl 1 rfl) ?_
                  refine lv_iconst (v := iZ 1) hx hb dX6_isRaw_64 rfl ?_
                  refine z_icmp_eq (tgt := 74) hx hb dX6_isRaw_65 (by decide) ⟨by omega, by omega⟩ ⟨by decide, by decide⟩ (fun c_63 => ?_) (fun c_63 => ?_)
                  · refine lv_iconst (v := iZ 1) hx hb dX6_isRaw_74 rfl ?_
                    refine lv_goto (tgt := 79) hx hb dX6_isRaw_75 (by decide) ?_
                    refine lv_istore (lv' := [(7, .int (iZ 1)), (6, .int (iZ qs)), (5, .int (iZ ((i : Nat) : Int))), (4, .int (iZ v)), (3, .int (iZ (σ 114 (1 + k)))), (0, .ref (tad θ 111)), (1, .ref (tad θ 114)), (2, .int (iZ ((k : Nat) : Int)))]) hx hb dX6_isRaw_79 hl (by decide) rfl (fun ls hl => ?_)
                    refine lv_iload hx hb dX6_isRaw_81 (lv_at hl 3 rfl) ?_
                    refine z_if_ne (tgt := 109) hx hb dX6_isRaw_83 (by decide) ⟨by omega, by omega⟩ (fun c_64 => ?_) (fun c_64 => ?_)
                    · refine lv_iconst (v := iZ 1) hx hb dX6_isRaw_109 rfl ?_
                      refine lv_goto (tgt := 114) hx hb dX6_isRaw_110 (by decide) ?_
                      refine lv_istore (lv' := [(4, .int (iZ 1)), (7, .int (iZ 1)), (6, .int (iZ qs)), (5, .int (iZ ((i : Nat) : Int))), (3, .int (iZ (σ 114 (1 + k)))), (0, .ref (tad θ 111)), (1, .ref (tad θ 114)), (2, .int (iZ ((k : Nat) : Int)))]) hx hb dX6_isRaw_114 hl (by decide) rfl (fun ls hl => ?_)
                      refine z_iinc (k := 3) (lv' := [(5, .int (iZ (((i : Nat) : Int) + 1))), (4, .int (iZ 1)), (7, .int (iZ 1)), (6, .int (iZ qs)), (3, .int (iZ (σ 114 (1 + k)))), (0, .ref (tad θ 111)), (1, .ref (tad θ 114)), (2, .int (iZ ((k : Nat) : Int)))]) hx hb dX6_isRaw_116 hl rfl (by decide) rfl (fun ls hl => ?_)
                      have hl : lv_has ls 8 [(5, .int (iZ (((i + 1) : Nat) : Int))), (4, .int (iZ 1)), (7, .int (iZ 1)), (6, .int (iZ qs)), (3, .int (iZ (σ 114 (1 + k)))), (0, .ref (tad θ 111)), (1, .ref (tad θ 114)), (2, .int (iZ ((k : Nat) : Int)))] := by have e9 : (((i : Nat) : Int) + 1) = (((i + 1) : Nat) : Int) := (by omega); rw [e9] at hl; exact hl
                      refine lv_goto (tgt := 12) hx hb dX6_isRaw_119 (by decide) ?_
                      exact ih12 (i + 1) 1 _ _ _ (by omega) (by omega) (by rw [r1, ← hv, ← hs, if_pos (by omega)]) hB (lv_sub hl [0, 1, 4, 5, 6, 7] rfl)
                    · refine lv_iload hx hb dX6_isRaw_86 (lv_at hl 0 rfl) ?_
                      refine z_if_eq (tgt := 113) hx hb dX6_isRaw_88 (by decide) ⟨by decide, by decide⟩ (fun c_65 => ?_) (fun c_65 => ?_)
                      · exact absurd c_65 (by decide)
                      · refine lv_iload hx hb dX6_isRaw_91 (lv_at hl 1 rfl) ?_
                        refine lv_bipush (v := iZ (-9)) hx hb dX6_isRaw_93 (by decide) ?_
                        refine z_icmp_eq (tgt := 113) hx hb dX6_isRaw_95 (by decide) ⟨by omega, by omega⟩ ⟨by decide, by decide⟩ (fun c_66 => ?_) (fun c_66 => ?_)
                        · refine lv_iconst (v := iZ 0) hx hb dX6_isRaw_113 rfl ?_
                          refine lv_istore (lv' := [(4, .int (iZ 0)), (7, .int (iZ 1)), (6, .int (iZ qs)), (5, .int (iZ ((i : Nat) : Int))), (3, .int (iZ (σ 114 (1 + k)))), (0, .ref (tad θ 111)), (1, .ref (tad θ 114)), (2, .int (iZ ((k : Nat) : Int)))]) hx hb dX6_isRaw_114 hl (by decide) rfl (fun ls hl => ?_)
                          refine z_iinc (k := 3) (lv' := [(5, .int (iZ (((i : Nat) : Int) + 1))), (4, .int (iZ 0)), (7, .int (iZ 1)), (6, .int (iZ qs)), (3, .int (iZ (σ 114 (1 + k)))), (0, .ref (tad θ 111)), (1, .ref (tad θ 114)), (2, .int (iZ ((k : Nat) : Int)))]) hx hb dX6_isRaw_116 hl rfl (by decide) rfl (fun ls hl => ?_)
                          have hl : lv_has ls 8 [(5, .int (iZ (((i + 1) : Nat) : Int))), (4, .int (iZ 0)), (7, .int (iZ 1)), (6, .int (iZ qs)), (3, .int (iZ (σ 114 (1 + k)))), (0, .ref (tad θ 111)), (1, .ref (tad θ 114)), (2, .int (iZ ((k : Nat) : Int)))] := by have e9 : (((i : Nat) : Int) + 1) = (((i + 1) : Nat) : Int) := (by omega); rw [e9] at hl; exact hl
                          refine lv_goto (tgt := 12) hx hb dX6_isRaw_119 (by decide) ?_
                          exact ih12 (i + 1) 0 _ _ _ (by omega) (by omega) (by rw [r1, ← hv, ← hs, if_neg (by omega)]) hB (lv_sub hl [0, 1, 4, 5, 6, 7] rfl)
                        · refine lv_aload_n hx hb dX6_isRaw_98 rfl (lv_at hl 5 rfl) ?_
                          refine g_getr (k := 23) (j := 126) hx hb hts hown hK hθ hB cf6 (by decide) rfl (by decide) kw_682 rfl rfl dX6_isRaw_99 ?_
                          refine lv_iload hx hb dX6_isRaw_102 (lv_at hl 1 rfl) ?_
                          refine g_iald (k := qs.toNat) hx hb hK hB (by decide) rfl (by omega) (Nat.lt_of_lt_of_eq (by omega : qs.toNat < 8) (Eq.symm rfl)) (by decide) dX6_isRaw_104 ?_
                          have hr_67 := hR 126 (qs.toNat)
                          refine lv_iconst (v := iZ 1) hx hb dX6_isRaw_105 rfl ?_
                          refine z_icmp_ne (tgt := 113) hx hb dX6_isRaw_106 (by decide) ⟨by omega, by omega⟩ ⟨by decide, by decide⟩ (fun c_68 => ?_) (fun c_68 => ?_)
                          · refine lv_iconst (v := iZ 0) hx hb dX6_isRaw_113 rfl ?_
                            refine lv_istore (lv' := [(4, .int (iZ 0)), (7, .int (iZ 1)), (6, .int (iZ qs)), (5, .int (iZ ((i : Nat) : Int))), (3, .int (iZ (σ 114 (1 + k)))), (0, .ref (tad θ 111)), (1, .ref (tad θ 114)), (2, .int (iZ ((k : Nat) : Int)))]) hx hb dX6_isRaw_114 hl (by decide) rfl (fun ls hl => ?_)
                            refine z_iinc (k := 3) (lv' := [(5, .int (iZ (((i : Nat) : Int) + 1))), (4, .int (iZ 0)), (7, .int (iZ 1)), (6, .int (iZ qs)), (3, .int (iZ (σ 114 (1 + k)))), (0, .ref (tad θ 111)), (1, .ref (tad θ 114)), (2, .int (iZ ((k : Nat) : Int)))]) hx hb dX6_isRaw_116 hl rfl (by decide) rfl (fun ls hl => ?_)
                            have hl : lv_has ls 8 [(5, .int (iZ (((i + 1) : Nat) : Int))), (4, .int (iZ 0)), (7, .int (iZ 1)), (6, .int (iZ qs)), (3, .int (iZ (σ 114 (1 + k)))), (0, .ref (tad θ 111)), (1, .ref (tad θ 114)), (2, .int (iZ ((k : Nat) : Int)))] := by have e9 : (((i : Nat) : Int) + 1) = (((i + 1) : Nat) : Int) := (by omega); rw [e9] at hl; exact hl
                            refine lv_goto (tgt := 12) hx hb dX6_isRaw_119 (by decide) ?_
                            exact ih12 (i + 1) 0 _ _ _ (by omega) (by omega) (by rw [r1, ← hv, ← hs, if_neg (by omega)]) hB (lv_sub hl [0, 1, 4, 5, 6, 7] rfl)
                          · refine lv_iconst (v := iZ 1) hx hb dX6_isRaw_109 rfl ?_
                            refine lv_goto (tgt := 114) hx hb dX6_isRaw_110 (by decide) ?_
                            refine lv_istore (lv' := [(4, .int (iZ 1)), (7, .int (iZ 1)), (6, .int (iZ qs)), (5, .int (iZ ((i : Nat) : Int))), (3, .int (iZ (σ 114 (1 + k)))), (0, .ref (tad θ 111)), (1, .ref (tad θ 114)), (2, .int (iZ ((k : Nat) : Int)))]) hx hb dX6_isRaw_114 hl (by decide) rfl (fun ls hl => ?_)
                            refine z_iinc (k := 3) (lv' := [(5, .int (iZ (((i : Nat) : Int) + 1))), (4, .int (iZ 1)), (7, .int (iZ 1)), (6, .int (iZ qs)), (3, .int (iZ (σ 114 (1 + k)))), (0, .ref (tad θ 111)), (1, .ref (tad θ 114)), (2, .int (iZ ((k : Nat) : Int)))]) hx hb dX6_isRaw_116 hl rfl (by decide) rfl (fun ls hl => ?_)
                            have hl : lv_has ls 8 [(5, .int (iZ (((i + 1) : Nat) : Int))), (4, .int (iZ 1)), (7, .int (iZ 1)), (6, .int (iZ qs)), (3, .int (iZ (σ 114 (1 + k)))), (0, .ref (tad θ 111)), (1, .ref (tad θ 114)), (2, .int (iZ ((k : Nat) : Int)))] := by have e9 : (((i : Nat) : Int) + 1) = (((i + 1) : Nat) : Int) := (by omega); rw [e9] at hl; exact hl
                            refine lv_goto (tgt := 12) hx hb dX6_isRaw_119 (by decide) ?_
                            exact ih12 (i + 1) 1 _ _ _ (by omega) (by omega) (by rw [r1, ← hv, ← hs, if_pos (by omega)]) hB (lv_sub hl [0, 1, 4, 5, 6, 7] rfl)
                  · refine lv_iload_n hx hb dX6_isRaw_68 rfl (lv_at hl 3 rfl) ?_
                    refine lv_bipush (v := iZ 11) hx hb dX6_isRaw_69 (by decide) ?_
                    refine z_icmp_ne (tgt := 78) hx hb dX6_isRaw_71 (by decide) ⟨by omega, by omega⟩ ⟨by decide, by decide⟩ (fun c_69 => ?_) (fun c_69 => ?_)
                    · refine lv_iconst (v := iZ 0) hx hb dX6_isRaw_78 rfl ?_
                      refine lv_istore (lv' := [(7, .int (iZ 0)), (6, .int (iZ qs)), (5, .int (iZ ((i : Nat) : Int))), (4, .int (iZ v)), (3, .int (iZ (σ 114 (1 + k)))), (0, .ref (tad θ 111)), (1, .ref (tad θ 114)), (2, .int (iZ ((k : Nat) : Int)))]) hx hb dX6_isRaw_79 hl (by decide) rfl (fun ls hl => ?_)
                      refine lv_iload hx hb dX6_isRaw_81 (lv_at hl 3 rfl) ?_
                      refine z_if_ne (tgt := 109) hx hb dX6_isRaw_83 (by decide) ⟨by omega, by omega⟩ (fun c_70 => ?_) (fun c_70 => ?_)
                      · refine lv_iconst (v := iZ 1) hx hb dX6_isRaw_109 rfl ?_
                        refine lv_goto (tgt := 114) hx hb dX6_isRaw_110 (by decide) ?_
                        refine lv_istore (lv' := [(4, .int (iZ 1)), (7, .int (iZ 0)), (6, .int (iZ qs)), (5, .int (iZ ((i : Nat) : Int))), (3, .int (iZ (σ 114 (1 + k)))), (0, .ref (tad θ 111)), (1, .ref (tad θ 114)), (2, .int (iZ ((k : Nat) : Int)))]) hx hb dX6_isRaw_114 hl (by decide) rfl (fun ls hl => ?_)
                        refine z_iinc (k := 3) (lv' := [(5, .int (iZ (((i : Nat) : Int) + 1))), (4, .int (iZ 1)), (7, .int (iZ 0)), (6, .int (iZ qs)), (3, .int (iZ (σ 114 (1 + k)))), (0, .ref (tad θ 111)), (1, .ref (tad θ 114)), (2, .int (iZ ((k : Nat) : Int)))]) hx hb dX6_isRaw_116 hl rfl (by decide) rfl (fun ls hl => ?_)
                        have hl : lv_has ls 8 [(5, .int (iZ (((i + 1) : Nat) : Int))), (4, .int (iZ 1)), (7, .int (iZ 0)), (6, .int (iZ qs)), (3, .int (iZ (σ 114 (1 + k)))), (0, .ref (tad θ 111)), (1, .ref (tad θ 114)), (2, .int (iZ ((k : Nat) : Int)))] := by have e9 : (((i : Nat) : Int) + 1) = (((i + 1) : Nat) : Int) := (by omega); rw [e9] at hl; exact hl
                        refine lv_goto (tgt := 12) hx hb dX6_isRaw_119 (by decide) ?_
                        exact ih12 (i + 1) 1 _ _ _ (by omega) (by omega) (by rw [r1, ← hv, ← hs, if_pos (by omega)]) hB (lv_sub hl [0, 1, 4, 5, 6, 7] rfl)
                      · refine lv_iload hx hb dX6_isRaw_86 (lv_at hl 0 rfl) ?_
                        refine z_if_eq (tgt := 113) hx hb dX6_isRaw_88 (by decide) ⟨by decide, by decide⟩ (fun c_71 => ?_) (fun c_71 => ?_)
                        · refine lv_iconst (v := iZ 0) hx hb dX6_isRaw_113 rfl ?_
                          refine lv_istore (lv' := [(4, .int (iZ 0)), (7, .int (iZ 0)), (6, .int (iZ qs)), (5, .int (iZ ((i : Nat) : Int))), (3, .int (iZ (σ 114 (1 + k)))), (0, .ref (tad θ 111)), (1, .ref (tad θ 114)), (2, .int (iZ ((k : Nat) : Int)))]) hx hb dX6_isRaw_114 hl (by decide) rfl (fun ls hl => ?_)
                          refine z_iinc (k := 3) (lv' := [(5, .int (iZ (((i : Nat) : Int) + 1))), (4, .int (iZ 0)), (7, .int (iZ 0)), (6, .int (iZ qs)), (3, .int (iZ (σ 114 (1 + k)))), (0, .ref (tad θ 111)), (1, .ref (tad θ 114)), (2, .int (iZ ((k : Nat) : Int)))]) hx hb dX6_isRaw_116 hl rfl (by decide) rfl (fun ls hl => ?_)
                          have hl : lv_has ls 8 [(5, .int (iZ (((i + 1) : Nat) : Int))), (4, .int (iZ 0)), (7, .int (iZ 0)), (6, .int (iZ qs)), (3, .int (iZ (σ 114 (1 + k)))), (0, .ref (tad θ 111)), (1, .ref (tad θ 114)), (2, .int (iZ ((k : Nat) : Int)))] := by have e9 : (((i : Nat) : Int) + 1) = (((i + 1) : Nat) : Int) := (by omega); rw [e9] at hl; exact hl
                          refine lv_goto (tgt := 12) hx hb dX6_isRaw_119 (by decide) ?_
                          exact ih12 (i + 1) 0 _ _ _ (by omega) (by omega) (by rw [r1, ← hv, ← hs, if_neg (by omega)]) hB (lv_sub hl [0, 1, 4, 5, 6, 7] rfl)
                        · exact absurd (by decide) c_71
                    · refine lv_iconst (v := iZ 1) hx hb dX6_isRaw_74 rfl ?_
                      refine lv_goto (tgt := 79) hx hb dX6_isRaw_75 (by decide) ?_
                      refine lv_istore (lv' := [(7, .int (iZ 1)), (6, .int (iZ qs)), (5, .int (iZ ((i : Nat) : Int))), (4, .int (iZ v)), (3, .int (iZ (σ 114 (1 + k)))), (0, .ref (tad θ 111)), (1, .ref (tad θ 114)), (2, .int (iZ ((k : Nat) : Int)))]) hx hb dX6_isRaw_79 hl (by decide) rfl (fun ls hl => ?_)
                      refine lv_iload hx hb dX6_isRaw_81 (lv_at hl 3 rfl) ?_
                      refine z_if_ne (tgt := 109) hx hb dX6_isRaw_83 (by decide) ⟨by omega, by omega⟩ (fun c_72 => ?_) (fun c_72 => ?_)
                      · refine lv_iconst (v := iZ 1) hx hb dX6_isRaw_109 rfl ?_
                        refine lv_goto (tgt := 114) hx hb dX6_isRaw_110 (by decide) ?_
                        refine lv_istore (lv' := [(4, .int (iZ 1)), (7, .int (iZ 1)), (6, .int (iZ qs)), (5, .int (iZ ((i : Nat) : Int))), (3, .int (iZ (σ 114 (1 + k)))), (0, .ref (tad θ 111)), (1, .ref (tad θ 114)), (2, .int (iZ ((k : Nat) : Int)))]) hx hb dX6_isRaw_114 hl (by decide) rfl (fun ls hl => ?_)
                        refine z_iinc (k := 3) (lv' := [(5, .int (iZ (((i : Nat) : Int) + 1))), (4, .int (iZ 1)), (7, .int (iZ 1)), (6, .int (iZ qs)), (3, .int (iZ (σ 114 (1 + k)))), (0, .ref (tad θ 111)), (1, .ref (tad θ 114)), (2, .int (iZ ((k : Nat) : Int)))]) hx hb dX6_isRaw_116 hl rfl (by decide) rfl (fun ls hl => ?_)
                        have hl : lv_has ls 8 [(5, .int (iZ (((i + 1) : Nat) : Int))), (4, .int (iZ 1)), (7, .int (iZ 1)), (6, .int (iZ qs)), (3, .int (iZ (σ 114 (1 + k)))), (0, .ref (tad θ 111)), (1, .ref (tad θ 114)), (2, .int (iZ ((k : Nat) : Int)))] := by have e9 : (((i : Nat) : Int) + 1) = (((i + 1) : Nat) : Int) := (by omega); rw [e9] at hl; exact hl
                        refine lv_goto (tgt := 12) hx hb dX6_isRaw_119 (by decide) ?_
                        exact ih12 (i + 1) 1 _ _ _ (by omega) (by omega) (by rw [r1, ← hv, ← hs, if_pos (by omega)]) hB (lv_sub hl [0, 1, 4, 5, 6, 7] rfl)
                      · refine lv_iload hx hb dX6_isRaw_86 (lv_at hl 0 rfl) ?_
                        refine z_if_eq (tgt := 113) hx hb dX6_isRaw_88 (by decide) ⟨by decide, by decide⟩ (fun c_73 => ?_) (fun c_73 => ?_)
                        · exact absurd c_73 (by decide)
                        · refine lv_iload hx hb dX6_isRaw_91 (lv_at hl 1 rfl) ?_
                          refine lv_bipush (v := iZ (-9)) hx hb dX6_isRaw_93 (by decide) ?_
                          refine z_icmp_eq (tgt := 113) hx hb dX6_isRaw_95 (by decide) ⟨by omega, by omega⟩ ⟨by decide, by decide⟩ (fun c_74 => ?_) (fun c_74 => ?_)
                          · refine lv_iconst (v := iZ 0) hx hb dX6_isRaw_113 rfl ?_
                            refine lv_istore (lv' := [(4, .int (iZ 0)), (7, .int (iZ 1)), (6, .int (iZ qs)), (5, .int (iZ ((i : Nat) : Int))), (3, .int (iZ (σ 114 (1 + k)))), (0, .ref (tad θ 111)), (1, .ref (tad θ 114)), (2, .int (iZ ((k : Nat) : Int)))]) hx hb dX6_isRaw_114 hl (by decide) rfl (fun ls hl => ?_)
                            refine z_iinc (k := 3) (lv' := [(5, .int (iZ (((i : Nat) : Int) + 1))), (4, .int (iZ 0)), (7, .int (iZ 1)), (6, .int (iZ qs)), (3, .int (iZ (σ 114 (1 + k)))), (0, .ref (tad θ 111)), (1, .ref (tad θ 114)), (2, .int (iZ ((k : Nat) : Int)))]) hx hb dX6_isRaw_116 hl rfl (by decide) rfl (fun ls hl => ?_)
                            have hl : lv_has ls 8 [(5, .int (iZ (((i + 1) : Nat) : Int))), (4, .int (iZ 0)), (7, .int (iZ 1)), (6, .int (iZ qs)), (3, .int (iZ (σ 114 (1 + k)))), (0, .ref (tad θ 111)), (1, .ref (tad θ 114)), (2, .int (iZ ((k : Nat) : Int)))] := by have e9 : (((i : Nat) : Int) + 1) = (((i + 1) : Nat) : Int) := (by omega); rw [e9] at hl; exact hl
                            refine lv_goto (tgt := 12) hx hb dX6_isRaw_119 (by decide) ?_
                            exact ih12 (i + 1) 0 _ _ _ (by omega) (by omega) (by rw [r1, ← hv, ← hs, if_neg (by omega)]) hB (lv_sub hl [0, 1, 4, 5, 6, 7] rfl)
                          · refine lv_aload_n hx hb dX6_isRaw_98 rfl (lv_at hl 5 rfl) ?_
                            refine g_getr (k := 23) (j := 126) hx hb hts hown hK hθ hB cf6 (by decide) rfl (by decide) kw_682 rfl rfl dX6_isRaw_99 ?_
                            refine lv_iload hx hb dX6_isRaw_102 (lv_at hl 1 rfl) ?_
                            refine g_iald (k := qs.toNat) hx hb hK hB (by decide) rfl (by omega) (Nat.lt_of_lt_of_eq (by omega : qs.toNat < 8) (Eq.symm rfl)) (by decide) dX6_isRaw_104 ?_
                            have hr_75 := hR 126 (qs.toNat)
                            refine lv_iconst (v := iZ 1) hx hb dX6_isRaw_105 rfl ?_
                            refine z_icmp_ne (tgt := 113) hx hb dX6_isRaw_106 (by decide) ⟨by omega, by omega⟩ ⟨by decide, by decide⟩ (fun c_76 => ?_) (fun c_76 => ?_)
                            · refine lv_iconst (v := iZ 0) hx hb dX6_isRaw_113 rfl ?_
                              refine lv_istore (lv' := [(4, .int (iZ 0)), (7, .int (iZ 1)), (6, .int (iZ qs)), (5, .int (iZ ((i : Nat) : Int))), (3, .int (iZ (σ 114 (1 + k)))), (0, .ref (tad θ 111)), (1, .ref (tad θ 114)), (2, .int (iZ ((k : Nat) : Int)))]) hx hb dX6_isRaw_114 hl (by decide) rfl (fun ls hl => ?_)
                              refine z_iinc (k := 3) (lv' := [(5, .int (iZ (((i : Nat) : Int) + 1))), (4, .int (iZ 0)), (7, .int (iZ 1)), (6, .int (iZ qs)), (3, .int (iZ (σ 114 (1 + k)))), (0, .ref (tad θ 111)), (1, .ref (tad θ 114)), (2, .int (iZ ((k : Nat) : Int)))]) hx hb dX6_isRaw_116 hl rfl (by decide) rfl (fun ls hl => ?_)
                              have hl : lv_has ls 8 [(5, .int (iZ (((i + 1) : Nat) : Int))), (4, .int (iZ 0)), (7, .int (iZ 1)), (6, .int (iZ qs)), (3, .int (iZ (σ 114 (1 + k)))), (0, .ref (tad θ 111)), (1, .ref (tad θ 114)), (2, .int (iZ ((k : Nat) : Int)))] := by have e9 : (((i : Nat) : Int) + 1) = (((i + 1) : Nat) : Int) := (by omega); rw [e9] at hl; exact hl
                              refine lv_goto (tgt := 12) hx hb dX6_isRaw_119 (by decide) ?_
                              exact ih12 (i + 1) 0 _ _ _ (by omega) (by omega) (by rw [r1, ← hv, ← hs, if_neg (by omega)]) hB (lv_sub hl [0, 1, 4, 5, 6, 7] rfl)
                            · refine lv_iconst (v := iZ 1) hx hb dX6_isRaw_109 rfl ?_
                              refine lv_goto (tgt := 114) hx hb dX6_isRaw_110 (by decide) ?_
                              refine lv_istore (lv' := [(4, .int (iZ 1)), (7, .int (iZ 1)), (6, .int (iZ qs)), (5, .int (iZ ((i : Nat) : Int))), (3, .int (iZ (σ 114 (1 + k)))), (0, .ref (tad θ 111)), (1, .ref (tad θ 114)), (2, .int (iZ ((k : Nat) : Int)))]) hx hb dX6_isRaw_114 hl (by decide) rfl (fun ls hl => ?_)
                              refine z_iinc (k := 3) (lv' := [(5, .int (iZ (((i : Nat) : Int) + 1))), (4, .int (iZ 1)), (7, .int (iZ 1)), (6, .int (iZ qs)), (3, .int (iZ (σ 114 (1 + k)))), (0, .ref (tad θ 111)), (1, .ref (tad θ 114)), (2, .int (iZ ((k : Nat) : Int)))]) hx hb dX6_isRaw_116 hl rfl (by decide) rfl (fun ls hl => ?_)
                              have hl : lv_has ls 8 [(5, .int (iZ (((i + 1) : Nat) : Int))), (4, .int (iZ 1)), (7, .int (iZ 1)), (6, .int (iZ qs)), (3, .int (iZ (σ 114 (1 + k)))), (0, .ref (tad θ 111)), (1, .ref (tad θ 114)), (2, .int (iZ ((k : Nat) : Int)))] := by have e9 : (((i : Nat) : Int) + 1) = (((i + 1) : Nat) : Int) := (by omega); rw [e9] at hl; exact hl
                              refine lv_goto (tgt := 12) hx hb dX6_isRaw_119 (by decide) ?_
                              exact ih12 (i + 1) 1 _ _ _ (by omega) (by omega) (by rw [r1, ← hv, ← hs, if_pos (by omega)]) hB (lv_sub hl [0, 1, 4, 5, 6, 7] rfl)
                · refine lv_iload_n hx hb dX6_isRaw_56 rfl (lv_at hl 3 rfl) ?_
                  refine lv_bipush (v := iZ 10) hx hb dX6_isRaw_57 (by decide) ?_
                  refine z_icmp_ne (tgt := 68) hx hb dX6_isRaw_59 (by decide) ⟨by omega, by omega⟩ ⟨by decide, by decide⟩ (fun c_77 => ?_) (fun c_77 => ?_)
                  · refine lv_iload_n hx hb dX6_isRaw_68 rfl (lv_at hl 3 rfl) ?_
                    refine lv_bipush (v := iZ 11) hx hb dX6_isRaw_69 (by decide) ?_
                    refine z_icmp_ne (tgt := 78) hx hb dX6_isRaw_71 (by decide) ⟨by omega, by omega⟩ ⟨by decide, by decide⟩ (fun c_78 => ?_) (fun c_78 => ?_)
                    · refine lv_iconst (v := iZ 0) hx hb dX6_isRaw_78 rfl ?_
                      refine lv_istore (lv' := [(7, .int (iZ 0)), (6, .int (iZ qs)), (5, .int (iZ ((i : Nat) : Int))), (4, .int (iZ v)), (3, .int (iZ (σ 114 (1 + k)))), (0, .ref (tad θ 111)), (1, .ref (tad θ 114)), (2, .int (iZ ((k : Nat) : Int)))]) hx hb dX6_isRaw_79 hl (by decide) rfl (fun ls hl => ?_)
                      refine lv_iload hx hb dX6_isRaw_81 (lv_at hl 3 rfl) ?_
                      refine z_if_ne (tgt := 109) hx hb dX6_isRaw_83 (by decide) ⟨by omega, by omega⟩ (fun c_79 => ?_) (fun c_79 => ?_)
                      · refine lv_iconst (v := iZ 1) hx hb dX6_isRaw_109 rfl ?_
                        refine lv_goto (tgt := 114) hx hb dX6_isRaw_110 (by decide) ?_
                        refine lv_istore (lv' := [(4, .int (iZ 1)), (7, .int (iZ 0)), (6, .int (iZ qs)), (5, .int (iZ ((i : Nat) : Int))), (3, .int (iZ (σ 114 (1 + k)))), (0, .ref (tad θ 111)), (1, .ref (tad θ 114)), (2, .int (iZ ((k : Nat) : Int)))]) hx hb dX6_isRaw_114 hl (by decide) rfl (fun ls hl => ?_)
                        refine z_iinc (k := 3) (lv' := [(5, .int (iZ (((i : Nat) : Int) + 1))), (4, .int (iZ 1)), (7, .int (iZ 0)), (6, .int (iZ qs)), (3, .int (iZ (σ 114 (1 + k)))), (0, .ref (tad θ 111)), (1, .ref (tad θ 114)), (2, .int (iZ ((k : Nat) : Int)))]) hx hb dX6_isRaw_116 hl rfl (by decide) rfl (fun ls hl => ?_)
                        have hl : lv_has ls 8 [(5, .int (iZ (((i + 1) : Nat) : Int))), (4, .int (iZ 1)), (7, .int (iZ 0)), (6, .int (iZ qs)), (3, .int (iZ (σ 114 (1 + k)))), (0, .ref (tad θ 111)), (1, .ref (tad θ 114)), (2, .int (iZ ((k : Nat) : Int)))] := by have e9 : (((i : Nat) : Int) + 1) = (((i + 1) : Nat) : Int) := (by omega); rw [e9] at hl; exact hl
                        refine lv_goto (tgt := 12) hx hb dX6_isRaw_119 (by decide) ?_
                        exact ih12 (i + 1) 1 _ _ _ (by omega) (by omega) (by rw [r1, ← hv, ← hs, if_pos (by omega)]) hB (lv_sub hl [0, 1, 4, 5, 6, 7] rfl)
                      · refine lv_iload hx hb dX6_isRaw_86 (lv_at hl 0 rfl) ?_
                        refine z_if_eq (tgt := 113) hx hb dX6_isRaw_88 (by decide) ⟨by decide, by decide⟩ (fun c_80 => ?_) (fun c_80 => ?_)
                        · refine lv_iconst (v := iZ 0) hx hb dX6_isRaw_113 rfl ?_
                          refine lv_istore (lv' := [(4, .int (iZ 0)), (7, .int (iZ 0)), (6, .int (iZ qs)), (5, .int (iZ ((i : Nat) : Int))), (3, .int (iZ (σ 114 (1 + k)))), (0, .ref (tad θ 111)), (1, .ref (tad θ 114)), (2, .int (iZ ((k : Nat) : Int)))]) hx hb dX6_isRaw_114 hl (by decide) rfl (fun ls hl => ?_)
                          refine z_iinc (k := 3) (lv' := [(5, .int (iZ (((i : Nat) : Int) + 1))), (4, .int (iZ 0)), (7, .int (iZ 0)), (6, .int (iZ qs)), (3, .int (iZ (σ 114 (1 + k)))), (0, .ref (tad θ 111)), (1, .ref (tad θ 114)), (2, .int (iZ ((k : Nat) : Int)))]) hx hb dX6_isRaw_116 hl rfl (by decide) rfl (fun ls hl => ?_)
                          have hl : lv_has ls 8 [(5, .int (iZ (((i + 1) : Nat) : Int))), (4, .int (iZ 0)), (7, .int (iZ 0)), (6, .int (iZ qs)), (3, .int (iZ (σ 114 (1 + k)))), (0, .ref (tad θ 111)), (1, .ref (tad θ 114)), (2, .int (iZ ((k : Nat) : Int)))] := by have e9 : (((i : Nat) : Int) + 1) = (((i + 1) : Nat) : Int) := (by omega); rw [e9] at hl; exact hl
                          refine lv_goto (tgt := 12) hx hb dX6_isRaw_119 (by decide) ?_
                          exact ih12 (i + 1) 0 _ _ _ (by omega) (by omega) (by rw [r1, ← hv, ← hs, if_neg (by omega)]) hB (lv_sub hl [0, 1, 4, 5, 6, 7] rfl)
                        · exact absurd (by decide) c_80
                    · refine lv_iconst (v := iZ 1) hx hb dX6_isRaw_74 rfl ?_
                      refine lv_goto (tgt := 79) hx hb dX6_isRaw_75 (by decide) ?_
                      refine lv_istore (lv' := [(7, .int (iZ 1)), (6, .int (iZ qs)), (5, .int (iZ ((i : Nat) : Int))), (4, .int (iZ v)), (3, .int (iZ (σ 114 (1 + k)))), (0, .ref (tad θ 111)), (1, .ref (tad θ 114)), (2, .int (iZ ((k : Nat) : Int)))]) hx hb dX6_isRaw_79 hl (by decide) rfl (fun ls hl => ?_)
                      refine lv_iload hx hb dX6_isRaw_81 (lv_at hl 3 rfl) ?_
                      refine z_if_ne (tgt := 109) hx hb dX6_isRaw_83 (by decide) ⟨by omega, by omega⟩ (fun c_81 => ?_) (fun c_81 => ?_)
                      · refine lv_iconst (v := iZ 1) hx hb dX6_isRaw_109 rfl ?_
                        refine lv_goto (tgt := 114) hx hb dX6_isRaw_110 (by decide) ?_
                        refine lv_istore (lv' := [(4, .int (iZ 1)), (7, .int (iZ 1)), (6, .int (iZ qs)), (5, .int (iZ ((i : Nat) : Int))), (3, .int (iZ (σ 114 (1 + k)))), (0, .ref (tad θ 111)), (1, .ref (tad θ 114)), (2, .int (iZ ((k : Nat) : Int)))]) hx hb dX6_isRaw_114 hl (by decide) rfl (fun ls hl => ?_)
                        refine z_iinc (k := 3) (lv' := [(5, .int (iZ (((i : Nat) : Int) + 1))), (4, .int (iZ 1)), (7, .int (iZ 1)), (6, .int (iZ qs)), (3, .int (iZ (σ 114 (1 + k)))), (0, .ref (tad θ 111)), (1, .ref (tad θ 114)), (2, .int (iZ ((k : Nat) : Int)))]) hx hb dX6_isRaw_116 hl rfl (by decide) rfl (fun ls hl => ?_)
                        have hl : lv_has ls 8 [(5, .int (iZ (((i + 1) : Nat) : Int))), (4, .int (iZ 1)), (7, .int (iZ 1)), (6, .int (iZ qs)), (3, .int (iZ (σ 114 (1 + k)))), (0, .ref (tad θ 111)), (1, .ref (tad θ 114)), (2, .int (iZ ((k : Nat) : Int)))] := by have e9 : (((i : Nat) : Int) + 1) = (((i + 1) : Nat) : Int) := (by omega); rw [e9] at hl; exact hl
                        refine lv_goto (tgt := 12) hx hb dX6_isRaw_119 (by decide) ?_
                        exact ih12 (i + 1) 1 _ _ _ (by omega) (by omega) (by rw [r1, ← hv, ← hs, if_pos (by omega)]) hB (lv_sub hl [0, 1, 4, 5, 6, 7] rfl)
                      · refine lv_iload hx hb dX6_isRaw_86 (lv_at hl 0 rfl) ?_
                        refine z_if_eq (tgt := 113) hx hb dX6_isRaw_88 (by decide) ⟨by decide, by decide⟩ (fun c_82 => ?_) (fun c_82 => ?_)
                        · exact absurd c_82 (by decide)
                        · refine lv_iload hx hb dX6_isRaw_91 (lv_at hl 1 rfl) ?_
                          refine lv_bipush (v := iZ (-9)) hx hb dX6_isRaw_93 (by decide) ?_
                          refine z_icmp_eq (tgt := 113) hx hb dX6_isRaw_95 (by decide) ⟨by omega, by omega⟩ ⟨by decide, by decide⟩ (fun c_83 => ?_) (fun c_83 => ?_)
                          · refine lv_iconst (v := iZ 0) hx hb dX6_isRaw_113 rfl ?_
                            refine lv_istore (lv' := [(4, .int (iZ 0)), (7, .int (iZ 1)), (6, .int (iZ qs)), (5, .int (iZ ((i : Nat) : Int))), (3, .int (iZ (σ 114 (1 + k)))), (0, .ref (tad θ 111)), (1, .ref (tad θ 114)), (2, .int (iZ ((k : Nat) : Int)))]) hx hb dX6_isRaw_114 hl (by decide) rfl (fun ls hl => ?_)
                            refine z_iinc (k := 3) (lv' := [(5, .int (iZ (((i : Nat) : Int) + 1))), (4, .int (iZ 0)), (7, .int (iZ 1)), (6, .int (iZ qs)), (3, .int (iZ (σ 114 (1 + k)))), (0, .ref (tad θ 111)), (1, .ref (tad θ 114)), (2, .int (iZ ((k : Nat) : Int)))]) hx hb dX6_isRaw_116 hl rfl (by decide) rfl (fun ls hl => ?_)
                            have hl : lv_has ls 8 [(5, .int (iZ (((i + 1) : Nat) : Int))), (4, .int (iZ 0)), (7, .int (iZ 1)), (6, .int (iZ qs)), (3, .int (iZ (σ 114 (1 + k)))), (0, .ref (tad θ 111)), (1, .ref (tad θ 114)), (2, .int (iZ ((k : Nat) : Int)))] := by have e9 : (((i : Nat) : Int) + 1) = (((i + 1) : Nat) : Int) := (by omega); rw [e9] at hl; exact hl
                            refine lv_goto (tgt := 12) hx hb dX6_isRaw_119 (by decide) ?_
                            exact ih12 (i + 1) 0 _ _ _ (by omega) (by omega) (by rw [r1, ← hv, ← hs, if_neg (by omega)]) hB (lv_sub hl [0, 1, 4, 5, 6, 7] rfl)
                          · refine lv_aload_n hx hb dX6_isRaw_98 rfl (lv_at hl 5 rfl) ?_
                            refine g_getr (k := 23) (j := 126) hx hb hts hown hK hθ hB cf6 (by decide) rfl (by decide) kw_682 rfl rfl dX6_isRaw_99 ?_
                            refine lv_iload hx hb dX6_isRaw_102 (lv_at hl 1 rfl) ?_
                            refine g_iald (k := qs.toNat) hx hb hK hB (by decide) rfl (by omega) (Nat.lt_of_lt_of_eq (by omega : qs.toNat < 8) (Eq.symm rfl)) (by decide) dX6_isRaw_104 ?_
                            have hr_84 := hR 126 (qs.toNat)
                            refine lv_iconst (v := iZ 1) hx hb dX6_isRaw_105 rfl ?_
                            refine z_icmp_ne (tgt := 113) hx hb dX6_isRaw_106 (by decide) ⟨by omega, by omega⟩ ⟨by decide, by decide⟩ (fun c_85 => ?_) (fun c_85 => ?_)
                            · refine lv_iconst (v := iZ 0) hx hb dX6_isRaw_113 rfl ?_
                              refine lv_istore (lv' := [(4, .int (iZ 0)), (7, .int (iZ 1)), (6, .int (iZ qs)), (5, .int (iZ ((i : Nat) : Int))), (3, .int (iZ (σ 114 (1 + k)))), (0, .ref (tad θ 111)), (1, .ref (tad θ 114)), (2, .int (iZ ((k : Nat) : Int)))]) hx hb dX6_isRaw_114 hl (by decide) rfl (fun ls hl => ?_)
                              refine z_iinc (k := 3) (lv' := [(5, .int (iZ (((i : Nat) : Int) + 1))), (4, .int (iZ 0)), (7, .int (iZ 1)), (6, .int (iZ qs)), (3, .int (iZ (σ 114 (1 + k)))), (0, .ref (tad θ 111)), (1, .ref (tad θ 114)), (2, .int (iZ ((k : Nat) : Int)))]) hx hb dX6_isRaw_116 hl rfl (by decide) rfl (fun ls hl => ?_)
                              have hl : lv_has ls 8 [(5, .int (iZ (((i + 1) : Nat) : Int))), (4, .int (iZ 0)), (7, .int (iZ 1)), (6, .int (iZ qs)), (3, .int (iZ (σ 114 (1 + k)))), (0, .ref (tad θ 111)), (1, .ref (tad θ 114)), (2, .int (iZ ((k : Nat) : Int)))] := by have e9 : (((i : Nat) : Int) + 1) = (((i + 1) : Nat) : Int) := (by omega); rw [e9] at hl; exact hl
                              refine lv_goto (tgt := 12) hx hb dX6_isRaw_119 (by decide) ?_
                              exact ih12 (i + 1) 0 _ _ _ (by omega) (by omega) (by rw [r1, ← hv, ← hs, if_neg (by omega)]) hB (lv_sub hl [0, 1, 4, 5, 6, 7] rfl)
                            · refine lv_iconst (v := iZ 1) hx hb dX6_isRaw_109 rfl ?_
                              refine lv_goto (tgt := 114) hx hb dX6_isRaw_110 (by decide) ?_
                              refine lv_istore (lv' := [(4, .int (iZ 1)), (7, .int (iZ 1)), (6, .int (iZ qs)), (5, .int (iZ ((i : Nat) : Int))), (3, .int (iZ (σ 114 (1 + k)))), (0, .ref (tad θ 111)), (1, .ref (tad θ 114)), (2, .int (iZ ((k : Nat) : Int)))]) hx hb dX6_isRaw_114 hl (by decide) rfl (fun ls hl => ?_)
                              refine z_iinc (k := 3) (lv' := [(5, .int (iZ (((i : Nat) : Int) + 1))), (4, .int (iZ 1)), (7, .int (iZ 1)), (6, .int (iZ qs)), (3, .int (iZ (σ 114 (1 + k)))), (0, .ref (tad θ 111)), (1, .ref (tad θ 114)), (2, .int (iZ ((k : Nat) : Int)))]) hx hb dX6_isRaw_116 hl rfl (by decide) rfl (fun ls hl => ?_)
                              have hl : lv_has ls 8 [(5, .int (iZ (((i + 1) : Nat) : Int))), (4, .int (iZ 1)), (7, .int (iZ 1)), (6, .int (iZ qs)), (3, .int (iZ (σ 114 (1 + k)))), (0, .ref (tad θ 111)), (1, .ref (tad θ 114)), (2, .int (iZ ((k : Nat) : Int)))] := by have e9 : (((i : Nat) : Int) + 1) = (((i + 1) : Nat) : Int) := (by omega); rw [e9] at hl; exact hl
                              refine lv_goto (tgt := 12) hx hb dX6_isRaw_119 (by decide) ?_
                              exact ih12 (i + 1) 1 _ _ _ (by omega) (by omega) (by rw [r1, ← hv, ← hs, if_pos (by omega)]) hB (lv_sub hl [0, 1, 4, 5, 6, 7] rfl)
                  · refine lv_iload hx hb dX6_isRaw_62 (lv_at hl 1 rfl) ?_
                    refine lv_iconst (v := iZ 1) hx hb dX6_isRaw_64 rfl ?_
                    refine z_icmp_eq (tgt := 74) hx hb dX6_isRaw_65 (by decide) ⟨by omega, by omega⟩ ⟨by decide, by decide⟩ (fun c_86 => ?_) (fun c_86 => ?_)
                    · refine lv_iconst (v := iZ 1) hx hb dX6_isRaw_74 rfl ?_
                      refine lv_goto (tgt := 79) hx hb dX6_isRaw_75 (by decide) ?_
                      refine lv_istore (lv' := [(7, .int (iZ 1)), (6, .int (iZ qs)), (5, .int (iZ ((i : Nat) : Int))), (4, .int (iZ v)), (3, .int (iZ (σ 114 (1 + k)))), (0, .ref (tad θ 111)), (1, .ref (tad θ 114)), (2, .int (iZ ((k : Nat) : Int)))]) hx hb dX6_isRaw_79 hl (by decide) rfl (fun ls hl => ?_)
                      refine lv_iload hx hb dX6_isRaw_81 (lv_at hl 3 rfl) ?_
                      refine z_if_ne (tgt := 109) hx hb dX6_isRaw_83 (by decide) ⟨by omega, by omega⟩ (fun c_87 => ?_) (fun c_87 => ?_)
                      · refine lv_iconst (v := iZ 1) hx hb dX6_isRaw_109 rfl ?_
                        refine lv_goto (tgt := 114) hx hb dX6_isRaw_110 (by decide) ?_
                        refine lv_istore (lv' := [(4, .int (iZ 1)), (7, .int (iZ 1)), (6, .int (iZ qs)), (5, .int (iZ ((i : Nat) : Int))), (3, .int (iZ (σ 114 (1 + k)))), (0, .ref (tad θ 111)), (1, .ref (tad θ 114)), (2, .int (iZ ((k : Nat) : Int)))]) hx hb dX6_isRaw_114 hl (by decide) rfl (fun ls hl => ?_)
                        refine z_iinc (k := 3) (lv' := [(5, .int (iZ (((i : Nat) : Int) + 1))), (4, .int (iZ 1)), (7, .int (iZ 1)), (6, .int (iZ qs)), (3, .int (iZ (σ 114 (1 + k)))), (0, .ref (tad θ 111)), (1, .ref (tad θ 114)), (2, .int (iZ ((k : Nat) : Int)))]) hx hb dX6_isRaw_116 hl rfl (by decide) rfl (fun ls hl => ?_)
                        have hl : lv_has ls 8 [(5, .int (iZ (((i + 1) : Nat) : Int))), (4, .int (iZ 1)), (7, .int (iZ 1)), (6, .int (iZ qs)), (3, .int (iZ (σ 114 (1 + k)))), (0, .ref (tad θ 111)), (1, .ref (tad θ 114)), (2, .int (iZ ((k : Nat) : Int)))] := by have e9 : (((i : Nat) : Int) + 1) = (((i + 1) : Nat) : Int) := (by omega); rw [e9] at hl; exact hl
                        refine lv_goto (tgt := 12) hx hb dX6_isRaw_119 (by decide) ?_
                        exact ih12 (i + 1) 1 _ _ _ (by omega) (by omega) (by rw [r1, ← hv, ← hs, if_pos (by omega)]) hB (lv_sub hl [0, 1, 4, 5, 6, 7] rfl)
                      · refine lv_iload hx hb dX6_isRaw_86 (lv_at hl 0 rfl) ?_
                        refine z_if_eq (tgt := 113) hx hb dX6_isRaw_88 (by decide) ⟨by decide, by decide⟩ (fun c_88 => ?_) (fun c_88 => ?_)
                        · exact absurd c_88 (by decide)
                        · refine lv_iload hx hb dX6_isRaw_91 (lv_at hl 1 rfl) ?_
                          refine lv_bipush (v := iZ (-9)) hx hb dX6_isRaw_93 (by decide) ?_
                          refine z_icmp_eq (tgt := 113) hx hb dX6_isRaw_95 (by decide) ⟨by omega, by omega⟩ ⟨by decide, by decide⟩ (fun c_89 => ?_) (fun c_89 => ?_)
                          · refine lv_iconst (v := iZ 0) hx hb dX6_isRaw_113 rfl ?_
                            refine lv_istore (lv' := [(4, .int (iZ 0)), (7, .int (iZ 1)), (6, .int (iZ qs)), (5, .int (iZ ((i : Nat) : Int))), (3, .int (iZ (σ 114 (1 + k)))), (0, .ref (tad θ 111)), (1, .ref (tad θ 114)), (2, .int (iZ ((k : Nat) : Int)))]) hx hb dX6_isRaw_114 hl (by decide) rfl (fun ls hl => ?_)
                            refine z_iinc (k := 3) (lv' := [(5, .int (iZ (((i : Nat) : Int) + 1))), (4, .int (iZ 0)), (7, .int (iZ 1)), (6, .int (iZ qs)), (3, .int (iZ (σ 114 (1 + k)))), (0, .ref (tad θ 111)), (1, .ref (tad θ 114)), (2, .int (iZ ((k : Nat) : Int)))]) hx hb dX6_isRaw_116 hl rfl (by decide) rfl (fun ls hl => ?_)
                            have hl : lv_has ls 8 [(5, .int (iZ (((i + 1) : Nat) : Int))), (4, .int (iZ 0)), (7, .int (iZ 1)), (6, .int (iZ qs)), (3, .int (iZ (σ 114 (1 + k)))), (0, .ref (tad θ 111)), (1, .ref (tad θ 114)), (2, .int (iZ ((k : Nat) : Int)))] := by have e9 : (((i : Nat) : Int) + 1) = (((i + 1) : Nat) : Int) := (by omega); rw [e9] at hl; exact hl
                            refine lv_goto (tgt := 12) hx hb dX6_isRaw_119 (by decide) ?_
                            exact ih12 (i + 1) 0 _ _ _ (by omega) (by omega) (by rw [r1, ← hv, ← hs, if_neg (by omega)]) hB (lv_sub hl [0, 1, 4, 5, 6, 7] rfl)
                          · refine lv_aload_n hx hb dX6_isRaw_98 rfl (lv_at hl 5 rfl) ?_
                            refine g_getr (k := 23) (j := 126) hx hb hts hown hK hθ hB cf6 (by decide) rfl (by decide) kw_682 rfl rfl dX6_isRaw_99 ?_
                            refine lv_iload hx hb dX6_isRaw_102 (lv_at hl 1 rfl) ?_
                            refine g_iald (k := qs.toNat) hx hb hK hB (by decide) rfl (by omega) (Nat.lt_of_lt_of_eq (by omega : qs.toNat < 8) (Eq.symm rfl)) (by decide) dX6_isRaw_104 ?_
                            have hr_90 := hR 126 (qs.toNat)
                            refine lv_iconst (v := iZ 1) hx hb dX6_isRaw_105 rfl ?_
                            refine z_icmp_ne (tgt := 113) hx hb dX6_isRaw_106 (by decide) ⟨by omega, by omega⟩ ⟨by decide, by decide⟩ (fun c_91 => ?_) (fun c_91 => ?_)
                            · refine lv_iconst (v := iZ 0) hx hb dX6_isRaw_113 rfl ?_
                              refine lv_istore (lv' := [(4, .int (iZ 0)), (7, .int (iZ 1)), (6, .int (iZ qs)), (5, .int (iZ ((i : Nat) : Int))), (3, .int (iZ (σ 114 (1 + k)))), (0, .ref (tad θ 111)), (1, .ref (tad θ 114)), (2, .int (iZ ((k : Nat) : Int)))]) hx hb dX6_isRaw_114 hl (by decide) rfl (fun ls hl => ?_)
                              refine z_iinc (k := 3) (lv' := [(5, .int (iZ (((i : Nat) : Int) + 1))), (4, .int (iZ 0)), (7, .int (iZ 1)), (6, .int (iZ qs)), (3, .int (iZ (σ 114 (1 + k)))), (0, .ref (tad θ 111)), (1, .ref (tad θ 114)), (2, .int (iZ ((k : Nat) : Int)))]) hx hb dX6_isRaw_116 hl rfl (by decide) rfl (fun ls hl => ?_)
                              have hl : lv_has ls 8 [(5, .int (iZ (((i + 1) : Nat) : Int))), (4, .int (iZ 0)), (7, .int (iZ 1)), (6, .int (iZ qs)), (3, .int (iZ (σ 114 (1 + k)))), (0, .ref (tad θ 111)), (1, .ref (tad θ 114)), (2, .int (iZ ((k : Nat) : Int)))] := by have e9 : (((i : Nat) : Int) + 1) = (((i + 1) : Nat) : Int) := (by omega); rw [e9] at hl; exact hl
                              refine lv_goto (tgt := 12) hx hb dX6_isRaw_119 (by decide) ?_
                              exact ih12 (i + 1) 0 _ _ _ (by omega) (by omega) (by rw [r1, ← hv, ← hs, if_neg (by omega)]) hB (lv_sub hl [0, 1, 4, 5, 6, 7] rfl)
                            · refine lv_iconst (v := iZ 1) hx hb dX6_isRaw_109 rfl ?_
                              refine lv_goto (tgt := 114) hx hb dX6_isRaw_110 (by decide) ?_
                              refine lv_istore (lv' := [(4, .int (iZ 1)), (7, .int (iZ 1)), (6, .int (iZ qs)), (5, .int (iZ ((i : Nat) : Int))), (3, .int (iZ (σ 114 (1 + k)))), (0, .ref (tad θ 111)), (1, .ref (tad θ 114)), (2, .int (iZ ((k : Nat) : Int)))]) hx hb dX6_isRaw_114 hl (by decide) rfl (fun ls hl => ?_)
                              refine z_iinc (k := 3) (lv' := [(5, .int (iZ (((i : Nat) : Int) + 1))), (4, .int (iZ 1)), (7, .int (iZ 1)), (6, .int (iZ qs)), (3, .int (iZ (σ 114 (1 + k)))), (0, .ref (tad θ 111)), (1, .ref (tad θ 114)), (2, .int (iZ ((k : Nat) : Int)))]) hx hb dX6_isRaw_116 hl rfl (by decide) rfl (fun ls hl => ?_)
                              have hl : lv_has ls 8 [(5, .int (iZ (((i + 1) : Nat) : Int))), (4, .int (iZ 1)), (7, .int (iZ 1)), (6, .int (iZ qs)), (3, .int (iZ (σ 114 (1 + k)))), (0, .ref (tad θ 111)), (1, .ref (tad θ 114)), (2, .int (iZ ((k : Nat) : Int)))] := by have e9 : (((i : Nat) : Int) + 1) = (((i + 1) : Nat) : Int) := (by omega); rw [e9] at hl; exact hl
                              refine lv_goto (tgt := 12) hx hb dX6_isRaw_119 (by decide) ?_
                              exact ih12 (i + 1) 1 _ _ _ (by omega) (by omega) (by rw [r1, ← hv, ← hs, if_pos (by omega)]) hB (lv_sub hl [0, 1, 4, 5, 6, 7] rfl)
                    · refine lv_iload_n hx hb dX6_isRaw_68 rfl (lv_at hl 3 rfl) ?_
                      refine lv_bipush (v := iZ 11) hx hb dX6_isRaw_69 (by decide) ?_
                      refine z_icmp_ne (tgt := 78) hx hb dX6_isRaw_71 (by decide) ⟨by omega, by omega⟩ ⟨by decide, by decide⟩ (fun c_92 => ?_) (fun c_92 => ?_)
                      · refine lv_iconst (v := iZ 0) hx hb dX6_isRaw_78 rfl ?_
                        refine lv_istore (lv' := [(7, .int (iZ 0)), (6, .int (iZ qs)), (5, .int (iZ ((i : Nat) : Int))), (4, .int (iZ v)), (3, .int (iZ (σ 114 (1 + k)))), (0, .ref (tad θ 111)), (1, .ref (tad θ 114)), (2, .int (iZ ((k : Nat) : Int)))]) hx hb dX6_isRaw_79 hl (by decide) rfl (fun ls hl => ?_)
                        refine lv_iload hx hb dX6_isRaw_81 (lv_at hl 3 rfl) ?_
                        refine z_if_ne (tgt := 109) hx hb dX6_isRaw_83 (by decide) ⟨by omega, by omega⟩ (fun c_93 => ?_) (fun c_93 => ?_)
                        · refine lv_iconst (v := iZ 1) hx hb dX6_isRaw_109 rfl ?_
                          refine lv_goto (tgt := 114) hx hb dX6_isRaw_110 (by decide) ?_
                          refine lv_istore (lv' := [(4, .int (iZ 1)), (7, .int (iZ 0)), (6, .int (iZ qs)), (5, .int (iZ ((i : Nat) : Int))), (3, .int (iZ (σ 114 (1 + k)))), (0, .ref (tad θ 111)), (1, .ref (tad θ 114)), (2, .int (iZ ((k : Nat) : Int)))]) hx hb dX6_isRaw_114 hl (by decide) rfl (fun ls hl => ?_)
                          refine z_iinc (k := 3) (lv' := [(5, .int (iZ (((i : Nat) : Int) + 1))), (4, .int (iZ 1)), (7, .int (iZ 0)), (6, .int (iZ qs)), (3, .int (iZ (σ 114 (1 + k)))), (0, .ref (tad θ 111)), (1, .ref (tad θ 114)), (2, .int (iZ ((k : Nat) : Int)))]) hx hb dX6_isRaw_116 hl rfl (by decide) rfl (fun ls hl => ?_)
                          have hl : lv_has ls 8 [(5, .int (iZ (((i + 1) : Nat) : Int))), (4, .int (iZ 1)), (7, .int (iZ 0)), (6, .int (iZ qs)), (3, .int (iZ (σ 114 (1 + k)))), (0, .ref (tad θ 111)), (1, .ref (tad θ 114)), (2, .int (iZ ((k : Nat) : Int)))] := by have e9 : (((i : Nat) : Int) + 1) = (((i + 1) : Nat) : Int) := (by omega); rw [e9] at hl; exact hl
                          refine lv_goto (tgt := 12) hx hb dX6_isRaw_119 (by decide) ?_
                          exact ih12 (i + 1) 1 _ _ _ (by omega) (by omega) (by rw [r1, ← hv, ← hs, if_pos (by omega)]) hB (lv_sub hl [0, 1, 4, 5, 6, 7] rfl)
                        · refine lv_iload hx hb dX6_isRaw_86 (lv_at hl 0 rfl) ?_
                          refine z_if_eq (tgt := 113) hx hb dX6_isRaw_88 (by decide) ⟨by decide, by decide⟩ (fun c_94 => ?_) (fun c_94 => ?_)
                          · refine lv_iconst (v := iZ 0) hx hb dX6_isRaw_113 rfl ?_
                            refine lv_istore (lv' := [(4, .int (iZ 0)), (7, .int (iZ 0)), (6, .int (iZ qs)), (5, .int (iZ ((i : Nat) : Int))), (3, .int (iZ (σ 114 (1 + k)))), (0, .ref (tad θ 111)), (1, .ref (tad θ 114)), (2, .int (iZ ((k : Nat) : Int)))]) hx hb dX6_isRaw_114 hl (by decide) rfl (fun ls hl => ?_)
                            refine z_iinc (k := 3) (lv' := [(5, .int (iZ (((i : Nat) : Int) + 1))), (4, .int (iZ 0)), (7, .int (iZ 0)), (6, .int (iZ qs)), (3, .int (iZ (σ 114 (1 + k)))), (0, .ref (tad θ 111)), (1, .ref (tad θ 114)), (2, .int (iZ ((k : Nat) : Int)))]) hx hb dX6_isRaw_116 hl rfl (by decide) rfl (fun ls hl => ?_)
                            have hl : lv_has ls 8 [(5, .int (iZ (((i + 1) : Nat) : Int))), (4, .int (iZ 0)), (7, .int (iZ 0)), (6, .int (iZ qs)), (3, .int (iZ (σ 114 (1 + k)))), (0, .ref (tad θ 111)), (1, .ref (tad θ 114)), (2, .int (iZ ((k : Nat) : Int)))] := by have e9 : (((i : Nat) : Int) + 1) = (((i + 1) : Nat) : Int) := (by omega); rw [e9] at hl; exact hl
                            refine lv_goto (tgt := 12) hx hb dX6_isRaw_119 (by decide) ?_
                            exact ih12 (i + 1) 0 _ _ _ (by omega) (by omega) (by rw [r1, ← hv, ← hs, if_neg (by omega)]) hB (lv_sub hl [0, 1, 4, 5, 6, 7] rfl)
                          · exact absurd (by decide) c_94
                      · refine lv_iconst (v := iZ 1) hx hb dX6_isRaw_74 rfl ?_
                        refine lv_goto (tgt := 79) hx hb dX6_isRaw_75 (by decide) ?_
                        refine lv_istore (lv' := [(7, .int (iZ 1)), (6, .int (iZ qs)), (5, .int (iZ ((i : Nat) : Int))), (4, .int (iZ v)), (3, .int (iZ (σ 114 (1 + k)))), (0, .ref (tad θ 111)), (1, .ref (tad θ 114)), (2, .int (iZ ((k : Nat) : Int)))]) hx hb dX6_isRaw_79 hl (by decide) rfl (fun ls hl => ?_)
                        refine lv_iload hx hb dX6_isRaw_81 (lv_at hl 3 rfl) ?_
                        refine z_if_ne (tgt := 109) hx hb dX6_isRaw_83 (by decide) ⟨by omega, by omega⟩ (fun c_95 => ?_) (fun c_95 => ?_)
                        · refine lv_iconst (v := iZ 1) hx hb dX6_isRaw_109 rfl ?_
                          refine lv_goto (tgt := 114) hx hb dX6_isRaw_110 (by decide) ?_
                          refine lv_istore (lv' := [(4, .int (iZ 1)), (7, .int (iZ 1)), (6, .int (iZ qs)), (5, .int (iZ ((i : Nat) : Int))), (3, .int (iZ (σ 114 (1 + k)))), (0, .ref (tad θ 111)), (1, .ref (tad θ 114)), (2, .int (iZ ((k : Nat) : Int)))]) hx hb dX6_isRaw_114 hl (by decide) rfl (fun ls hl => ?_)
                          refine z_iinc (k := 3) (lv' := [(5, .int (iZ (((i : Nat) : Int) + 1))), (4, .int (iZ 1)), (7, .int (iZ 1)), (6, .int (iZ qs)), (3, .int (iZ (σ 114 (1 + k)))), (0, .ref (tad θ 111)), (1, .ref (tad θ 114)), (2, .int (iZ ((k : Nat) : Int)))]) hx hb dX6_isRaw_116 hl rfl (by decide) rfl (fun ls hl => ?_)
                          have hl : lv_has ls 8 [(5, .int (iZ (((i + 1) : Nat) : Int))), (4, .int (iZ 1)), (7, .int (iZ 1)), (6, .int (iZ qs)), (3, .int (iZ (σ 114 (1 + k)))), (0, .ref (tad θ 111)), (1, .ref (tad θ 114)), (2, .int (iZ ((k : Nat) : Int)))] := by have e9 : (((i : Nat) : Int) + 1) = (((i + 1) : Nat) : Int) := (by omega); rw [e9] at hl; exact hl
                          refine lv_goto (tgt := 12) hx hb dX6_isRaw_119 (by decide) ?_
                          exact ih12 (i + 1) 1 _ _ _ (by omega) (by omega) (by rw [r1, ← hv, ← hs, if_pos (by omega)]) hB (lv_sub hl [0, 1, 4, 5, 6, 7] rfl)
                        · refine lv_iload hx hb dX6_isRaw_86 (lv_at hl 0 rfl) ?_
                          refine z_if_eq (tgt := 113) hx hb dX6_isRaw_88 (by decide) ⟨by decide, by decide⟩ (fun c_96 => ?_) (fun c_96 => ?_)
                          · exact absurd c_96 (by decide)
                          · refine lv_iload hx hb dX6_isRaw_91 (lv_at hl 1 rfl) ?_
                            refine lv_bipush (v := iZ (-9)) hx hb dX6_isRaw_93 (by decide) ?_
                            refine z_icmp_eq (tgt := 113) hx hb dX6_isRaw_95 (by decide) ⟨by omega, by omega⟩ ⟨by decide, by decide⟩ (fun c_97 => ?_) (fun c_97 => ?_)
                            · refine lv_iconst (v := iZ 0) hx hb dX6_isRaw_113 rfl ?_
                              refine lv_istore (lv' := [(4, .int (iZ 0)), (7, .int (iZ 1)), (6, .int (iZ qs)), (5, .int (iZ ((i : Nat) : Int))), (3, .int (iZ (σ 114 (1 + k)))), (0, .ref (tad θ 111)), (1, .ref (tad θ 114)), (2, .int (iZ ((k : Nat) : Int)))]) hx hb dX6_isRaw_114 hl (by decide) rfl (fun ls hl => ?_)
                              refine z_iinc (k := 3) (lv' := [(5, .int (iZ (((i : Nat) : Int) + 1))), (4, .int (iZ 0)), (7, .int (iZ 1)), (6, .int (iZ qs)), (3, .int (iZ (σ 114 (1 + k)))), (0, .ref (tad θ 111)), (1, .ref (tad θ 114)), (2, .int (iZ ((k : Nat) : Int)))]) hx hb dX6_isRaw_116 hl rfl (by decide) rfl (fun ls hl => ?_)
                              have hl : lv_has ls 8 [(5, .int (iZ (((i + 1) : Nat) : Int))), (4, .int (iZ 0)), (7, .int (iZ 1)), (6, .int (iZ qs)), (3, .int (iZ (σ 114 (1 + k)))), (0, .ref (tad θ 111)), (1, .ref (tad θ 114)), (2, .int (iZ ((k : Nat) : Int)))] := by have e9 : (((i : Nat) : Int) + 1) = (((i + 1) : Nat) : Int) := (by omega); rw [e9] at hl; exact hl
                              refine lv_goto (tgt := 12) hx hb dX6_isRaw_119 (by decide) ?_
                              exact ih12 (i + 1) 0 _ _ _ (by omega) (by omega) (by rw [r1, ← hv, ← hs, if_neg (by omega)]) hB (lv_sub hl [0, 1, 4, 5, 6, 7] rfl)
                            · refine lv_aload_n hx hb dX6_isRaw_98 rfl (lv_at hl 5 rfl) ?_
                              refine g_getr (k := 23) (j := 126) hx hb hts hown hK hθ hB cf6 (by decide) rfl (by decide) kw_682 rfl rfl dX6_isRaw_99 ?_
                              refine lv_iload hx hb dX6_isRaw_102 (lv_at hl 1 rfl) ?_
                              refine g_iald (k := qs.toNat) hx hb hK hB (by decide) rfl (by omega) (Nat.lt_of_lt_of_eq (by omega : qs.toNat < 8) (Eq.symm rfl)) (by decide) dX6_isRaw_104 ?_
                              have hr_98 := hR 126 (qs.toNat)
                              refine lv_iconst (v := iZ 1) hx hb dX6_isRaw_105 rfl ?_
                              refine z_icmp_ne (tgt := 113) hx hb dX6_isRaw_106 (by decide) ⟨by omega, by omega⟩ ⟨by decide, by decide⟩ (fun c_99 => ?_) (fun c_99 => ?_)
                              · refine lv_iconst (v := iZ 0) hx hb dX6_isRaw_113 rfl ?_
                                refine lv_istore (lv' := [(4, .int (iZ 0)), (7, .int (iZ 1)), (6, .int (iZ qs)), (5, .int (iZ ((i : Nat) : Int))), (3, .int (iZ (σ 114 (1 + k)))), (0, .ref (tad θ 111)), (1, .ref (tad θ 114)), (2, .int (iZ ((k : Nat) : Int)))]) hx hb dX6_isRaw_114 hl (by decide) rfl (fun ls hl => ?_)
                                refine z_iinc (k := 3) (lv' := [(5, .int (iZ (((i : Nat) : Int) + 1))), (4, .int (iZ 0)), (7, .int (iZ 1)), (6, .int (iZ qs)), (3, .int (iZ (σ 114 (1 + k)))), (0, .ref (tad θ 111)), (1, .ref (tad θ 114)), (2, .int (iZ ((k : Nat) : Int)))]) hx hb dX6_isRaw_116 hl rfl (by decide) rfl (fun ls hl => ?_)
                                have hl : lv_has ls 8 [(5, .int (iZ (((i + 1) : Nat) : Int))), (4, .int (iZ 0)), (7, .int (iZ 1)), (6, .int (iZ qs)), (3, .int (iZ (σ 114 (1 + k)))), (0, .ref (tad θ 111)), (1, .ref (tad θ 114)), (2, .int (iZ ((k : Nat) : Int)))] := by have e9 : (((i : Nat) : Int) + 1) = (((i + 1) : Nat) : Int) := (by omega); rw [e9] at hl; exact hl
                                refine lv_goto (tgt := 12) hx hb dX6_isRaw_119 (by decide) ?_
                                exact ih12 (i + 1) 0 _ _ _ (by omega) (by omega) (by rw [r1, ← hv, ← hs, if_neg (by omega)]) hB (lv_sub hl [0, 1, 4, 5, 6, 7] rfl)
                              · refine lv_iconst (v := iZ 1) hx hb dX6_isRaw_109 rfl ?_
                                refine lv_goto (tgt := 114) hx hb dX6_isRaw_110 (by decide) ?_
                                refine lv_istore (lv' := [(4, .int (iZ 1)), (7, .int (iZ 1)), (6, .int (iZ qs)), (5, .int (iZ ((i : Nat) : Int))), (3, .int (iZ (σ 114 (1 + k)))), (0, .ref (tad θ 111)), (1, .ref (tad θ 114)), (2, .int (iZ ((k : Nat) : Int)))]) hx hb dX6_isRaw_114 hl (by decide) rfl (fun ls hl => ?_)
                                refine z_iinc (k := 3) (lv' := [(5, .int (iZ (((i : Nat) : Int) + 1))), (4, .int (iZ 1)), (7, .int (iZ 1)), (6, .int (iZ qs)), (3, .int (iZ (σ 114 (1 + k)))), (0, .ref (tad θ 111)), (1, .ref (tad θ 114)), (2, .int (iZ ((k : Nat) : Int)))]) hx hb dX6_isRaw_116 hl rfl (by decide) rfl (fun ls hl => ?_)
                                have hl : lv_has ls 8 [(5, .int (iZ (((i + 1) : Nat) : Int))), (4, .int (iZ 1)), (7, .int (iZ 1)), (6, .int (iZ qs)), (3, .int (iZ (σ 114 (1 + k)))), (0, .ref (tad θ 111)), (1, .ref (tad θ 114)), (2, .int (iZ ((k : Nat) : Int)))] := by have e9 : (((i : Nat) : Int) + 1) = (((i + 1) : Nat) : Int) := (by omega); rw [e9] at hl; exact hl
                                refine lv_goto (tgt := 12) hx hb dX6_isRaw_119 (by decide) ?_
                                exact ih12 (i + 1) 1 _ _ _ (by omega) (by omega) (by rw [r1, ← hv, ← hs, if_pos (by omega)]) hB (lv_sub hl [0, 1, 4, 5, 6, 7] rfl)
  exact loop12 _ 0 0 _ _ _ (Nat.lt_succ_self _) (by omega) rfl hB (lv_sub hl [0, 1, 2, 3, 4, 5] rfl)
set_option maxHeartbeats 4000000 in
set_option maxRecDepth 100000 in
theorem mX6_findLevels (l : Launch) (θ : gT) (hθ : gOK θ) (σ : gS) (z : gZ) (hW : Wf (σ 114)) (N : Nat) (hN : σ 114 0 = (N : Int)) : GV l θ yX6_findLevels cX6_findLevels 4 3 71 [.ref (tad θ 111), .ref (tad θ 114)] σ z (fun σ' z' => (∀ k, k < 8 → σ' 126 k = lvP (σ 114) N 8 k) ∧ fr wLev σ σ' ∧ z' = z) := by
  refine g_enter (ret := none) (by decide +kernel) (Nat.le_of_ble_eq_true rfl) ?_
  intro p e s m args below meth c ls F hB hl
  obtain ⟨hx, hb, hr, hml, hown, hts, hlk, hK, hst⟩ := F
  have hR := hB.1.2
  have hl : lv_has ls 4 [(0, .ref (tad θ 111)), (1, .ref (tad θ 114))] := hl
  have hN8 : N ≤ 8 := by have := hW.1; omega
  refine lv_iconst (v := iZ 0) hx hb dX6_findLevels_0 rfl ?_
  refine lv_istore_n (lv' := [(2, .int (iZ 0)), (0, .ref (tad θ 111)), (1, .ref (tad θ 114))]) hx hb dX6_findLevels_1 rfl hl (by decide) rfl (fun ls hl => ?_)
  have loop2 : ∀ (n2 : Nat) (i : Nat) (σ1 : gS) (H : Heap) (locs : List Loc) (ls : Array Slot), 8 - i < n2 → (i ≤ 8) → (∀ k, k < i → σ1 126 k = 0) → (fr wLev σ σ1) →  gB θ σ1 z s.heap H locs → lv_has ls 4 [(2, .int (iZ ((i : Nat) : Int))), (0, .ref (tad θ 111)), (1, .ref (tad θ 114))] → W p l e (gRm 3 71) s m args below meth c H locs 0 0 (MQ below (gQv θ (fun σ' z' => (∀ k, k < 8 → σ' 126 k = lvP (σ 114) N 8 k) ∧ fr wLev σ σ' ∧ z' = z)) args s 0 0 (tA θ)) (F0 m 2 ls []) := by
    intro n2
    induction n2 with
    | zero => intro i σ1 H locs ls hmu; exact absurd hmu (Nat.not_lt_zero _)
    | succ n2 ih2 =>
      intro i σ1 H locs ls hmu hi h0 hf hB hl
      have hR := hB.1.2
      refine lv_iload_n hx hb dX6_findLevels_2 rfl (lv_at hl 0 rfl) ?_
      refine lv_bipush (v := iZ 8) hx hb dX6_findLevels_3 (by decide) ?_
      refine z_icmp_ge (tgt := 21) hx hb dX6_findLevels_5 (by decide) ⟨by omega, by omega⟩ ⟨by decide, by decide⟩ (fun c_1 => ?_) (fun c_1 => ?_)
      · refine lv_iconst (v := iZ 0) hx hb dX6_findLevels_21 rfl ?_
        refine lv_istore_n (lv' := [(2, .int (iZ 0)), (0, .ref (tad θ 111)), (1, .ref (tad θ 114))]) hx hb dX6_findLevels_22 rfl hl (by decide) rfl (fun ls hl => ?_)
        have loop23 : ∀ (n23 : Nat) (t : Nat) (σ3 : gS) (H : Heap) (locs : List Loc) (ls : Array Slot), 8 - t < n23 → (t ≤ 8) → (∀ j, j < 8 → σ3 126 j = lvP (σ 114) N t j) → (fr wLev σ σ3) →  gB θ σ3 z s.heap H locs → lv_has ls 4 [(2, .int (iZ ((t : Nat) : Int))), (0, .ref (tad θ 111)), (1, .ref (tad θ 114))] → W p l e (gRm 3 71) s m args below meth c H locs 0 0 (MQ below (gQv θ (fun σ' z' => (∀ k, k < 8 → σ' 126 k = lvP (σ 114) N 8 k) ∧ fr wLev σ σ' ∧ z' = z)) args s 0 0 (tA θ)) (F0 m 23 ls []) := by
          intro n23
          induction n23 with
          | zero => intro t σ3 H locs ls hmu; exact absurd hmu (Nat.not_lt_zero _)
          | succ n23 ih23 =>
            intro t σ3 H locs ls hmu ht hL hf hB hl
            have hR := hB.1.2
            refine lv_iload_n hx hb dX6_findLevels_23 rfl (lv_at hl 0 rfl) ?_
            refine lv_bipush (v := iZ 8) hx hb dX6_findLevels_24 (by decide) ?_
            refine z_icmp_ge (tgt := 75) hx hb dX6_findLevels_26 (by decide) ⟨by omega, by omega⟩ ⟨by decide, by decide⟩ (fun c_2 => ?_) (fun c_2 => ?_)
            · exact g_vret hx hb hr hlk hB dX6_findLevels_75 (⟨fun k hk => by rw [hL k hk, show t = 8 by omega], hf, rfl⟩)
            · refine lv_iconst (v := iZ 0) hx hb dX6_findLevels_29 rfl ?_
              refine lv_istore_n (lv' := [(3, .int (iZ 0)), (2, .int (iZ ((t : Nat) : Int))), (0, .ref (tad θ 111)), (1, .ref (tad θ 114))]) hx hb dX6_findLevels_30 rfl hl (by decide) rfl (fun ls hl => ?_)
              have loop31 : ∀ (n31 : Nat) (k : Nat) (σ4 : gS) (H : Heap) (locs : List Loc) (ls : Array Slot), N - k < n31 → (k ≤ N) → (∀ j, j < 8 → σ4 126 j = (lvK (σ 114) (lvP (σ 114) N t) k) j) → (fr wLev σ σ4) →  gB θ σ4 z s.heap H locs → lv_has ls 4 [(3, .int (iZ ((k : Nat) : Int))), (2, .int (iZ ((t : Nat) : Int))), (0, .ref (tad θ 111)), (1, .ref (tad θ 114))] → W p l e (gRm 3 71) s m args below meth c H locs 0 0 (MQ below (gQv θ (fun σ' z' => (∀ k, k < 8 → σ' 126 k = lvP (σ 114) N 8 k) ∧ fr wLev σ σ' ∧ z' = z)) args s 0 0 (tA θ)) (F0 m 31 ls []) := by
                intro n31
                induction n31 with
                | zero => intro k σ4 H locs ls hmu; exact absurd hmu (Nat.not_lt_zero _)
                | succ n31 ih31 =>
                  intro k σ4 H locs ls hmu hkN hLk hf4 hB hl
                  have hR := hB.1.2
                  have hg4 : σ4 114 = σ 114 := hf4.row (fun k => rfl)
                  refine lv_iload_n hx hb dX6_findLevels_31 rfl (lv_at hl 0 rfl) ?_
                  refine lv_aload_n hx hb dX6_findLevels_32 rfl (lv_at hl 3 rfl) ?_
                  refine lv_iconst (v := iZ 0) hx hb dX6_findLevels_33 rfl ?_
                  refine g_iald (k := 0) hx hb hK hB (by decide) rfl (by omega) (Nat.lt_of_lt_of_eq (by omega : 0 < 50) (Eq.symm rfl)) (by decide) dX6_findLevels_34 ?_
                  refine z_top (b := ((N : Nat) : Int)) (by rw [hg4]; exact hN) ?_
                  refine z_icmp_ge (tgt := 69) hx hb dX6_findLevels_35 (by decide) ⟨by omega, by omega⟩ ⟨by omega, by omega⟩ (fun c_3 => ?_) (fun c_3 => ?_)
                  · refine z_iinc (k := 1) (lv' := [(2, .int (iZ (((t : Nat) : Int) + 1))), (3, .int (iZ ((k : Nat) : Int))), (0, .ref (tad θ 111)), (1, .ref (tad θ 114))]) hx hb dX6_findLevels_69 hl rfl (by decide) rfl (fun ls hl => ?_)
                    have hl : lv_has ls 4 [(2, .int (iZ (((t + 1) : Nat) : Int))), (3, .int (iZ ((k : Nat) : Int))), (0, .ref (tad θ 111)), (1, .ref (tad θ 114))] := by have e9 : (((t : Nat) : Int) + 1) = (((t + 1) : Nat) : Int) := (by omega); rw [e9] at hl; exact hl
                    refine lv_goto (tgt := 23) hx hb dX6_findLevels_72 (by decide) ?_
                    exact ih23 (t + 1) σ4 _ _ _ (by omega) (by omega) (fun j hj => by rw [hLk j hj, show k = N by omega]; rfl) hf4 hB (lv_sub hl [0, 2, 3] rfl)
                  · refine lv_aload_n hx hb dX6_findLevels_38 rfl (lv_at hl 2 rfl) ?_
                    refine g_getr (k := 23) (j := 126) hx hb hts hown hK hθ hB cf6 (by decide) rfl (by decide) kw_682 rfl rfl dX6_findLevels_39 ?_
                    refine lv_iload_n hx hb dX6_findLevels_42 rfl (lv_at hl 0 rfl) ?_
                    refine lv_aload_n hx hb dX6_findLevels_43 rfl (lv_at hl 2 rfl) ?_
                    refine lv_aload_n hx hb dX6_findLevels_44 rfl (lv_at hl 3 rfl) ?_
                    refine lv_iload_n hx hb dX6_findLevels_45 rfl (lv_at hl 0 rfl) ?_
                    refine g_calli (g_runV (i := 111) (As := [.ref (tad θ 114), .int (iZ ((k : Nat) : Int))]) (rest := [.int (iZ ((k : Nat) : Int)), .ref (tad θ 126)]) hx hb hml hown hts hK hst hB (mX6_isOne l θ hθ σ4 z (by rw [hg4]; exact hW) k (by omega) (by rw [hg4]; omega)) mv_X6_isOne kw_843 cf6 (by decide) rfl rfl hl.1 rfl (Nat.le_of_ble_eq_true rfl) ⟨by decide, by decide⟩ ⟨Nat.le_refl _, Nat.le_refl _⟩ dX6_findLevels_46) hB (fun qo σ_4 z_5 H locs hqo hpo hB => ?_)
                    obtain ⟨hpo, e1_, e2_⟩ := hpo
                    rw [e1_, e2_] at hB
                    clear e1_ e2_
                    have hq1 : qo = o1 (σ 114) (lvK (σ 114) (lvP (σ 114) N t) k) k 3 := by rw [hpo, hg4]; exact o1_cong hW (by omega) (by omega) hLk 3 (by omega)
                    have hq01 := o1_01 (σ 114) (lvK (σ 114) (lvP (σ 114) N t) k) k 3
                    refine z_if_eq (tgt := 56) hx hb dX6_findLevels_49 (by decide) ⟨by omega, by omega⟩ (fun c_6 => ?_) (fun c_6 => ?_)
                    · refine lv_aload_n hx hb dX6_findLevels_56 rfl (lv_at hl 2 rfl) ?_
                      refine g_getr (k := 23) (j := 126) hx hb hts hown hK hθ hB cf6 (by decide) rfl (by decide) kw_682 rfl rfl dX6_findLevels_57 ?_
                      refine lv_iload_n hx hb dX6_findLevels_60 rfl (lv_at hl 0 rfl) ?_
                      refine g_iald (k := k) hx hb hK hB (by decide) rfl (by omega) (Nat.lt_of_lt_of_eq (by omega : k < 8) (Eq.symm rfl)) (by decide) dX6_findLevels_61 ?_
                      have hr_7 := hR 126 k
                      refine g_iast (k := k) hx hb hK hθ hB (by decide) rfl (by omega) (Nat.lt_of_lt_of_eq (by omega : k < 8) (Eq.symm rfl)) (by decide) ⟨by omega, by omega⟩ dX6_findLevels_62 (fun H locs hB => ?_)
                      obtain ⟨σ5, hσ5⟩ : ∃ x_ : gS, x_ = up2 σ4 126 k (σ4 126 k) := ⟨_, rfl⟩
                      rw [← hσ5] at hB
                      have hR := hB.1.2
                      refine z_iinc (k := 0) (lv' := [(3, .int (iZ (((k : Nat) : Int) + 1))), (2, .int (iZ ((t : Nat) : Int))), (0, .ref (tad θ 111)), (1, .ref (tad θ 114))]) hx hb dX6_findLevels_63 hl rfl (by decide) rfl (fun ls hl => ?_)
                      have hl : lv_has ls 4 [(3, .int (iZ (((k + 1) : Nat) : Int))), (2, .int (iZ ((t : Nat) : Int))), (0, .ref (tad θ 111)), (1, .ref (tad θ 114))] := by have e9 : (((k : Nat) : Int) + 1) = (((k + 1) : Nat) : Int) := (by omega); rw [e9] at hl; exact hl
                      refine lv_goto (tgt := 31) hx hb dX6_findLevels_66 (by decide) ?_
                      exact ih31 (k + 1) σ5 _ _ _ (by omega) (by omega) (by rw [hσ5, lvK, if_neg (by omega)]; exact (by rw [← hLk k (by omega)]; exact up_upn hLk k _)) (by rw [hσ5]; exact hf4.tr (fr.up rfl)) hB (lv_sub hl [0, 1, 2, 3] rfl)
                    · refine lv_iconst (v := iZ 1) hx hb dX6_findLevels_52 rfl ?_
                      refine lv_goto (tgt := 62) hx hb dX6_findLevels_53 (by decide) ?_
                      refine g_iast (k := k) hx hb hK hθ hB (by decide) rfl (by omega) (Nat.lt_of_lt_of_eq (by omega : k < 8) (Eq.symm rfl)) (by decide) ⟨by decide, by decide⟩ dX6_findLevels_62 (fun H locs hB => ?_)
                      obtain ⟨σ5, hσ5⟩ : ∃ x_ : gS, x_ = up2 σ4 126 k 1 := ⟨_, rfl⟩
                      rw [← hσ5] at hB
                      have hR := hB.1.2
                      refine z_iinc (k := 0) (lv' := [(3, .int (iZ (((k : Nat) : Int) + 1))), (2, .int (iZ ((t : Nat) : Int))), (0, .ref (tad θ 111)), (1, .ref (tad θ 114))]) hx hb dX6_findLevels_63 hl rfl (by decide) rfl (fun ls hl => ?_)
                      have hl : lv_has ls 4 [(3, .int (iZ (((k + 1) : Nat) : Int))), (2, .int (iZ ((t : Nat) : Int))), (0, .ref (tad θ 111)), (1, .ref (tad θ 114))] := by have e9 : (((k : Nat) : Int) + 1) = (((k + 1) : Nat) : Int) := (by omega); rw [e9] at hl; exact hl
                      refine lv_goto (tgt := 31) hx hb dX6_findLevels_66 (by decide) ?_
                      exact ih31 (k + 1) σ5 _ _ _ (by omega) (by omega) (by rw [hσ5, lvK, if_pos (by omega)]; exact up_upn hLk k _) (by rw [hσ5]; exact hf4.tr (fr.up rfl)) hB (lv_sub hl [0, 1, 2, 3] rfl)
              exact loop31 _ 0 σ3 _ _ _ (Nat.lt_succ_self _) (by omega) hL hf hB (lv_sub hl [0, 1, 2, 3] rfl)
        exact loop23 _ 0 σ1 _ _ _ (Nat.lt_succ_self _) (by omega) (fun j hj => h0 j (by omega)) hf hB (lv_sub hl [0, 1, 2] rfl)
      · refine lv_aload_n hx hb dX6_findLevels_8 rfl (lv_at hl 1 rfl) ?_
        refine g_getr (k := 23) (j := 126) hx hb hts hown hK hθ hB cf6 (by decide) rfl (by decide) kw_682 rfl rfl dX6_findLevels_9 ?_
        refine lv_iload_n hx hb dX6_findLevels_12 rfl (lv_at hl 0 rfl) ?_
        refine lv_iconst (v := iZ 0) hx hb dX6_findLevels_13 rfl ?_
        refine g_iast (k := i) hx hb hK hθ hB (by decide) rfl (by omega) (Nat.lt_of_lt_of_eq (by omega : i < 8) (Eq.symm rfl)) (by decide) ⟨by decide, by decide⟩ dX6_findLevels_14 (fun H locs hB => ?_)
        obtain ⟨σ2, hσ2⟩ : ∃ x_ : gS, x_ = up2 σ1 126 i 0 := ⟨_, rfl⟩
        rw [← hσ2] at hB
        have hR := hB.1.2
        refine z_iinc (k := 0) (lv' := [(2, .int (iZ (((i : Nat) : Int) + 1))), (0, .ref (tad θ 111)), (1, .ref (tad θ 114))]) hx hb dX6_findLevels_15 hl rfl (by decide) rfl (fun ls hl => ?_)
        have hl : lv_has ls 4 [(2, .int (iZ (((i + 1) : Nat) : Int))), (0, .ref (tad θ 111)), (1, .ref (tad θ 114))] := by have e9 : (((i : Nat) : Int) + 1) = (((i + 1) : Nat) : Int) := (by omega); rw [e9] at hl; exact hl
        refine lv_goto (tgt := 2) hx hb dX6_findLevels_18 (by decide) ?_
        exact ih2 (i + 1) σ2 _ _ _ (by omega) (by omega) (lt_s (fun k h => by rw [hσ2, up2_k _ _ (by omega)]; exact h0 k h) (by rw [hσ2, up2_eq])) (by rw [hσ2]; exact hf.tr (fr.up rfl)) hB (lv_sub hl [0, 1, 2] rfl)
  exact loop2 _ 0 σ _ _ _ (Nat.lt_succ_self _) (by omega) (fun k h => absurd h (Nat.not_lt_zero _)) fr.rf hB (lv_sub hl [0, 1, 2] rfl)
set_option maxHeartbeats 4000000 in
set_option maxRecDepth 100000 in
theorem mX6_find (l : Launch) (θ : gT) (hθ : gOK θ) (σ : gS) (z : gZ) (hW : Wf (σ 114)) (N : Nat) (hN : σ 114 0 = (N : Int)) : GV l θ yX6_find cX6_find 3 5 119 [.ref (tad θ 111), .ref (tad θ 114)] σ z (fun σ' z' => mAn (σ 114) N σ' ∧ fr wAn σ σ' ∧ z' = z) := by
  refine g_enter (ret := none) (by decide +kernel) (Nat.le_of_ble_eq_true rfl) ?_
  intro p e s m args below meth c ls F hB hl
  obtain ⟨hx, hb, hr, hml, hown, hts, hlk, hK, hst⟩ := F
  have hR := hB.1.2
  have hl : lv_has ls 3 [(0, .ref (tad θ 111)), (1, .ref (tad θ 114))] := hl
  have hN8 : N ≤ 8 := by have := hW.1; omega
  refine lv_aload_n hx hb dX6_find_0 rfl (lv_at hl 0 rfl) ?_
  refine lv_aload_n hx hb dX6_find_1 rfl (lv_at hl 1 rfl) ?_
  refine g_callv (g_runV (i := 111) (As := [.ref (tad θ 114)]) (rest := []) hx hb hml hown hts hK hst hB (mX6_findClocks l θ hθ σ z hW N hN) mv_X6_findClocks kw_797 cf6 (by decide) rfl rfl hl.1 rfl (Nat.le_of_ble_eq_true rfl) ⟨by decide, by decide⟩ ⟨Nat.le_refl _, Nat.le_refl _⟩ dX6_find_2) hB (fun σ1 z_1 H locs hp1 hB => ?_)
  obtain ⟨hp1, hf1, e2_⟩ := hp1
  rw [e2_] at hB
  clear e2_
  have hR := hB.1.2
  refine lv_aload_n hx hb dX6_find_5 rfl (lv_at hl 0 rfl) ?_
  refine lv_iconst (v := iZ 0) hx hb dX6_find_6 rfl ?_
  refine g_putI (k := 20) hx hb hts hown hK hθ hB cf6 tyX6 tyX6_ok (by decide) rfl (by decide) kw_679 rfl rfl rfl ⟨by decide, by decide⟩ dX6_find_7 (fun H locs hB => ?_)
  obtain ⟨σ2, hσ2⟩ : ∃ x_ : gS, x_ = up2 σ1 111 20 0 := ⟨_, rfl⟩
  rw [← hσ2] at hB
  have hR := hB.1.2
  refine lv_aload_n hx hb dX6_find_10 rfl (lv_at hl 0 rfl) ?_
  refine lv_bipush (v := iZ (-9)) hx hb dX6_find_11 (by decide) ?_
  refine g_putI (k := 21) hx hb hts hown hK hθ hB cf6 tyX6 tyX6_ok (by decide) rfl (by decide) kw_680 rfl rfl rfl ⟨by decide, by decide⟩ dX6_find_13 (fun H locs hB => ?_)
  obtain ⟨σ3, hσ3⟩ : ∃ x_ : gS, x_ = up2 σ2 111 21 (-9) := ⟨_, rfl⟩
  rw [← hσ3] at hB
  have hR := hB.1.2
  refine lv_aload_n hx hb dX6_find_16 rfl (lv_at hl 0 rfl) ?_
  have hg3 : σ3 114 = σ 114 := by rw [hσ3, up2_row _ _ (by decide), hσ2, up2_row _ _ (by decide)]; exact hf1.row (fun k => rfl)
  have hc3 : σ3 111 19 = σ1 111 19 := by rw [hσ3, up2_k _ _ (by decide), hσ2, up2_k _ _ (by decide)]
  have hf3 : fr wAn σ σ3 := by rw [hσ3, hσ2]; exact ((hf1.mono (fun i k h => by simp [wFC] at h; simp [wAn]; omega)).tr (fr.up rfl)).tr (fr.up rfl)
  refine g_geti (k := 19) hx hb hts hown hK hB cf6 (by decide) rfl (by decide) kw_678 rfl dX6_find_17 ?_
  have hr_3 := hR 111 19
  refine lv_bipush (v := iZ (-9)) hx hb dX6_find_20 (by decide) ?_
  refine z_icmp_eq (tgt := 26) hx hb dX6_find_22 (by decide) ⟨by omega, by omega⟩ ⟨by decide, by decide⟩ (fun c_4 => ?_) (fun c_4 => ?_)
  · have hcl := c_4
    obtain ⟨w, ew, hA⟩ : ∃ w, mClk (σ 114) N = some w ∧ mA σ1 w := by
      rcases hp1 with ⟨h1, h2⟩ | ⟨j, h1, h2, h3, h4⟩
      · exact h2
      · omega
    have ho := mClk_ok hW (show (N : Int) ≤ σ 114 0 by omega) ew
    have hA3 : mA σ3 w := by rw [hσ3, hσ2]; exact (hA.keep (up2_row _ _ (by decide)) (up2_row _ _ (by decide))).keep (up2_row _ _ (by decide)) (up2_row _ _ (by decide))
    refine lv_aload_n hx hb dX6_find_26 rfl (lv_at hl 0 rfl) ?_
    refine lv_aload_n hx hb dX6_find_27 rfl (lv_at hl 1 rfl) ?_
    refine g_callv (g_runV (i := 111) (As := [.ref (tad θ 114)]) (rest := []) hx hb hml hown hts hK hst hB (mX6_findOrder l θ hθ σ3 z w hA3 ho (by rw [hg3]; exact hW) N (by rw [hg3]; exact hN)) mv_X6_findOrder kw_821 cf6 (by decide) rfl rfl hl.1 rfl (Nat.le_of_ble_eq_true rfl) ⟨by decide, by decide⟩ ⟨Nat.le_refl _, Nat.le_refl _⟩ dX6_find_28) hB (fun σ4 z_5 H locs hp4 hB => ?_)
    obtain ⟨hp4, hf4, e2_⟩ := hp4
    rw [e2_] at hB
    clear e2_
    have hR := hB.1.2
    rw [hg3] at hp4
    have hg4 : σ4 114 = σ 114 := by rw [hf4.row (fun k => rfl)]; exact hg3
    refine lv_aload_n hx hb dX6_find_31 rfl (lv_at hl 0 rfl) ?_
    refine lv_aload_n hx hb dX6_find_32 rfl (lv_at hl 1 rfl) ?_
    refine g_callv (g_runV (i := 111) (As := [.ref (tad θ 114)]) (rest := []) hx hb hml hown hts hK hst hB (mX6_findLevels l θ hθ σ4 z (by rw [hg4]; exact hW) N (by rw [hg4]; exact hN)) mv_X6_findLevels kw_839 cf6 (by decide) rfl rfl hl.1 rfl (Nat.le_of_ble_eq_true rfl) ⟨by decide, by decide⟩ ⟨Nat.le_refl _, Nat.le_refl _⟩ dX6_find_33) hB (fun σ5 z_7 H locs hp5 hB => ?_)
    obtain ⟨hp5, hf5, e2_⟩ := hp5
    rw [e2_] at hB
    clear e2_
    have hR := hB.1.2
    rw [hg4] at hp5
    have hg5 : σ5 114 = σ 114 := by rw [hf5.row (fun k => rfl)]; exact hg4
    have hraw5 : lsP (fun k => r1 (σ 114) (lvP (σ 114) N 8) k 3 == 1) N N (σ5 111 21) := by rw [hf5 111 21 rfl, hf4 111 21 rfl, hσ3, up2_eq]; exact lsP_N _ _
    refine lv_aload_n hx hb dX6_find_36 rfl (lv_at hl 1 rfl) ?_
    refine lv_iconst (v := iZ 0) hx hb dX6_find_37 rfl ?_
    refine g_iald (k := 0) hx hb hK hB (by decide) rfl (by omega) (Nat.lt_of_lt_of_eq (by omega : 0 < 50) (Eq.symm rfl)) (by decide) dX6_find_38 ?_
    refine z_top (b := ((N : Nat) : Int)) (by rw [hg5]; exact hN) ?_
    refine lv_iconst (v := iZ 1) hx hb dX6_find_39 rfl ?_
    refine z_isub hx hb dX6_find_40 ?_
    refine lv_istore_n (lv' := [(2, .int (iZ (((N : Nat) : Int) - 1))), (0, .ref (tad θ 111)), (1, .ref (tad θ 114))]) hx hb dX6_find_41 rfl hl (by decide) rfl (fun ls hl => ?_)
    have loop42 : ∀ (n42 : Nat) (i : Nat) (σ6 : gS) (H : Heap) (locs : List Loc) (ls : Array Slot), i < n42 → (i ≤ N) → (lsP (fun k => r1 (σ 114) (lvP (σ 114) N 8) k 3 == 1) i N (σ6 111 21)) → (fr (fun i k => i == 111 && k == 21) σ5 σ6) →  gB θ σ6 z s.heap H locs → lv_has ls 3 [(2, .int (iZ (((i : Nat) : Int) - 1))), (0, .ref (tad θ 111)), (1, .ref (tad θ 114))] → W p l e (gRm 5 119) s m args below meth c H locs 0 0 (MQ below (gQv θ (fun σ' z' => mAn (σ 114) N σ' ∧ fr wAn σ σ' ∧ z' = z)) args s 0 0 (tA θ)) (F0 m 42 ls []) := by
      intro n42
      induction n42 with
      | zero => intro i σ6 H locs ls hmu; exact absurd hmu (Nat.not_lt_zero _)
      | succ n42 ih42 =>
        intro i σ6 H locs ls hmu hi hv hf6 hB hl
        have hR := hB.1.2
        have hg6 : σ6 114 = σ 114 := by rw [hf6.row (fun k => rfl), hg5]
        have hL6 : ∀ k, k < 8 → σ6 126 k = lvP (σ 114) N 8 k := fun k hk => by rw [hf6.row (fun k => rfl)]; exact hp5 k hk
        refine lv_iload_n hx hb dX6_find_42 rfl (lv_at hl 0 rfl) ?_
        refine z_if_lt (tgt := 73) hx hb dX6_find_43 (by decide) ⟨by omega, by omega⟩ (fun c_9 => ?_) (fun c_9 => ?_)
        · exact g_vret hx hb hr hlk hB dX6_find_73 (⟨Or.inr ⟨by rw [hf6 111 19 rfl, hf5 111 19 rfl, hf4 111 19 rfl]; exact hcl, w, ew, (hA3.keep (by rw [hf6.row (fun k => rfl), hf5.row (fun k => rfl), hf4.row (fun k => rfl)]) (by rw [hf6.row (fun k => rfl), hf5.row (fun k => rfl), hf4.row (fun k => rfl)])), by rw [hf6 111 20 rfl, hf5 111 20 rfl]; exact hp4.1, fun k hk => by rw [hf6.row (fun k => rfl), hf5.row (fun k => rfl)]; exact hp4.2 k hk, hL6, lsP_0 (by rw [show (0 : Nat) = i by omega]; exact hv)⟩, ((hf3.tr (hf4.mono (fun i k h => by simp [wOrd] at h; simp [wAn]; omega))).tr (hf5.mono (fun i k h => by simp [wLev] at h; simp [wAn]; omega))).tr (hf6.mono (fun i k h => by simp at h; simp [wAn]; omega)), rfl⟩)
        · refine lv_aload_n hx hb dX6_find_46 rfl (lv_at hl 1 rfl) ?_
          refine lv_aload_n hx hb dX6_find_47 rfl (lv_at hl 1 rfl) ?_
          refine lv_aload_n hx hb dX6_find_48 rfl (lv_at hl 2 rfl) ?_
          refine lv_iload_n hx hb dX6_find_49 rfl (lv_at hl 0 rfl) ?_
          refine z_top (b := (((i - 1) : Nat) : Int)) (by omega) ?_
          refine g_calli (g_runV (i := 111) (As := [.ref (tad θ 114), .int (iZ (((i - 1) : Nat) : Int))]) (rest := [.ref (tad θ 111)]) hx hb hml hown hts hK hst hB (mX6_isRaw l θ hθ σ6 z (by rw [hg6]; exact hW) (i - 1) (by omega) (by rw [hg6]; omega)) mv_X6_isRaw kw_849 cf6 (by decide) rfl rfl hl.1 rfl (Nat.le_of_ble_eq_true rfl) ⟨by decide, by decide⟩ ⟨Nat.le_refl _, Nat.le_refl _⟩ dX6_find_50) hB (fun qo σ_10 z_11 H locs hqo hpo hB => ?_)
          obtain ⟨hpo, e1_, e2_⟩ := hpo
          rw [e1_, e2_] at hB
          clear e1_ e2_
          have hq1 : qo = r1 (σ 114) (lvP (σ 114) N 8) (i - 1) 3 := by rw [hpo, hg6]; exact r1_cong hW (by omega) (by omega) hL6 3 (by omega)
          have hq01 := r1_01 (σ 114) (lvP (σ 114) N 8) (i - 1) 3
          refine z_if_eq (tgt := 60) hx hb dX6_find_53 (by decide) ⟨by omega, by omega⟩ (fun c_12 => ?_) (fun c_12 => ?_)
          · refine lv_aload_n hx hb dX6_find_60 rfl (lv_at hl 1 rfl) ?_
            refine g_geti (k := 21) hx hb hts hown hK hB cf6 (by decide) rfl (by decide) kw_680 rfl dX6_find_61 ?_
            have hr_13 := hR 111 21
            refine g_putI (k := 21) hx hb hts hown hK hθ hB cf6 tyX6 tyX6_ok (by decide) rfl (by decide) kw_680 rfl rfl rfl ⟨by omega, by omega⟩ dX6_find_64 (fun H locs hB => ?_)
            obtain ⟨σ7, hσ7⟩ : ∃ x_ : gS, x_ = up2 σ6 111 21 (σ6 111 21) := ⟨_, rfl⟩
            rw [← hσ7] at hB
            have hR := hB.1.2
            refine z_iinc (k := 0) (lv' := [(2, .int (iZ ((((i : Nat) : Int) - 1) + (-1)))), (0, .ref (tad θ 111)), (1, .ref (tad θ 114))]) hx hb dX6_find_67 hl rfl (by decide) rfl (fun ls hl => ?_)
            have hl : lv_has ls 3 [(2, .int (iZ (((i - 1 : Nat) : Int) - 1))), (0, .ref (tad θ 111)), (1, .ref (tad θ 114))] := by have e9 : ((((i : Nat) : Int) - 1) + (-1)) = (((i - 1 : Nat) : Int) - 1) := (by omega); rw [e9] at hl; exact hl
            refine lv_goto (tgt := 42) hx hb dX6_find_70 (by decide) ?_
            exact ih42 (i - 1) σ7 _ _ _ (by omega) (by omega) (by rw [hσ7, up2_eq]; exact lsP_no hv (by omega) (by show (r1 (σ 114) (lvP (σ 114) N 8) (i - 1) 3 == 1) = false; rw [← hq1]; simp; omega)) (by rw [hσ7]; exact hf6.tr (fr.up rfl)) hB (lv_sub hl [0, 1, 2] rfl)
          · refine lv_iload_n hx hb dX6_find_56 rfl (lv_at hl 0 rfl) ?_
            refine lv_goto (tgt := 64) hx hb dX6_find_57 (by decide) ?_
            refine g_putI (k := 21) hx hb hts hown hK hθ hB cf6 tyX6 tyX6_ok (by decide) rfl (by decide) kw_680 rfl rfl rfl ⟨by omega, by omega⟩ dX6_find_64 (fun H locs hB => ?_)
            obtain ⟨σ7, hσ7⟩ : ∃ x_ : gS, x_ = up2 σ6 111 21 (((i : Nat) : Int) - 1) := ⟨_, rfl⟩
            rw [← hσ7] at hB
            have hR := hB.1.2
            refine z_iinc (k := 0) (lv' := [(2, .int (iZ ((((i : Nat) : Int) - 1) + (-1)))), (0, .ref (tad θ 111)), (1, .ref (tad θ 114))]) hx hb dX6_find_67 hl rfl (by decide) rfl (fun ls hl => ?_)
            have hl : lv_has ls 3 [(2, .int (iZ (((i - 1 : Nat) : Int) - 1))), (0, .ref (tad θ 111)), (1, .ref (tad θ 114))] := by have e9 : ((((i : Nat) : Int) - 1) + (-1)) = (((i - 1 : Nat) : Int) - 1) := (by omega); rw [e9] at hl; exact hl
            refine lv_goto (tgt := 42) hx hb dX6_find_70 (by decide) ?_
            exact ih42 (i - 1) σ7 _ _ _ (by omega) (by omega) (by have e8 : (((i : Nat) : Int) - 1) = ((i - 1 : Nat) : Int) := (by omega); rw [hσ7, up2_eq, e8]; exact lsP_yes (by omega) hi (by show (r1 (σ 114) (lvP (σ 114) N 8) (i - 1) 3 == 1) = true; rw [← hq1]; simp; omega)) (by rw [hσ7]; exact hf6.tr (fr.up rfl)) hB (lv_sub hl [0, 1, 2] rfl)
    exact loop42 _ N σ5 _ _ _ (Nat.lt_succ_self _) (Nat.le_refl _) hraw5 fr.rf hB (lv_sub hl [0, 1, 2] rfl)
  · have hfin : mAn (σ 114) N σ3 := by
      rcases hp1 with ⟨h1, -⟩ | ⟨j, h1, h2, h3, h4⟩
      · omega
      · exact Or.inl ⟨j, h1, by rw [hc3]; exact h2, h3, h4, by rw [hσ3, up2_k _ _ (by decide), hσ2, up2_eq], by rw [hσ3, up2_eq]⟩
    exact g_vret hx hb hr hlk hB dX6_find_25 (⟨hfin, hf3, rfl⟩)
