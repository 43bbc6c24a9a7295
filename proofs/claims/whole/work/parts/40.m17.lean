def wIn (i k : Nat) : Bool := i == 115 || i == 127 || (i == 111 && (k == 26 || k == 27))
theorem sc_in (i k : Nat) (h : wIn i k = true) : wSc i k = true := by simp [wIn] at h; simp [wSc]; omega
set_option maxHeartbeats 4000000 in
set_option maxRecDepth 100000 in
theorem mX6_inputs (l : Launch) (θ : gT) (hθ : gOK θ) (σ : gS) (z : gZ) (hW : Wf (σ 114)) (N : Nat) (hN : σ 114 0 = (N : Int)) (hV : Vb (σ 114)) (n : Nat) (hn : σ 111 11 = (n : Int)) (hse : seenOK σ n) (y : Int) (hyr : rg y) : GI l θ yX6_inputs cX6_inputs 4 (some .int) 7 161 [.ref (tad θ 111), .int (iZ y)] σ z (fun q σ' z' => ((¬ (0 ≤ y ∧ y ≤ 1) ∧ q = -2) ∨ ((0 ≤ y ∧ y ≤ 1) ∧ ¬ sndG (σ 114) N ∧ q = -3) ∨ ((0 ≤ y ∧ y ≤ 1) ∧ sndG (σ 114) N ∧ ∃ w, mClk (σ 114) N = some w ∧ ((y = 0 ∧ q = ((cnB (fun k => (exB σ n (fun t => tkC (afM (σ 114)) w (tn (wtN (σ 114) w) N) N ((k / 10 : Nat) : Int) ((k % 10 : Nat) : Int) t))) 100 : Nat) : Int)) ∨ (y ≠ 0 ∧ q = nO (fsR (fun k => (exB σ n (fun t => tkC (afM (σ 114)) w (tn (wtN (σ 114) w) N) N ((k / 10 : Nat) : Int) ((k % 10 : Nat) : Int) t))) 100))))) ∧ fr wSc σ σ' ∧ z' = z) := by
  refine g_enter (ret := (some .int)) (by decide +kernel) (Nat.le_of_ble_eq_true rfl) ?_
  intro p e s m args below meth c ls F hB hl
  obtain ⟨hx, hb, hr, hml, hown, hts, hlk, hK, hst⟩ := F
  have hR := hB.1.2
  have hl : lv_has ls 4 [(0, .ref (tad θ 111)), (1, .int (iZ y))] := hl
  refine lv_aload_n hx hb dX6_inputs_0 rfl (lv_at hl 0 rfl) ?_
  refine lv_iconst (v := iZ 0) hx hb dX6_inputs_1 rfl ?_
  refine g_putI (k := 0) hx hb hts hown hK hθ hB cf6 tyX6 tyX6_ok (by decide) rfl (by decide) kw_659 rfl rfl rfl ⟨by decide, by decide⟩ dX6_inputs_2 (fun H locs hB => ?_)
  obtain ⟨σ1, hσ1⟩ : ∃ x_ : gS, x_ = up2 σ 111 0 0 := ⟨_, rfl⟩
  rw [← hσ1] at hB
  have hR := hB.1.2
  refine lv_iload_n hx hb dX6_inputs_5 rfl (lv_at hl 1 rfl) ?_
  refine z_i2l hx hb ⟨by omega, by omega⟩ dX6_inputs_6 ?_
  refine lv_lconst (v := lZ 0) hx hb dX6_inputs_7 (by decide) ?_
  refine lv_lconst (v := lZ 1) hx hb dX6_inputs_8 (by decide) ?_
  refine g_calli (g_runS (As := [.long (lZ y), .long (lZ 0), .long (lZ 1)]) (rest := []) hx hb hml hown hts hK hst hB (mX6_in l θ hθ σ1 z y 0 1 ⟨by omega, by omega⟩ ⟨by omega, by omega⟩ ⟨by omega, by omega⟩) ms_X6_in kw_749 rfl hl.1 rfl (Nat.le_of_ble_eq_true rfl) ⟨by decide, by decide⟩ ⟨Nat.le_refl _, Nat.le_refl _⟩ dX6_inputs_9) hB (fun q_3 σ_1 z_2 H locs hq_3 pq_3 hB => ?_)
  obtain ⟨pq_3, e1_, e2_⟩ := pq_3
  rw [e1_, e2_] at hB
  clear e1_ e2_
  refine z_if_ne (tgt := 18) hx hb dX6_inputs_12 (by decide) ⟨by omega, by omega⟩ (fun c_4 => ?_) (fun c_4 => ?_)
  · refine lv_aload_n hx hb dX6_inputs_18 rfl (lv_at hl 0 rfl) ?_
    refine g_calli (g_runV (i := 111) (As := []) (rest := []) hx hb hml hown hts hK hst hB (mX6_soundNow l θ hθ σ1 z (by rw [hσ1, up2_row _ _ (by decide)]; exact hW) N (by rw [hσ1, up2_row _ _ (by decide)]; exact hN)) mv_X6_soundNow kw_789 cf6 (by decide) rfl rfl hl.1 rfl (Nat.le_of_ble_eq_true rfl) ⟨by decide, by decide⟩ ⟨Nat.le_refl _, Nat.le_refl _⟩ dX6_inputs_19) hB (fun q2 σ2 z_5 H locs hq2 hp2 hB => ?_)
    obtain ⟨hp2, hf2, e2_⟩ := hp2
    rw [e2_] at hB
    clear e2_
    have hR := hB.1.2
    rw [hσ1, up2_row _ _ (by decide)] at hp2
    have hfs : fr wSc σ σ2 := ((by rw [hσ1]; exact fr.up rfl : fr wSc σ σ1)).tr (hf2.mono sc_an)
    have hg2 : σ2 114 = σ 114 := by rw [hf2.row (fun k => rfl), hσ1, up2_row _ _ (by decide)]
    have hgr := hW.1
    obtain ⟨han, hp2⟩ := hp2
    have hiff := mAn_iff han
    rcases hp2 with ⟨hqa, hsn⟩ | ⟨hqa, hsn⟩
    · subst hqa
      have hsd := hiff.mp hsn
      obtain ⟨w, ew, ho, hA2, hfn, hT2, hraw⟩ := mAn_snd hW hN han hsn
      refine z_if_ne (tgt := 28) hx hb dX6_inputs_22 (by decide) ⟨by decide, by decide⟩ (fun c_6 => ?_) (fun c_6 => ?_)
      · refine lv_aload_n hx hb dX6_inputs_28 rfl (lv_at hl 0 rfl) ?_
        refine lv_iconst (v := iZ 0) hx hb dX6_inputs_29 rfl ?_
        refine g_putI (k := 26) hx hb hts hown hK hθ hB cf6 tyX6 tyX6_ok (by decide) rfl (by decide) kw_685 rfl rfl rfl ⟨by decide, by decide⟩ dX6_inputs_30 (fun H locs hB => ?_)
        obtain ⟨σ3, hσ3⟩ : ∃ x_ : gS, x_ = up2 σ2 111 26 0 := ⟨_, rfl⟩
        rw [← hσ3] at hB
        have hR := hB.1.2
        refine lv_aload_n hx hb dX6_inputs_33 rfl (lv_at hl 0 rfl) ?_
        refine lv_bipush (v := iZ (-9)) hx hb dX6_inputs_34 (by decide) ?_
        refine g_putI (k := 27) hx hb hts hown hK hθ hB cf6 tyX6 tyX6_ok (by decide) rfl (by decide) kw_686 rfl rfl rfl ⟨by decide, by decide⟩ dX6_inputs_36 (fun H locs hB => ?_)
        obtain ⟨σ4, hσ4⟩ : ∃ x_ : gS, x_ = up2 σ3 111 27 (-9) := ⟨_, rfl⟩
        rw [← hσ4] at hB
        have hR := hB.1.2
        refine lv_iconst (v := iZ 0) hx hb dX6_inputs_39 rfl ?_
        refine lv_istore_n (lv' := [(2, .int (iZ 0)), (0, .ref (tad θ 111)), (1, .int (iZ y))]) hx hb dX6_inputs_40 rfl hl (by decide) rfl (fun ls hl => ?_)
        have loop41 : ∀ (n41 : Nat) (k : Nat) (σ5 : gS) (H : Heap) (locs : List Loc) (ls : Array Slot), 100 - k < n41 → (k ≤ 100) → (σ5 111 26 = ((cnB (fun k => (exB σ n (fun t => tkC (afM (σ 114)) w (tn (wtN (σ 114) w) N) N ((k / 10 : Nat) : Int) ((k % 10 : Nat) : Int) t))) k : Nat) : Int)) → (σ5 111 27 = nO (fsR (fun k => (exB σ n (fun t => tkC (afM (σ 114)) w (tn (wtN (σ 114) w) N) N ((k / 10 : Nat) : Int) ((k % 10 : Nat) : Int) t))) k)) → (fr wIn σ2 σ5) →  gB θ σ5 z s.heap H locs → lv_has ls 4 [(2, .int (iZ ((k : Nat) : Int))), (0, .ref (tad θ 111)), (1, .int (iZ y))] → W p l e (gRm 7 161) s m args below meth c H locs 0 0 (MQ below (gQi θ (fun q σ' z' => ((¬ (0 ≤ y ∧ y ≤ 1) ∧ q = -2) ∨ ((0 ≤ y ∧ y ≤ 1) ∧ ¬ sndG (σ 114) N ∧ q = -3) ∨ ((0 ≤ y ∧ y ≤ 1) ∧ sndG (σ 114) N ∧ ∃ w, mClk (σ 114) N = some w ∧ ((y = 0 ∧ q = ((cnB (fun k => (exB σ n (fun t => tkC (afM (σ 114)) w (tn (wtN (σ 114) w) N) N ((k / 10 : Nat) : Int) ((k % 10 : Nat) : Int) t))) 100 : Nat) : Int)) ∨ (y ≠ 0 ∧ q = nO (fsR (fun k => (exB σ n (fun t => tkC (afM (σ 114)) w (tn (wtN (σ 114) w) N) N ((k / 10 : Nat) : Int) ((k % 10 : Nat) : Int) t))) 100))))) ∧ fr wSc σ σ' ∧ z' = z)) args s 0 0 (tA θ)) (F0 m 41 ls []) := by
          intro n41
          induction n41 with
          | zero => intro k σ5 H locs ls hmu; exact absurd hmu (Nat.not_lt_zero _)
          | succ n41 ih41 =>
            intro k σ5 H locs ls hmu hk h26 h27 hf5 hB hl
            have hR := hB.1.2
            have hX5 : tCx σ5 w N (tn (wtN (σ 114) w) N) := (show tCx σ2 w N (tn (wtN (σ 114) w) N) from ⟨hA2, ho, hT2⟩).keep (hf5.row (fun k => rfl)) (hf5.row (fun k => rfl)) (hf5.row (fun k => rfl))
            have hg5 : σ5 114 = σ 114 := by rw [hf5.row (fun k => rfl)]; exact hg2
            have hpg5 : tOk (σ5 114) N := by rw [hg5]; exact ⟨hW, hV, hN⟩
            have hc100 := cnB_le (fun k => (exB σ n (fun t => tkC (afM (σ 114)) w (tn (wtN (σ 114) w) N) N ((k / 10 : Nat) : Int) ((k % 10 : Nat) : Int) t))) k
            have hr119 : σ5 119 = σ 119 := by rw [hf5.row (fun k => rfl), hfs.row (fun k => rfl)]
            have hr120 : σ5 120 = σ 120 := by rw [hf5.row (fun k => rfl), hfs.row (fun k => rfl)]
            have hr121 : σ5 121 = σ 121 := by rw [hf5.row (fun k => rfl), hfs.row (fun k => rfl)]
            have hr122 : σ5 122 = σ 122 := by rw [hf5.row (fun k => rfl), hfs.row (fun k => rfl)]
            have hse5 : seenOK σ5 n := ⟨hse.1, by rw [hr120]; exact hse.2⟩
            refine lv_iload_n hx hb dX6_inputs_41 rfl (lv_at hl 0 rfl) ?_
            refine lv_bipush (v := iZ 100) hx hb dX6_inputs_42 (by decide) ?_
            refine z_icmp_ge (tgt := 107) hx hb dX6_inputs_44 (by decide) ⟨by omega, by omega⟩ ⟨by decide, by decide⟩ (fun c_7 => ?_) (fun c_7 => ?_)
            · refine lv_iload_n hx hb dX6_inputs_107 rfl (lv_at hl 2 rfl) ?_
              refine z_if_ne (tgt := 118) hx hb dX6_inputs_108 (by decide) ⟨by omega, by omega⟩ (fun c_8 => ?_) (fun c_8 => ?_)
              · refine lv_aload_n hx hb dX6_inputs_118 rfl (lv_at hl 1 rfl) ?_
                refine g_geti (k := 27) hx hb hts hown hK hB cf6 (by decide) rfl (by decide) kw_686 rfl dX6_inputs_119 ?_
                refine z_top (b := (nO (fsR (fun k => (exB σ n (fun t => tkC (afM (σ 114)) w (tn (wtN (σ 114) w) N) N ((k / 10 : Nat) : Int) ((k % 10 : Nat) : Int) t))) k))) (h27) ?_
                have hr27 := hR 111 27
                rw [h27] at hr27
                exact g_iret hx hb hr hlk hB dX6_inputs_122 ⟨by omega, by omega⟩ (⟨Or.inr (Or.inr ⟨by omega, hsd, w, ew, Or.inr ⟨by omega, by rw [show k = 100 by omega]⟩⟩), hfs.tr (hf5.mono sc_in), rfl⟩)
              · refine lv_aload_n hx hb dX6_inputs_111 rfl (lv_at hl 1 rfl) ?_
                refine g_geti (k := 26) hx hb hts hown hK hB cf6 (by decide) rfl (by decide) kw_685 rfl dX6_inputs_112 ?_
                refine z_top (b := (((cnB (fun k => (exB σ n (fun t => tkC (afM (σ 114)) w (tn (wtN (σ 114) w) N) N ((k / 10 : Nat) : Int) ((k % 10 : Nat) : Int) t))) k) : Nat) : Int)) (h26) ?_
                refine lv_goto (tgt := 122) hx hb dX6_inputs_115 (by decide) ?_
                exact g_iret hx hb hr hlk hB dX6_inputs_122 ⟨by omega, by omega⟩ (⟨Or.inr (Or.inr ⟨by omega, hsd, w, ew, Or.inl ⟨by omega, by rw [show k = 100 by omega]⟩⟩), hfs.tr (hf5.mono sc_in), rfl⟩)
            · refine lv_aload_n hx hb dX6_inputs_47 rfl (lv_at hl 1 rfl) ?_
              refine lv_iload_n hx hb dX6_inputs_48 rfl (lv_at hl 0 rfl) ?_
              refine lv_bipush (v := iZ 10) hx hb dX6_inputs_49 (by decide) ?_
              refine z_idiv hx hb dX6_inputs_51 ⟨by omega, by omega⟩ (by omega) ⟨by decide, by decide⟩ (by decide) ?_
              refine lv_iload_n hx hb dX6_inputs_52 rfl (lv_at hl 0 rfl) ?_
              refine lv_bipush (v := iZ 10) hx hb dX6_inputs_53 (by decide) ?_
              refine z_irem hx hb dX6_inputs_55 ⟨by omega, by omega⟩ (by omega) ⟨by decide, by decide⟩ (by decide) ?_
              refine g_calli (g_runV (i := 111) (As := [.int (iZ (((k : Nat) : Int) / 10)), .int (iZ (((k : Nat) : Int) % 10))]) (rest := []) hx hb hml hown hts hK hst hB (mX6_explains l θ hθ σ5 z w N (tn (wtN (σ 114) w) N) hX5 hpg5 n (by rw [hf5 111 11 rfl, hfs 111 11 rfl]; exact hn) hse5 ((k / 10 : Nat) : Int) ((k % 10 : Nat) : Int) (by omega) (by omega)) mv_X6_explains kw_994 cf6 (by decide) rfl rfl hl.1 rfl (Nat.le_of_ble_eq_true rfl) ⟨by decide, by decide⟩ ⟨Nat.le_refl _, Nat.le_refl _⟩ dX6_inputs_56) hB (fun q6 σ6 z_9 H locs hq6 hp6 hB => ?_)
              obtain ⟨hp6, hf6, e2_⟩ := hp6
              rw [e2_] at hB
              clear e2_
              have hR := hB.1.2
              have hexi : exP σ5 n (fun t => tkC (afM (cpr (σ5 114) (σ5 115) 50)) w (tn (wtN (σ 114) w) N) N ((k / 10 : Nat) : Int) ((k % 10 : Nat) : Int) t) ↔ exP σ n (fun t => tkC (afM (σ 114)) w (tn (wtN (σ 114) w) N) N ((k / 10 : Nat) : Int) ((k % 10 : Nat) : Int) t) := by
                rw [exP_e hse5 (fun t => tkC_e (afM_e (cpr_e (σ5 114) (σ5 115))) (afM_ok (hpg5.cong (fun k hk => cpr_50 _ _ hk))) ho hX5.lt (by omega) (by omega) t), hg5]
                unfold exP exC
                rw [hr119, hr120, hr121, hr122]
              rcases hp6 with ⟨hq6b, hex⟩ | ⟨hq6b, hex⟩
              · subst hq6b
                have hek : (exB σ n (fun t => tkC (afM (σ 114)) w (tn (wtN (σ 114) w) N) N ((k / 10 : Nat) : Int) ((k % 10 : Nat) : Int) t)) = true := exB_t (hexi.mp hex)
                refine lv_istore_n (lv' := [(3, .int (iZ 1)), (2, .int (iZ ((k : Nat) : Int))), (0, .ref (tad θ 111)), (1, .int (iZ y))]) hx hb dX6_inputs_59 rfl hl (by decide) rfl (fun ls hl => ?_)
                refine lv_aload_n hx hb dX6_inputs_60 rfl (lv_at hl 2 rfl) ?_
                refine lv_iload_n hx hb dX6_inputs_61 rfl (lv_at hl 0 rfl) ?_
                refine z_if_eq (tgt := 76) hx hb dX6_inputs_62 (by decide) ⟨by decide, by decide⟩ (fun c_10 => ?_) (fun c_10 => ?_)
                · exact absurd c_10 (by decide)
                · refine lv_aload_n hx hb dX6_inputs_65 rfl (lv_at hl 2 rfl) ?_
                  refine g_geti (k := 26) hx hb hts hown hK hB cf6 (by decide) rfl (by decide) kw_685 rfl dX6_inputs_66 ?_
                  refine z_top (b := (((cnB (fun k => (exB σ n (fun t => tkC (afM (σ 114)) w (tn (wtN (σ 114) w) N) N ((k / 10 : Nat) : Int) ((k % 10 : Nat) : Int) t))) k) : Nat) : Int)) (by rw [hf6 111 26 rfl]; exact h26) ?_
                  refine z_if_ne (tgt := 76) hx hb dX6_inputs_69 (by decide) ⟨by omega, by omega⟩ (fun c_11 => ?_) (fun c_11 => ?_)
                  · refine lv_aload_n hx hb dX6_inputs_76 rfl (lv_at hl 2 rfl) ?_
                    refine g_geti (k := 27) hx hb hts hown hK hB cf6 (by decide) rfl (by decide) kw_686 rfl dX6_inputs_77 ?_
                    refine z_top (b := (nO (fsR (fun k => (exB σ n (fun t => tkC (afM (σ 114)) w (tn (wtN (σ 114) w) N) N ((k / 10 : Nat) : Int) ((k % 10 : Nat) : Int) t))) k))) (by rw [hf6 111 27 rfl]; exact h27) ?_
                    have hr27 := hR 111 27
                    rw [hf6 111 27 rfl, h27] at hr27
                    refine g_putI (k := 27) hx hb hts hown hK hθ hB cf6 tyX6 tyX6_ok (by decide) rfl (by decide) kw_686 rfl rfl rfl ⟨by omega, by omega⟩ dX6_inputs_80 (fun H locs hB => ?_)
                    obtain ⟨σ7, hσ7⟩ : ∃ x_ : gS, x_ = up2 σ6 111 27 (nO (fsR (fun k => (exB σ n (fun t => tkC (afM (σ 114)) w (tn (wtN (σ 114) w) N) N ((k / 10 : Nat) : Int) ((k % 10 : Nat) : Int) t))) k)) := ⟨_, rfl⟩
                    rw [← hσ7] at hB
                    have hR := hB.1.2
                    refine lv_aload_n hx hb dX6_inputs_83 rfl (lv_at hl 2 rfl) ?_
                    refine lv_dup hx hb dX6_inputs_84 rfl ?_
                    refine g_geti (k := 26) hx hb hts hown hK hB cf6 (by decide) rfl (by decide) kw_685 rfl dX6_inputs_85 ?_
                    refine z_top (b := (((cnB (fun k => (exB σ n (fun t => tkC (afM (σ 114)) w (tn (wtN (σ 114) w) N) N ((k / 10 : Nat) : Int) ((k % 10 : Nat) : Int) t))) k) : Nat) : Int)) (by rw [hσ7, up2_k _ _ (by decide), hf6 111 26 rfl]; exact h26) ?_
                    refine lv_iload_n hx hb dX6_inputs_88 rfl (lv_at hl 0 rfl) ?_
                    refine z_if_eq (tgt := 96) hx hb dX6_inputs_89 (by decide) ⟨by decide, by decide⟩ (fun c_12 => ?_) (fun c_12 => ?_)
                    · exact absurd c_12 (by decide)
                    · refine lv_iconst (v := iZ 1) hx hb dX6_inputs_92 rfl ?_
                      refine lv_goto (tgt := 97) hx hb dX6_inputs_93 (by decide) ?_
                      refine z_iadd hx hb dX6_inputs_97 ?_
                      refine g_putI (k := 26) hx hb hts hown hK hθ hB cf6 tyX6 tyX6_ok (by decide) rfl (by decide) kw_685 rfl rfl rfl ⟨by omega, by omega⟩ dX6_inputs_98 (fun H locs hB => ?_)
                      obtain ⟨σ8, hσ8⟩ : ∃ x_ : gS, x_ = up2 σ7 111 26 ((((cnB (fun k => (exB σ n (fun t => tkC (afM (σ 114)) w (tn (wtN (σ 114) w) N) N ((k / 10 : Nat) : Int) ((k % 10 : Nat) : Int) t))) k) : Nat) : Int) + 1) := ⟨_, rfl⟩
                      rw [← hσ8] at hB
                      have hR := hB.1.2
                      refine z_iinc (k := 1) (lv' := [(2, .int (iZ (((k : Nat) : Int) + 1))), (3, .int (iZ 1)), (0, .ref (tad θ 111)), (1, .int (iZ y))]) hx hb dX6_inputs_101 hl rfl (by decide) rfl (fun ls hl => ?_)
                      have hl : lv_has ls 4 [(2, .int (iZ (((k + 1) : Nat) : Int))), (3, .int (iZ 1)), (0, .ref (tad θ 111)), (1, .int (iZ y))] := by have e9 : (((k : Nat) : Int) + 1) = (((k + 1) : Nat) : Int) := (by omega); rw [e9] at hl; exact hl
                      refine lv_goto (tgt := 41) hx hb dX6_inputs_104 (by decide) ?_
                      exact ih41 (k + 1) σ8 _ _ _ (by omega) (by omega) (by rw [hσ8, up2_eq, cnB, if_pos hek]; omega) (by rw [hσ8, up2_k _ _ (by decide), hσ7, up2_eq, fsR_step, if_neg (fun q => by have := q.2; omega)]) (by rw [hσ8, hσ7]; exact ((hf5.tr (hf6.mono (fun i k h => by simp [wTk] at h; simp [wIn]; omega))).tr (fr.up rfl)).tr (fr.up rfl)) hB (lv_sub hl [0, 2, 3] rfl)
                  · refine lv_iload_n hx hb dX6_inputs_72 rfl (lv_at hl 1 rfl) ?_
                    refine lv_goto (tgt := 80) hx hb dX6_inputs_73 (by decide) ?_
                    refine g_putI (k := 27) hx hb hts hown hK hθ hB cf6 tyX6 tyX6_ok (by decide) rfl (by decide) kw_686 rfl rfl rfl ⟨by omega, by omega⟩ dX6_inputs_80 (fun H locs hB => ?_)
                    obtain ⟨σ7, hσ7⟩ : ∃ x_ : gS, x_ = up2 σ6 111 27 ((k : Nat) : Int) := ⟨_, rfl⟩
                    rw [← hσ7] at hB
                    have hR := hB.1.2
                    refine lv_aload_n hx hb dX6_inputs_83 rfl (lv_at hl 2 rfl) ?_
                    refine lv_dup hx hb dX6_inputs_84 rfl ?_
                    refine g_geti (k := 26) hx hb hts hown hK hB cf6 (by decide) rfl (by decide) kw_685 rfl dX6_inputs_85 ?_
                    refine z_top (b := (((cnB (fun k => (exB σ n (fun t => tkC (afM (σ 114)) w (tn (wtN (σ 114) w) N) N ((k / 10 : Nat) : Int) ((k % 10 : Nat) : Int) t))) k) : Nat) : Int)) (by rw [hσ7, up2_k _ _ (by decide), hf6 111 26 rfl]; exact h26) ?_
                    refine lv_iload_n hx hb dX6_inputs_88 rfl (lv_at hl 0 rfl) ?_
                    refine z_if_eq (tgt := 96) hx hb dX6_inputs_89 (by decide) ⟨by decide, by decide⟩ (fun c_13 => ?_) (fun c_13 => ?_)
                    · exact absurd c_13 (by decide)
                    · refine lv_iconst (v := iZ 1) hx hb dX6_inputs_92 rfl ?_
                      refine lv_goto (tgt := 97) hx hb dX6_inputs_93 (by decide) ?_
                      refine z_iadd hx hb dX6_inputs_97 ?_
                      refine g_putI (k := 26) hx hb hts hown hK hθ hB cf6 tyX6 tyX6_ok (by decide) rfl (by decide) kw_685 rfl rfl rfl ⟨by omega, by omega⟩ dX6_inputs_98 (fun H locs hB => ?_)
                      obtain ⟨σ8, hσ8⟩ : ∃ x_ : gS, x_ = up2 σ7 111 26 ((((cnB (fun k => (exB σ n (fun t => tkC (afM (σ 114)) w (tn (wtN (σ 114) w) N) N ((k / 10 : Nat) : Int) ((k % 10 : Nat) : Int) t))) k) : Nat) : Int) + 1) := ⟨_, rfl⟩
                      rw [← hσ8] at hB
                      have hR := hB.1.2
                      refine z_iinc (k := 1) (lv' := [(2, .int (iZ (((k : Nat) : Int) + 1))), (3, .int (iZ 1)), (0, .ref (tad θ 111)), (1, .int (iZ y))]) hx hb dX6_inputs_101 hl rfl (by decide) rfl (fun ls hl => ?_)
                      have hl : lv_has ls 4 [(2, .int (iZ (((k + 1) : Nat) : Int))), (3, .int (iZ 1)), (0, .ref (tad θ 111)), (1, .int (iZ y))] := by have e9 : (((k : Nat) : Int) + 1) = (((k + 1) : Nat) : Int) := (by omega); rw [e9] at hl; exact hl
                      refine lv_goto (tgt := 41) hx hb dX6_inputs_104 (by decide) ?_
                      exact ih41 (k + 1) σ8 _ _ _ (by omega) (by omega) (by rw [hσ8, up2_eq, cnB, if_pos hek]; omega) (by rw [hσ8, up2_k _ _ (by decide), hσ7, up2_eq, fsR_step, if_pos ⟨hek, by omega⟩]) (by rw [hσ8, hσ7]; exact ((hf5.tr (hf6.mono (fun i k h => by simp [wTk] at h; simp [wIn]; omega))).tr (fr.up rfl)).tr (fr.up rfl)) hB (lv_sub hl [0, 2, 3] rfl)
              · subst hq6b
                have hek : (exB σ n (fun t => tkC (afM (σ 114)) w (tn (wtN (σ 114) w) N) N ((k / 10 : Nat) : Int) ((k % 10 : Nat) : Int) t)) = false := exB_f (fun q => hex (hexi.mpr q))
                refine lv_istore_n (lv' := [(3, .int (iZ 0)), (2, .int (iZ ((k : Nat) : Int))), (0, .ref (tad θ 111)), (1, .int (iZ y))]) hx hb dX6_inputs_59 rfl hl (by decide) rfl (fun ls hl => ?_)
                refine lv_aload_n hx hb dX6_inputs_60 rfl (lv_at hl 2 rfl) ?_
                refine lv_iload_n hx hb dX6_inputs_61 rfl (lv_at hl 0 rfl) ?_
                refine z_if_eq (tgt := 76) hx hb dX6_inputs_62 (by decide) ⟨by decide, by decide⟩ (fun c_14 => ?_) (fun c_14 => ?_)
                · refine lv_aload_n hx hb dX6_inputs_76 rfl (lv_at hl 2 rfl) ?_
                  refine g_geti (k := 27) hx hb hts hown hK hB cf6 (by decide) rfl (by decide) kw_686 rfl dX6_inputs_77 ?_
                  refine z_top (b := (nO (fsR (fun k => (exB σ n (fun t => tkC (afM (σ 114)) w (tn (wtN (σ 114) w) N) N ((k / 10 : Nat) : Int) ((k % 10 : Nat) : Int) t))) k))) (by rw [hf6 111 27 rfl]; exact h27) ?_
                  have hr27 := hR 111 27
                  rw [hf6 111 27 rfl, h27] at hr27
                  refine g_putI (k := 27) hx hb hts hown hK hθ hB cf6 tyX6 tyX6_ok (by decide) rfl (by decide) kw_686 rfl rfl rfl ⟨by omega, by omega⟩ dX6_inputs_80 (fun H locs hB => ?_)
                  obtain ⟨σ7, hσ7⟩ : ∃ x_ : gS, x_ = up2 σ6 111 27 (nO (fsR (fun k => (exB σ n (fun t => tkC (afM (σ 114)) w (tn (wtN (σ 114) w) N) N ((k / 10 : Nat) : Int) ((k % 10 : Nat) : Int) t))) k)) := ⟨_, rfl⟩
                  rw [← hσ7] at hB
                  have hR := hB.1.2
                  refine lv_aload_n hx hb dX6_inputs_83 rfl (lv_at hl 2 rfl) ?_
                  refine lv_dup hx hb dX6_inputs_84 rfl ?_
                  refine g_geti (k := 26) hx hb hts hown hK hB cf6 (by decide) rfl (by decide) kw_685 rfl dX6_inputs_85 ?_
                  refine z_top (b := (((cnB (fun k => (exB σ n (fun t => tkC (afM (σ 114)) w (tn (wtN (σ 114) w) N) N ((k / 10 : Nat) : Int) ((k % 10 : Nat) : Int) t))) k) : Nat) : Int)) (by rw [hσ7, up2_k _ _ (by decide), hf6 111 26 rfl]; exact h26) ?_
                  refine lv_iload_n hx hb dX6_inputs_88 rfl (lv_at hl 0 rfl) ?_
                  refine z_if_eq (tgt := 96) hx hb dX6_inputs_89 (by decide) ⟨by decide, by decide⟩ (fun c_15 => ?_) (fun c_15 => ?_)
                  · refine lv_iconst (v := iZ 0) hx hb dX6_inputs_96 rfl ?_
                    refine z_iadd hx hb dX6_inputs_97 ?_
                    refine g_putI (k := 26) hx hb hts hown hK hθ hB cf6 tyX6 tyX6_ok (by decide) rfl (by decide) kw_685 rfl rfl rfl ⟨by omega, by omega⟩ dX6_inputs_98 (fun H locs hB => ?_)
                    obtain ⟨σ8, hσ8⟩ : ∃ x_ : gS, x_ = up2 σ7 111 26 ((((cnB (fun k => (exB σ n (fun t => tkC (afM (σ 114)) w (tn (wtN (σ 114) w) N) N ((k / 10 : Nat) : Int) ((k % 10 : Nat) : Int) t))) k) : Nat) : Int) + 0) := ⟨_, rfl⟩
                    rw [← hσ8] at hB
                    have hR := hB.1.2
                    refine z_iinc (k := 1) (lv' := [(2, .int (iZ (((k : Nat) : Int) + 1))), (3, .int (iZ 0)), (0, .ref (tad θ 111)), (1, .int (iZ y))]) hx hb dX6_inputs_101 hl rfl (by decide) rfl (fun ls hl => ?_)
                    have hl : lv_has ls 4 [(2, .int (iZ (((k + 1) : Nat) : Int))), (3, .int (iZ 0)), (0, .ref (tad θ 111)), (1, .int (iZ y))] := by have e9 : (((k : Nat) : Int) + 1) = (((k + 1) : Nat) : Int) := (by omega); rw [e9] at hl; exact hl
                    refine lv_goto (tgt := 41) hx hb dX6_inputs_104 (by decide) ?_
                    exact ih41 (k + 1) σ8 _ _ _ (by omega) (by omega) (by rw [hσ8, up2_eq, cnB, if_neg (by rw [hek]; exact Bool.false_ne_true)]; omega) (by rw [hσ8, up2_k _ _ (by decide), hσ7, up2_eq, fsR_step, if_neg (fun q => by have h9 := q.1; rw [hek] at h9; exact Bool.false_ne_true h9)]) (by rw [hσ8, hσ7]; exact ((hf5.tr (hf6.mono (fun i k h => by simp [wTk] at h; simp [wIn]; omega))).tr (fr.up rfl)).tr (fr.up rfl)) hB (lv_sub hl [0, 2, 3] rfl)
                  · exact absurd (by decide) c_15
                · exact absurd (by decide) c_14
        exact loop41 _ 0 σ4 _ _ _ (Nat.lt_succ_self _) (by omega) (by rw [hσ4, up2_k _ _ (by decide), hσ3, up2_eq]; rfl) (by rw [hσ4, up2_eq]; rfl) (by rw [hσ4, hσ3]; exact (fr.up rfl : fr wIn σ2 _).tr (fr.up rfl)) hB (lv_sub hl [0, 1, 2] rfl)
      · exact absurd c_6 (by decide)
    · subst hqa
      have hnd : ¬ sndG (σ 114) N := fun q => hsn (hiff.mpr q)
      refine z_if_ne (tgt := 28) hx hb dX6_inputs_22 (by decide) ⟨by decide, by decide⟩ (fun c_16 => ?_) (fun c_16 => ?_)
      · exact absurd (by decide) c_16
      · refine lv_bipush (v := iZ (-3)) hx hb dX6_inputs_25 (by decide) ?_
        exact g_iret hx hb hr hlk hB dX6_inputs_27 ⟨by decide, by decide⟩ (⟨Or.inr (Or.inl ⟨by omega, hnd, rfl⟩), hfs, rfl⟩)
  · refine lv_bipush (v := iZ (-2)) hx hb dX6_inputs_15 (by decide) ?_
    exact g_iret hx hb hr hlk hB dX6_inputs_17 ⟨by decide, by decide⟩ (⟨Or.inl ⟨by omega, rfl⟩, (by rw [hσ1]; exact fr.up rfl : fr wSc σ σ1), rfl⟩)
set_option maxHeartbeats 4000000 in
set_option maxRecDepth 100000 in
theorem mX6_keep (l : Launch) (θ : gT) (hθ : gOK θ) (σ : gS) (z : gZ) (x : Int) (hxr : rg x) : GI l θ yX6_keep cX6_keep 3 (some .int) 1 25 [.ref (tad θ 111), .int (iZ x)] σ z (fun q σ' z' => ((¬ (0 ≤ x ∧ x ≤ 1) ∧ q = -1 ∧ fr wSc σ σ') ∨ ∃ s0 : Nat, x = (s0 : Int) ∧ s0 < 2 ∧ q = σ 114 49 ∧ σ' 118 = upn (σ 118) s0 1 ∧ (∀ k, k < 50 → σ' 117 (50 * s0 + k) = σ 114 k) ∧ ∀ y, (y < 50 * s0 ∨ 50 * s0 + 50 ≤ y) → σ' 117 y = σ 117 y) ∧ fr wSl σ σ' ∧ z' = z) := by
  refine g_enter (ret := (some .int)) (by decide +kernel) (Nat.le_of_ble_eq_true rfl) ?_
  intro p e s m args below meth c ls F hB hl
  obtain ⟨hx, hb, hr, hml, hown, hts, hlk, hK, hst⟩ := F
  have hR := hB.1.2
  have hl : lv_has ls 3 [(0, .ref (tad θ 111)), (1, .int (iZ x))] := hl
  refine lv_aload_n hx hb dX6_keep_0 rfl (lv_at hl 0 rfl) ?_
  refine lv_iconst (v := iZ 0) hx hb dX6_keep_1 rfl ?_
  refine g_putI (k := 0) hx hb hts hown hK hθ hB cf6 tyX6 tyX6_ok (by decide) rfl (by decide) kw_659 rfl rfl rfl ⟨by decide, by decide⟩ dX6_keep_2 (fun H locs hB => ?_)
  obtain ⟨σ1, hσ1⟩ : ∃ x_ : gS, x_ = up2 σ 111 0 0 := ⟨_, rfl⟩
  rw [← hσ1] at hB
  have hR := hB.1.2
  refine lv_iload_n hx hb dX6_keep_5 rfl (lv_at hl 1 rfl) ?_
  refine z_i2l hx hb ⟨by omega, by omega⟩ dX6_keep_6 ?_
  refine lv_lconst (v := lZ 0) hx hb dX6_keep_7 (by decide) ?_
  refine lv_lconst (v := lZ 1) hx hb dX6_keep_8 (by decide) ?_
  refine g_calli (g_runS (As := [.long (lZ x), .long (lZ 0), .long (lZ 1)]) (rest := []) hx hb hml hown hts hK hst hB (mX6_in l θ hθ σ1 z x 0 1 ⟨by omega, by omega⟩ ⟨by omega, by omega⟩ ⟨by omega, by omega⟩) ms_X6_in kw_749 rfl hl.1 rfl (Nat.le_of_ble_eq_true rfl) ⟨by decide, by decide⟩ ⟨Nat.le_refl _, Nat.le_refl _⟩ dX6_keep_9) hB (fun q_3 σ_1 z_2 H locs hq_3 pq_3 hB => ?_)
  obtain ⟨pq_3, e1_, e2_⟩ := pq_3
  rw [e1_, e2_] at hB
  clear e1_ e2_
  refine z_if_ne (tgt := 17) hx hb dX6_keep_12 (by decide) ⟨by omega, by omega⟩ (fun c_4 => ?_) (fun c_4 => ?_)
  · obtain ⟨s0, hs0⟩ : ∃ s0 : Nat, x = (s0 : Int) := ⟨x.toNat, by omega⟩
    have hs2 : s0 < 2 := by omega
    have hl : lv_has ls 3 [(0, .ref (tad θ 111)), (1, .int (iZ ((s0 : Nat) : Int)))] := by rw [hs0] at hl; exact hl
    refine lv_aload_n hx hb dX6_keep_17 rfl (lv_at hl 0 rfl) ?_
    refine g_getr (k := 10) (j := 118) hx hb hts hown hK hθ hB cf6 (by decide) rfl (by decide) kw_669 rfl rfl dX6_keep_18 ?_
    refine lv_iload_n hx hb dX6_keep_21 rfl (lv_at hl 1 rfl) ?_
    refine lv_iconst (v := iZ 1) hx hb dX6_keep_22 rfl ?_
    refine g_zast (k := s0) hx hb hK hθ hB (by decide) rfl (by omega) (Nat.lt_of_lt_of_eq (by omega : s0 < 2) (Eq.symm rfl)) (by decide) (by omega) dX6_keep_23 (fun H locs hB => ?_)
    obtain ⟨σ2, hσ2⟩ : ∃ x_ : gS, x_ = up2 σ1 118 s0 1 := ⟨_, rfl⟩
    rw [← hσ2] at hB
    have hR := hB.1.2
    refine lv_iconst (v := iZ 0) hx hb dX6_keep_24 rfl ?_
    refine lv_istore_n (lv' := [(2, .int (iZ 0)), (0, .ref (tad θ 111)), (1, .int (iZ ((s0 : Nat) : Int)))]) hx hb dX6_keep_25 rfl hl (by decide) rfl (fun ls hl => ?_)
    have loop26 : ∀ (n26 : Nat) (i : Nat) (σ3 : gS) (H : Heap) (locs : List Loc) (ls : Array Slot), 50 - i < n26 → (i ≤ 50) → (∀ k, k < i → σ3 117 (50 * s0 + k) = σ 114 k) → (∀ y, (y < 50 * s0 ∨ 50 * s0 + i ≤ y) → σ3 117 y = σ 117 y) → (fr (fun i _ => i == 117) σ2 σ3) →  gB θ σ3 z s.heap H locs → lv_has ls 3 [(2, .int (iZ ((i : Nat) : Int))), (0, .ref (tad θ 111)), (1, .int (iZ ((s0 : Nat) : Int)))] → W p l e (gRm 1 25) s m args below meth c H locs 0 0 (MQ below (gQi θ (fun q σ' z' => ((¬ (0 ≤ x ∧ x ≤ 1) ∧ q = -1 ∧ fr wSc σ σ') ∨ ∃ s0 : Nat, x = (s0 : Int) ∧ s0 < 2 ∧ q = σ 114 49 ∧ σ' 118 = upn (σ 118) s0 1 ∧ (∀ k, k < 50 → σ' 117 (50 * s0 + k) = σ 114 k) ∧ ∀ y, (y < 50 * s0 ∨ 50 * s0 + 50 ≤ y) → σ' 117 y = σ 117 y) ∧ fr wSl σ σ' ∧ z' = z)) args s 0 0 (tA θ)) (F0 m 26 ls []) := by
      intro n26
      induction n26 with
      | zero => intro i σ3 H locs ls hmu; exact absurd hmu (Nat.not_lt_zero _)
      | succ n26 ih26 =>
        intro i σ3 H locs ls hmu hi h1 h2 hf3 hB hl
        have hR := hB.1.2
        have hg3 : σ3 114 = σ 114 := by rw [hf3.row (fun k => rfl), hσ2, up2_row _ _ (by decide), hσ1, up2_row _ _ (by decide)]
        refine lv_iload_n hx hb dX6_keep_26 rfl (lv_at hl 0 rfl) ?_
        refine lv_bipush (v := iZ 50) hx hb dX6_keep_27 (by decide) ?_
        refine z_icmp_ge (tgt := 55) hx hb dX6_keep_29 (by decide) ⟨by omega, by omega⟩ ⟨by decide, by decide⟩ (fun c_5 => ?_) (fun c_5 => ?_)
        · refine lv_aload_n hx hb dX6_keep_55 rfl (lv_at hl 1 rfl) ?_
          refine g_getr (k := 5) (j := 114) hx hb hts hown hK hθ hB cf6 (by decide) rfl (by decide) kw_664 rfl rfl dX6_keep_56 ?_
          refine lv_bipush (v := iZ 49) hx hb dX6_keep_59 (by decide) ?_
          refine g_iald (k := 49) hx hb hK hB (by decide) rfl (by omega) (Nat.lt_of_lt_of_eq (by omega : 49 < 50) (Eq.symm rfl)) (by decide) dX6_keep_61 ?_
          refine z_top (b := (σ 114 49)) (by rw [hg3]) ?_
          have hr4 := hR 114 49
          rw [hg3] at hr4
          exact g_iret hx hb hr hlk hB dX6_keep_62 ⟨by omega, by omega⟩ (⟨Or.inr ⟨s0, hs0, hs2, rfl, by rw [hf3.row (fun k => rfl), hσ2, up2_row_eq, hσ1, up2_row _ _ (by decide)], fun k hk => h1 k (by omega), fun y h => h2 y (by omega)⟩, by rw [hσ2] at hf3; exact ((((by rw [hσ1]; exact fr.up rfl : fr wSc σ σ1)).mono sl_sc).tr (fr.up rfl)).tr (hf3.mono (fun i k h => by simp at h; simp [wSl]; omega)), rfl⟩)
        · refine lv_aload_n hx hb dX6_keep_32 rfl (lv_at hl 1 rfl) ?_
          refine g_getr (k := 9) (j := 117) hx hb hts hown hK hθ hB cf6 (by decide) rfl (by decide) kw_668 rfl rfl dX6_keep_33 ?_
          refine lv_bipush (v := iZ 50) hx hb dX6_keep_36 (by decide) ?_
          refine lv_iload_n hx hb dX6_keep_38 rfl (lv_at hl 2 rfl) ?_
          refine z_imul hx hb dX6_keep_39 ?_
          refine lv_iload_n hx hb dX6_keep_40 rfl (lv_at hl 0 rfl) ?_
          refine z_iadd hx hb dX6_keep_41 ?_
          refine lv_aload_n hx hb dX6_keep_42 rfl (lv_at hl 1 rfl) ?_
          refine g_getr (k := 5) (j := 114) hx hb hts hown hK hθ hB cf6 (by decide) rfl (by decide) kw_664 rfl rfl dX6_keep_43 ?_
          refine lv_iload_n hx hb dX6_keep_46 rfl (lv_at hl 0 rfl) ?_
          refine g_iald (k := i) hx hb hK hB (by decide) rfl (by omega) (Nat.lt_of_lt_of_eq (by omega : i < 50) (Eq.symm rfl)) (by decide) dX6_keep_47 ?_
          refine z_top (b := (σ 114 i)) (by rw [hg3]) ?_
          have hr4 := hR 114 i
          rw [hg3] at hr4
          refine g_iast (k := ((50 * s0) + i)) hx hb hK hθ hB (by decide) rfl (by omega) (Nat.lt_of_lt_of_eq (by omega : ((50 * s0) + i) < 100) (Eq.symm rfl)) (by decide) ⟨by omega, by omega⟩ dX6_keep_48 (fun H locs hB => ?_)
          obtain ⟨σ4, hσ4⟩ : ∃ x_ : gS, x_ = up2 σ3 117 ((50 * s0) + i) (σ 114 i) := ⟨_, rfl⟩
          rw [← hσ4] at hB
          have hR := hB.1.2
          refine z_iinc (k := 0) (lv' := [(2, .int (iZ (((i : Nat) : Int) + 1))), (0, .ref (tad θ 111)), (1, .int (iZ ((s0 : Nat) : Int)))]) hx hb dX6_keep_49 hl rfl (by decide) rfl (fun ls hl => ?_)
          have hl : lv_has ls 3 [(2, .int (iZ (((i + 1) : Nat) : Int))), (0, .ref (tad θ 111)), (1, .int (iZ ((s0 : Nat) : Int)))] := by have e9 : (((i : Nat) : Int) + 1) = (((i + 1) : Nat) : Int) := (by omega); rw [e9] at hl; exact hl
          refine lv_goto (tgt := 26) hx hb dX6_keep_52 (by decide) ?_
          exact ih26 (i + 1) σ4 _ _ _ (by omega) (by omega) (lt_s (fun k h => by rw [hσ4, up2_k _ _ (by omega)]; exact h1 k h) (by rw [hσ4, up2_eq])) (fun y h => by rw [hσ4, up2_k _ _ (by omega)]; exact h2 y (by omega)) (by rw [hσ4]; exact hf3.tr (fr.up rfl)) hB (lv_sub hl [0, 1, 2] rfl)
    exact loop26 _ 0 σ2 _ _ _ (Nat.lt_succ_self _) (by omega) (fun k h => absurd h (Nat.not_lt_zero _)) (fun y h => by rw [hσ2, up2_c _ _ (by decide), hσ1, up2_c _ _ (by decide)]) fr.rf hB (lv_sub hl [0, 1, 2] rfl)
  · refine lv_iconst (v := iZ (-1)) hx hb dX6_keep_15 rfl ?_
    exact g_iret hx hb hr hlk hB dX6_keep_16 ⟨by decide, by decide⟩ (⟨Or.inl ⟨by omega, rfl, (by rw [hσ1]; exact fr.up rfl : fr wSc σ σ1)⟩, ((by rw [hσ1]; exact fr.up rfl : fr wSc σ σ1)).mono sl_sc, rfl⟩)
set_option maxHeartbeats 4000000 in
set_option maxRecDepth 100000 in
theorem mX6_again (l : Launch) (θ : gT) (hθ : gOK θ) (σ : gS) (z : gZ) (x : Int) (hxr : rg x) : GI l θ yX6_again cX6_again 3 (some .int) 1 25 [.ref (tad θ 111), .int (iZ x)] σ z (fun q σ' z' => ((¬ (0 ≤ x ∧ x ≤ 1) ∧ q = -1 ∧ fr wSc σ σ') ∨ ∃ s0 : Nat, x = (s0 : Int) ∧ s0 < 2 ∧ ((σ 118 s0 = 0 ∧ q = -3 ∧ fr wSc σ σ') ∨ (σ 118 s0 ≠ 0 ∧ q = σ 117 (50 * s0 + 49) ∧ σ' 111 8 = 0 ∧ ∀ k, k < 50 → σ' 114 k = σ 117 (50 * s0 + k)))) ∧ fr wPg σ σ' ∧ z' = z) := by
  refine g_enter (ret := (some .int)) (by decide +kernel) (Nat.le_of_ble_eq_true rfl) ?_
  intro p e s m args below meth c ls F hB hl
  obtain ⟨hx, hb, hr, hml, hown, hts, hlk, hK, hst⟩ := F
  have hR := hB.1.2
  have hl : lv_has ls 3 [(0, .ref (tad θ 111)), (1, .int (iZ x))] := hl
  refine lv_aload_n hx hb dX6_again_0 rfl (lv_at hl 0 rfl) ?_
  refine lv_iconst (v := iZ 0) hx hb dX6_again_1 rfl ?_
  refine g_putI (k := 0) hx hb hts hown hK hθ hB cf6 tyX6 tyX6_ok (by decide) rfl (by decide) kw_659 rfl rfl rfl ⟨by decide, by decide⟩ dX6_again_2 (fun H locs hB => ?_)
  obtain ⟨σ1, hσ1⟩ : ∃ x_ : gS, x_ = up2 σ 111 0 0 := ⟨_, rfl⟩
  rw [← hσ1] at hB
  have hR := hB.1.2
  refine lv_iload_n hx hb dX6_again_5 rfl (lv_at hl 1 rfl) ?_
  refine z_i2l hx hb ⟨by omega, by omega⟩ dX6_again_6 ?_
  refine lv_lconst (v := lZ 0) hx hb dX6_again_7 (by decide) ?_
  refine lv_lconst (v := lZ 1) hx hb dX6_again_8 (by decide) ?_
  refine g_calli (g_runS (As := [.long (lZ x), .long (lZ 0), .long (lZ 1)]) (rest := []) hx hb hml hown hts hK hst hB (mX6_in l θ hθ σ1 z x 0 1 ⟨by omega, by omega⟩ ⟨by omega, by omega⟩ ⟨by omega, by omega⟩) ms_X6_in kw_749 rfl hl.1 rfl (Nat.le_of_ble_eq_true rfl) ⟨by decide, by decide⟩ ⟨Nat.le_refl _, Nat.le_refl _⟩ dX6_again_9) hB (fun q_3 σ_1 z_2 H locs hq_3 pq_3 hB => ?_)
  obtain ⟨pq_3, e1_, e2_⟩ := pq_3
  rw [e1_, e2_] at hB
  clear e1_ e2_
  refine z_if_ne (tgt := 17) hx hb dX6_again_12 (by decide) ⟨by omega, by omega⟩ (fun c_4 => ?_) (fun c_4 => ?_)
  · obtain ⟨s0, hs0⟩ : ∃ s0 : Nat, x = (s0 : Int) := ⟨x.toNat, by omega⟩
    have hs2 : s0 < 2 := by omega
    have hl : lv_has ls 3 [(0, .ref (tad θ 111)), (1, .int (iZ ((s0 : Nat) : Int)))] := by rw [hs0] at hl; exact hl
    refine lv_aload_n hx hb dX6_again_17 rfl (lv_at hl 0 rfl) ?_
    refine g_getr (k := 10) (j := 118) hx hb hts hown hK hθ hB cf6 (by decide) rfl (by decide) kw_669 rfl rfl dX6_again_18 ?_
    refine lv_iload_n hx hb dX6_again_21 rfl (lv_at hl 1 rfl) ?_
    refine g_zald (k := s0) hx hb hK hB (by decide) rfl (by omega) (Nat.lt_of_lt_of_eq (by omega : s0 < 2) (Eq.symm rfl)) (by decide) dX6_again_22 ?_
    refine z_top (b := (σ 118 s0)) (by rw [hσ1, up2_c _ _ (by decide)]) ?_
    have hr8 := hR 118 s0
    rw [hσ1, up2_c _ _ (by decide)] at hr8
    refine z_if_ne (tgt := 29) hx hb dX6_again_23 (by decide) ⟨by omega, by omega⟩ (fun c_5 => ?_) (fun c_5 => ?_)
    · have hk0 := c_5
      refine lv_iconst (v := iZ 0) hx hb dX6_again_29 rfl ?_
      refine lv_istore_n (lv' := [(2, .int (iZ 0)), (0, .ref (tad θ 111)), (1, .int (iZ ((s0 : Nat) : Int)))]) hx hb dX6_again_30 rfl hl (by decide) rfl (fun ls hl => ?_)
      have loop31 : ∀ (n31 : Nat) (i : Nat) (σ3 : gS) (H : Heap) (locs : List Loc) (ls : Array Slot), 50 - i < n31 → (i ≤ 50) → (∀ k, k < i → σ3 114 k = σ 117 (50 * s0 + k)) → (fr (fun i _ => i == 114) σ1 σ3) →  gB θ σ3 z s.heap H locs → lv_has ls 3 [(2, .int (iZ ((i : Nat) : Int))), (0, .ref (tad θ 111)), (1, .int (iZ ((s0 : Nat) : Int)))] → W p l e (gRm 1 25) s m args below meth c H locs 0 0 (MQ below (gQi θ (fun q σ' z' => ((¬ (0 ≤ x ∧ x ≤ 1) ∧ q = -1 ∧ fr wSc σ σ') ∨ ∃ s0 : Nat, x = (s0 : Int) ∧ s0 < 2 ∧ ((σ 118 s0 = 0 ∧ q = -3 ∧ fr wSc σ σ') ∨ (σ 118 s0 ≠ 0 ∧ q = σ 117 (50 * s0 + 49) ∧ σ' 111 8 = 0 ∧ ∀ k, k < 50 → σ' 114 k = σ 117 (50 * s0 + k)))) ∧ fr wPg σ σ' ∧ z' = z)) args s 0 0 (tA θ)) (F0 m 31 ls []) := by
        intro n31
        induction n31 with
        | zero => intro i σ3 H locs ls hmu; exact absurd hmu (Nat.not_lt_zero _)
        | succ n31 ih31 =>
          intro i σ3 H locs ls hmu hi h1 hf3 hB hl
          have hR := hB.1.2
          have hg3 : σ3 117 = σ 117 := by rw [hf3.row (fun k => rfl), hσ1, up2_row _ _ (by decide)]
          refine lv_iload_n hx hb dX6_again_31 rfl (lv_at hl 0 rfl) ?_
          refine lv_bipush (v := iZ 50) hx hb dX6_again_32 (by decide) ?_
          refine z_icmp_ge (tgt := 60) hx hb dX6_again_34 (by decide) ⟨by omega, by omega⟩ ⟨by decide, by decide⟩ (fun c_6 => ?_) (fun c_6 => ?_)
          · refine lv_aload_n hx hb dX6_again_60 rfl (lv_at hl 1 rfl) ?_
            refine lv_iconst (v := iZ 0) hx hb dX6_again_61 rfl ?_
            refine g_putI (k := 8) hx hb hts hown hK hθ hB cf6 tyX6 tyX6_ok (by decide) rfl (by decide) kw_667 rfl rfl rfl ⟨by decide, by decide⟩ dX6_again_62 (fun H locs hB => ?_)
            obtain ⟨σ5, hσ5⟩ : ∃ x_ : gS, x_ = up2 σ3 111 8 0 := ⟨_, rfl⟩
            rw [← hσ5] at hB
            have hR := hB.1.2
            refine lv_aload_n hx hb dX6_again_65 rfl (lv_at hl 1 rfl) ?_
            refine g_getr (k := 5) (j := 114) hx hb hts hown hK hθ hB cf6 (by decide) rfl (by decide) kw_664 rfl rfl dX6_again_66 ?_
            refine lv_bipush (v := iZ 49) hx hb dX6_again_69 (by decide) ?_
            refine g_iald (k := 49) hx hb hK hB (by decide) rfl (by omega) (Nat.lt_of_lt_of_eq (by omega : 49 < 50) (Eq.symm rfl)) (by decide) dX6_again_71 ?_
            refine z_top (b := (σ 117 (50 * s0 + 49))) (by rw [hσ5, up2_c _ _ (by decide)]; exact h1 49 (by omega)) ?_
            have hr4 := hB.1.2 114 49
            rw [hσ5, up2_c _ _ (by decide), h1 49 (by omega)] at hr4
            exact g_iret hx hb hr hlk hB dX6_again_72 ⟨by omega, by omega⟩ (⟨Or.inr ⟨s0, hs0, hs2, Or.inr ⟨hk0, rfl, by rw [hσ5, up2_eq], fun k hk => by rw [hσ5, up2_c _ _ (by decide)]; exact h1 k (by omega)⟩⟩, by rw [hσ5]; exact ((((by rw [hσ1]; exact fr.up rfl : fr wSc σ σ1)).mono pg_sc).tr (hf3.mono (fun i k h => by simp at h; simp [wPg]; omega))).tr (fr.up rfl), rfl⟩)
          · refine lv_aload_n hx hb dX6_again_37 rfl (lv_at hl 1 rfl) ?_
            refine g_getr (k := 5) (j := 114) hx hb hts hown hK hθ hB cf6 (by decide) rfl (by decide) kw_664 rfl rfl dX6_again_38 ?_
            refine lv_iload_n hx hb dX6_again_41 rfl (lv_at hl 0 rfl) ?_
            refine lv_aload_n hx hb dX6_again_42 rfl (lv_at hl 1 rfl) ?_
            refine g_getr (k := 9) (j := 117) hx hb hts hown hK hθ hB cf6 (by decide) rfl (by decide) kw_668 rfl rfl dX6_again_43 ?_
            refine lv_bipush (v := iZ 50) hx hb dX6_again_46 (by decide) ?_
            refine lv_iload_n hx hb dX6_again_48 rfl (lv_at hl 2 rfl) ?_
            refine z_imul hx hb dX6_again_49 ?_
            refine lv_iload_n hx hb dX6_again_50 rfl (lv_at hl 0 rfl) ?_
            refine z_iadd hx hb dX6_again_51 ?_
            refine g_iald (k := ((50 * s0) + i)) hx hb hK hB (by decide) rfl (by omega) (Nat.lt_of_lt_of_eq (by omega : ((50 * s0) + i) < 100) (Eq.symm rfl)) (by decide) dX6_again_52 ?_
            refine z_top (b := (σ 117 (50 * s0 + i))) (by rw [hg3]) ?_
            have hr4 := hR 117 (50 * s0 + i)
            rw [hg3] at hr4
            refine g_iast (k := i) hx hb hK hθ hB (by decide) rfl (by omega) (Nat.lt_of_lt_of_eq (by omega : i < 50) (Eq.symm rfl)) (by decide) ⟨by omega, by omega⟩ dX6_again_53 (fun H locs hB => ?_)
            obtain ⟨σ4, hσ4⟩ : ∃ x_ : gS, x_ = up2 σ3 114 i (σ 117 (50 * s0 + i)) := ⟨_, rfl⟩
            rw [← hσ4] at hB
            have hR := hB.1.2
            refine z_iinc (k := 0) (lv' := [(2, .int (iZ (((i : Nat) : Int) + 1))), (0, .ref (tad θ 111)), (1, .int (iZ ((s0 : Nat) : Int)))]) hx hb dX6_again_54 hl rfl (by decide) rfl (fun ls hl => ?_)
            have hl : lv_has ls 3 [(2, .int (iZ (((i + 1) : Nat) : Int))), (0, .ref (tad θ 111)), (1, .int (iZ ((s0 : Nat) : Int)))] := by have e9 : (((i : Nat) : Int) + 1) = (((i + 1) : Nat) : Int) := (by omega); rw [e9] at hl; exact hl
            refine lv_goto (tgt := 31) hx hb dX6_again_57 (by decide) ?_
            exact ih31 (i + 1) σ4 _ _ _ (by omega) (by omega) (lt_s (fun k h => by rw [hσ4, up2_k _ _ (by omega)]; exact h1 k h) (by rw [hσ4, up2_eq])) (by rw [hσ4]; exact hf3.tr (fr.up rfl)) hB (lv_sub hl [0, 1, 2] rfl)
      exact loop31 _ 0 σ1 _ _ _ (Nat.lt_succ_self _) (by omega) (fun k h => absurd h (Nat.not_lt_zero _)) fr.rf hB (lv_sub hl [0, 1, 2] rfl)
    · refine lv_bipush (v := iZ (-3)) hx hb dX6_again_26 (by decide) ?_
      exact g_iret hx hb hr hlk hB dX6_again_28 ⟨by decide, by decide⟩ (⟨Or.inr ⟨s0, hs0, hs2, Or.inl ⟨by omega, rfl, (by rw [hσ1]; exact fr.up rfl : fr wSc σ σ1)⟩⟩, ((by rw [hσ1]; exact fr.up rfl : fr wSc σ σ1)).mono pg_sc, rfl⟩)
  · refine lv_iconst (v := iZ (-1)) hx hb dX6_again_15 rfl ?_
    exact g_iret hx hb hr hlk hB dX6_again_16 ⟨by decide, by decide⟩ (⟨Or.inl ⟨by omega, rfl, (by rw [hσ1]; exact fr.up rfl : fr wSc σ σ1)⟩, ((by rw [hσ1]; exact fr.up rfl : fr wSc σ σ1)).mono pg_sc, rfl⟩)
set_option maxHeartbeats 4000000 in
set_option maxRecDepth 100000 in
theorem mX6_seed (l : Launch) (θ : gT) (hθ : gOK θ) (σ : gS) (z : gZ) (x : Int64) : GL l θ yX6_seed cX6_seed 5 0 0 [.ref (tad θ 111), .long x] σ z (fun q σ' z' => (q = z 111 ∧ z' = upr z 111 x) ∧ fr wSc σ σ') := by
  refine g_enter (ret := (some .long)) (by decide +kernel) (Nat.le_of_ble_eq_true rfl) ?_
  intro p e s m args below meth c ls F hB hl
  obtain ⟨hx, hb, hr, hml, hown, hts, hlk, hK, hst⟩ := F
  have hR := hB.1.2
  have hl : lv_has ls 5 [(0, .ref (tad θ 111)), (1, .long x)] := hl
  refine lv_aload_n hx hb dX6_seed_0 rfl (lv_at hl 0 rfl) ?_
  refine lv_iconst (v := iZ 0) hx hb dX6_seed_1 rfl ?_
  refine g_putI (k := 0) hx hb hts hown hK hθ hB cf6 tyX6 tyX6_ok (by decide) rfl (by decide) kw_659 rfl rfl rfl ⟨by decide, by decide⟩ dX6_seed_2 (fun H locs hB => ?_)
  obtain ⟨σ1, hσ1⟩ : ∃ x_ : gS, x_ = up2 σ 111 0 0 := ⟨_, rfl⟩
  rw [← hσ1] at hB
  have hR := hB.1.2
  refine lv_aload_n hx hb dX6_seed_5 rfl (lv_at hl 0 rfl) ?_
  refine g_getl (k := 16) hx hb hts hown hK hB cf6 (by decide) rfl (by decide) kw_675 rfl dX6_seed_6 ?_
  refine lv_lstore_n (lv' := [(3, .long (z 111)), (0, .ref (tad θ 111)), (1, .long x)]) hx hb dX6_seed_9 rfl hl (by decide) rfl (fun ls hl => ?_)
  refine lv_aload_n hx hb dX6_seed_10 rfl (lv_at hl 1 rfl) ?_
  refine lv_lload_n hx hb dX6_seed_11 rfl (lv_at hl 2 rfl) ?_
  refine g_putL (k := 16) hx hb hts hown hK hθ hB cf6 tyX6 tyX6_ok (by decide) rfl (by decide) kw_675 rfl (by decide) rfl rfl dX6_seed_12 (fun H locs hB => ?_)
  refine lv_lload_n hx hb dX6_seed_15 rfl (lv_at hl 0 rfl) ?_
  exact g_lret hx hb hr hlk hB dX6_seed_16 (⟨⟨rfl, rfl⟩, (by rw [hσ1]; exact fr.up rfl : fr wSc σ σ1)⟩)
