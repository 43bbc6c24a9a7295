set_option maxHeartbeats 4000000 in
set_option maxRecDepth 100000 in
theorem mX1_work (l : Launch) (θ : gT) (hθ : gOK θ) (σ : gS) (z : gZ) (f : Nat) (hF : isF f) (N : Nat) (T : Nat → Nat) (hN : fp σ f 0 = (N : Int)) (hN8 : N ≤ 8) (hT : ∀ j, j < N → σ 19 j = ((T j : Nat) : Int) ∧ (T j < 8 ∧ T j < N)) (hb9 : bC (fp σ f)) (a0 b0 : Int) (ha : 0 ≤ a0 ∧ a0 ≤ 99) (hb0 : 0 ≤ b0 ∧ b0 ≤ 99) : GV l θ yX1_work cX1_work 6 3 69 [.ref (tad θ f), .ref (tad θ 13), .int (iZ a0), .int (iZ b0)] σ z (fun σ' z' => (fp σ' f = wkC (fp σ f) T (σ 16) N a0 b0) ∧ fr (wF f) σ σ' ∧ z' = z) := by
  refine g_enter (ret := none) (by decide +kernel) (Nat.le_of_ble_eq_true rfl) ?_
  intro p e s m args below meth c ls F hB hl
  obtain ⟨hx, hb, hr, hml, hown, hts, hlk, hK, hst⟩ := F
  have hR := hB.1.2
  have hl : lv_has ls 6 [(0, .ref (tad θ f)), (1, .ref (tad θ 13)), (2, .int (iZ a0)), (3, .int (iZ b0))] := hl
  refine lv_aload_n hx hb dX1_work_0 rfl (lv_at hl 0 rfl) ?_
  refine g_getr (k := 5) (j := (f + 4)) hx hb hts hown hK hθ hB cf1 hF.lt0 hF.ck0 (by decide) kw_59 rfl hF.tg5 dX1_work_1 ?_
  refine lv_bipush (v := iZ (-9)) hx hb dX1_work_4 (by decide) ?_
  refine g_callv (g_runS (As := [.ref (tad θ (f + 4)), .int (iZ (-9))]) (rest := []) hx hb hml hown hts hK hst hB (mJ7_fill_53178 l θ hθ σ z (f + 4) 8 hF.lt4 hF.ck4 hF.cn4 (-9) ⟨by decide, by decide⟩) ms_J7_fill_53178 kw_46 rfl hl.1 rfl (Nat.le_of_ble_eq_true rfl) ⟨by decide, by decide⟩ ⟨Nat.le_refl _, Nat.le_refl _⟩ dX1_work_6) hB (fun σ1 z_1 H locs hp1 hB => ?_)
  obtain ⟨hp1, hf1, e2_⟩ := hp1
  rw [e2_] at hB
  clear e2_
  have hR := hB.1.2
  refine lv_iconst (v := iZ 0) hx hb dX1_work_9 rfl ?_
  refine lv_istore (lv' := [(4, .int (iZ 0)), (0, .ref (tad θ f)), (1, .ref (tad θ 13)), (2, .int (iZ a0)), (3, .int (iZ b0))]) hx hb dX1_work_10 hl (by decide) rfl (fun ls hl => ?_)
  have loop12 : ∀ (n12 : Nat) (j : Nat) (σ2 : gS) (H : Heap) (locs : List Loc) (ls : Array Slot), N - j < n12 → (j ≤ N) → (fp σ2 f = (wkV (fp σ f) T (σ 16) a0 b0 j)) → (fr (wF f) σ σ2) →  gB θ σ2 z s.heap H locs → lv_has ls 6 [(4, .int (iZ ((j : Nat) : Int))), (0, .ref (tad θ f)), (1, .ref (tad θ 13)), (2, .int (iZ a0)), (3, .int (iZ b0))] → W p l e (gRm 3 69) s m args below meth c H locs 0 0 (MQ below (gQv θ (fun σ' z' => (fp σ' f = wkC (fp σ f) T (σ 16) N a0 b0) ∧ fr (wF f) σ σ' ∧ z' = z)) args s 0 0 (tA θ)) (F0 m 12 ls []) := by
    intro n12
    induction n12 with
    | zero => intro j σ2 H locs ls hmu; exact absurd hmu (Nat.not_lt_zero _)
    | succ n12 ih12 =>
      intro j σ2 H locs ls hmu hj hg hf hB hl
      have hR := hB.1.2
      have h0 : σ2 f 0 = (N : Int) := by rw [← fp_0 σ2 f, hg, wkV_low _ _ _ _ _ (by omega) j (fun i hi => (hT i (by omega)).2.1)]; exact hN
      have hbj : bC (fp σ2 f) := by rw [hg]; exact wkV_b hb9 hN ha hb0 (fun i hi => (hT i (by omega)).2)
      refine lv_iload hx hb dX1_work_12 (lv_at hl 0 rfl) ?_
      refine lv_bipush (v := iZ 8) hx hb dX1_work_14 (by decide) ?_
      refine z_icmp_ge (tgt := 84) hx hb dX1_work_16 (by decide) ⟨by omega, by omega⟩ ⟨by decide, by decide⟩ (fun c_3 => ?_) (fun c_3 => ?_)
      · refine lv_iconst (v := iZ 0) hx hb dX1_work_84 rfl ?_
        refine lv_istore (lv' := [(4, .int (iZ 0)), (0, .ref (tad θ f)), (1, .ref (tad θ 13)), (2, .int (iZ a0)), (3, .int (iZ b0))]) hx hb dX1_work_85 hl (by decide) rfl (fun ls hl => ?_)
        have loop87 : ∀ (n87 : Nat) (s1 : Nat) (σ4 : gS) (H : Heap) (locs : List Loc) (ls : Array Slot), N - s1 < n87 → (s1 ≤ N) → (fp σ4 f = kpC (wkV (fp σ f) T (σ 16) a0 b0 N) s1) → (fr (wF f) σ σ4) →  gB θ σ4 z s.heap H locs → lv_has ls 6 [(4, .int (iZ ((s1 : Nat) : Int))), (0, .ref (tad θ f)), (1, .ref (tad θ 13)), (2, .int (iZ a0)), (3, .int (iZ b0))] → W p l e (gRm 3 69) s m args below meth c H locs 0 0 (MQ below (gQv θ (fun σ' z' => (fp σ' f = wkC (fp σ f) T (σ 16) N a0 b0) ∧ fr (wF f) σ σ' ∧ z' = z)) args s 0 0 (tA θ)) (F0 m 87 ls []) := by
          intro n87
          induction n87 with
          | zero => intro s1 σ4 H locs ls hmu; exact absurd hmu (Nat.not_lt_zero _)
          | succ n87 ih87 =>
            intro s1 σ4 H locs ls hmu hs1 hg4 hf4 hB hl
            have hR := hB.1.2
            have h04 : σ4 f 0 = (N : Int) := by rw [← fp_0 σ4 f, hg4, kpC_out _ s1 (by omega), wkV_low _ _ _ _ _ (by omega) N (fun i hi => (hT i (by omega)).2.1)]; exact hN
            refine lv_iload hx hb dX1_work_87 (lv_at hl 0 rfl) ?_
            refine lv_bipush (v := iZ 8) hx hb dX1_work_89 (by decide) ?_
            refine z_icmp_ge (tgt := 134) hx hb dX1_work_91 (by decide) ⟨by omega, by omega⟩ ⟨by decide, by decide⟩ (fun c_4 => ?_) (fun c_4 => ?_)
            · refine lv_aload_n hx hb dX1_work_134 rfl (lv_at hl 1 rfl) ?_
              refine lv_dup hx hb dX1_work_135 rfl ?_
              refine g_geti (k := 1) hx hb hts hown hK hB cf1 hF.lt0 hF.ck0 (by decide) kw_53 rfl dX1_work_136 ?_
              refine z_top (b := (kpC (wkV (fp σ f) T (σ 16) a0 b0 N) N 49)) (by rw [← fp_t σ4 f, hg4, show s1 = N by omega]) ?_
              refine lv_iconst (v := iZ 1) hx hb dX1_work_139 rfl ?_
              refine z_iadd hx hb dX1_work_140 ?_
              refine z_wr ?_
              have hw_5 := rg_wr ((kpC (wkV (fp σ f) T (σ 16) a0 b0 N) N 49) + 1)
              refine g_putI (k := 1) hx hb hts hown hK hθ hB cf1 tyX1 tyX1_ok hF.lt0 hF.ck0 (by decide) kw_53 rfl rfl rfl ⟨by omega, by omega⟩ dX1_work_141 (fun H locs hB => ?_)
              obtain ⟨σ6, hσ6⟩ : ∃ x_ : gS, x_ = up2 σ4 f 1 (wr ((kpC (wkV (fp σ f) T (σ 16) a0 b0 N) N 49) + 1)) := ⟨_, rfl⟩
              rw [← hσ6] at hB
              have hR := hB.1.2
              exact g_vret hx hb hr hlk hB dX1_work_144 (⟨by rw [hσ6, fp_upt, hg4, show s1 = N by omega]; rfl, by rw [hσ6]; exact hf4.tr (fr.up (by simp [wF])), rfl⟩)
            · refine lv_iload hx hb dX1_work_94 (lv_at hl 0 rfl) ?_
              refine lv_aload_n hx hb dX1_work_96 rfl (lv_at hl 1 rfl) ?_
              refine g_geti (k := 0) hx hb hts hown hK hB cf1 hF.lt0 hF.ck0 (by decide) kw_49 rfl dX1_work_97 ?_
              refine z_top (b := ((N : Nat) : Int)) (h04) ?_
              refine z_icmp_ge (tgt := 134) hx hb dX1_work_100 (by decide) ⟨by omega, by omega⟩ ⟨by omega, by omega⟩ (fun c_6 => ?_) (fun c_6 => ?_)
              · refine lv_aload_n hx hb dX1_work_134 rfl (lv_at hl 1 rfl) ?_
                refine lv_dup hx hb dX1_work_135 rfl ?_
                refine g_geti (k := 1) hx hb hts hown hK hB cf1 hF.lt0 hF.ck0 (by decide) kw_53 rfl dX1_work_136 ?_
                refine z_top (b := (kpC (wkV (fp σ f) T (σ 16) a0 b0 N) N 49)) (by rw [← fp_t σ4 f, hg4, show s1 = N by omega]) ?_
                refine lv_iconst (v := iZ 1) hx hb dX1_work_139 rfl ?_
                refine z_iadd hx hb dX1_work_140 ?_
                refine z_wr ?_
                have hw_7 := rg_wr ((kpC (wkV (fp σ f) T (σ 16) a0 b0 N) N 49) + 1)
                refine g_putI (k := 1) hx hb hts hown hK hθ hB cf1 tyX1 tyX1_ok hF.lt0 hF.ck0 (by decide) kw_53 rfl rfl rfl ⟨by omega, by omega⟩ dX1_work_141 (fun H locs hB => ?_)
                obtain ⟨σ6, hσ6⟩ : ∃ x_ : gS, x_ = up2 σ4 f 1 (wr ((kpC (wkV (fp σ f) T (σ 16) a0 b0 N) N 49) + 1)) := ⟨_, rfl⟩
                rw [← hσ6] at hB
                have hR := hB.1.2
                exact g_vret hx hb hr hlk hB dX1_work_144 (⟨by rw [hσ6, fp_upt, hg4, show s1 = N by omega]; rfl, by rw [hσ6]; exact hf4.tr (fr.up (by simp [wF])), rfl⟩)
              · refine lv_aload_n hx hb dX1_work_103 rfl (lv_at hl 1 rfl) ?_
                refine g_getr (k := 5) (j := (f + 4)) hx hb hts hown hK hθ hB cf1 hF.lt0 hF.ck0 (by decide) kw_59 rfl hF.tg5 dX1_work_104 ?_
                refine lv_iload hx hb dX1_work_107 (lv_at hl 0 rfl) ?_
                refine g_iald (k := s1) hx hb hK hB hF.lt4 hF.ck4 (by omega) (Nat.lt_of_lt_of_eq (by omega : s1 < 8) (Eq.symm hF.cn4)) hF.bg4 dX1_work_109 ?_
                refine z_top (b := (kpC (wkV (fp σ f) T (σ 16) a0 b0 N) s1 (41 + s1))) (by rw [← fp_v σ4 f (by omega), hg4]) ?_
                have hrv := fp_rg hR f (41 + s1)
                rw [hg4] at hrv
                refine lv_bipush (v := iZ (-9)) hx hb dX1_work_110 (by decide) ?_
                refine z_icmp_eq (tgt := 128) hx hb dX1_work_112 (by decide) ⟨by omega, by omega⟩ ⟨by decide, by decide⟩ (fun c_8 => ?_) (fun c_8 => ?_)
                · have hnn := c_8
                  refine z_iinc (k := 0) (lv' := [(4, .int (iZ (((s1 : Nat) : Int) + 1))), (0, .ref (tad θ f)), (1, .ref (tad θ 13)), (2, .int (iZ a0)), (3, .int (iZ b0))]) hx hb dX1_work_128 hl rfl (by decide) rfl (fun ls hl => ?_)
                  have hl : lv_has ls 6 [(4, .int (iZ (((s1 + 1) : Nat) : Int))), (0, .ref (tad θ f)), (1, .ref (tad θ 13)), (2, .int (iZ a0)), (3, .int (iZ b0))] := by have e9 : (((s1 : Nat) : Int) + 1) = (((s1 + 1) : Nat) : Int) := (by omega); rw [e9] at hl; exact hl
                  refine lv_goto (tgt := 87) hx hb dX1_work_131 (by decide) ?_
                  exact ih87 (s1 + 1) σ4 _ _ _ (by omega) (by omega) (by rw [hg4, kpC, if_pos hnn]) hf4 hB (lv_sub hl [0, 1, 2, 3, 4] rfl)
                · have hnn := c_8
                  refine lv_aload_n hx hb dX1_work_115 rfl (lv_at hl 1 rfl) ?_
                  refine g_getr (k := 4) (j := (f + 3)) hx hb hts hown hK hθ hB cf1 hF.lt0 hF.ck0 (by decide) kw_57 rfl hF.tg4 dX1_work_116 ?_
                  refine lv_iload hx hb dX1_work_119 (lv_at hl 0 rfl) ?_
                  refine lv_aload_n hx hb dX1_work_121 rfl (lv_at hl 1 rfl) ?_
                  refine lv_iload hx hb dX1_work_122 (lv_at hl 0 rfl) ?_
                  refine g_calli (g_runV (i := f) (As := [.int (iZ ((s1 : Nat) : Int))]) (rest := [.int (iZ ((s1 : Nat) : Int)), .ref (tad θ (f + 3))]) hx hb hml hown hts hK hst hB (mX1_heldNext l θ hθ σ4 z f hF s1 (by omega)) mv_X1_heldNext kw_520 cf1 hF.lt0 hF.ck0 rfl hl.1 rfl (Nat.le_of_ble_eq_true rfl) ⟨by decide, by decide⟩ ⟨Nat.le_refl _, Nat.le_refl _⟩ dX1_work_124) hB (fun q_11 σ_9 z_10 H locs hq_11 pq_11 hB => ?_)
                  obtain ⟨pq_11, e1_, e2_⟩ := pq_11
                  rw [e1_, e2_] at hB
                  clear e1_ e2_
                  subst pq_11
                  refine g_iast (k := s1) hx hb hK hθ hB hF.lt3 hF.ck3 (by omega) (Nat.lt_of_lt_of_eq (by omega : s1 < 8) (Eq.symm hF.cn3)) hF.bg3 ⟨by omega, by omega⟩ dX1_work_127 (fun H locs hB => ?_)
                  obtain ⟨σ5, hσ5⟩ : ∃ x_ : gS, x_ = up2 σ4 (f + 3) s1 (knC (fp σ4 f) s1) := ⟨_, rfl⟩
                  rw [← hσ5] at hB
                  have hR := hB.1.2
                  refine z_iinc (k := 0) (lv' := [(4, .int (iZ (((s1 : Nat) : Int) + 1))), (0, .ref (tad θ f)), (1, .ref (tad θ 13)), (2, .int (iZ a0)), (3, .int (iZ b0))]) hx hb dX1_work_128 hl rfl (by decide) rfl (fun ls hl => ?_)
                  have hl : lv_has ls 6 [(4, .int (iZ (((s1 + 1) : Nat) : Int))), (0, .ref (tad θ f)), (1, .ref (tad θ 13)), (2, .int (iZ a0)), (3, .int (iZ b0))] := by have e9 : (((s1 : Nat) : Int) + 1) = (((s1 + 1) : Nat) : Int) := (by omega); rw [e9] at hl; exact hl
                  refine lv_goto (tgt := 87) hx hb dX1_work_131 (by decide) ?_
                  exact ih87 (s1 + 1) σ5 _ _ _ (by omega) (by omega) (by rw [hσ5, fp_uph _ _ (by omega), hg4, kpC, if_neg hnn]) (by rw [hσ5]; exact hf4.tr (fr.up (by simp [wF]))) hB (lv_sub hl [0, 1, 2, 3, 4] rfl)
        exact loop87 _ 0 σ2 _ _ _ (Nat.lt_succ_self _) (by omega) (by rw [hg, show j = N by omega]; rfl) hf hB (lv_sub hl [0, 1, 2, 3, 4] rfl)
      · refine lv_iload hx hb dX1_work_19 (lv_at hl 0 rfl) ?_
        refine lv_aload_n hx hb dX1_work_21 rfl (lv_at hl 1 rfl) ?_
        refine g_geti (k := 0) hx hb hts hown hK hB cf1 hF.lt0 hF.ck0 (by decide) kw_49 rfl dX1_work_22 ?_
        refine z_top (b := ((N : Nat) : Int)) (h0) ?_
        refine z_icmp_ge (tgt := 84) hx hb dX1_work_25 (by decide) ⟨by omega, by omega⟩ ⟨by omega, by omega⟩ (fun c_12 => ?_) (fun c_12 => ?_)
        · refine lv_iconst (v := iZ 0) hx hb dX1_work_84 rfl ?_
          refine lv_istore (lv' := [(4, .int (iZ 0)), (0, .ref (tad θ f)), (1, .ref (tad θ 13)), (2, .int (iZ a0)), (3, .int (iZ b0))]) hx hb dX1_work_85 hl (by decide) rfl (fun ls hl => ?_)
          have loop87 : ∀ (n87 : Nat) (s1 : Nat) (σ4 : gS) (H : Heap) (locs : List Loc) (ls : Array Slot), N - s1 < n87 → (s1 ≤ N) → (fp σ4 f = kpC (wkV (fp σ f) T (σ 16) a0 b0 N) s1) → (fr (wF f) σ σ4) →  gB θ σ4 z s.heap H locs → lv_has ls 6 [(4, .int (iZ ((s1 : Nat) : Int))), (0, .ref (tad θ f)), (1, .ref (tad θ 13)), (2, .int (iZ a0)), (3, .int (iZ b0))] → W p l e (gRm 3 69) s m args below meth c H locs 0 0 (MQ below (gQv θ (fun σ' z' => (fp σ' f = wkC (fp σ f) T (σ 16) N a0 b0) ∧ fr (wF f) σ σ' ∧ z' = z)) args s 0 0 (tA θ)) (F0 m 87 ls []) := by
            intro n87
            induction n87 with
            | zero => intro s1 σ4 H locs ls hmu; exact absurd hmu (Nat.not_lt_zero _)
            | succ n87 ih87 =>
              intro s1 σ4 H locs ls hmu hs1 hg4 hf4 hB hl
              have hR := hB.1.2
              have h04 : σ4 f 0 = (N : Int) := by rw [← fp_0 σ4 f, hg4, kpC_out _ s1 (by omega), wkV_low _ _ _ _ _ (by omega) N (fun i hi => (hT i (by omega)).2.1)]; exact hN
              refine lv_iload hx hb dX1_work_87 (lv_at hl 0 rfl) ?_
              refine lv_bipush (v := iZ 8) hx hb dX1_work_89 (by decide) ?_
              refine z_icmp_ge (tgt := 134) hx hb dX1_work_91 (by decide) ⟨by omega, by omega⟩ ⟨by decide, by decide⟩ (fun c_13 => ?_) (fun c_13 => ?_)
              · refine lv_aload_n hx hb dX1_work_134 rfl (lv_at hl 1 rfl) ?_
                refine lv_dup hx hb dX1_work_135 rfl ?_
                refine g_geti (k := 1) hx hb hts hown hK hB cf1 hF.lt0 hF.ck0 (by decide) kw_53 rfl dX1_work_136 ?_
                refine z_top (b := (kpC (wkV (fp σ f) T (σ 16) a0 b0 N) N 49)) (by rw [← fp_t σ4 f, hg4, show s1 = N by omega]) ?_
                refine lv_iconst (v := iZ 1) hx hb dX1_work_139 rfl ?_
                refine z_iadd hx hb dX1_work_140 ?_
                refine z_wr ?_
                have hw_14 := rg_wr ((kpC (wkV (fp σ f) T (σ 16) a0 b0 N) N 49) + 1)
                refine g_putI (k := 1) hx hb hts hown hK hθ hB cf1 tyX1 tyX1_ok hF.lt0 hF.ck0 (by decide) kw_53 rfl rfl rfl ⟨by omega, by omega⟩ dX1_work_141 (fun H locs hB => ?_)
                obtain ⟨σ6, hσ6⟩ : ∃ x_ : gS, x_ = up2 σ4 f 1 (wr ((kpC (wkV (fp σ f) T (σ 16) a0 b0 N) N 49) + 1)) := ⟨_, rfl⟩
                rw [← hσ6] at hB
                have hR := hB.1.2
                exact g_vret hx hb hr hlk hB dX1_work_144 (⟨by rw [hσ6, fp_upt, hg4, show s1 = N by omega]; rfl, by rw [hσ6]; exact hf4.tr (fr.up (by simp [wF])), rfl⟩)
              · refine lv_iload hx hb dX1_work_94 (lv_at hl 0 rfl) ?_
                refine lv_aload_n hx hb dX1_work_96 rfl (lv_at hl 1 rfl) ?_
                refine g_geti (k := 0) hx hb hts hown hK hB cf1 hF.lt0 hF.ck0 (by decide) kw_49 rfl dX1_work_97 ?_
                refine z_top (b := ((N : Nat) : Int)) (h04) ?_
                refine z_icmp_ge (tgt := 134) hx hb dX1_work_100 (by decide) ⟨by omega, by omega⟩ ⟨by omega, by omega⟩ (fun c_15 => ?_) (fun c_15 => ?_)
                · refine lv_aload_n hx hb dX1_work_134 rfl (lv_at hl 1 rfl) ?_
                  refine lv_dup hx hb dX1_work_135 rfl ?_
                  refine g_geti (k := 1) hx hb hts hown hK hB cf1 hF.lt0 hF.ck0 (by decide) kw_53 rfl dX1_work_136 ?_
                  refine z_top (b := (kpC (wkV (fp σ f) T (σ 16) a0 b0 N) N 49)) (by rw [← fp_t σ4 f, hg4, show s1 = N by omega]) ?_
                  refine lv_iconst (v := iZ 1) hx hb dX1_work_139 rfl ?_
                  refine z_iadd hx hb dX1_work_140 ?_
                  refine z_wr ?_
                  have hw_16 := rg_wr ((kpC (wkV (fp σ f) T (σ 16) a0 b0 N) N 49) + 1)
                  refine g_putI (k := 1) hx hb hts hown hK hθ hB cf1 tyX1 tyX1_ok hF.lt0 hF.ck0 (by decide) kw_53 rfl rfl rfl ⟨by omega, by omega⟩ dX1_work_141 (fun H locs hB => ?_)
                  obtain ⟨σ6, hσ6⟩ : ∃ x_ : gS, x_ = up2 σ4 f 1 (wr ((kpC (wkV (fp σ f) T (σ 16) a0 b0 N) N 49) + 1)) := ⟨_, rfl⟩
                  rw [← hσ6] at hB
                  have hR := hB.1.2
                  exact g_vret hx hb hr hlk hB dX1_work_144 (⟨by rw [hσ6, fp_upt, hg4, show s1 = N by omega]; rfl, by rw [hσ6]; exact hf4.tr (fr.up (by simp [wF])), rfl⟩)
                · refine lv_aload_n hx hb dX1_work_103 rfl (lv_at hl 1 rfl) ?_
                  refine g_getr (k := 5) (j := (f + 4)) hx hb hts hown hK hθ hB cf1 hF.lt0 hF.ck0 (by decide) kw_59 rfl hF.tg5 dX1_work_104 ?_
                  refine lv_iload hx hb dX1_work_107 (lv_at hl 0 rfl) ?_
                  refine g_iald (k := s1) hx hb hK hB hF.lt4 hF.ck4 (by omega) (Nat.lt_of_lt_of_eq (by omega : s1 < 8) (Eq.symm hF.cn4)) hF.bg4 dX1_work_109 ?_
                  refine z_top (b := (kpC (wkV (fp σ f) T (σ 16) a0 b0 N) s1 (41 + s1))) (by rw [← fp_v σ4 f (by omega), hg4]) ?_
                  have hrv := fp_rg hR f (41 + s1)
                  rw [hg4] at hrv
                  refine lv_bipush (v := iZ (-9)) hx hb dX1_work_110 (by decide) ?_
                  refine z_icmp_eq (tgt := 128) hx hb dX1_work_112 (by decide) ⟨by omega, by omega⟩ ⟨by decide, by decide⟩ (fun c_17 => ?_) (fun c_17 => ?_)
                  · have hnn := c_17
                    refine z_iinc (k := 0) (lv' := [(4, .int (iZ (((s1 : Nat) : Int) + 1))), (0, .ref (tad θ f)), (1, .ref (tad θ 13)), (2, .int (iZ a0)), (3, .int (iZ b0))]) hx hb dX1_work_128 hl rfl (by decide) rfl (fun ls hl => ?_)
                    have hl : lv_has ls 6 [(4, .int (iZ (((s1 + 1) : Nat) : Int))), (0, .ref (tad θ f)), (1, .ref (tad θ 13)), (2, .int (iZ a0)), (3, .int (iZ b0))] := by have e9 : (((s1 : Nat) : Int) + 1) = (((s1 + 1) : Nat) : Int) := (by omega); rw [e9] at hl; exact hl
                    refine lv_goto (tgt := 87) hx hb dX1_work_131 (by decide) ?_
                    exact ih87 (s1 + 1) σ4 _ _ _ (by omega) (by omega) (by rw [hg4, kpC, if_pos hnn]) hf4 hB (lv_sub hl [0, 1, 2, 3, 4] rfl)
                  · have hnn := c_17
                    refine lv_aload_n hx hb dX1_work_115 rfl (lv_at hl 1 rfl) ?_
                    refine g_getr (k := 4) (j := (f + 3)) hx hb hts hown hK hθ hB cf1 hF.lt0 hF.ck0 (by decide) kw_57 rfl hF.tg4 dX1_work_116 ?_
                    refine lv_iload hx hb dX1_work_119 (lv_at hl 0 rfl) ?_
                    refine lv_aload_n hx hb dX1_work_121 rfl (lv_at hl 1 rfl) ?_
                    refine lv_iload hx hb dX1_work_122 (lv_at hl 0 rfl) ?_
                    refine g_calli (g_runV (i := f) (As := [.int (iZ ((s1 : Nat) : Int))]) (rest := [.int (iZ ((s1 : Nat) : Int)), .ref (tad θ (f + 3))]) hx hb hml hown hts hK hst hB (mX1_heldNext l θ hθ σ4 z f hF s1 (by omega)) mv_X1_heldNext kw_520 cf1 hF.lt0 hF.ck0 rfl hl.1 rfl (Nat.le_of_ble_eq_true rfl) ⟨by decide, by decide⟩ ⟨Nat.le_refl _, Nat.le_refl _⟩ dX1_work_124) hB (fun q_20 σ_18 z_19 H locs hq_20 pq_20 hB => ?_)
                    obtain ⟨pq_20, e1_, e2_⟩ := pq_20
                    rw [e1_, e2_] at hB
                    clear e1_ e2_
                    subst pq_20
                    refine g_iast (k := s1) hx hb hK hθ hB hF.lt3 hF.ck3 (by omega) (Nat.lt_of_lt_of_eq (by omega : s1 < 8) (Eq.symm hF.cn3)) hF.bg3 ⟨by omega, by omega⟩ dX1_work_127 (fun H locs hB => ?_)
                    obtain ⟨σ5, hσ5⟩ : ∃ x_ : gS, x_ = up2 σ4 (f + 3) s1 (knC (fp σ4 f) s1) := ⟨_, rfl⟩
                    rw [← hσ5] at hB
                    have hR := hB.1.2
                    refine z_iinc (k := 0) (lv' := [(4, .int (iZ (((s1 : Nat) : Int) + 1))), (0, .ref (tad θ f)), (1, .ref (tad θ 13)), (2, .int (iZ a0)), (3, .int (iZ b0))]) hx hb dX1_work_128 hl rfl (by decide) rfl (fun ls hl => ?_)
                    have hl : lv_has ls 6 [(4, .int (iZ (((s1 + 1) : Nat) : Int))), (0, .ref (tad θ f)), (1, .ref (tad θ 13)), (2, .int (iZ a0)), (3, .int (iZ b0))] := by have e9 : (((s1 : Nat) : Int) + 1) = (((s1 + 1) : Nat) : Int) := (by omega); rw [e9] at hl; exact hl
                    refine lv_goto (tgt := 87) hx hb dX1_work_131 (by decide) ?_
                    exact ih87 (s1 + 1) σ5 _ _ _ (by omega) (by omega) (by rw [hσ5, fp_uph _ _ (by omega), hg4, kpC, if_neg hnn]) (by rw [hσ5]; exact hf4.tr (fr.up (by simp [wF]))) hB (lv_sub hl [0, 1, 2, 3, 4] rfl)
          exact loop87 _ 0 σ2 _ _ _ (Nat.lt_succ_self _) (by omega) (by rw [hg, show j = N by omega]; rfl) hf hB (lv_sub hl [0, 1, 2, 3, 4] rfl)
        · have hTj := hT j (by omega)
          refine lv_aload_n hx hb dX1_work_28 rfl (lv_at hl 2 rfl) ?_
          refine g_getr (k := 9) (j := 19) hx hb hts hown hK hθ hB cf2 (by decide) rfl (by decide) kw_96 rfl rfl dX1_work_29 ?_
          refine lv_iload hx hb dX1_work_32 (lv_at hl 0 rfl) ?_
          refine g_iald (k := j) hx hb hK hB (by decide) rfl (by omega) (Nat.lt_of_lt_of_eq (by omega : j < 8) (Eq.symm rfl)) (by decide) dX1_work_34 ?_
          refine z_top (b := (((T j) : Nat) : Int)) (by rw [hf 19 j (hF.sn (by omega))]; exact hTj.1) ?_
          refine lv_istore (lv' := [(5, .int (iZ (((T j) : Nat) : Int))), (4, .int (iZ ((j : Nat) : Int))), (0, .ref (tad θ f)), (1, .ref (tad θ 13)), (2, .int (iZ a0)), (3, .int (iZ b0))]) hx hb dX1_work_35 hl (by decide) rfl (fun ls hl => ?_)
          refine lv_iload hx hb dX1_work_37 (lv_at hl 0 rfl) ?_
          refine z_if_lt (tgt := 78) hx hb dX1_work_39 (by decide) ⟨by omega, by omega⟩ (fun c_21 => ?_) (fun c_21 => ?_)
          · exfalso; omega
          · refine lv_iload hx hb dX1_work_42 (lv_at hl 0 rfl) ?_
            refine lv_bipush (v := iZ 8) hx hb dX1_work_44 (by decide) ?_
            refine z_icmp_ge (tgt := 78) hx hb dX1_work_46 (by decide) ⟨by omega, by omega⟩ ⟨by decide, by decide⟩ (fun c_22 => ?_) (fun c_22 => ?_)
            · exfalso; omega
            · refine lv_aload_n hx hb dX1_work_49 rfl (lv_at hl 2 rfl) ?_
              refine lv_aload_n hx hb dX1_work_50 rfl (lv_at hl 3 rfl) ?_
              refine g_getr (k := 6) (j := 16) hx hb hts hown hK hθ hB cf2 (by decide) rfl (by decide) kw_89 rfl rfl dX1_work_51 ?_
              refine lv_iload hx hb dX1_work_54 (lv_at hl 0 rfl) ?_
              refine g_iald (k := (T j)) hx hb hK hB (by decide) rfl (by omega) (Nat.lt_of_lt_of_eq (by omega : (T j) < 8) (Eq.symm rfl)) (by decide) dX1_work_56 ?_
              refine z_top (b := (σ 16 (T j))) (hf 16 _ (hF.sn (by omega))) ?_
              have hr16 := hR 16 (T j)
              rw [hf 16 _ (hF.sn (by omega))] at hr16
              refine g_calli (g_runV (i := f) (As := [.int (iZ (σ 16 (T j)))]) (rest := []) hx hb hml hown hts hK hst hB (mX1_isThere l θ hθ σ2 z f hF (σ 16 (T j)) ⟨by omega, by omega⟩) mv_X1_isThere kw_502 cf1 hF.lt0 hF.ck0 rfl hl.1 rfl (Nat.le_of_ble_eq_true rfl) ⟨by decide, by decide⟩ ⟨Nat.le_refl _, Nat.le_refl _⟩ dX1_work_57) hB (fun qt σ_23 z_24 H locs hqt hpt hB => ?_)
              obtain ⟨hpt, e1_, e2_⟩ := hpt
              rw [e1_, e2_] at hB
              clear e1_ e2_
              rw [hg] at hpt
              rcases hpt with ⟨hqt, hth⟩ | ⟨hqt, hth⟩
              · subst hqt
                refine z_if_eq (tgt := 78) hx hb dX1_work_60 (by decide) ⟨by decide, by decide⟩ (fun c_25 => ?_) (fun c_25 => ?_)
                · exact absurd c_25 (by decide)
                · refine lv_aload_n hx hb dX1_work_63 rfl (lv_at hl 2 rfl) ?_
                  refine g_getr (k := 5) (j := (f + 4)) hx hb hts hown hK hθ hB cf1 hF.lt0 hF.ck0 (by decide) kw_59 rfl hF.tg5 dX1_work_64 ?_
                  refine lv_iload hx hb dX1_work_67 (lv_at hl 0 rfl) ?_
                  refine lv_aload_n hx hb dX1_work_69 rfl (lv_at hl 2 rfl) ?_
                  refine lv_iload hx hb dX1_work_70 (lv_at hl 0 rfl) ?_
                  refine lv_iload_n hx hb dX1_work_72 rfl (lv_at hl 4 rfl) ?_
                  refine lv_iload_n hx hb dX1_work_73 rfl (lv_at hl 5 rfl) ?_
                  refine g_calli (g_runV (i := f) (As := [.int (iZ (((T j) : Nat) : Int)), .int (iZ a0), .int (iZ b0)]) (rest := [.int (iZ (((T j) : Nat) : Int)), .ref (tad θ (f + 4))]) hx hb hml hown hts hK hst hB (mX1_reckon l θ hθ σ2 z f hF hbj (T j) hTj.2.1 (by rw [fp_0, h0]; omega) a0 b0 ha hb0) mv_X1_reckon kw_508 cf1 hF.lt0 hF.ck0 rfl hl.1 rfl (Nat.le_of_ble_eq_true rfl) ⟨by decide, by decide⟩ ⟨Nat.le_refl _, Nat.le_refl _⟩ dX1_work_74) hB (fun q_28 σ_26 z_27 H locs hq_28 pq_28 hB => ?_)
                  obtain ⟨pq_28, e1_, e2_⟩ := pq_28
                  rw [e1_, e2_] at hB
                  clear e1_ e2_
                  subst pq_28
                  refine g_iast (k := (T j)) hx hb hK hθ hB hF.lt4 hF.ck4 (by omega) (Nat.lt_of_lt_of_eq (by omega : (T j) < 8) (Eq.symm hF.cn4)) hF.bg4 ⟨by omega, by omega⟩ dX1_work_77 (fun H locs hB => ?_)
                  obtain ⟨σ3, hσ3⟩ : ∃ x_ : gS, x_ = up2 σ2 (f + 4) (T j) (rkC (fp σ2 f) (T j) a0 b0) := ⟨_, rfl⟩
                  rw [← hσ3] at hB
                  have hR := hB.1.2
                  refine z_iinc (k := 1) (lv' := [(4, .int (iZ (((j : Nat) : Int) + 1))), (5, .int (iZ (((T j) : Nat) : Int))), (0, .ref (tad θ f)), (1, .ref (tad θ 13)), (2, .int (iZ a0)), (3, .int (iZ b0))]) hx hb dX1_work_78 hl rfl (by decide) rfl (fun ls hl => ?_)
                  have hl : lv_has ls 6 [(4, .int (iZ (((j + 1) : Nat) : Int))), (5, .int (iZ (((T j) : Nat) : Int))), (0, .ref (tad θ f)), (1, .ref (tad θ 13)), (2, .int (iZ a0)), (3, .int (iZ b0))] := by have e9 : (((j : Nat) : Int) + 1) = (((j + 1) : Nat) : Int) := (by omega); rw [e9] at hl; exact hl
                  refine lv_goto (tgt := 12) hx hb dX1_work_81 (by decide) ?_
                  exact ih12 (j + 1) σ3 _ _ _ (by omega) (by omega) (by rw [hσ3, fp_upv _ _ hTj.2.1, hg, wkV, if_pos hth]) (by rw [hσ3]; exact hf.tr (fr.up (by simp [wF]))) hB (lv_sub hl [0, 2, 3, 4, 5] rfl)
              · subst hqt
                refine z_if_eq (tgt := 78) hx hb dX1_work_60 (by decide) ⟨by decide, by decide⟩ (fun c_29 => ?_) (fun c_29 => ?_)
                · refine z_iinc (k := 1) (lv' := [(4, .int (iZ (((j : Nat) : Int) + 1))), (5, .int (iZ (((T j) : Nat) : Int))), (0, .ref (tad θ f)), (1, .ref (tad θ 13)), (2, .int (iZ a0)), (3, .int (iZ b0))]) hx hb dX1_work_78 hl rfl (by decide) rfl (fun ls hl => ?_)
                  have hl : lv_has ls 6 [(4, .int (iZ (((j + 1) : Nat) : Int))), (5, .int (iZ (((T j) : Nat) : Int))), (0, .ref (tad θ f)), (1, .ref (tad θ 13)), (2, .int (iZ a0)), (3, .int (iZ b0))] := by have e9 : (((j : Nat) : Int) + 1) = (((j + 1) : Nat) : Int) := (by omega); rw [e9] at hl; exact hl
                  refine lv_goto (tgt := 12) hx hb dX1_work_81 (by decide) ?_
                  exact ih12 (j + 1) σ2 _ _ _ (by omega) (by omega) (by rw [hg, wkV, if_neg (by rw [hth]; exact Bool.false_ne_true)]) hf hB (lv_sub hl [0, 2, 3, 4, 5] rfl)
                · exact absurd (by decide) c_29
  exact loop12 _ 0 σ1 _ _ _ (Nat.lt_succ_self _) (by omega) (fp_fill hp1 hf1) (hf1.mono (fun i k h => by simp at h; subst h; simp [wF])) hB (lv_sub hl [0, 1, 2, 3, 4] rfl)
set_option maxHeartbeats 4000000 in
set_option maxRecDepth 100000 in
theorem mX1_become (l : Launch) (θ : gT) (hθ : gOK θ) (σ : gS) (z : gZ) (f : Nat) (hF : isF f) (g : Nat) (hG : isF g) (hne : f ≠ g) : GV l θ yX1_become cX1_become 2 1 26 [.ref (tad θ f), .ref (tad θ g)] σ z (fun σ' z' => (fp σ' f = fp σ g) ∧ fr (wF f) σ σ' ∧ z' = z) := by
  refine g_enter (ret := none) (by decide +kernel) (Nat.le_of_ble_eq_true rfl) ?_
  intro p e s m args below meth c ls F hB hl
  obtain ⟨hx, hb, hr, hml, hown, hts, hlk, hK, hst⟩ := F
  have hR := hB.1.2
  have hl : lv_has ls 2 [(0, .ref (tad θ f)), (1, .ref (tad θ g))] := hl
  have hap := hF.ap hG hne
  refine lv_aload_n hx hb dX1_become_0 rfl (lv_at hl 0 rfl) ?_
  refine lv_aload_n hx hb dX1_become_1 rfl (lv_at hl 1 rfl) ?_
  refine g_geti (k := 0) hx hb hts hown hK hB cf1 hG.lt0 hG.ck0 (by decide) kw_49 rfl dX1_become_2 ?_
  have hr_1 := hR g 0
  refine g_putI (k := 0) hx hb hts hown hK hθ hB cf1 tyX1 tyX1_ok hF.lt0 hF.ck0 (by decide) kw_49 rfl rfl rfl ⟨by omega, by omega⟩ dX1_become_5 (fun H locs hB => ?_)
  obtain ⟨σ1, hσ1⟩ : ∃ x_ : gS, x_ = up2 σ f 0 (σ g 0) := ⟨_, rfl⟩
  rw [← hσ1] at hB
  have hR := hB.1.2
  refine lv_aload_n hx hb dX1_become_8 rfl (lv_at hl 0 rfl) ?_
  refine lv_aload_n hx hb dX1_become_9 rfl (lv_at hl 1 rfl) ?_
  refine g_geti (k := 1) hx hb hts hown hK hB cf1 hG.lt0 hG.ck0 (by decide) kw_53 rfl dX1_become_10 ?_
  refine z_top (b := (σ g 1)) (by rw [hσ1, up2_c _ _ (by omega)]) ?_
  have hr1 := hR g 1
  rw [hσ1, up2_c _ _ (by omega)] at hr1
  refine g_putI (k := 1) hx hb hts hown hK hθ hB cf1 tyX1 tyX1_ok hF.lt0 hF.ck0 (by decide) kw_53 rfl rfl rfl ⟨by omega, by omega⟩ dX1_become_13 (fun H locs hB => ?_)
  obtain ⟨σ2, hσ2⟩ : ∃ x_ : gS, x_ = up2 σ1 f 1 (σ g 1) := ⟨_, rfl⟩
  rw [← hσ2] at hB
  have hR := hB.1.2
  refine lv_aload_n hx hb dX1_become_16 rfl (lv_at hl 1 rfl) ?_
  refine g_getr (k := 2) (j := (g + 1)) hx hb hts hown hK hθ hB cf1 hG.lt0 hG.ck0 (by decide) kw_55 rfl hG.tg2 dX1_become_17 ?_
  refine lv_iconst (v := iZ 0) hx hb dX1_become_20 rfl ?_
  refine lv_aload_n hx hb dX1_become_21 rfl (lv_at hl 0 rfl) ?_
  refine g_getr (k := 2) (j := (f + 1)) hx hb hts hown hK hθ hB cf1 hF.lt0 hF.ck0 (by decide) kw_55 rfl hF.tg2 dX1_become_22 ?_
  refine lv_iconst (v := iZ 0) hx hb dX1_become_25 rfl ?_
  refine lv_bipush (v := iZ 8) hx hb dX1_become_26 (by decide) ?_
  refine g_copy (sp := 0) (dp := 0) (n := 8) hx hb hml hl.1 hown kw_346 hts hK hθ hB rfl rfl rfl hG.lt1 hG.ck1 hF.lt1 hF.ck1 (Nat.le_of_lt_succ (Nat.lt_of_lt_of_eq (by omega : 0 + 8 < 8 + 1) (congrArg Nat.succ (Eq.symm hG.cn1)))) (Nat.le_of_lt_succ (Nat.lt_of_lt_of_eq (by omega : 0 + 8 < 8 + 1) (congrArg Nat.succ (Eq.symm hF.cn1)))) hG.bg1 hF.bg1 (Nat.le_of_ble_eq_true rfl) ⟨by decide, by decide⟩ dX1_become_28 (fun H locs hB => ?_)
  obtain ⟨σ3, hσ3⟩ : ∃ x_ : gS, x_ = upr σ2 (f + 1) (cpR (σ2 (g + 1)) (σ2 (f + 1)) 0 0 8) := ⟨_, rfl⟩
  rw [← hσ3] at hB
  have hR := hB.1.2
  refine lv_aload_n hx hb dX1_become_31 rfl (lv_at hl 1 rfl) ?_
  refine g_getr (k := 3) (j := (g + 2)) hx hb hts hown hK hθ hB cf1 hG.lt0 hG.ck0 (by decide) kw_56 rfl hG.tg3 dX1_become_32 ?_
  refine lv_iconst (v := iZ 0) hx hb dX1_become_35 rfl ?_
  refine lv_aload_n hx hb dX1_become_36 rfl (lv_at hl 0 rfl) ?_
  refine g_getr (k := 3) (j := (f + 2)) hx hb hts hown hK hθ hB cf1 hF.lt0 hF.ck0 (by decide) kw_56 rfl hF.tg3 dX1_become_37 ?_
  refine lv_iconst (v := iZ 0) hx hb dX1_become_40 rfl ?_
  refine lv_bipush (v := iZ 24) hx hb dX1_become_41 (by decide) ?_
  refine g_copy (sp := 0) (dp := 0) (n := 24) hx hb hml hl.1 hown kw_346 hts hK hθ hB rfl rfl rfl hG.lt2 hG.ck2 hF.lt2 hF.ck2 (Nat.le_of_lt_succ (Nat.lt_of_lt_of_eq (by omega : 0 + 24 < 24 + 1) (congrArg Nat.succ (Eq.symm hG.cn2)))) (Nat.le_of_lt_succ (Nat.lt_of_lt_of_eq (by omega : 0 + 24 < 24 + 1) (congrArg Nat.succ (Eq.symm hF.cn2)))) hG.bg2 hF.bg2 (Nat.le_of_ble_eq_true rfl) ⟨by decide, by decide⟩ dX1_become_43 (fun H locs hB => ?_)
  obtain ⟨σ4, hσ4⟩ : ∃ x_ : gS, x_ = upr σ3 (f + 2) (cpR (σ3 (g + 2)) (σ3 (f + 2)) 0 0 24) := ⟨_, rfl⟩
  rw [← hσ4] at hB
  have hR := hB.1.2
  refine lv_aload_n hx hb dX1_become_46 rfl (lv_at hl 1 rfl) ?_
  refine g_getr (k := 4) (j := (g + 3)) hx hb hts hown hK hθ hB cf1 hG.lt0 hG.ck0 (by decide) kw_57 rfl hG.tg4 dX1_become_47 ?_
  refine lv_iconst (v := iZ 0) hx hb dX1_become_50 rfl ?_
  refine lv_aload_n hx hb dX1_become_51 rfl (lv_at hl 0 rfl) ?_
  refine g_getr (k := 4) (j := (f + 3)) hx hb hts hown hK hθ hB cf1 hF.lt0 hF.ck0 (by decide) kw_57 rfl hF.tg4 dX1_become_52 ?_
  refine lv_iconst (v := iZ 0) hx hb dX1_become_55 rfl ?_
  refine lv_bipush (v := iZ 8) hx hb dX1_become_56 (by decide) ?_
  refine g_copy (sp := 0) (dp := 0) (n := 8) hx hb hml hl.1 hown kw_346 hts hK hθ hB rfl rfl rfl hG.lt3 hG.ck3 hF.lt3 hF.ck3 (Nat.le_of_lt_succ (Nat.lt_of_lt_of_eq (by omega : 0 + 8 < 8 + 1) (congrArg Nat.succ (Eq.symm hG.cn3)))) (Nat.le_of_lt_succ (Nat.lt_of_lt_of_eq (by omega : 0 + 8 < 8 + 1) (congrArg Nat.succ (Eq.symm hF.cn3)))) hG.bg3 hF.bg3 (Nat.le_of_ble_eq_true rfl) ⟨by decide, by decide⟩ dX1_become_58 (fun H locs hB => ?_)
  obtain ⟨σ5, hσ5⟩ : ∃ x_ : gS, x_ = upr σ4 (f + 3) (cpR (σ4 (g + 3)) (σ4 (f + 3)) 0 0 8) := ⟨_, rfl⟩
  rw [← hσ5] at hB
  have hR := hB.1.2
  refine lv_aload_n hx hb dX1_become_61 rfl (lv_at hl 1 rfl) ?_
  refine g_getr (k := 5) (j := (g + 4)) hx hb hts hown hK hθ hB cf1 hG.lt0 hG.ck0 (by decide) kw_59 rfl hG.tg5 dX1_become_62 ?_
  refine lv_iconst (v := iZ 0) hx hb dX1_become_65 rfl ?_
  refine lv_aload_n hx hb dX1_become_66 rfl (lv_at hl 0 rfl) ?_
  refine g_getr (k := 5) (j := (f + 4)) hx hb hts hown hK hθ hB cf1 hF.lt0 hF.ck0 (by decide) kw_59 rfl hF.tg5 dX1_become_67 ?_
  refine lv_iconst (v := iZ 0) hx hb dX1_become_70 rfl ?_
  refine lv_bipush (v := iZ 8) hx hb dX1_become_71 (by decide) ?_
  refine g_copy (sp := 0) (dp := 0) (n := 8) hx hb hml hl.1 hown kw_346 hts hK hθ hB rfl rfl rfl hG.lt4 hG.ck4 hF.lt4 hF.ck4 (Nat.le_of_lt_succ (Nat.lt_of_lt_of_eq (by omega : 0 + 8 < 8 + 1) (congrArg Nat.succ (Eq.symm hG.cn4)))) (Nat.le_of_lt_succ (Nat.lt_of_lt_of_eq (by omega : 0 + 8 < 8 + 1) (congrArg Nat.succ (Eq.symm hF.cn4)))) hG.bg4 hF.bg4 (Nat.le_of_ble_eq_true rfl) ⟨by decide, by decide⟩ dX1_become_73 (fun H locs hB => ?_)
  obtain ⟨σ6, hσ6⟩ : ∃ x_ : gS, x_ = upr σ5 (f + 4) (cpR (σ5 (g + 4)) (σ5 (f + 4)) 0 0 8) := ⟨_, rfl⟩
  rw [← hσ6] at hB
  have hR := hB.1.2
  exact g_vret hx hb hr hlk hB dX1_become_76 (⟨fp_cong (by rw [hσ6, upr_c _ _ (by omega), hσ5, upr_c _ _ (by omega), hσ4, upr_c _ _ (by omega), hσ3, upr_c _ _ (by omega), hσ2, up2_k _ _ (by decide), hσ1, up2_eq]) (fun s hs => by rw [hσ6, upr_c _ _ (by omega), hσ5, upr_c _ _ (by omega), hσ4, upr_c _ _ (by omega), hσ3, upr_eq, cpR_0 _ _ hs, hσ2, up2_c _ _ (by omega), hσ1, up2_c _ _ (by omega)]) (fun s hs => by rw [hσ6, upr_c _ _ (by omega), hσ5, upr_c _ _ (by omega), hσ4, upr_eq, cpR_0 _ _ hs, hσ3, upr_c _ _ (by omega), hσ2, up2_c _ _ (by omega), hσ1, up2_c _ _ (by omega)]) (fun s hs => by rw [hσ6, upr_c _ _ (by omega), hσ5, upr_eq, cpR_0 _ _ hs, hσ4, upr_c _ _ (by omega), hσ3, upr_c _ _ (by omega), hσ2, up2_c _ _ (by omega), hσ1, up2_c _ _ (by omega)]) (fun s hs => by rw [hσ6, upr_eq, cpR_0 _ _ hs, hσ5, upr_c _ _ (by omega), hσ4, upr_c _ _ (by omega), hσ3, upr_c _ _ (by omega), hσ2, up2_c _ _ (by omega), hσ1, up2_c _ _ (by omega)]) (by rw [hσ6, upr_c _ _ (by omega), hσ5, upr_c _ _ (by omega), hσ4, upr_c _ _ (by omega), hσ3, upr_c _ _ (by omega), hσ2, up2_eq]), (by rw [hσ6, hσ5, hσ4, hσ3, hσ2, hσ1]; exact (((((fr.up (by simp [wF])).tr (fr.up (by simp [wF]))).tr (fr.upr (fun k _ => by simp [wF]))).tr (fr.upr (fun k _ => by simp [wF]))).tr (fr.upr (fun k _ => by simp [wF]))).tr (fr.upr (fun k _ => by simp [wF]))), rfl⟩)
set_option maxHeartbeats 4000000 in
set_option maxRecDepth 100000 in
theorem mX5_carry (l : Launch) (θ : gT) (hθ : gOK θ) (σ : gS) (z : gZ) (f : Nat) (hF : isF f) (g : Nat) (hG : isF g) (hne : g ≠ f) : GV l θ yX5_carry cX5_carry 2 2 47 [.ref (tad θ f), .ref (tad θ g)] σ z (fun σ' z' => (fp σ' g = fp σ f) ∧ fr (wF g) σ σ' ∧ z' = z) := by
  refine g_enter (ret := none) (by decide +kernel) (Nat.le_of_ble_eq_true rfl) ?_
  intro p e s m args below meth c ls F hB hl
  obtain ⟨hx, hb, hr, hml, hown, hts, hlk, hK, hst⟩ := F
  have hR := hB.1.2
  have hl : lv_has ls 2 [(0, .ref (tad θ f)), (1, .ref (tad θ g))] := hl
  refine lv_aload_n hx hb dX5_carry_0 rfl (lv_at hl 0 rfl) ?_
  refine lv_ifnull hx hb dX5_carry_1 ?_
  refine lv_aload_n hx hb dX5_carry_4 rfl (lv_at hl 1 rfl) ?_
  refine lv_ifnull hx hb dX5_carry_5 ?_
  refine lv_aload_n hx hb dX5_carry_8 rfl (lv_at hl 1 rfl) ?_
  refine lv_aload_n hx hb dX5_carry_9 rfl (lv_at hl 0 rfl) ?_
  refine g_callv (g_runV (i := g) (As := [.ref (tad θ f)]) (rest := []) hx hb hml hown hts hK hst hB (mX1_become l θ hθ σ z g hG f hF hne) mv_X1_become kw_342 cf1 hG.lt0 hG.ck0 rfl hl.1 rfl (Nat.le_of_ble_eq_true rfl) ⟨by decide, by decide⟩ ⟨Nat.le_refl _, Nat.le_refl _⟩ dX5_carry_10) hB (fun σ1 z_1 H locs hp1 hB => ?_)
  obtain ⟨hp1, hf1, e2_⟩ := hp1
  rw [e2_] at hB
  clear e2_
  have hR := hB.1.2
  exact g_vret hx hb hr hlk hB dX5_carry_13 (⟨hp1, hf1, rfl⟩)
set_option maxHeartbeats 4000000 in
set_option maxRecDepth 100000 in
theorem mX1_setPart (l : Launch) (θ : gT) (hθ : gOK θ) (σ : gS) (z : gZ) (f : Nat) (hF : isF f) (s0 : Nat) (hs : s0 < 8) (i : Nat) (hi : i < 3) (v : Int) (hv : rg v) : GV l θ yX1_setPart cX1_setPart 4 0 0 [.ref (tad θ f), .int (iZ ((s0 : Nat) : Int)), .int (iZ ((i : Nat) : Int)), .int (iZ v)] σ z (fun σ' z' => (fp σ' f = upn (fp σ f) (9 + 3 * s0 + i) v) ∧ fr (wF f) σ σ' ∧ z' = z) := by
  refine g_enter (ret := none) (by decide +kernel) (Nat.le_of_ble_eq_true rfl) ?_
  intro p e s m args below meth c ls F hB hl
  obtain ⟨hx, hb, hr, hml, hown, hts, hlk, hK, hst⟩ := F
  have hR := hB.1.2
  have hl : lv_has ls 4 [(0, .ref (tad θ f)), (1, .int (iZ ((s0 : Nat) : Int))), (2, .int (iZ ((i : Nat) : Int))), (3, .int (iZ v))] := hl
  refine lv_iload_n hx hb dX1_setPart_0 rfl (lv_at hl 1 rfl) ?_
  refine z_if_lt (tgt := 30) hx hb dX1_setPart_1 (by decide) ⟨by omega, by omega⟩ (fun c_1 => ?_) (fun c_1 => ?_)
  · exfalso; omega
  · refine lv_iload_n hx hb dX1_setPart_4 rfl (lv_at hl 1 rfl) ?_
    refine lv_bipush (v := iZ 8) hx hb dX1_setPart_5 (by decide) ?_
    refine z_icmp_ge (tgt := 30) hx hb dX1_setPart_7 (by decide) ⟨by omega, by omega⟩ ⟨by decide, by decide⟩ (fun c_2 => ?_) (fun c_2 => ?_)
    · exfalso; omega
    · refine lv_iload_n hx hb dX1_setPart_10 rfl (lv_at hl 2 rfl) ?_
      refine z_if_lt (tgt := 30) hx hb dX1_setPart_11 (by decide) ⟨by omega, by omega⟩ (fun c_3 => ?_) (fun c_3 => ?_)
      · exfalso; omega
      · refine lv_iload_n hx hb dX1_setPart_14 rfl (lv_at hl 2 rfl) ?_
        refine lv_iconst (v := iZ 3) hx hb dX1_setPart_15 rfl ?_
        refine z_icmp_ge (tgt := 30) hx hb dX1_setPart_16 (by decide) ⟨by omega, by omega⟩ ⟨by decide, by decide⟩ (fun c_4 => ?_) (fun c_4 => ?_)
        · exfalso; omega
        · refine lv_aload_n hx hb dX1_setPart_19 rfl (lv_at hl 0 rfl) ?_
          refine g_getr (k := 3) (j := (f + 2)) hx hb hts hown hK hθ hB cf1 hF.lt0 hF.ck0 (by decide) kw_56 rfl hF.tg3 dX1_setPart_20 ?_
          refine lv_iload_n hx hb dX1_setPart_23 rfl (lv_at hl 1 rfl) ?_
          refine lv_iconst (v := iZ 3) hx hb dX1_setPart_24 rfl ?_
          refine z_imul hx hb dX1_setPart_25 ?_
          refine lv_iload_n hx hb dX1_setPart_26 rfl (lv_at hl 2 rfl) ?_
          refine z_iadd hx hb dX1_setPart_27 ?_
          refine lv_iload_n hx hb dX1_setPart_28 rfl (lv_at hl 3 rfl) ?_
          refine g_iast (k := (3 * s0 + i)) hx hb hK hθ hB hF.lt2 hF.ck2 (by omega) (Nat.lt_of_lt_of_eq (by omega : (3 * s0 + i) < 24) (Eq.symm hF.cn2)) hF.bg2 ⟨by omega, by omega⟩ dX1_setPart_29 (fun H locs hB => ?_)
          obtain ⟨σ1, hσ1⟩ : ∃ x_ : gS, x_ = up2 σ (f + 2) (3 * s0 + i) v := ⟨_, rfl⟩
          rw [← hσ1] at hB
          have hR := hB.1.2
          exact g_vret hx hb hr hlk hB dX1_setPart_30 (⟨by rw [hσ1, fp_upp _ _ (by omega), show 9 + (3 * s0 + i) = 9 + 3 * s0 + i by omega], by rw [hσ1]; exact fr.up (by simp [wF]), rfl⟩)
set_option maxHeartbeats 4000000 in
set_option maxRecDepth 100000 in
theorem mX1_equate (l : Launch) (θ : gT) (hθ : gOK θ) (σ : gS) (z : gZ) (f : Nat) (hF : isF f) (s0 : Nat) (hs : s0 < 8) (K a0 b0 c0 : Int) (hKr : rg K) (har : rg a0) (hbr : rg b0) (hcr : rg c0) : GV l θ yX1_equate cX1_equate 6 1 23 [.ref (tad θ f), .int (iZ ((s0 : Nat) : Int)), .int (iZ K), .int (iZ a0), .int (iZ b0), .int (iZ c0)] σ z (fun σ' z' => (fp σ' f = eqC (fp σ f) s0 K a0 b0 c0) ∧ fr (wF f) σ σ' ∧ z' = z) := by
  refine g_enter (ret := none) (by decide +kernel) (Nat.le_of_ble_eq_true rfl) ?_
  intro p e s m args below meth c ls F hB hl
  obtain ⟨hx, hb, hr, hml, hown, hts, hlk, hK, hst⟩ := F
  have hR := hB.1.2
  have hl : lv_has ls 6 [(0, .ref (tad θ f)), (1, .int (iZ ((s0 : Nat) : Int))), (2, .int (iZ K)), (3, .int (iZ a0)), (4, .int (iZ b0)), (5, .int (iZ c0))] := hl
  refine lv_iload_n hx hb dX1_equate_0 rfl (lv_at hl 1 rfl) ?_
  refine z_if_lt (tgt := 10) hx hb dX1_equate_1 (by decide) ⟨by omega, by omega⟩ (fun c_1 => ?_) (fun c_1 => ?_)
  · exfalso; omega
  · refine lv_iload_n hx hb dX1_equate_4 rfl (lv_at hl 1 rfl) ?_
    refine lv_bipush (v := iZ 8) hx hb dX1_equate_5 (by decide) ?_
    refine z_icmp_lt (tgt := 11) hx hb dX1_equate_7 (by decide) ⟨by omega, by omega⟩ ⟨by decide, by decide⟩ (fun c_2 => ?_) (fun c_2 => ?_)
    · refine lv_aload_n hx hb dX1_equate_11 rfl (lv_at hl 0 rfl) ?_
      refine g_getr (k := 2) (j := (f + 1)) hx hb hts hown hK hθ hB cf1 hF.lt0 hF.ck0 (by decide) kw_55 rfl hF.tg2 dX1_equate_12 ?_
      refine lv_iload_n hx hb dX1_equate_15 rfl (lv_at hl 1 rfl) ?_
      refine lv_iload_n hx hb dX1_equate_16 rfl (lv_at hl 2 rfl) ?_
      refine g_iast (k := s0) hx hb hK hθ hB hF.lt1 hF.ck1 (by omega) (Nat.lt_of_lt_of_eq (by omega : s0 < 8) (Eq.symm hF.cn1)) hF.bg1 ⟨by omega, by omega⟩ dX1_equate_17 (fun H locs hB => ?_)
      obtain ⟨σ1, hσ1⟩ : ∃ x_ : gS, x_ = up2 σ (f + 1) s0 K := ⟨_, rfl⟩
      rw [← hσ1] at hB
      have hR := hB.1.2
      refine lv_aload_n hx hb dX1_equate_18 rfl (lv_at hl 0 rfl) ?_
      refine lv_iload_n hx hb dX1_equate_19 rfl (lv_at hl 1 rfl) ?_
      refine lv_iconst (v := iZ 0) hx hb dX1_equate_20 rfl ?_
      refine lv_iload_n hx hb dX1_equate_21 rfl (lv_at hl 3 rfl) ?_
      refine g_callv (g_runV (i := f) (As := [.int (iZ ((s0 : Nat) : Int)), .int (iZ 0), .int (iZ a0)]) (rest := []) hx hb hml hown hts hK hst hB (mX1_setPart l θ hθ σ1 z f hF s0 (by omega) 0 (by omega) a0 ⟨by omega, by omega⟩) mv_X1_setPart kw_316 cf1 hF.lt0 hF.ck0 rfl hl.1 rfl (Nat.le_of_ble_eq_true rfl) ⟨by decide, by decide⟩ ⟨Nat.le_refl _, Nat.le_refl _⟩ dX1_equate_22) hB (fun σ2 z_3 H locs hp2 hB => ?_)
      obtain ⟨hp2, hf2, e2_⟩ := hp2
      rw [e2_] at hB
      clear e2_
      have hR := hB.1.2
      refine lv_aload_n hx hb dX1_equate_25 rfl (lv_at hl 0 rfl) ?_
      refine lv_iload_n hx hb dX1_equate_26 rfl (lv_at hl 1 rfl) ?_
      refine lv_iconst (v := iZ 1) hx hb dX1_equate_27 rfl ?_
      refine lv_iload hx hb dX1_equate_28 (lv_at hl 4 rfl) ?_
      refine g_callv (g_runV (i := f) (As := [.int (iZ ((s0 : Nat) : Int)), .int (iZ 1), .int (iZ b0)]) (rest := []) hx hb hml hown hts hK hst hB (mX1_setPart l θ hθ σ2 z f hF s0 (by omega) 1 (by omega) b0 ⟨by omega, by omega⟩) mv_X1_setPart kw_316 cf1 hF.lt0 hF.ck0 rfl hl.1 rfl (Nat.le_of_ble_eq_true rfl) ⟨by decide, by decide⟩ ⟨Nat.le_refl _, Nat.le_refl _⟩ dX1_equate_30) hB (fun σ3 z_5 H locs hp3 hB => ?_)
      obtain ⟨hp3, hf3, e2_⟩ := hp3
      rw [e2_] at hB
      clear e2_
      have hR := hB.1.2
      refine lv_aload_n hx hb dX1_equate_33 rfl (lv_at hl 0 rfl) ?_
      refine lv_iload_n hx hb dX1_equate_34 rfl (lv_at hl 1 rfl) ?_
      refine lv_iconst (v := iZ 2) hx hb dX1_equate_35 rfl ?_
      refine lv_iload hx hb dX1_equate_36 (lv_at hl 5 rfl) ?_
      refine g_callv (g_runV (i := f) (As := [.int (iZ ((s0 : Nat) : Int)), .int (iZ 2), .int (iZ c0)]) (rest := []) hx hb hml hown hts hK hst hB (mX1_setPart l θ hθ σ3 z f hF s0 (by omega) 2 (by omega) c0 ⟨by omega, by omega⟩) mv_X1_setPart kw_316 cf1 hF.lt0 hF.ck0 rfl hl.1 rfl (Nat.le_of_ble_eq_true rfl) ⟨by decide, by decide⟩ ⟨Nat.le_refl _, Nat.le_refl _⟩ dX1_equate_38) hB (fun σ4 z_7 H locs hp4 hB => ?_)
      obtain ⟨hp4, hf4, e2_⟩ := hp4
      rw [e2_] at hB
      clear e2_
      have hR := hB.1.2
      exact g_vret hx hb hr hlk hB dX1_equate_41 (⟨by rw [hp4, hp3, hp2, hσ1, fp_upk _ _ hs]; rfl, by rw [hσ1] at hf2; exact ((((fr.up (by simp [wF])).tr hf2).tr hf3).tr hf4), rfl⟩)
    · exfalso; omega
