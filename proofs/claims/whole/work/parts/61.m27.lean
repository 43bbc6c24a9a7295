set_option maxHeartbeats 4000000 in
set_option maxRecDepth 100000 in
theorem mX2_isSound (l : Launch) (θ : gT) (hθ : gOK θ) (σ : gS) (z : gZ)  : GI l θ yX2_isSound cX2_isSound 1 (some .boolean) 0 0 [.ref (tad θ 13)] σ z (fun q σ' z' => ((q = 1 ∧ ((σ 13 0 = -9 ∧ σ 13 1 = 0 ∧ σ 13 2 = -9))) ∨ (q = 0 ∧ ¬ ((σ 13 0 = -9 ∧ σ 13 1 = 0 ∧ σ 13 2 = -9)))) ∧ σ' = σ ∧ z' = z) := by
  refine g_enter (ret := (some .boolean)) (by decide +kernel) (Nat.le_of_ble_eq_true rfl) ?_
  intro p e s m args below meth c ls F hB hl
  obtain ⟨hx, hb, hr, hml, hown, hts, hlk, hK, hst⟩ := F
  have hR := hB.1.2
  have hl : lv_has ls 1 [(0, .ref (tad θ 13))] := hl
  refine lv_aload_n hx hb dX2_isSound_0 rfl (lv_at hl 0 rfl) ?_
  refine g_geti (k := 0) hx hb hts hown hK hB cf2 (by decide) rfl (by decide) kw_79 rfl dX2_isSound_1 ?_
  have hr_1 := hR 13 0
  refine lv_bipush (v := iZ (-9)) hx hb dX2_isSound_4 (by decide) ?_
  refine z_icmp_ne (tgt := 29) hx hb dX2_isSound_6 (by decide) ⟨by omega, by omega⟩ ⟨by decide, by decide⟩ (fun c_2 => ?_) (fun c_2 => ?_)
  · refine lv_iconst (v := iZ 0) hx hb dX2_isSound_29 rfl ?_
    exact g_zret hx hb hr hlk hB dX2_isSound_30 (by decide) (⟨by omega, rfl, rfl⟩)
  · refine lv_aload_n hx hb dX2_isSound_9 rfl (lv_at hl 0 rfl) ?_
    refine g_geti (k := 1) hx hb hts hown hK hB cf2 (by decide) rfl (by decide) kw_81 rfl dX2_isSound_10 ?_
    have hr_3 := hR 13 1
    refine z_if_ne (tgt := 29) hx hb dX2_isSound_13 (by decide) ⟨by omega, by omega⟩ (fun c_4 => ?_) (fun c_4 => ?_)
    · refine lv_iconst (v := iZ 0) hx hb dX2_isSound_29 rfl ?_
      exact g_zret hx hb hr hlk hB dX2_isSound_30 (by decide) (⟨by omega, rfl, rfl⟩)
    · refine lv_aload_n hx hb dX2_isSound_16 rfl (lv_at hl 0 rfl) ?_
      refine g_geti (k := 2) hx hb hts hown hK hB cf2 (by decide) rfl (by decide) kw_83 rfl dX2_isSound_17 ?_
      have hr_5 := hR 13 2
      refine lv_bipush (v := iZ (-9)) hx hb dX2_isSound_20 (by decide) ?_
      refine z_icmp_ne (tgt := 29) hx hb dX2_isSound_22 (by decide) ⟨by omega, by omega⟩ ⟨by decide, by decide⟩ (fun c_6 => ?_) (fun c_6 => ?_)
      · refine lv_iconst (v := iZ 0) hx hb dX2_isSound_29 rfl ?_
        exact g_zret hx hb hr hlk hB dX2_isSound_30 (by decide) (⟨by omega, rfl, rfl⟩)
      · refine lv_iconst (v := iZ 1) hx hb dX2_isSound_25 rfl ?_
        refine lv_goto (tgt := 30) hx hb dX2_isSound_26 (by decide) ?_
        exact g_zret hx hb hr hlk hB dX2_isSound_30 (by decide) (⟨by omega, rfl, rfl⟩)
set_option maxHeartbeats 4000000 in
set_option maxRecDepth 100000 in
theorem mX2_study (l : Launch) (θ : gT) (hθ : gOK θ) (σ : gS) (z : gZ) (N : Nat) (hG : cW (fp σ 3) N) : GV l θ yX2_study cX2_study 2 5 117 [.ref (tad θ 13), .ref (tad θ 3)] σ z (fun σ' z' => (cAn (fp σ 3) N σ') ∧ fr wSe σ σ' ∧ z' = z) := by
  refine g_enter (ret := none) (by decide +kernel) (Nat.le_of_ble_eq_true rfl) ?_
  intro p e s m args below meth c ls F hB hl
  obtain ⟨hx, hb, hr, hml, hown, hts, hlk, hK, hst⟩ := F
  have hR := hB.1.2
  have hl : lv_has ls 2 [(0, .ref (tad θ 13)), (1, .ref (tad θ 3))] := hl
  have hN8 := hG.2.1
  have h00 : σ 3 0 = (N : Int) := hG.1
  refine lv_aload_n hx hb dX2_study_0 rfl (lv_at hl 0 rfl) ?_
  refine lv_aload_n hx hb dX2_study_1 rfl (lv_at hl 1 rfl) ?_
  refine g_geti (k := 0) hx hb hts hown hK hB cf1 (by decide) rfl (by decide) kw_50 rfl dX2_study_2 ?_
  refine z_top (b := ((N : Nat) : Int)) (h00) ?_
  refine lv_bipush (v := iZ 8) hx hb dX2_study_5 (by decide) ?_
  refine g_min hx hb hml hl.1 hown kw_370 hts (Nat.le_of_ble_eq_true rfl) ⟨by decide, by decide⟩ ⟨Nat.zero_le _, Nat.zero_le _⟩ ⟨by omega, by omega⟩ ⟨by decide, by decide⟩ dX2_study_7 (fun q_1 hq_1 => ?_)
  refine z_top (b := ((N : Nat) : Int)) (by omega) ?_
  refine g_putI (k := 3) hx hb hts hown hK hθ hB cf2 tyX2 tyX2_ok (by decide) rfl (by decide) kw_85 rfl rfl rfl ⟨by omega, by omega⟩ dX2_study_10 (fun H locs hB => ?_)
  obtain ⟨σ1, hσ1⟩ : ∃ x_ : gS, x_ = up2 σ 13 3 ((N : Nat) : Int) := ⟨_, rfl⟩
  rw [← hσ1] at hB
  have hR := hB.1.2
  have hf1 : fr wSe σ σ1 := by rw [hσ1]; exact fr.up rfl
  refine lv_aload_n hx hb dX2_study_13 rfl (lv_at hl 0 rfl) ?_
  refine lv_aload_n hx hb dX2_study_14 rfl (lv_at hl 0 rfl) ?_
  refine lv_aload_n hx hb dX2_study_15 rfl (lv_at hl 1 rfl) ?_
  refine g_calli (g_runV (i := 13) (As := [.ref (tad θ 3)]) (rest := [.ref (tad θ 13)]) hx hb hml hown hts hK hst hB (mX2_findClash l θ hθ σ1 z N (by rw [se_fp hf1 isF_3]; exact hG) (by rw [hσ1, up2_eq])) mv_X2_findClash kw_371 cf2 (by decide) rfl rfl hl.1 rfl (Nat.le_of_ble_eq_true rfl) ⟨by decide, by decide⟩ ⟨Nat.le_refl _, Nat.le_refl _⟩ dX2_study_16) hB (fun qc σ2 z_2 H locs hqc hp2 hB => ?_)
  obtain ⟨hp2, hf2, e2_⟩ := hp2
  rw [e2_] at hB
  clear e2_
  have hR := hB.1.2
  rw [se_fp hf1 isF_3] at hp2
  rcases hp2 with ⟨hqc, w, ew, hA2⟩ | ⟨j, hj, hqc, hw, hnn⟩
  · subst hqc
    refine g_putI (k := 0) hx hb hts hown hK hθ hB cf2 tyX2 tyX2_ok (by decide) rfl (by decide) kw_79 rfl rfl rfl ⟨by decide, by decide⟩ dX2_study_19 (fun H locs hB => ?_)
    obtain ⟨σ3, hσ3⟩ : ∃ x_ : gS, x_ = up2 σ2 13 0 (-9) := ⟨_, rfl⟩
    rw [← hσ3] at hB
    have hR := hB.1.2
    refine lv_aload_n hx hb dX2_study_22 rfl (lv_at hl 0 rfl) ?_
    refine lv_iconst (v := iZ 0) hx hb dX2_study_23 rfl ?_
    refine g_putI (k := 1) hx hb hts hown hK hθ hB cf2 tyX2 tyX2_ok (by decide) rfl (by decide) kw_81 rfl rfl rfl ⟨by decide, by decide⟩ dX2_study_24 (fun H locs hB => ?_)
    obtain ⟨σ4, hσ4⟩ : ∃ x_ : gS, x_ = up2 σ3 13 1 0 := ⟨_, rfl⟩
    rw [← hσ4] at hB
    have hR := hB.1.2
    refine lv_aload_n hx hb dX2_study_27 rfl (lv_at hl 0 rfl) ?_
    refine lv_bipush (v := iZ (-9)) hx hb dX2_study_28 (by decide) ?_
    refine g_putI (k := 2) hx hb hts hown hK hθ hB cf2 tyX2 tyX2_ok (by decide) rfl (by decide) kw_83 rfl rfl rfl ⟨by decide, by decide⟩ dX2_study_30 (fun H locs hB => ?_)
    obtain ⟨σ5, hσ5⟩ : ∃ x_ : gS, x_ = up2 σ4 13 2 (-9) := ⟨_, rfl⟩
    rw [← hσ5] at hB
    have hR := hB.1.2
    have hf5 := (by rw [hσ5, hσ4, hσ3]; exact (((hf1.tr (hf2.mono se_gb)).tr (fr.up rfl)).tr (fr.up rfl)).tr (fr.up rfl) : fr wSe σ σ5)
    have hc5 : σ5 13 3 = (N : Int) := by rw [hσ5, up2_k _ _ (by decide), hσ4, up2_k _ _ (by decide), hσ3, up2_k _ _ (by decide), hf2 13 3 rfl, hσ1, up2_eq]
    refine lv_aload_n hx hb dX2_study_33 rfl (lv_at hl 0 rfl) ?_
    refine g_geti (k := 0) hx hb hts hown hK hB cf2 (by decide) rfl (by decide) kw_79 rfl dX2_study_34 ?_
    refine z_top (b := (-9)) (by rw [hσ5, up2_k _ _ (by decide), hσ4, up2_k _ _ (by decide), hσ3, up2_eq]) ?_
    refine lv_bipush (v := iZ (-9)) hx hb dX2_study_37 (by decide) ?_
    refine z_icmp_ne (tgt := 65) hx hb dX2_study_39 (by decide) ⟨by decide, by decide⟩ ⟨by decide, by decide⟩ (fun c_3 => ?_) (fun c_3 => ?_)
    · exact absurd (by decide) c_3
    · refine lv_aload_n hx hb dX2_study_42 rfl (lv_at hl 0 rfl) ?_
      refine g_callv (g_runV (i := 13) (As := []) (rest := []) hx hb hml hown hts hK hst hB (mX2_settle l θ hθ σ5 z w (hA2.keep (by rw [hσ5, up2_row _ _ (by decide), hσ4, up2_row _ _ (by decide), hσ3, up2_row _ _ (by decide)]) (by rw [hσ5, up2_row _ _ (by decide), hσ4, up2_row _ _ (by decide), hσ3, up2_row _ _ (by decide)])) (cClk_ok hG (Nat.le_refl _) ew) N (cClk_on hG (Nat.le_refl _) ew) hc5 hN8) mv_X2_settle kw_404 cf2 (by decide) rfl rfl hl.1 rfl (Nat.le_of_ble_eq_true rfl) ⟨by decide, by decide⟩ ⟨Nat.le_refl _, Nat.le_refl _⟩ dX2_study_43) hB (fun σ6 z_4 H locs hp6 hB => ?_)
      obtain ⟨hp6, hf6, e2_⟩ := hp6
      rw [e2_] at hB
      clear e2_
      have hR := hB.1.2
      have hfs6 := hf5.tr (hf6.mono se_st)
      have hsk := stC_ok (cClk_ok hG (Nat.le_refl _) ew) hN8 (cClk_on hG (Nat.le_refl _) ew)
      have hc6 : σ6 13 3 = (N : Int) := by rw [hf6 13 3 rfl]; exact hc5
      refine lv_aload_n hx hb dX2_study_46 rfl (lv_at hl 0 rfl) ?_
      refine lv_aload_n hx hb dX2_study_47 rfl (lv_at hl 1 rfl) ?_
      refine g_callv (g_runV (i := 13) (As := [.ref (tad θ 3)]) (rest := []) hx hb hml hown hts hK hst hB (mX2_putInOrder l θ hθ σ6 z N (by rw [se_fp hfs6 isF_3]; exact hG) (stC w) hsk hp6.1 hc6) mv_X2_putInOrder kw_408 cf2 (by decide) rfl rfl hl.1 rfl (Nat.le_of_ble_eq_true rfl) ⟨by decide, by decide⟩ ⟨Nat.le_refl _, Nat.le_refl _⟩ dX2_study_48) hB (fun σ7 z_6 H locs hp7 hB => ?_)
      obtain ⟨hp7, hf7, e2_⟩ := hp7
      rw [e2_] at hB
      clear e2_
      have hR := hB.1.2
      rw [se_fp hfs6 isF_3] at hp7
      have hfs7 := hfs6.tr (hf7.mono se_oc)
      have hc7 : σ7 13 3 = (N : Int) := by rw [hf7 13 3 rfl]; exact hc6
      refine lv_aload_n hx hb dX2_study_51 rfl (lv_at hl 0 rfl) ?_
      refine lv_aload_n hx hb dX2_study_52 rfl (lv_at hl 1 rfl) ?_
      refine g_callv (g_runV (i := 13) (As := [.ref (tad θ 3)]) (rest := []) hx hb hml hown hts hK hst hB (mX2_findLevels l θ hθ σ7 z N (by rw [se_fp hfs7 isF_3]; exact hG) hc7) mv_X2_findLevels kw_421 cf2 (by decide) rfl rfl hl.1 rfl (Nat.le_of_ble_eq_true rfl) ⟨by decide, by decide⟩ ⟨Nat.le_refl _, Nat.le_refl _⟩ dX2_study_53) hB (fun σ8 z_8 H locs hp8 hB => ?_)
      obtain ⟨hp8, hf8, e2_⟩ := hp8
      rw [e2_] at hB
      clear e2_
      have hR := hB.1.2
      rw [se_fp hfs7 isF_3] at hp8
      have hfs8 := hfs7.tr (hf8.mono se_20)
      have hc8 : σ8 13 3 = (N : Int) := by rw [hf8 13 3 rfl]; exact hc7
      refine lv_aload_n hx hb dX2_study_56 rfl (lv_at hl 0 rfl) ?_
      refine lv_aload_n hx hb dX2_study_57 rfl (lv_at hl 0 rfl) ?_
      refine lv_aload_n hx hb dX2_study_58 rfl (lv_at hl 1 rfl) ?_
      refine g_calli (g_runV (i := 13) (As := [.ref (tad θ 3)]) (rest := [.ref (tad θ 13)]) hx hb hml hown hts hK hst hB (mX2_findRaw l θ hθ σ8 z N (by rw [se_fp hfs8 isF_3]; exact hG) (lpC (fp σ 3) N 8) hp8 hc8) mv_X2_findRaw kw_434 cf2 (by decide) rfl rfl hl.1 rfl (Nat.le_of_ble_eq_true rfl) ⟨by decide, by decide⟩ ⟨Nat.le_refl _, Nat.le_refl _⟩ dX2_study_59) hB (fun qr σ_10 z_11 H locs hqr hpr hB => ?_)
      obtain ⟨hpr, e1_, e2_⟩ := hpr
      rw [e1_, e2_] at hB
      clear e1_ e2_
      rw [se_fp hfs8 isF_3] at hpr
      refine g_putI (k := 2) hx hb hts hown hK hθ hB cf2 tyX2 tyX2_ok (by decide) rfl (by decide) kw_83 rfl rfl rfl ⟨by omega, by omega⟩ dX2_study_62 (fun H locs hB => ?_)
      obtain ⟨σ9, hσ9⟩ : ∃ x_ : gS, x_ = up2 σ8 13 2 qr := ⟨_, rfl⟩
      rw [← hσ9] at hB
      have hR := hB.1.2
      exact g_vret hx hb hr hlk hB dX2_study_65 (⟨⟨by rw [hσ9, up2_k _ _ (by decide)]; exact hc8, Or.inr ⟨by rw [hσ9, up2_k _ _ (by decide), hf8 13 0 rfl, hf7 13 0 rfl, hf6 13 0 rfl, hσ5, up2_k _ _ (by decide), hσ4, up2_k _ _ (by decide), hσ3, up2_eq], w, ew, fun k hk => by rw [hσ9, up2_c _ _ (by decide), hf8 16 k rfl, hf7 16 k rfl]; exact hp6.1 k hk, fun k hk => by rw [hσ9, up2_c _ _ (by decide), hf8 17 k rfl, hf7 17 k rfl]; exact hp6.2 k hk, by rw [hσ9, up2_k _ _ (by decide), hf8 13 1 rfl]; exact hp7.1, fun k hk => by rw [hσ9, up2_c _ _ (by decide), hf8 18 k rfl]; exact hp7.2.1 k hk, fun k hk => by rw [hσ9, up2_c _ _ (by decide), hf8 19 k rfl]; exact hp7.2.2 k hk, fun k hk => by rw [hσ9, up2_c _ _ (by decide)]; exact hp8 k hk, by rw [hσ9, up2_eq]; exact hpr⟩⟩, by rw [hσ9]; exact hfs8.tr (fr.up rfl), rfl⟩)
  · subst hqc
    refine g_putI (k := 0) hx hb hts hown hK hθ hB cf2 tyX2 tyX2_ok (by decide) rfl (by decide) kw_79 rfl rfl rfl ⟨by omega, by omega⟩ dX2_study_19 (fun H locs hB => ?_)
    obtain ⟨σ3, hσ3⟩ : ∃ x_ : gS, x_ = up2 σ2 13 0 ((j : Nat) : Int) := ⟨_, rfl⟩
    rw [← hσ3] at hB
    have hR := hB.1.2
    refine lv_aload_n hx hb dX2_study_22 rfl (lv_at hl 0 rfl) ?_
    refine lv_iconst (v := iZ 0) hx hb dX2_study_23 rfl ?_
    refine g_putI (k := 1) hx hb hts hown hK hθ hB cf2 tyX2 tyX2_ok (by decide) rfl (by decide) kw_81 rfl rfl rfl ⟨by decide, by decide⟩ dX2_study_24 (fun H locs hB => ?_)
    obtain ⟨σ4, hσ4⟩ : ∃ x_ : gS, x_ = up2 σ3 13 1 0 := ⟨_, rfl⟩
    rw [← hσ4] at hB
    have hR := hB.1.2
    refine lv_aload_n hx hb dX2_study_27 rfl (lv_at hl 0 rfl) ?_
    refine lv_bipush (v := iZ (-9)) hx hb dX2_study_28 (by decide) ?_
    refine g_putI (k := 2) hx hb hts hown hK hθ hB cf2 tyX2 tyX2_ok (by decide) rfl (by decide) kw_83 rfl rfl rfl ⟨by decide, by decide⟩ dX2_study_30 (fun H locs hB => ?_)
    obtain ⟨σ5, hσ5⟩ : ∃ x_ : gS, x_ = up2 σ4 13 2 (-9) := ⟨_, rfl⟩
    rw [← hσ5] at hB
    have hR := hB.1.2
    have hf5 := (by rw [hσ5, hσ4, hσ3]; exact (((hf1.tr (hf2.mono se_gb)).tr (fr.up rfl)).tr (fr.up rfl)).tr (fr.up rfl) : fr wSe σ σ5)
    have hc5 : σ5 13 3 = (N : Int) := by rw [hσ5, up2_k _ _ (by decide), hσ4, up2_k _ _ (by decide), hσ3, up2_k _ _ (by decide), hf2 13 3 rfl, hσ1, up2_eq]
    refine lv_aload_n hx hb dX2_study_33 rfl (lv_at hl 0 rfl) ?_
    refine g_geti (k := 0) hx hb hts hown hK hB cf2 (by decide) rfl (by decide) kw_79 rfl dX2_study_34 ?_
    refine z_top (b := ((j : Nat) : Int)) (by rw [hσ5, up2_k _ _ (by decide), hσ4, up2_k _ _ (by decide), hσ3, up2_eq]) ?_
    refine lv_bipush (v := iZ (-9)) hx hb dX2_study_37 (by decide) ?_
    refine z_icmp_ne (tgt := 65) hx hb dX2_study_39 (by decide) ⟨by omega, by omega⟩ ⟨by decide, by decide⟩ (fun c_12 => ?_) (fun c_12 => ?_)
    · exact g_vret hx hb hr hlk hB dX2_study_65 (⟨⟨hc5, Or.inl ⟨j, hj, by rw [hσ5, up2_k _ _ (by decide), hσ4, up2_k _ _ (by decide), hσ3, up2_eq], hw, hnn, by rw [hσ5, up2_k _ _ (by decide), hσ4, up2_eq], by rw [hσ5, up2_eq]⟩⟩, hf5, rfl⟩)
    · exfalso; omega
