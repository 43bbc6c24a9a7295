set_option maxHeartbeats 4000000 in
set_option maxRecDepth 100000 in
theorem mX5_isStream (l : Launch) (θ : gT) (hθ : gOK θ) (σ : gS) (z : gZ) (h8 : σ 3 0 ≤ 8) (k : Int) (hk : rg k) : GI l θ yX5_isStream cX5_isStream 2 (some .boolean) 0 0 [.ref (tad θ 0), .int (iZ k)] σ z (fun q σ' z' => ((q = 1 ∧ (0 ≤ k ∧ k < σ 3 0)) ∨ (q = 0 ∧ ¬ (0 ≤ k ∧ k < σ 3 0))) ∧ σ' = σ ∧ z' = z) := by
  refine g_enter (ret := (some .boolean)) (by decide +kernel) (Nat.le_of_ble_eq_true rfl) ?_
  intro p e s m args below meth c ls F hB hl
  obtain ⟨hx, hb, hr, hml, hown, hts, hlk, hK, hst⟩ := F
  have hR := hB.1.2
  have hl : lv_has ls 2 [(0, .ref (tad θ 0)), (1, .int (iZ k))] := hl
  refine lv_iload_n hx hb dX5_isStream_0 rfl (lv_at hl 1 rfl) ?_
  refine z_if_lt (tgt := 25) hx hb dX5_isStream_1 (by decide) ⟨by omega, by omega⟩ (fun c_1 => ?_) (fun c_1 => ?_)
  · refine lv_iconst (v := iZ 0) hx hb dX5_isStream_25 rfl ?_
    exact g_zret hx hb hr hlk hB dX5_isStream_26 (by decide) (⟨by omega, rfl, rfl⟩)
  · refine lv_iload_n hx hb dX5_isStream_4 rfl (lv_at hl 1 rfl) ?_
    refine lv_aload_n hx hb dX5_isStream_5 rfl (lv_at hl 0 rfl) ?_
    refine g_getr (k := 1) (j := 3) hx hb hts hown hK hθ hB cf5 (by decide) rfl (by decide) kw_167 rfl rfl dX5_isStream_6 ?_
    refine g_geti (k := 0) hx hb hts hown hK hB cf1 (by decide) rfl (by decide) kw_52 rfl dX5_isStream_9 ?_
    have hr_2 := hR 3 0
    refine z_icmp_ge (tgt := 25) hx hb dX5_isStream_12 (by decide) ⟨by omega, by omega⟩ ⟨by omega, by omega⟩ (fun c_3 => ?_) (fun c_3 => ?_)
    · refine lv_iconst (v := iZ 0) hx hb dX5_isStream_25 rfl ?_
      exact g_zret hx hb hr hlk hB dX5_isStream_26 (by decide) (⟨by omega, rfl, rfl⟩)
    · refine lv_iload_n hx hb dX5_isStream_15 rfl (lv_at hl 1 rfl) ?_
      refine lv_bipush (v := iZ 8) hx hb dX5_isStream_16 (by decide) ?_
      refine z_icmp_ge (tgt := 25) hx hb dX5_isStream_18 (by decide) ⟨by omega, by omega⟩ ⟨by decide, by decide⟩ (fun c_4 => ?_) (fun c_4 => ?_)
      · refine lv_iconst (v := iZ 0) hx hb dX5_isStream_25 rfl ?_
        exact g_zret hx hb hr hlk hB dX5_isStream_26 (by decide) (⟨by omega, rfl, rfl⟩)
      · refine lv_iconst (v := iZ 1) hx hb dX5_isStream_21 rfl ?_
        refine lv_goto (tgt := 26) hx hb dX5_isStream_22 (by decide) ?_
        exact g_zret hx hb hr hlk hB dX5_isStream_26 (by decide) (⟨by omega, rfl, rfl⟩)
set_option maxHeartbeats 4000000 in
set_option maxRecDepth 100000 in
theorem mX5_soundness (l : Launch) (θ : gT) (hθ : gOK θ) (σ : gS) (z : gZ)  : GI l θ yX5_soundness cX5_soundness 1 (some .int) 1 20 [.ref (tad θ 0)] σ z (fun q σ' z' => (((σ 13 0 = -9 ∧ σ 13 1 = 0 ∧ σ 13 2 = -9) ∧ q = 1) ∨ (¬ (σ 13 0 = -9 ∧ σ 13 1 = 0 ∧ σ 13 2 = -9) ∧ q = 0)) ∧ σ' = σ ∧ z' = z) := by
  refine g_enter (ret := (some .int)) (by decide +kernel) (Nat.le_of_ble_eq_true rfl) ?_
  intro p e s m args below meth c ls F hB hl
  obtain ⟨hx, hb, hr, hml, hown, hts, hlk, hK, hst⟩ := F
  have hR := hB.1.2
  have hl : lv_has ls 1 [(0, .ref (tad θ 0))] := hl
  refine lv_aload_n hx hb dX5_soundness_0 rfl (lv_at hl 0 rfl) ?_
  refine g_getr (k := 3) (j := 13) hx hb hts hown hK hθ hB cf5 (by decide) rfl (by decide) kw_169 rfl rfl dX5_soundness_1 ?_
  refine g_calli (g_runV (i := 13) (As := []) (rest := []) hx hb hml hown hts hK hst hB (mX2_isSound l θ hθ σ z ) mv_X2_isSound kw_446 cf2 (by decide) rfl rfl hl.1 rfl (Nat.le_of_ble_eq_true rfl) ⟨by decide, by decide⟩ ⟨Nat.le_refl _, Nat.le_refl _⟩ dX5_soundness_4) hB (fun q_3 σ_1 z_2 H locs hq_3 pq_3 hB => ?_)
  obtain ⟨pq_3, e1_, e2_⟩ := pq_3
  rw [e1_, e2_] at hB
  clear e1_ e2_
  refine z_if_eq (tgt := 14) hx hb dX5_soundness_7 (by decide) ⟨by omega, by omega⟩ (fun c_4 => ?_) (fun c_4 => ?_)
  · refine lv_iconst (v := iZ 0) hx hb dX5_soundness_14 rfl ?_
    exact g_iret hx hb hr hlk hB dX5_soundness_15 ⟨by decide, by decide⟩ (⟨by omega, rfl, rfl⟩)
  · refine lv_iconst (v := iZ 1) hx hb dX5_soundness_10 rfl ?_
    refine lv_goto (tgt := 15) hx hb dX5_soundness_11 (by decide) ?_
    exact g_iret hx hb hr hlk hB dX5_soundness_15 ⟨by decide, by decide⟩ (⟨by omega, rfl, rfl⟩)
set_option maxHeartbeats 4000000 in
set_option maxRecDepth 100000 in
theorem mX5_isEquation (l : Launch) (θ : gT) (hθ : gOK θ) (σ : gS) (z : gZ) (hn8 : 0 ≤ σ 3 0 ∧ σ 3 0 ≤ 8) (K a0 b0 c0 : Int) (hKr : rg K) (har : rg a0) (hbr : rg b0) (hcr : rg c0) : GI l θ yX5_isEquation cX5_isEquation 5 (some .boolean) 3 65 [.ref (tad θ 0), .int (iZ K), .int (iZ a0), .int (iZ b0), .int (iZ c0)] σ z (fun q σ' z' => ((q = 1 ∧ (((0 ≤ K ∧ K ≤ 11) ∧ (0 ≤ a0 ∧ a0 ≤ fgL K 0 (σ 3 0)) ∧ (0 ≤ b0 ∧ b0 ≤ fgL K 1 (σ 3 0)) ∧ (0 ≤ c0 ∧ c0 ≤ fgL K 2 (σ 3 0))))) ∨ (q = 0 ∧ ¬ (((0 ≤ K ∧ K ≤ 11) ∧ (0 ≤ a0 ∧ a0 ≤ fgL K 0 (σ 3 0)) ∧ (0 ≤ b0 ∧ b0 ≤ fgL K 1 (σ 3 0)) ∧ (0 ≤ c0 ∧ c0 ≤ fgL K 2 (σ 3 0)))))) ∧ σ' = σ ∧ z' = z) := by
  refine g_enter (ret := (some .boolean)) (by decide +kernel) (Nat.le_of_ble_eq_true rfl) ?_
  intro p e s m args below meth c ls F hB hl
  obtain ⟨hx, hb, hr, hml, hown, hts, hlk, hK, hst⟩ := F
  have hR := hB.1.2
  have hl : lv_has ls 5 [(0, .ref (tad θ 0)), (1, .int (iZ K)), (2, .int (iZ a0)), (3, .int (iZ b0)), (4, .int (iZ c0))] := hl
  refine lv_iload_n hx hb dX5_isEquation_0 rfl (lv_at hl 1 rfl) ?_
  refine z_if_lt (tgt := 10) hx hb dX5_isEquation_1 (by decide) ⟨by omega, by omega⟩ (fun c_1 => ?_) (fun c_1 => ?_)
  · refine lv_iconst (v := iZ 0) hx hb dX5_isEquation_10 rfl ?_
    exact g_zret hx hb hr hlk hB dX5_isEquation_11 (by decide) (⟨by omega, rfl, rfl⟩)
  · refine lv_iload_n hx hb dX5_isEquation_4 rfl (lv_at hl 1 rfl) ?_
    refine lv_bipush (v := iZ 11) hx hb dX5_isEquation_5 (by decide) ?_
    refine z_icmp_le (tgt := 12) hx hb dX5_isEquation_7 (by decide) ⟨by omega, by omega⟩ ⟨by decide, by decide⟩ (fun c_2 => ?_) (fun c_2 => ?_)
    · refine lv_iload_n hx hb dX5_isEquation_12 rfl (lv_at hl 1 rfl) ?_
      refine lv_iconst (v := iZ 0) hx hb dX5_isEquation_13 rfl ?_
      refine lv_iload_n hx hb dX5_isEquation_14 rfl (lv_at hl 2 rfl) ?_
      refine lv_aload_n hx hb dX5_isEquation_15 rfl (lv_at hl 0 rfl) ?_
      refine g_getr (k := 1) (j := 3) hx hb hts hown hK hθ hB cf5 (by decide) rfl (by decide) kw_167 rfl rfl dX5_isEquation_16 ?_
      refine g_geti (k := 0) hx hb hts hown hK hB cf1 (by decide) rfl (by decide) kw_52 rfl dX5_isEquation_19 ?_
      have hr_3 := hR 3 0
      refine g_calli (g_runS (As := [.int (iZ K), .int (iZ 0), .int (iZ a0), .int (iZ (σ 3 0))]) (rest := []) hx hb hml hown hts hK hst hB (mX5_isFigure l θ hθ σ z K (by omega) 0 (by omega) a0 (σ 3 0) ⟨by omega, by omega⟩ (by omega)) ms_X5_isFigure kw_542 rfl hl.1 rfl (Nat.le_of_ble_eq_true rfl) ⟨by decide, by decide⟩ ⟨Nat.le_refl _, Nat.le_refl _⟩ dX5_isEquation_22) hB (fun q_6 σ_4 z_5 H locs hq_6 pq_6 hB => ?_)
      obtain ⟨pq_6, e1_, e2_⟩ := pq_6
      rw [e1_, e2_] at hB
      clear e1_ e2_
      refine z_if_eq (tgt := 65) hx hb dX5_isEquation_25 (by decide) ⟨by omega, by omega⟩ (fun c_7 => ?_) (fun c_7 => ?_)
      · refine lv_iconst (v := iZ 0) hx hb dX5_isEquation_65 rfl ?_
        exact g_zret hx hb hr hlk hB dX5_isEquation_66 (by decide) (⟨by omega, rfl, rfl⟩)
      · refine lv_iload_n hx hb dX5_isEquation_28 rfl (lv_at hl 1 rfl) ?_
        refine lv_iconst (v := iZ 1) hx hb dX5_isEquation_29 rfl ?_
        refine lv_iload_n hx hb dX5_isEquation_30 rfl (lv_at hl 3 rfl) ?_
        refine lv_aload_n hx hb dX5_isEquation_31 rfl (lv_at hl 0 rfl) ?_
        refine g_getr (k := 1) (j := 3) hx hb hts hown hK hθ hB cf5 (by decide) rfl (by decide) kw_167 rfl rfl dX5_isEquation_32 ?_
        refine g_geti (k := 0) hx hb hts hown hK hB cf1 (by decide) rfl (by decide) kw_52 rfl dX5_isEquation_35 ?_
        have hr_8 := hR 3 0
        refine g_calli (g_runS (As := [.int (iZ K), .int (iZ 1), .int (iZ b0), .int (iZ (σ 3 0))]) (rest := []) hx hb hml hown hts hK hst hB (mX5_isFigure l θ hθ σ z K (by omega) 1 (by omega) b0 (σ 3 0) ⟨by omega, by omega⟩ (by omega)) ms_X5_isFigure kw_542 rfl hl.1 rfl (Nat.le_of_ble_eq_true rfl) ⟨by decide, by decide⟩ ⟨Nat.le_refl _, Nat.le_refl _⟩ dX5_isEquation_38) hB (fun q_11 σ_9 z_10 H locs hq_11 pq_11 hB => ?_)
        obtain ⟨pq_11, e1_, e2_⟩ := pq_11
        rw [e1_, e2_] at hB
        clear e1_ e2_
        refine z_if_eq (tgt := 65) hx hb dX5_isEquation_41 (by decide) ⟨by omega, by omega⟩ (fun c_12 => ?_) (fun c_12 => ?_)
        · refine lv_iconst (v := iZ 0) hx hb dX5_isEquation_65 rfl ?_
          exact g_zret hx hb hr hlk hB dX5_isEquation_66 (by decide) (⟨by omega, rfl, rfl⟩)
        · refine lv_iload_n hx hb dX5_isEquation_44 rfl (lv_at hl 1 rfl) ?_
          refine lv_iconst (v := iZ 2) hx hb dX5_isEquation_45 rfl ?_
          refine lv_iload hx hb dX5_isEquation_46 (lv_at hl 4 rfl) ?_
          refine lv_aload_n hx hb dX5_isEquation_48 rfl (lv_at hl 0 rfl) ?_
          refine g_getr (k := 1) (j := 3) hx hb hts hown hK hθ hB cf5 (by decide) rfl (by decide) kw_167 rfl rfl dX5_isEquation_49 ?_
          refine g_geti (k := 0) hx hb hts hown hK hB cf1 (by decide) rfl (by decide) kw_52 rfl dX5_isEquation_52 ?_
          have hr_13 := hR 3 0
          refine g_calli (g_runS (As := [.int (iZ K), .int (iZ 2), .int (iZ c0), .int (iZ (σ 3 0))]) (rest := []) hx hb hml hown hts hK hst hB (mX5_isFigure l θ hθ σ z K (by omega) 2 (by omega) c0 (σ 3 0) ⟨by omega, by omega⟩ (by omega)) ms_X5_isFigure kw_542 rfl hl.1 rfl (Nat.le_of_ble_eq_true rfl) ⟨by decide, by decide⟩ ⟨Nat.le_refl _, Nat.le_refl _⟩ dX5_isEquation_55) hB (fun q_16 σ_14 z_15 H locs hq_16 pq_16 hB => ?_)
          obtain ⟨pq_16, e1_, e2_⟩ := pq_16
          rw [e1_, e2_] at hB
          clear e1_ e2_
          refine z_if_eq (tgt := 65) hx hb dX5_isEquation_58 (by decide) ⟨by omega, by omega⟩ (fun c_17 => ?_) (fun c_17 => ?_)
          · refine lv_iconst (v := iZ 0) hx hb dX5_isEquation_65 rfl ?_
            exact g_zret hx hb hr hlk hB dX5_isEquation_66 (by decide) (⟨by omega, rfl, rfl⟩)
          · refine lv_iconst (v := iZ 1) hx hb dX5_isEquation_61 rfl ?_
            refine lv_goto (tgt := 66) hx hb dX5_isEquation_62 (by decide) ?_
            exact g_zret hx hb hr hlk hB dX5_isEquation_66 (by decide) (⟨by omega, rfl, rfl⟩)
    · refine lv_iconst (v := iZ 0) hx hb dX5_isEquation_10 rfl ?_
      exact g_zret hx hb hr hlk hB dX5_isEquation_11 (by decide) (⟨by omega, rfl, rfl⟩)
set_option maxHeartbeats 4000000 in
set_option maxRecDepth 100000 in
theorem mX5_write (l : Launch) (θ : gT) (hθ : gOK θ) (σ : gS) (z : gZ) (len : Nat) (hlen : σ 1 1 = (len : Int)) (hl40 : len ≤ 40) (v : Int) (hv : rg v) : GI l θ yX5_write cX5_write 2 (some .int) 1 21 [.ref (tad θ 0), .int (iZ v)] σ z (fun q σ' z' => ((¬ (0 ≤ v ∧ v ≤ 255) ∧ q = -2 ∧ σ' = σ) ∨ ((0 ≤ v ∧ v ≤ 255) ∧ ((len = 40 ∧ q = -4 ∧ σ' = σ) ∨ (len < 40 ∧ q = ((len + 1 : Nat) : Int) ∧ σ' 1 1 = ((len + 1 : Nat) : Int) ∧ σ' 2 = upn (σ 2) len v)))) ∧ fr wTc σ σ' ∧ z' = z) := by
  refine g_enter (ret := (some .int)) (by decide +kernel) (Nat.le_of_ble_eq_true rfl) ?_
  intro p e s m args below meth c ls F hB hl
  obtain ⟨hx, hb, hr, hml, hown, hts, hlk, hK, hst⟩ := F
  have hR := hB.1.2
  have hl : lv_has ls 2 [(0, .ref (tad θ 0)), (1, .int (iZ v))] := hl
  refine lv_iload_n hx hb dX5_write_0 rfl (lv_at hl 1 rfl) ?_
  refine z_if_lt (tgt := 11) hx hb dX5_write_1 (by decide) ⟨by omega, by omega⟩ (fun c_1 => ?_) (fun c_1 => ?_)
  · refine lv_bipush (v := iZ (-2)) hx hb dX5_write_11 (by decide) ?_
    exact g_iret hx hb hr hlk hB dX5_write_13 ⟨by decide, by decide⟩ (⟨Or.inl ⟨by omega, rfl, rfl⟩, fr.rf, rfl⟩)
  · refine lv_iload_n hx hb dX5_write_4 rfl (lv_at hl 1 rfl) ?_
    refine lv_sipush (v := iZ 255) hx hb dX5_write_5 (by decide) ?_
    refine z_icmp_le (tgt := 14) hx hb dX5_write_8 (by decide) ⟨by omega, by omega⟩ ⟨by decide, by decide⟩ (fun c_2 => ?_) (fun c_2 => ?_)
    · refine lv_aload_n hx hb dX5_write_14 rfl (lv_at hl 0 rfl) ?_
      refine g_getr (k := 0) (j := 1) hx hb hts hown hK hθ hB cf5 (by decide) rfl (by decide) kw_166 rfl rfl dX5_write_15 ?_
      refine lv_iload_n hx hb dX5_write_18 rfl (lv_at hl 1 rfl) ?_
      refine g_calli (g_runV (i := 1) (As := [.int (iZ v)]) (rest := []) hx hb hml hown hts hK hst hB (mX4_append l θ hθ σ z len hlen hl40 v hv) mv_X4_append kw_201 cf4 (by decide) rfl rfl hl.1 rfl (Nat.le_of_ble_eq_true rfl) ⟨by decide, by decide⟩ ⟨Nat.le_refl _, Nat.le_refl _⟩ dX5_write_19) hB (fun q1 σ1 z_3 H locs hq1 hp1 hB => ?_)
      obtain ⟨hp1, hf1, e2_⟩ := hp1
      rw [e2_] at hB
      clear e2_
      have hR := hB.1.2
      rcases hp1 with ⟨h40, hq1, hs1⟩ | ⟨h40, hq1, hs1, hs2⟩
      · subst hq1
        refine z_if_eq (tgt := 35) hx hb dX5_write_22 (by decide) ⟨by decide, by decide⟩ (fun c_4 => ?_) (fun c_4 => ?_)
        · refine lv_bipush (v := iZ (-4)) hx hb dX5_write_35 (by decide) ?_
          exact g_iret hx hb hr hlk hB dX5_write_37 ⟨by decide, by decide⟩ (⟨Or.inr ⟨by omega, Or.inl ⟨h40, rfl, hs1⟩⟩, hf1, rfl⟩)
        · exact absurd (by decide) c_4
      · subst hq1
        refine z_if_eq (tgt := 35) hx hb dX5_write_22 (by decide) ⟨by decide, by decide⟩ (fun c_5 => ?_) (fun c_5 => ?_)
        · exact absurd c_5 (by decide)
        · refine lv_aload_n hx hb dX5_write_25 rfl (lv_at hl 0 rfl) ?_
          refine g_getr (k := 0) (j := 1) hx hb hts hown hK hθ hB cf5 (by decide) rfl (by decide) kw_166 rfl rfl dX5_write_26 ?_
          refine g_geti (k := 1) hx hb hts hown hK hB cf4 (by decide) rfl (by decide) kw_33 rfl dX5_write_29 ?_
          refine z_top (b := (((len + 1) : Nat) : Int)) (hs1) ?_
          refine lv_goto (tgt := 37) hx hb dX5_write_32 (by decide) ?_
          exact g_iret hx hb hr hlk hB dX5_write_37 ⟨by omega, by omega⟩ (⟨Or.inr ⟨by omega, Or.inr ⟨h40, rfl, hs1, hs2⟩⟩, hf1, rfl⟩)
    · refine lv_bipush (v := iZ (-2)) hx hb dX5_write_11 (by decide) ?_
      exact g_iret hx hb hr hlk hB dX5_write_13 ⟨by decide, by decide⟩ (⟨Or.inl ⟨by omega, rfl, rfl⟩, fr.rf, rfl⟩)
set_option maxHeartbeats 4000000 in
set_option maxRecDepth 100000 in
theorem mX5_wipe (l : Launch) (θ : gT) (hθ : gOK θ) (σ : gS) (z : gZ)  : GI l θ yX5_wipe cX5_wipe 2 (some .int) 0 0 [.ref (tad θ 0)] σ z (fun q σ' z' => (q = σ 1 1 ∧ σ' = up2 σ 1 1 0) ∧ z' = z) := by
  refine g_enter (ret := (some .int)) (by decide +kernel) (Nat.le_of_ble_eq_true rfl) ?_
  intro p e s m args below meth c ls F hB hl
  obtain ⟨hx, hb, hr, hml, hown, hts, hlk, hK, hst⟩ := F
  have hR := hB.1.2
  have hl : lv_has ls 2 [(0, .ref (tad θ 0))] := hl
  refine lv_aload_n hx hb dX5_wipe_0 rfl (lv_at hl 0 rfl) ?_
  refine g_getr (k := 0) (j := 1) hx hb hts hown hK hθ hB cf5 (by decide) rfl (by decide) kw_166 rfl rfl dX5_wipe_1 ?_
  refine g_geti (k := 1) hx hb hts hown hK hB cf4 (by decide) rfl (by decide) kw_33 rfl dX5_wipe_4 ?_
  have hr_1 := hR 1 1
  refine lv_istore_n (lv' := [(1, .int (iZ (σ 1 1))), (0, .ref (tad θ 0))]) hx hb dX5_wipe_7 rfl hl (by decide) rfl (fun ls hl => ?_)
  refine lv_aload_n hx hb dX5_wipe_8 rfl (lv_at hl 1 rfl) ?_
  refine g_getr (k := 0) (j := 1) hx hb hts hown hK hθ hB cf5 (by decide) rfl (by decide) kw_166 rfl rfl dX5_wipe_9 ?_
  refine lv_iconst (v := iZ 0) hx hb dX5_wipe_12 rfl ?_
  refine g_putI (k := 1) hx hb hts hown hK hθ hB cf4 tyX4 tyX4_ok (by decide) rfl (by decide) kw_33 rfl rfl rfl ⟨by decide, by decide⟩ dX5_wipe_13 (fun H locs hB => ?_)
  obtain ⟨σ1, hσ1⟩ : ∃ x_ : gS, x_ = up2 σ 1 1 0 := ⟨_, rfl⟩
  rw [← hσ1] at hB
  have hR := hB.1.2
  refine lv_iload_n hx hb dX5_wipe_16 rfl (lv_at hl 0 rfl) ?_
  exact g_iret hx hb hr hlk hB dX5_wipe_17 ⟨by omega, by omega⟩ (⟨⟨rfl, hσ1⟩, rfl⟩)
set_option maxHeartbeats 4000000 in
set_option maxRecDepth 100000 in
theorem mX5_about (l : Launch) (θ : gT) (hθ : gOK θ) (σ : gS) (z : gZ) (y : Int) (hyr : rg y) : GI l θ yX5_about cX5_about 2 (some .int) 2 40 [.ref (tad θ 0), .int (iZ y)] σ z (fun q σ' z' => ((y = 0 ∧ q = σ 3 0) ∨ (y = 1 ∧ q = σ 13 0) ∨ (y = 2 ∧ q = σ 13 1) ∨ (y = 3 ∧ q = σ 13 2) ∨ (y = 4 ∧ (((σ 13 0 = -9 ∧ σ 13 1 = 0 ∧ σ 13 2 = -9) ∧ q = 1) ∨ (¬ (σ 13 0 = -9 ∧ σ 13 1 = 0 ∧ σ 13 2 = -9) ∧ q = 0))) ∨ (y = 5 ∧ q = σ 3 1) ∨ (y = 6 ∧ q = ((tbC (fp σ 3) 8 : Nat) : Int)) ∨ (y = 7 ∧ q = σ 21 0) ∨ (y = 8 ∧ q = σ 93 0) ∨ (y = 9 ∧ q = σ 1 1) ∨ ((y < 0 ∨ 9 < y) ∧ q = -2)) ∧ σ' = σ ∧ z' = z) := by
  refine g_enter (ret := (some .int)) (by decide +kernel) (Nat.le_of_ble_eq_true rfl) ?_
  intro p e s m args below meth c ls F hB hl
  obtain ⟨hx, hb, hr, hml, hown, hts, hlk, hK, hst⟩ := F
  have hR := hB.1.2
  have hl : lv_has ls 2 [(0, .ref (tad θ 0)), (1, .int (iZ y))] := hl
  have htb := tbC_256 (fp σ 3) (Nat.le_refl 8)
  refine lv_iload_n hx hb dX5_about_0 rfl (lv_at hl 1 rfl) ?_
  rcases (show (y < 0 ∨ 9 < y) ∨ y = 0 ∨ y = 1 ∨ y = 2 ∨ y = 3 ∨ y = 4 ∨ y = 5 ∨ y = 6 ∨ y = 7 ∨ y = 8 ∨ y = 9 by omega) with c_1 | c_1 | c_1 | c_1 | c_1 | c_1 | c_1 | c_1 | c_1 | c_1 | c_1
  · refine z_tabOut (tgt := 133) hx hb dX5_about_1 ⟨by omega, by omega⟩ c_1 (by decide) ?_
    have hxk := c_1
    refine lv_bipush (v := iZ (-2)) hx hb dX5_about_133 (by decide) ?_
    exact g_iret hx hb hr hlk hB dX5_about_135 ⟨by decide, by decide⟩ (⟨by right; right; right; right; right; right; right; right; right; right; exact ⟨hxk, rfl⟩, rfl, rfl⟩)
  · refine z_tabIn (v := 0) (off := 55) (tgt := 56) hx hb dX5_about_1 c_1 ⟨by decide, by decide⟩ (by decide) (by decide) rfl (by decide) ?_
    have hxk := c_1
    refine lv_aload_n hx hb dX5_about_56 rfl (lv_at hl 0 rfl) ?_
    refine g_getr (k := 1) (j := 3) hx hb hts hown hK hθ hB cf5 (by decide) rfl (by decide) kw_167 rfl rfl dX5_about_57 ?_
    refine g_geti (k := 0) hx hb hts hown hK hB cf1 (by decide) rfl (by decide) kw_52 rfl dX5_about_60 ?_
    have hr_2 := hR 3 0
    exact g_iret hx hb hr hlk hB dX5_about_63 ⟨by omega, by omega⟩ (⟨by left; exact ⟨hxk, rfl⟩, rfl, rfl⟩)
  · refine z_tabIn (v := 1) (off := 63) (tgt := 64) hx hb dX5_about_1 c_1 ⟨by decide, by decide⟩ (by decide) (by decide) rfl (by decide) ?_
    have hxk := c_1
    refine lv_aload_n hx hb dX5_about_64 rfl (lv_at hl 0 rfl) ?_
    refine g_getr (k := 3) (j := 13) hx hb hts hown hK hθ hB cf5 (by decide) rfl (by decide) kw_169 rfl rfl dX5_about_65 ?_
    refine g_geti (k := 0) hx hb hts hown hK hB cf2 (by decide) rfl (by decide) kw_80 rfl dX5_about_68 ?_
    have hr_3 := hR 13 0
    exact g_iret hx hb hr hlk hB dX5_about_71 ⟨by omega, by omega⟩ (⟨by right; left; exact ⟨hxk, rfl⟩, rfl, rfl⟩)
  · refine z_tabIn (v := 2) (off := 71) (tgt := 72) hx hb dX5_about_1 c_1 ⟨by decide, by decide⟩ (by decide) (by decide) rfl (by decide) ?_
    have hxk := c_1
    refine lv_aload_n hx hb dX5_about_72 rfl (lv_at hl 0 rfl) ?_
    refine g_getr (k := 3) (j := 13) hx hb hts hown hK hθ hB cf5 (by decide) rfl (by decide) kw_169 rfl rfl dX5_about_73 ?_
    refine g_geti (k := 1) hx hb hts hown hK hB cf2 (by decide) rfl (by decide) kw_82 rfl dX5_about_76 ?_
    have hr_4 := hR 13 1
    exact g_iret hx hb hr hlk hB dX5_about_79 ⟨by omega, by omega⟩ (⟨by right; right; left; exact ⟨hxk, rfl⟩, rfl, rfl⟩)
  · refine z_tabIn (v := 3) (off := 79) (tgt := 80) hx hb dX5_about_1 c_1 ⟨by decide, by decide⟩ (by decide) (by decide) rfl (by decide) ?_
    have hxk := c_1
    refine lv_aload_n hx hb dX5_about_80 rfl (lv_at hl 0 rfl) ?_
    refine g_getr (k := 3) (j := 13) hx hb hts hown hK hθ hB cf5 (by decide) rfl (by decide) kw_169 rfl rfl dX5_about_81 ?_
    refine g_geti (k := 2) hx hb hts hown hK hB cf2 (by decide) rfl (by decide) kw_84 rfl dX5_about_84 ?_
    have hr_5 := hR 13 2
    exact g_iret hx hb hr hlk hB dX5_about_87 ⟨by omega, by omega⟩ (⟨by right; right; right; left; exact ⟨hxk, rfl⟩, rfl, rfl⟩)
  · refine z_tabIn (v := 4) (off := 87) (tgt := 88) hx hb dX5_about_1 c_1 ⟨by decide, by decide⟩ (by decide) (by decide) rfl (by decide) ?_
    have hxk := c_1
    refine lv_aload_n hx hb dX5_about_88 rfl (lv_at hl 0 rfl) ?_
    refine g_calli (g_runV (i := 0) (As := []) (rest := []) hx hb hml hown hts hK hst hB (mX5_soundness l θ hθ σ z ) mv_X5_soundness kw_442 cf5 (by decide) rfl rfl hl.1 rfl (Nat.le_of_ble_eq_true rfl) ⟨by decide, by decide⟩ ⟨Nat.le_refl _, Nat.le_refl _⟩ dX5_about_89) hB (fun q_8 σ_6 z_7 H locs hq_8 pq_8 hB => ?_)
    obtain ⟨pq_8, e1_, e2_⟩ := pq_8
    rw [e1_, e2_] at hB
    clear e1_ e2_
    exact g_iret hx hb hr hlk hB dX5_about_92 ⟨by omega, by omega⟩ (⟨by right; right; right; right; left; exact ⟨hxk, by omega⟩, rfl, rfl⟩)
  · refine z_tabIn (v := 5) (off := 92) (tgt := 93) hx hb dX5_about_1 c_1 ⟨by decide, by decide⟩ (by decide) (by decide) rfl (by decide) ?_
    have hxk := c_1
    refine lv_aload_n hx hb dX5_about_93 rfl (lv_at hl 0 rfl) ?_
    refine g_getr (k := 1) (j := 3) hx hb hts hown hK hθ hB cf5 (by decide) rfl (by decide) kw_167 rfl rfl dX5_about_94 ?_
    refine g_geti (k := 1) hx hb hts hown hK hB cf1 (by decide) rfl (by decide) kw_54 rfl dX5_about_97 ?_
    have hr_9 := hR 3 1
    exact g_iret hx hb hr hlk hB dX5_about_100 ⟨by omega, by omega⟩ (⟨by right; right; right; right; right; left; exact ⟨hxk, rfl⟩, rfl, rfl⟩)
  · refine z_tabIn (v := 6) (off := 100) (tgt := 101) hx hb dX5_about_1 c_1 ⟨by decide, by decide⟩ (by decide) (by decide) rfl (by decide) ?_
    have hxk := c_1
    refine lv_aload_n hx hb dX5_about_101 rfl (lv_at hl 0 rfl) ?_
    refine g_getr (k := 1) (j := 3) hx hb hts hown hK hθ hB cf5 (by decide) rfl (by decide) kw_167 rfl rfl dX5_about_102 ?_
    refine g_calli (g_runV (i := 3) (As := []) (rest := []) hx hb hml hown hts hK hst hB (mX1_thereBits l θ hθ σ z 3 isF_3) mv_X1_thereBits kw_454 cf1 (by decide) rfl rfl hl.1 rfl (Nat.le_of_ble_eq_true rfl) ⟨by decide, by decide⟩ ⟨Nat.le_refl _, Nat.le_refl _⟩ dX5_about_105) hB (fun q_12 σ_10 z_11 H locs hq_12 pq_12 hB => ?_)
    obtain ⟨pq_12, e1_, e2_⟩ := pq_12
    rw [e1_, e2_] at hB
    clear e1_ e2_
    subst pq_12
    exact g_iret hx hb hr hlk hB dX5_about_108 ⟨by omega, by omega⟩ (⟨by right; right; right; right; right; right; left; exact ⟨hxk, rfl⟩, rfl, rfl⟩)
  · refine z_tabIn (v := 7) (off := 108) (tgt := 109) hx hb dX5_about_1 c_1 ⟨by decide, by decide⟩ (by decide) (by decide) rfl (by decide) ?_
    have hxk := c_1
    refine lv_aload_n hx hb dX5_about_109 rfl (lv_at hl 0 rfl) ?_
    refine g_getr (k := 4) (j := 21) hx hb hts hown hK hθ hB cf5 (by decide) rfl (by decide) kw_170 rfl rfl dX5_about_110 ?_
    refine g_geti (k := 0) hx hb hts hown hK hB cf0 (by decide) rfl (by decide) kw_132 rfl dX5_about_113 ?_
    have hr_13 := hR 21 0
    exact g_iret hx hb hr hlk hB dX5_about_116 ⟨by omega, by omega⟩ (⟨by right; right; right; right; right; right; right; left; exact ⟨hxk, rfl⟩, rfl, rfl⟩)
  · refine z_tabIn (v := 8) (off := 116) (tgt := 117) hx hb dX5_about_1 c_1 ⟨by decide, by decide⟩ (by decide) (by decide) rfl (by decide) ?_
    have hxk := c_1
    refine lv_aload_n hx hb dX5_about_117 rfl (lv_at hl 0 rfl) ?_
    refine g_getr (k := 5) (j := 93) hx hb hts hown hK hθ hB cf5 (by decide) rfl (by decide) kw_171 rfl rfl dX5_about_118 ?_
    refine g_geti (k := 0) hx hb hts hown hK hB cf3 (by decide) rfl (by decide) kw_149 rfl dX5_about_121 ?_
    have hr_14 := hR 93 0
    exact g_iret hx hb hr hlk hB dX5_about_124 ⟨by omega, by omega⟩ (⟨by right; right; right; right; right; right; right; right; left; exact ⟨hxk, rfl⟩, rfl, rfl⟩)
  · refine z_tabIn (v := 9) (off := 124) (tgt := 125) hx hb dX5_about_1 c_1 ⟨by decide, by decide⟩ (by decide) (by decide) rfl (by decide) ?_
    have hxk := c_1
    refine lv_aload_n hx hb dX5_about_125 rfl (lv_at hl 0 rfl) ?_
    refine g_getr (k := 0) (j := 1) hx hb hts hown hK hθ hB cf5 (by decide) rfl (by decide) kw_166 rfl rfl dX5_about_126 ?_
    refine g_geti (k := 1) hx hb hts hown hK hB cf4 (by decide) rfl (by decide) kw_33 rfl dX5_about_129 ?_
    have hr_15 := hR 1 1
    exact g_iret hx hb hr hlk hB dX5_about_132 ⟨by omega, by omega⟩ (⟨by right; right; right; right; right; right; right; right; right; left; exact ⟨hxk, rfl⟩, rfl, rfl⟩)
set_option maxHeartbeats 4000000 in
set_option maxRecDepth 100000 in
theorem mX5_stream (l : Launch) (θ : gT) (hθ : gOK θ) (σ : gS) (z : gZ) (hn8 : 0 ≤ σ 3 0 ∧ σ 3 0 ≤ 8) (x9 y : Int) (hxr : rg x9) (hyr : rg y) : GI l θ yX5_stream cX5_stream 3 (some .int) 1 21 [.ref (tad θ 0), .int (iZ x9), .int (iZ y)] σ z (fun q σ' z' => ((¬ (0 ≤ x9 ∧ x9 < σ 3 0) ∧ q = -1) ∨ ∃ s0 : Nat, x9 = (s0 : Int) ∧ (s0 : Int) < σ 3 0 ∧ ((y = 0 ∧ q = fp σ 3 (1 + s0)) ∨ (y = 1 ∧ ((σ 13 0 = -9 ∧ q = σ 17 s0) ∨ (σ 13 0 ≠ -9 ∧ q = -9))) ∨ (y = 2 ∧ ((σ 13 0 = -9 ∧ q = σ 18 s0) ∨ (σ 13 0 ≠ -9 ∧ q = -9))) ∨ (y = 3 ∧ ((σ 13 0 = -9 ∧ q = σ 20 s0) ∨ (σ 13 0 ≠ -9 ∧ q = -9))) ∨ (y = 4 ∧ q = fp σ 3 (41 + s0)) ∨ ((y < 0 ∨ 4 < y) ∧ q = -2))) ∧ σ' = σ ∧ z' = z) := by
  refine g_enter (ret := (some .int)) (by decide +kernel) (Nat.le_of_ble_eq_true rfl) ?_
  intro p e s m args below meth c ls F hB hl
  obtain ⟨hx, hb, hr, hml, hown, hts, hlk, hK, hst⟩ := F
  have hR := hB.1.2
  have hl : lv_has ls 3 [(0, .ref (tad θ 0)), (1, .int (iZ x9)), (2, .int (iZ y))] := hl
  refine lv_aload_n hx hb dX5_stream_0 rfl (lv_at hl 0 rfl) ?_
  refine lv_iload_n hx hb dX5_stream_1 rfl (lv_at hl 1 rfl) ?_
  refine g_calli (g_runV (i := 0) (As := [.int (iZ x9)]) (rest := []) hx hb hml hown hts hK hst hB (mX5_isStream l θ hθ σ z (by omega) x9 ⟨by omega, by omega⟩) mv_X5_isStream kw_462 cf5 (by decide) rfl rfl hl.1 rfl (Nat.le_of_ble_eq_true rfl) ⟨by decide, by decide⟩ ⟨Nat.le_refl _, Nat.le_refl _⟩ dX5_stream_2) hB (fun qi σ_1 z_2 H locs hqi hpi hB => ?_)
  obtain ⟨hpi, e1_, e2_⟩ := hpi
  rw [e1_, e2_] at hB
  clear e1_ e2_
  refine z_if_ne (tgt := 10) hx hb dX5_stream_5 (by decide) ⟨by omega, by omega⟩ (fun c_3 => ?_) (fun c_3 => ?_)
  · obtain ⟨s0, hs0⟩ : ∃ s0 : Nat, x9 = (s0 : Int) := ⟨x9.toNat, by omega⟩
    have hs8 : s0 < 8 := by omega
    have hl : lv_has ls 3 [(0, .ref (tad θ 0)), (1, .int (iZ ((s0 : Nat) : Int))), (2, .int (iZ y))] := by rw [hs0] at hl; exact hl
    refine lv_iload_n hx hb dX5_stream_10 rfl (lv_at hl 2 rfl) ?_
    rcases (show (y < 0 ∨ 4 < y) ∨ y = 0 ∨ y = 1 ∨ y = 2 ∨ y = 3 ∨ y = 4 by omega) with c_4 | c_4 | c_4 | c_4 | c_4 | c_4
    · refine z_tabOut (tgt := 143) hx hb dX5_stream_11 ⟨by omega, by omega⟩ c_4 (by decide) ?_
      have hxk := c_4
      refine lv_bipush (v := iZ (-2)) hx hb dX5_stream_143 (by decide) ?_
      exact g_iret hx hb hr hlk hB dX5_stream_145 ⟨by decide, by decide⟩ (⟨Or.inr ⟨s0, hs0, by omega, Or.inr (Or.inr (Or.inr (Or.inr (Or.inr ⟨hxk, rfl⟩))))⟩, rfl, rfl⟩)
    · refine z_tabIn (v := 0) (off := 33) (tgt := 44) hx hb dX5_stream_11 c_4 ⟨by decide, by decide⟩ (by decide) (by decide) rfl (by decide) ?_
      have hxk := c_4
      refine lv_aload_n hx hb dX5_stream_44 rfl (lv_at hl 0 rfl) ?_
      refine g_getr (k := 1) (j := 3) hx hb hts hown hK hθ hB cf5 (by decide) rfl (by decide) kw_167 rfl rfl dX5_stream_45 ?_
      refine lv_iload_n hx hb dX5_stream_48 rfl (lv_at hl 1 rfl) ?_
      refine g_calli (g_runV (i := 3) (As := [.int (iZ ((s0 : Nat) : Int))]) (rest := []) hx hb hml hown hts hK hst hB (mX1_kindOf l θ hθ σ z 3 isF_3 s0 (by omega)) mv_X1_kindOf kw_466 cf1 (by decide) rfl rfl hl.1 rfl (Nat.le_of_ble_eq_true rfl) ⟨by decide, by decide⟩ ⟨Nat.le_refl _, Nat.le_refl _⟩ dX5_stream_49) hB (fun q_7 σ_5 z_6 H locs hq_7 pq_7 hB => ?_)
      obtain ⟨pq_7, e1_, e2_⟩ := pq_7
      rw [e1_, e2_] at hB
      clear e1_ e2_
      subst pq_7
      exact g_iret hx hb hr hlk hB dX5_stream_52 ⟨by omega, by omega⟩ (⟨Or.inr ⟨s0, hs0, by omega, Or.inl ⟨hxk, rfl⟩⟩, rfl, rfl⟩)
    · refine z_tabIn (v := 1) (off := 42) (tgt := 53) hx hb dX5_stream_11 c_4 ⟨by decide, by decide⟩ (by decide) (by decide) rfl (by decide) ?_
      have hxk := c_4
      refine lv_aload_n hx hb dX5_stream_53 rfl (lv_at hl 0 rfl) ?_
      refine g_getr (k := 3) (j := 13) hx hb hts hown hK hθ hB cf5 (by decide) rfl (by decide) kw_169 rfl rfl dX5_stream_54 ?_
      refine g_geti (k := 0) hx hb hts hown hK hB cf2 (by decide) rfl (by decide) kw_80 rfl dX5_stream_57 ?_
      have hr_8 := hR 13 0
      refine lv_bipush (v := iZ (-9)) hx hb dX5_stream_60 (by decide) ?_
      refine z_icmp_ne (tgt := 77) hx hb dX5_stream_62 (by decide) ⟨by omega, by omega⟩ ⟨by decide, by decide⟩ (fun c_9 => ?_) (fun c_9 => ?_)
      · refine lv_bipush (v := iZ (-9)) hx hb dX5_stream_77 (by decide) ?_
        exact g_iret hx hb hr hlk hB dX5_stream_79 ⟨by decide, by decide⟩ (⟨Or.inr ⟨s0, hs0, by omega, Or.inr (Or.inl ⟨hxk, by omega⟩)⟩, rfl, rfl⟩)
      · refine lv_aload_n hx hb dX5_stream_65 rfl (lv_at hl 0 rfl) ?_
        refine g_getr (k := 3) (j := 13) hx hb hts hown hK hθ hB cf5 (by decide) rfl (by decide) kw_169 rfl rfl dX5_stream_66 ?_
        refine g_getr (k := 7) (j := 17) hx hb hts hown hK hθ hB cf2 (by decide) rfl (by decide) kw_92 rfl rfl dX5_stream_69 ?_
        refine lv_iload_n hx hb dX5_stream_72 rfl (lv_at hl 1 rfl) ?_
        refine g_iald (k := s0) hx hb hK hB (by decide) rfl (by omega) (Nat.lt_of_lt_of_eq (by omega : s0 < 8) (Eq.symm rfl)) (by decide) dX5_stream_73 ?_
        have hr_10 := hR 17 s0
        refine lv_goto (tgt := 79) hx hb dX5_stream_74 (by decide) ?_
        exact g_iret hx hb hr hlk hB dX5_stream_79 ⟨by omega, by omega⟩ (⟨Or.inr ⟨s0, hs0, by omega, Or.inr (Or.inl ⟨hxk, by omega⟩)⟩, rfl, rfl⟩)
    · refine z_tabIn (v := 2) (off := 69) (tgt := 80) hx hb dX5_stream_11 c_4 ⟨by decide, by decide⟩ (by decide) (by decide) rfl (by decide) ?_
      have hxk := c_4
      refine lv_aload_n hx hb dX5_stream_80 rfl (lv_at hl 0 rfl) ?_
      refine g_getr (k := 3) (j := 13) hx hb hts hown hK hθ hB cf5 (by decide) rfl (by decide) kw_169 rfl rfl dX5_stream_81 ?_
      refine g_geti (k := 0) hx hb hts hown hK hB cf2 (by decide) rfl (by decide) kw_80 rfl dX5_stream_84 ?_
      have hr_11 := hR 13 0
      refine lv_bipush (v := iZ (-9)) hx hb dX5_stream_87 (by decide) ?_
      refine z_icmp_ne (tgt := 104) hx hb dX5_stream_89 (by decide) ⟨by omega, by omega⟩ ⟨by decide, by decide⟩ (fun c_12 => ?_) (fun c_12 => ?_)
      · refine lv_bipush (v := iZ (-9)) hx hb dX5_stream_104 (by decide) ?_
        exact g_iret hx hb hr hlk hB dX5_stream_106 ⟨by decide, by decide⟩ (⟨Or.inr ⟨s0, hs0, by omega, Or.inr (Or.inr (Or.inl ⟨hxk, by omega⟩))⟩, rfl, rfl⟩)
      · refine lv_aload_n hx hb dX5_stream_92 rfl (lv_at hl 0 rfl) ?_
        refine g_getr (k := 3) (j := 13) hx hb hts hown hK hθ hB cf5 (by decide) rfl (by decide) kw_169 rfl rfl dX5_stream_93 ?_
        refine g_getr (k := 8) (j := 18) hx hb hts hown hK hθ hB cf2 (by decide) rfl (by decide) kw_94 rfl rfl dX5_stream_96 ?_
        refine lv_iload_n hx hb dX5_stream_99 rfl (lv_at hl 1 rfl) ?_
        refine g_iald (k := s0) hx hb hK hB (by decide) rfl (by omega) (Nat.lt_of_lt_of_eq (by omega : s0 < 8) (Eq.symm rfl)) (by decide) dX5_stream_100 ?_
        have hr_13 := hR 18 s0
        refine lv_goto (tgt := 106) hx hb dX5_stream_101 (by decide) ?_
        exact g_iret hx hb hr hlk hB dX5_stream_106 ⟨by omega, by omega⟩ (⟨Or.inr ⟨s0, hs0, by omega, Or.inr (Or.inr (Or.inl ⟨hxk, by omega⟩))⟩, rfl, rfl⟩)
    · refine z_tabIn (v := 3) (off := 96) (tgt := 107) hx hb dX5_stream_11 c_4 ⟨by decide, by decide⟩ (by decide) (by decide) rfl (by decide) ?_
      have hxk := c_4
      refine lv_aload_n hx hb dX5_stream_107 rfl (lv_at hl 0 rfl) ?_
      refine g_getr (k := 3) (j := 13) hx hb hts hown hK hθ hB cf5 (by decide) rfl (by decide) kw_169 rfl rfl dX5_stream_108 ?_
      refine g_geti (k := 0) hx hb hts hown hK hB cf2 (by decide) rfl (by decide) kw_80 rfl dX5_stream_111 ?_
      have hr_14 := hR 13 0
      refine lv_bipush (v := iZ (-9)) hx hb dX5_stream_114 (by decide) ?_
      refine z_icmp_ne (tgt := 131) hx hb dX5_stream_116 (by decide) ⟨by omega, by omega⟩ ⟨by decide, by decide⟩ (fun c_15 => ?_) (fun c_15 => ?_)
      · refine lv_bipush (v := iZ (-9)) hx hb dX5_stream_131 (by decide) ?_
        exact g_iret hx hb hr hlk hB dX5_stream_133 ⟨by decide, by decide⟩ (⟨Or.inr ⟨s0, hs0, by omega, Or.inr (Or.inr (Or.inr (Or.inl ⟨hxk, by omega⟩)))⟩, rfl, rfl⟩)
      · refine lv_aload_n hx hb dX5_stream_119 rfl (lv_at hl 0 rfl) ?_
        refine g_getr (k := 3) (j := 13) hx hb hts hown hK hθ hB cf5 (by decide) rfl (by decide) kw_169 rfl rfl dX5_stream_120 ?_
        refine g_getr (k := 10) (j := 20) hx hb hts hown hK hθ hB cf2 (by decide) rfl (by decide) kw_98 rfl rfl dX5_stream_123 ?_
        refine lv_iload_n hx hb dX5_stream_126 rfl (lv_at hl 1 rfl) ?_
        refine g_iald (k := s0) hx hb hK hB (by decide) rfl (by omega) (Nat.lt_of_lt_of_eq (by omega : s0 < 8) (Eq.symm rfl)) (by decide) dX5_stream_127 ?_
        have hr_16 := hR 20 s0
        refine lv_goto (tgt := 133) hx hb dX5_stream_128 (by decide) ?_
        exact g_iret hx hb hr hlk hB dX5_stream_133 ⟨by omega, by omega⟩ (⟨Or.inr ⟨s0, hs0, by omega, Or.inr (Or.inr (Or.inr (Or.inl ⟨hxk, by omega⟩)))⟩, rfl, rfl⟩)
    · refine z_tabIn (v := 4) (off := 123) (tgt := 134) hx hb dX5_stream_11 c_4 ⟨by decide, by decide⟩ (by decide) (by decide) rfl (by decide) ?_
      have hxk := c_4
      refine lv_aload_n hx hb dX5_stream_134 rfl (lv_at hl 0 rfl) ?_
      refine g_getr (k := 1) (j := 3) hx hb hts hown hK hθ hB cf5 (by decide) rfl (by decide) kw_167 rfl rfl dX5_stream_135 ?_
      refine lv_iload_n hx hb dX5_stream_138 rfl (lv_at hl 1 rfl) ?_
      refine g_calli (g_runV (i := 3) (As := [.int (iZ ((s0 : Nat) : Int))]) (rest := []) hx hb hml hown hts hK hst hB (mX1_valueOf l θ hθ σ z 3 isF_3 ((s0 : Nat) : Int) (show rg _ from ⟨by omega, by omega⟩)) mv_X1_valueOf kw_467 cf1 (by decide) rfl rfl hl.1 rfl (Nat.le_of_ble_eq_true rfl) ⟨by decide, by decide⟩ ⟨Nat.le_refl _, Nat.le_refl _⟩ dX5_stream_139) hB (fun q_19 σ_17 z_18 H locs hq_19 pq_19 hB => ?_)
      obtain ⟨pq_19, e1_, e2_⟩ := pq_19
      rw [e1_, e2_] at hB
      clear e1_ e2_
      subst pq_19
      exact g_iret hx hb hr hlk hB dX5_stream_142 ⟨by omega, by omega⟩ (⟨Or.inr ⟨s0, hs0, by omega, Or.inr (Or.inr (Or.inr (Or.inr (Or.inl ⟨hxk, vc_n _ hs8⟩))))⟩, rfl, rfl⟩)
  · refine lv_iconst (v := iZ (-1)) hx hb dX5_stream_8 rfl ?_
    exact g_iret hx hb hr hlk hB dX5_stream_9 ⟨by decide, by decide⟩ (⟨Or.inl ⟨by omega, rfl⟩, rfl, rfl⟩)
set_option maxHeartbeats 4000000 in
set_option maxRecDepth 100000 in
theorem mX5_figure (l : Launch) (θ : gT) (hθ : gOK θ) (σ : gS) (z : gZ) (N : Nat) (hG : cW (fp σ 3) N) (x9 y : Int) (hxr : rg x9) (hyr : rg y) : GI l θ yX5_figure cX5_figure 3 (some .int) 1 22 [.ref (tad θ 0), .int (iZ x9), .int (iZ y)] σ z (fun q σ' z' => ((¬ (0 ≤ x9 ∧ x9 < σ 3 0) ∧ q = -1) ∨ ∃ s0 : Nat, x9 = (s0 : Int) ∧ (s0 : Int) < σ 3 0 ∧ ((¬ (0 ≤ y ∧ y < ((fgz (fp σ 3 (1 + s0)) : Nat) : Int)) ∧ q = -1) ∨ ((0 ≤ y ∧ y < ((fgz (fp σ 3 (1 + s0)) : Nat) : Int)) ∧ q = fp σ 3 (9 + 3 * s0 + y.toNat)))) ∧ σ' = σ ∧ z' = z) := by
  refine g_enter (ret := (some .int)) (by decide +kernel) (Nat.le_of_ble_eq_true rfl) ?_
  intro p e s m args below meth c ls F hB hl
  obtain ⟨hx, hb, hr, hml, hown, hts, hlk, hK, hst⟩ := F
  have hR := hB.1.2
  have hl : lv_has ls 3 [(0, .ref (tad θ 0)), (1, .int (iZ x9)), (2, .int (iZ y))] := hl
  have hN8 := hG.2.1
  have h00 : σ 3 0 = (N : Int) := hG.1
  refine lv_aload_n hx hb dX5_figure_0 rfl (lv_at hl 0 rfl) ?_
  refine lv_iload_n hx hb dX5_figure_1 rfl (lv_at hl 1 rfl) ?_
  refine g_calli (g_runV (i := 0) (As := [.int (iZ x9)]) (rest := []) hx hb hml hown hts hK hst hB (mX5_isStream l θ hθ σ z (by omega) x9 ⟨by omega, by omega⟩) mv_X5_isStream kw_462 cf5 (by decide) rfl rfl hl.1 rfl (Nat.le_of_ble_eq_true rfl) ⟨by decide, by decide⟩ ⟨Nat.le_refl _, Nat.le_refl _⟩ dX5_figure_2) hB (fun qi σ_1 z_2 H locs hqi hpi hB => ?_)
  obtain ⟨hpi, e1_, e2_⟩ := hpi
  rw [e1_, e2_] at hB
  clear e1_ e2_
  refine z_if_eq (tgt := 27) hx hb dX5_figure_5 (by decide) ⟨by omega, by omega⟩ (fun c_3 => ?_) (fun c_3 => ?_)
  · refine lv_iconst (v := iZ (-1)) hx hb dX5_figure_27 rfl ?_
    exact g_iret hx hb hr hlk hB dX5_figure_28 ⟨by decide, by decide⟩ (⟨Or.inl ⟨by omega, rfl⟩, rfl, rfl⟩)
  · obtain ⟨s0, hs0⟩ : ∃ s0 : Nat, x9 = (s0 : Int) := ⟨x9.toNat, by omega⟩
    have hs8 : s0 < 8 := by omega
    have hKk := (hG.2.2 s0 (by omega)).1
    have hfz := fgz_in (fp σ 3 (1 + s0))
    have hl : lv_has ls 3 [(0, .ref (tad θ 0)), (1, .int (iZ ((s0 : Nat) : Int))), (2, .int (iZ y))] := by rw [hs0] at hl; exact hl
    refine lv_iload_n hx hb dX5_figure_8 rfl (lv_at hl 2 rfl) ?_
    refine z_if_lt (tgt := 27) hx hb dX5_figure_9 (by decide) ⟨by omega, by omega⟩ (fun c_4 => ?_) (fun c_4 => ?_)
    · refine lv_iconst (v := iZ (-1)) hx hb dX5_figure_27 rfl ?_
      exact g_iret hx hb hr hlk hB dX5_figure_28 ⟨by decide, by decide⟩ (⟨Or.inr ⟨s0, hs0, by omega, Or.inl ⟨by omega, rfl⟩⟩, rfl, rfl⟩)
    · refine lv_iload_n hx hb dX5_figure_12 rfl (lv_at hl 2 rfl) ?_
      refine lv_aload_n hx hb dX5_figure_13 rfl (lv_at hl 0 rfl) ?_
      refine g_getr (k := 1) (j := 3) hx hb hts hown hK hθ hB cf5 (by decide) rfl (by decide) kw_167 rfl rfl dX5_figure_14 ?_
      refine lv_iload_n hx hb dX5_figure_17 rfl (lv_at hl 1 rfl) ?_
      refine g_calli (g_runV (i := 3) (As := [.int (iZ ((s0 : Nat) : Int))]) (rest := [.int (iZ y)]) hx hb hml hown hts hK hst hB (mX1_kindOf l θ hθ σ z 3 isF_3 s0 (by omega)) mv_X1_kindOf kw_466 cf1 (by decide) rfl rfl hl.1 rfl (Nat.le_of_ble_eq_true rfl) ⟨by decide, by decide⟩ ⟨Nat.le_refl _, Nat.le_refl _⟩ dX5_figure_18) hB (fun q_7 σ_5 z_6 H locs hq_7 pq_7 hB => ?_)
      obtain ⟨pq_7, e1_, e2_⟩ := pq_7
      rw [e1_, e2_] at hB
      clear e1_ e2_
      subst pq_7
      refine g_calli (g_runS (As := [.int (iZ (fp σ 3 (1 + s0)))]) (rest := [.int (iZ y)]) hx hb hml hown hts hK hst hB (mX5_figuresOf l θ hθ σ z (fp σ 3 (1 + s0)) ⟨by omega, by omega⟩) ms_X5_figuresOf kw_328 rfl hl.1 rfl (Nat.le_of_ble_eq_true rfl) ⟨by decide, by decide⟩ ⟨Nat.le_refl _, Nat.le_refl _⟩ dX5_figure_21) hB (fun q_10 σ_8 z_9 H locs hq_10 pq_10 hB => ?_)
      obtain ⟨pq_10, e1_, e2_⟩ := pq_10
      rw [e1_, e2_] at hB
      clear e1_ e2_
      refine z_icmp_lt (tgt := 29) hx hb dX5_figure_24 (by decide) ⟨by omega, by omega⟩ ⟨by omega, by omega⟩ (fun c_11 => ?_) (fun c_11 => ?_)
      · obtain ⟨i0, hi0⟩ : ∃ i0 : Nat, y = (i0 : Int) := ⟨y.toNat, by omega⟩
        have hit : y.toNat = i0 := by omega
        have hl : lv_has ls 3 [(0, .ref (tad θ 0)), (1, .int (iZ ((s0 : Nat) : Int))), (2, .int (iZ ((i0 : Nat) : Int)))] := by rw [hi0] at hl; exact hl
        refine lv_aload_n hx hb dX5_figure_29 rfl (lv_at hl 0 rfl) ?_
        refine g_getr (k := 1) (j := 3) hx hb hts hown hK hθ hB cf5 (by decide) rfl (by decide) kw_167 rfl rfl dX5_figure_30 ?_
        refine lv_iload_n hx hb dX5_figure_33 rfl (lv_at hl 1 rfl) ?_
        refine lv_iload_n hx hb dX5_figure_34 rfl (lv_at hl 2 rfl) ?_
        refine g_calli (g_runV (i := 3) (As := [.int (iZ ((s0 : Nat) : Int)), .int (iZ ((i0 : Nat) : Int))]) (rest := []) hx hb hml hown hts hK hst hB (mX1_part l θ hθ σ z 3 isF_3 s0 (by omega) i0 (by omega)) mv_X1_part kw_475 cf1 (by decide) rfl rfl hl.1 rfl (Nat.le_of_ble_eq_true rfl) ⟨by decide, by decide⟩ ⟨Nat.le_refl _, Nat.le_refl _⟩ dX5_figure_35) hB (fun q_14 σ_12 z_13 H locs hq_14 pq_14 hB => ?_)
        obtain ⟨pq_14, e1_, e2_⟩ := pq_14
        rw [e1_, e2_] at hB
        clear e1_ e2_
        subst pq_14
        exact g_iret hx hb hr hlk hB dX5_figure_38 ⟨by omega, by omega⟩ (⟨Or.inr ⟨s0, hs0, by omega, Or.inr ⟨by omega, by rw [hit]⟩⟩, rfl, rfl⟩)
      · refine lv_iconst (v := iZ (-1)) hx hb dX5_figure_27 rfl ?_
        exact g_iret hx hb hr hlk hB dX5_figure_28 ⟨by decide, by decide⟩ (⟨Or.inr ⟨s0, hs0, by omega, Or.inl ⟨by omega, rfl⟩⟩, rfl, rfl⟩)
set_option maxHeartbeats 4000000 in
set_option maxRecDepth 100000 in
theorem mX5_unsee (l : Launch) (θ : gT) (hθ : gOK θ) (σ : gS) (z : gZ)  : GI l θ yX5_unsee cX5_unsee 2 (some .int) 0 0 [.ref (tad θ 0)] σ z (fun q σ' z' => (q = σ 93 0 ∧ σ' = up2 σ 93 0 0) ∧ z' = z) := by
  refine g_enter (ret := (some .int)) (by decide +kernel) (Nat.le_of_ble_eq_true rfl) ?_
  intro p e s m args below meth c ls F hB hl
  obtain ⟨hx, hb, hr, hml, hown, hts, hlk, hK, hst⟩ := F
  have hR := hB.1.2
  have hl : lv_has ls 2 [(0, .ref (tad θ 0))] := hl
  refine lv_aload_n hx hb dX5_unsee_0 rfl (lv_at hl 0 rfl) ?_
  refine g_getr (k := 5) (j := 93) hx hb hts hown hK hθ hB cf5 (by decide) rfl (by decide) kw_171 rfl rfl dX5_unsee_1 ?_
  refine g_geti (k := 0) hx hb hts hown hK hB cf3 (by decide) rfl (by decide) kw_149 rfl dX5_unsee_4 ?_
  have hr_1 := hR 93 0
  refine lv_istore_n (lv' := [(1, .int (iZ (σ 93 0))), (0, .ref (tad θ 0))]) hx hb dX5_unsee_7 rfl hl (by decide) rfl (fun ls hl => ?_)
  refine lv_aload_n hx hb dX5_unsee_8 rfl (lv_at hl 1 rfl) ?_
  refine g_getr (k := 5) (j := 93) hx hb hts hown hK hθ hB cf5 (by decide) rfl (by decide) kw_171 rfl rfl dX5_unsee_9 ?_
  refine lv_iconst (v := iZ 0) hx hb dX5_unsee_12 rfl ?_
  refine g_putI (k := 0) hx hb hts hown hK hθ hB cf3 tyX3 tyX3_ok (by decide) rfl (by decide) kw_149 rfl rfl rfl ⟨by decide, by decide⟩ dX5_unsee_13 (fun H locs hB => ?_)
  obtain ⟨σ1, hσ1⟩ : ∃ x_ : gS, x_ = up2 σ 93 0 0 := ⟨_, rfl⟩
  rw [← hσ1] at hB
  have hR := hB.1.2
  refine lv_iload_n hx hb dX5_unsee_16 rfl (lv_at hl 0 rfl) ?_
  exact g_iret hx hb hr hlk hB dX5_unsee_17 ⟨by omega, by omega⟩ (⟨⟨rfl, hσ1⟩, rfl⟩)
set_option maxHeartbeats 4000000 in
set_option maxRecDepth 100000 in
theorem mX5_see (l : Launch) (θ : gT) (hθ : gOK θ) (σ : gS) (z : gZ) (n : Nat) (hn : σ 93 0 = (n : Int)) (hn6 : n ≤ 6) (a0 b0 c0 y : Int) (har : rg a0) (hbr : rg b0) (hcr : rg c0) (hyr : rg y) : GI l θ yX5_see cX5_see 5 (some .int) 1 24 [.ref (tad θ 0), .int (iZ a0), .int (iZ b0), .int (iZ c0), .int (iZ y)] σ z (fun q σ' z' => ((¬ ((1 ≤ a0 ∧ a0 ≤ 12) ∧ (0 ≤ b0 ∧ b0 ≤ 7) ∧ (0 ≤ c0 ∧ c0 ≤ 99) ∧ (0 ≤ y ∧ y ≤ 1)) ∧ q = -2 ∧ σ' = σ) ∨ (((1 ≤ a0 ∧ a0 ≤ 12) ∧ (0 ≤ b0 ∧ b0 ≤ 7) ∧ (0 ≤ c0 ∧ c0 ≤ 99) ∧ (0 ≤ y ∧ y ≤ 1)) ∧ ((n = 6 ∧ q = -4 ∧ σ' = σ) ∨ (n < 6 ∧ q = ((n + 1 : Nat) : Int) ∧ σ' 93 0 = ((n + 1 : Nat) : Int) ∧ σ' 94 = upn (σ 94) n a0 ∧ σ' 95 = upn (σ 95) n b0 ∧ σ' 96 = upn (σ 96) n c0 ∧ σ' 97 = upn (σ 97) n (if y = 1 then 1 else 0))))) ∧ fr wSg σ σ' ∧ z' = z) := by
  refine g_enter (ret := (some .int)) (by decide +kernel) (Nat.le_of_ble_eq_true rfl) ?_
  intro p e s m args below meth c ls F hB hl
  obtain ⟨hx, hb, hr, hml, hown, hts, hlk, hK, hst⟩ := F
  have hR := hB.1.2
  have hl : lv_has ls 5 [(0, .ref (tad θ 0)), (1, .int (iZ a0)), (2, .int (iZ b0)), (3, .int (iZ c0)), (4, .int (iZ y))] := hl
  refine lv_iload_n hx hb dX5_see_0 rfl (lv_at hl 1 rfl) ?_
  refine lv_iconst (v := iZ 1) hx hb dX5_see_1 rfl ?_
  refine z_icmp_lt (tgt := 21) hx hb dX5_see_2 (by decide) ⟨by omega, by omega⟩ ⟨by decide, by decide⟩ (fun c_1 => ?_) (fun c_1 => ?_)
  · refine lv_bipush (v := iZ (-2)) hx hb dX5_see_21 (by decide) ?_
    exact g_iret hx hb hr hlk hB dX5_see_23 ⟨by decide, by decide⟩ (⟨Or.inl ⟨by omega, rfl, rfl⟩, fr.rf, rfl⟩)
  · refine lv_iload_n hx hb dX5_see_5 rfl (lv_at hl 1 rfl) ?_
    refine lv_bipush (v := iZ 12) hx hb dX5_see_6 (by decide) ?_
    refine z_icmp_gt (tgt := 21) hx hb dX5_see_8 (by decide) ⟨by omega, by omega⟩ ⟨by decide, by decide⟩ (fun c_2 => ?_) (fun c_2 => ?_)
    · refine lv_bipush (v := iZ (-2)) hx hb dX5_see_21 (by decide) ?_
      exact g_iret hx hb hr hlk hB dX5_see_23 ⟨by decide, by decide⟩ (⟨Or.inl ⟨by omega, rfl, rfl⟩, fr.rf, rfl⟩)
    · refine lv_iload_n hx hb dX5_see_11 rfl (lv_at hl 2 rfl) ?_
      refine z_if_lt (tgt := 21) hx hb dX5_see_12 (by decide) ⟨by omega, by omega⟩ (fun c_3 => ?_) (fun c_3 => ?_)
      · refine lv_bipush (v := iZ (-2)) hx hb dX5_see_21 (by decide) ?_
        exact g_iret hx hb hr hlk hB dX5_see_23 ⟨by decide, by decide⟩ (⟨Or.inl ⟨by omega, rfl, rfl⟩, fr.rf, rfl⟩)
      · refine lv_iload_n hx hb dX5_see_15 rfl (lv_at hl 2 rfl) ?_
        refine lv_bipush (v := iZ 8) hx hb dX5_see_16 (by decide) ?_
        refine z_icmp_lt (tgt := 24) hx hb dX5_see_18 (by decide) ⟨by omega, by omega⟩ ⟨by decide, by decide⟩ (fun c_4 => ?_) (fun c_4 => ?_)
        · refine lv_iload_n hx hb dX5_see_24 rfl (lv_at hl 3 rfl) ?_
          refine g_calli (g_runS (As := [.int (iZ c0)]) (rest := []) hx hb hml hown hts hK hst hB (mX5_isValue l θ hθ σ z c0 ⟨by omega, by omega⟩) ms_X5_isValue kw_488 rfl hl.1 rfl (Nat.le_of_ble_eq_true rfl) ⟨by decide, by decide⟩ ⟨Nat.le_refl _, Nat.le_refl _⟩ dX5_see_25) hB (fun q_7 σ_5 z_6 H locs hq_7 pq_7 hB => ?_)
          obtain ⟨pq_7, e1_, e2_⟩ := pq_7
          rw [e1_, e2_] at hB
          clear e1_ e2_
          refine z_if_eq (tgt := 42) hx hb dX5_see_28 (by decide) ⟨by omega, by omega⟩ (fun c_8 => ?_) (fun c_8 => ?_)
          · refine lv_bipush (v := iZ (-2)) hx hb dX5_see_42 (by decide) ?_
            exact g_iret hx hb hr hlk hB dX5_see_44 ⟨by decide, by decide⟩ (⟨Or.inl ⟨by omega, rfl, rfl⟩, fr.rf, rfl⟩)
          · refine lv_iload hx hb dX5_see_31 (lv_at hl 4 rfl) ?_
            refine z_if_lt (tgt := 42) hx hb dX5_see_33 (by decide) ⟨by omega, by omega⟩ (fun c_9 => ?_) (fun c_9 => ?_)
            · refine lv_bipush (v := iZ (-2)) hx hb dX5_see_42 (by decide) ?_
              exact g_iret hx hb hr hlk hB dX5_see_44 ⟨by decide, by decide⟩ (⟨Or.inl ⟨by omega, rfl, rfl⟩, fr.rf, rfl⟩)
            · refine lv_iload hx hb dX5_see_36 (lv_at hl 4 rfl) ?_
              refine lv_iconst (v := iZ 1) hx hb dX5_see_38 rfl ?_
              refine z_icmp_le (tgt := 45) hx hb dX5_see_39 (by decide) ⟨by omega, by omega⟩ ⟨by decide, by decide⟩ (fun c_10 => ?_) (fun c_10 => ?_)
              · refine lv_aload_n hx hb dX5_see_45 rfl (lv_at hl 0 rfl) ?_
                refine g_getr (k := 5) (j := 93) hx hb hts hown hK hθ hB cf5 (by decide) rfl (by decide) kw_171 rfl rfl dX5_see_46 ?_
                refine lv_iload_n hx hb dX5_see_49 rfl (lv_at hl 1 rfl) ?_
                refine lv_iload_n hx hb dX5_see_50 rfl (lv_at hl 2 rfl) ?_
                refine lv_iload_n hx hb dX5_see_51 rfl (lv_at hl 3 rfl) ?_
                refine lv_iload hx hb dX5_see_52 (lv_at hl 4 rfl) ?_
                refine g_calli (g_runV (i := 93) (As := [.int (iZ a0), .int (iZ b0), .int (iZ c0), .int (iZ y)]) (rest := []) hx hb hml hown hts hK hst hB (mX3_add l θ hθ σ z n hn hn6 a0 b0 c0 y har hbr hcr hyr) mv_X3_add kw_589 cf3 (by decide) rfl rfl hl.1 rfl (Nat.le_of_ble_eq_true rfl) ⟨by decide, by decide⟩ ⟨Nat.le_refl _, Nat.le_refl _⟩ dX5_see_54) hB (fun q1 σ1 z_11 H locs hq1 hp1 hB => ?_)
                obtain ⟨hp1, hf1, e2_⟩ := hp1
                rw [e2_] at hB
                clear e2_
                have hR := hB.1.2
                rcases hp1 with ⟨h6, hq1, hs1⟩ | ⟨h6, hq1, hs1, hs2⟩
                · subst hq1
                  refine z_if_eq (tgt := 70) hx hb dX5_see_57 (by decide) ⟨by decide, by decide⟩ (fun c_12 => ?_) (fun c_12 => ?_)
                  · refine lv_bipush (v := iZ (-4)) hx hb dX5_see_70 (by decide) ?_
                    exact g_iret hx hb hr hlk hB dX5_see_72 ⟨by decide, by decide⟩ (⟨Or.inr ⟨by omega, Or.inl ⟨h6, rfl, hs1⟩⟩, hf1, rfl⟩)
                  · exact absurd (by decide) c_12
                · subst hq1
                  refine z_if_eq (tgt := 70) hx hb dX5_see_57 (by decide) ⟨by decide, by decide⟩ (fun c_13 => ?_) (fun c_13 => ?_)
                  · exact absurd c_13 (by decide)
                  · refine lv_aload_n hx hb dX5_see_60 rfl (lv_at hl 0 rfl) ?_
                    refine g_getr (k := 5) (j := 93) hx hb hts hown hK hθ hB cf5 (by decide) rfl (by decide) kw_171 rfl rfl dX5_see_61 ?_
                    refine g_geti (k := 0) hx hb hts hown hK hB cf3 (by decide) rfl (by decide) kw_149 rfl dX5_see_64 ?_
                    refine z_top (b := (((n + 1) : Nat) : Int)) (hs1) ?_
                    refine lv_goto (tgt := 72) hx hb dX5_see_67 (by decide) ?_
                    exact g_iret hx hb hr hlk hB dX5_see_72 ⟨by omega, by omega⟩ (⟨Or.inr ⟨by omega, Or.inr ⟨h6, rfl, hs1, hs2⟩⟩, hf1, rfl⟩)
              · refine lv_bipush (v := iZ (-2)) hx hb dX5_see_42 (by decide) ?_
                exact g_iret hx hb hr hlk hB dX5_see_44 ⟨by decide, by decide⟩ (⟨Or.inl ⟨by omega, rfl, rfl⟩, fr.rf, rfl⟩)
        · refine lv_bipush (v := iZ (-2)) hx hb dX5_see_21 (by decide) ?_
          exact g_iret hx hb hr hlk hB dX5_see_23 ⟨by decide, by decide⟩ (⟨Or.inl ⟨by omega, rfl, rfl⟩, fr.rf, rfl⟩)
set_option maxHeartbeats 4000000 in
set_option maxRecDepth 100000 in
theorem mX5_seed (l : Launch) (θ : gT) (hθ : gOK θ) (σ : gS) (z : gZ) (x9 : Int64) : GL l θ yX5_seed cX5_seed 5 0 0 [.ref (tad θ 0), .long x9] σ z (fun q σ' z' => (q = z 0 ∧ z' = upr z 0 x9) ∧ σ' = σ) := by
  refine g_enter (ret := (some .long)) (by decide +kernel) (Nat.le_of_ble_eq_true rfl) ?_
  intro p e s m args below meth c ls F hB hl
  obtain ⟨hx, hb, hr, hml, hown, hts, hlk, hK, hst⟩ := F
  have hR := hB.1.2
  have hl : lv_has ls 5 [(0, .ref (tad θ 0)), (1, .long x9)] := hl
  refine lv_aload_n hx hb dX5_seed_0 rfl (lv_at hl 0 rfl) ?_
  refine g_getl (k := 9) hx hb hts hown hK hB cf5 (by decide) rfl (by decide) kw_175 rfl dX5_seed_1 ?_
  refine lv_lstore_n (lv' := [(3, .long (z 0)), (0, .ref (tad θ 0)), (1, .long x9)]) hx hb dX5_seed_4 rfl hl (by decide) rfl (fun ls hl => ?_)
  refine lv_aload_n hx hb dX5_seed_5 rfl (lv_at hl 1 rfl) ?_
  refine lv_lload_n hx hb dX5_seed_6 rfl (lv_at hl 2 rfl) ?_
  refine g_putL (k := 9) hx hb hts hown hK hθ hB cf5 tyX5 tyX5_ok (by decide) rfl (by decide) kw_175 rfl (by decide) rfl rfl dX5_seed_7 (fun H locs hB => ?_)
  refine lv_lload_n hx hb dX5_seed_10 rfl (lv_at hl 0 rfl) ?_
  exact g_lret hx hb hr hlk hB dX5_seed_11 (⟨⟨rfl, rfl⟩, rfl⟩)
