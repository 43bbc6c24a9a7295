def wKp (i _k : Nat) : Bool := i == 99 || (decide (101 ≤ i) && decide (i ≤ 110))
set_option maxHeartbeats 4000000 in
set_option maxRecDepth 100000 in
theorem mX5_clock (l : Launch) (θ : gT) (hθ : gOK θ) (σ : gS) (z : gZ) (N : Nat) (h00 : σ 3 0 = (N : Int)) (hN8 : N ≤ 8) (S : Nat → Int) (hS : σ 13 0 = -9 → sOK S N ∧ (∀ k, k < N → σ 16 k = S k) ∧ ∀ k, k < N → σ 17 k = ((dCr S 8 k : Nat) : Int)) (x9 y : Int) (hxr : rg x9) (hyr : rg y) : GI l θ yX5_clock cX5_clock 3 (some .int) 2 45 [.ref (tad θ 0), .int (iZ x9), .int (iZ y)] σ z (fun q σ' z' => ((¬ (0 ≤ x9 ∧ x9 < σ 3 0) ∧ q = -1) ∨ ∃ s0 : Nat, x9 = (s0 : Int) ∧ (s0 : Int) < σ 3 0 ∧ ((¬ ((0 ≤ y ∧ y < ((dCr S 8 s0 : Nat) : Int)) ∧ σ 13 0 = -9) ∧ q = -1) ∨ (((0 ≤ y ∧ y < ((dCr S 8 s0 : Nat) : Int)) ∧ σ 13 0 = -9) ∧ q = S (itr (sN S) (dCr S 8 s0 - 1 - y.toNat) s0)))) ∧ σ' = σ ∧ z' = z) := by
  refine g_enter (ret := (some .int)) (by decide +kernel) (Nat.le_of_ble_eq_true rfl) ?_
  intro p e s m args below meth c ls F hB hl
  obtain ⟨hx, hb, hr, hml, hown, hts, hlk, hK, hst⟩ := F
  have hR := hB.1.2
  have hl : lv_has ls 3 [(0, .ref (tad θ 0)), (1, .int (iZ x9)), (2, .int (iZ y))] := hl
  refine lv_aload_n hx hb dX5_clock_0 rfl (lv_at hl 0 rfl) ?_
  refine lv_iload_n hx hb dX5_clock_1 rfl (lv_at hl 1 rfl) ?_
  refine g_calli (g_runV (i := 0) (As := [.int (iZ x9)]) (rest := []) hx hb hml hown hts hK hst hB (mX5_isStream l θ hθ σ z (by omega) x9 ⟨by omega, by omega⟩) mv_X5_isStream kw_462 cf5 (by decide) rfl rfl hl.1 rfl (Nat.le_of_ble_eq_true rfl) ⟨by decide, by decide⟩ ⟨Nat.le_refl _, Nat.le_refl _⟩ dX5_clock_2) hB (fun qi σ_1 z_2 H locs hqi hpi hB => ?_)
  obtain ⟨hpi, e1_, e2_⟩ := hpi
  rw [e1_, e2_] at hB
  clear e1_ e2_
  refine z_if_eq (tgt := 37) hx hb dX5_clock_5 (by decide) ⟨by omega, by omega⟩ (fun c_3 => ?_) (fun c_3 => ?_)
  · refine lv_iconst (v := iZ (-1)) hx hb dX5_clock_37 rfl ?_
    exact g_iret hx hb hr hlk hB dX5_clock_38 ⟨by decide, by decide⟩ (⟨Or.inl ⟨by omega, rfl⟩, rfl, rfl⟩)
  · obtain ⟨s0, hs0⟩ : ∃ s0 : Nat, x9 = (s0 : Int) := ⟨x9.toNat, by omega⟩
    have hs8 : s0 < 8 := by omega
    have hl : lv_has ls 3 [(0, .ref (tad θ 0)), (1, .int (iZ ((s0 : Nat) : Int))), (2, .int (iZ y))] := by rw [hs0] at hl; exact hl
    refine lv_aload_n hx hb dX5_clock_8 rfl (lv_at hl 0 rfl) ?_
    refine g_getr (k := 3) (j := 13) hx hb hts hown hK hθ hB cf5 (by decide) rfl (by decide) kw_169 rfl rfl dX5_clock_9 ?_
    refine g_geti (k := 0) hx hb hts hown hK hB cf2 (by decide) rfl (by decide) kw_80 rfl dX5_clock_12 ?_
    have hr_4 := hR 13 0
    refine lv_bipush (v := iZ (-9)) hx hb dX5_clock_15 (by decide) ?_
    refine z_icmp_ne (tgt := 37) hx hb dX5_clock_17 (by decide) ⟨by omega, by omega⟩ ⟨by decide, by decide⟩ (fun c_5 => ?_) (fun c_5 => ?_)
    · refine lv_iconst (v := iZ (-1)) hx hb dX5_clock_37 rfl ?_
      exact g_iret hx hb hr hlk hB dX5_clock_38 ⟨by decide, by decide⟩ (⟨Or.inr ⟨s0, hs0, by omega, Or.inl ⟨by omega, rfl⟩⟩, rfl, rfl⟩)
    · have hcl : σ 13 0 = -9 := c_5
      have hSS := hS hcl
      have hdl := dCr_le S 8 s0
      refine lv_iload_n hx hb dX5_clock_20 rfl (lv_at hl 2 rfl) ?_
      refine z_if_lt (tgt := 37) hx hb dX5_clock_21 (by decide) ⟨by omega, by omega⟩ (fun c_6 => ?_) (fun c_6 => ?_)
      · refine lv_iconst (v := iZ (-1)) hx hb dX5_clock_37 rfl ?_
        exact g_iret hx hb hr hlk hB dX5_clock_38 ⟨by decide, by decide⟩ (⟨Or.inr ⟨s0, hs0, by omega, Or.inl ⟨by omega, rfl⟩⟩, rfl, rfl⟩)
      · refine lv_iload_n hx hb dX5_clock_24 rfl (lv_at hl 2 rfl) ?_
        refine lv_aload_n hx hb dX5_clock_25 rfl (lv_at hl 0 rfl) ?_
        refine g_getr (k := 3) (j := 13) hx hb hts hown hK hθ hB cf5 (by decide) rfl (by decide) kw_169 rfl rfl dX5_clock_26 ?_
        refine g_getr (k := 7) (j := 17) hx hb hts hown hK hθ hB cf2 (by decide) rfl (by decide) kw_92 rfl rfl dX5_clock_29 ?_
        refine lv_iload_n hx hb dX5_clock_32 rfl (lv_at hl 1 rfl) ?_
        refine g_iald (k := s0) hx hb hK hB (by decide) rfl (by omega) (Nat.lt_of_lt_of_eq (by omega : s0 < 8) (Eq.symm rfl)) (by decide) dX5_clock_33 ?_
        refine z_top (b := (((dCr S 8 s0) : Nat) : Int)) (hSS.2.2 s0 (by omega)) ?_
        refine z_icmp_lt (tgt := 39) hx hb dX5_clock_34 (by decide) ⟨by omega, by omega⟩ ⟨by omega, by omega⟩ (fun c_7 => ?_) (fun c_7 => ?_)
        · obtain ⟨i0, hi0⟩ : ∃ i0 : Nat, y = (i0 : Int) := ⟨y.toNat, by omega⟩
          have hit : y.toNat = i0 := by omega
          have hl : lv_has ls 3 [(0, .ref (tad θ 0)), (1, .int (iZ ((s0 : Nat) : Int))), (2, .int (iZ ((i0 : Nat) : Int)))] := by rw [hi0] at hl; exact hl
          refine lv_aload_n hx hb dX5_clock_39 rfl (lv_at hl 0 rfl) ?_
          refine g_getr (k := 3) (j := 13) hx hb hts hown hK hθ hB cf5 (by decide) rfl (by decide) kw_169 rfl rfl dX5_clock_40 ?_
          refine lv_iload_n hx hb dX5_clock_43 rfl (lv_at hl 1 rfl) ?_
          refine lv_iload_n hx hb dX5_clock_44 rfl (lv_at hl 2 rfl) ?_
          refine g_calli (g_runV (i := 13) (As := [.int (iZ ((s0 : Nat) : Int)), .int (iZ ((i0 : Nat) : Int))]) (rest := []) hx hb hml hown hts hK hst hB (mX2_clockAt l θ hθ σ z S N hSS.1 hSS.2.1 hN8 hSS.2.2 s0 i0 (by omega) (by omega)) mv_X2_clockAt kw_480 cf2 (by decide) rfl rfl hl.1 rfl (Nat.le_of_ble_eq_true rfl) ⟨by decide, by decide⟩ ⟨Nat.le_refl _, Nat.le_refl _⟩ dX5_clock_45) hB (fun qk σ_8 z_9 H locs hqk hpk hB => ?_)
          obtain ⟨hpk, e1_, e2_⟩ := hpk
          rw [e1_, e2_] at hB
          clear e1_ e2_
          exact g_iret hx hb hr hlk hB dX5_clock_48 ⟨by omega, by omega⟩ (⟨Or.inr ⟨s0, hs0, by omega, Or.inr ⟨by omega, by rw [hit]; exact hpk⟩⟩, rfl, rfl⟩)
        · refine lv_iconst (v := iZ (-1)) hx hb dX5_clock_37 rfl ?_
          exact g_iret hx hb hr hlk hB dX5_clock_38 ⟨by decide, by decide⟩ (⟨Or.inr ⟨s0, hs0, by omega, Or.inl ⟨by omega, rfl⟩⟩, rfl, rfl⟩)
set_option maxHeartbeats 4000000 in
set_option maxRecDepth 100000 in
theorem mX5_keep (l : Launch) (θ : gT) (hθ : gOK θ) (σ : gS) (z : gZ) (x9 : Int) (hxr : rg x9) : GI l θ yX5_keep cX5_keep 2 (some .int) 3 68 [.ref (tad θ 0), .int (iZ x9)] σ z (fun q σ' z' => ((¬ (0 ≤ x9 ∧ x9 ≤ 1) ∧ q = -1 ∧ σ' = σ) ∨ ∃ s0 : Nat, x9 = (s0 : Int) ∧ s0 < 2 ∧ q = fp σ 3 49 ∧ fp σ' (101 + 5 * s0) = fp σ 3 ∧ σ' 99 = upn (σ 99) s0 1 ∧ ∀ j, j < 2 → j ≠ s0 → fp σ' (101 + 5 * j) = fp σ (101 + 5 * j)) ∧ fr wKp σ σ' ∧ z' = z) := by
  refine g_enter (ret := (some .int)) (by decide +kernel) (Nat.le_of_ble_eq_true rfl) ?_
  intro p e s m args below meth c ls F hB hl
  obtain ⟨hx, hb, hr, hml, hown, hts, hlk, hK, hst⟩ := F
  have hR := hB.1.2
  have hl : lv_has ls 2 [(0, .ref (tad θ 0)), (1, .int (iZ x9))] := hl
  refine lv_iload_n hx hb dX5_keep_0 rfl (lv_at hl 1 rfl) ?_
  refine z_if_lt (tgt := 9) hx hb dX5_keep_1 (by decide) ⟨by omega, by omega⟩ (fun c_1 => ?_) (fun c_1 => ?_)
  · refine lv_iconst (v := iZ (-1)) hx hb dX5_keep_9 rfl ?_
    exact g_iret hx hb hr hlk hB dX5_keep_10 ⟨by decide, by decide⟩ (⟨Or.inl ⟨by omega, rfl, rfl⟩, fr.rf, rfl⟩)
  · refine lv_iload_n hx hb dX5_keep_4 rfl (lv_at hl 1 rfl) ?_
    refine lv_iconst (v := iZ 2) hx hb dX5_keep_5 rfl ?_
    refine z_icmp_lt (tgt := 11) hx hb dX5_keep_6 (by decide) ⟨by omega, by omega⟩ ⟨by decide, by decide⟩ (fun c_2 => ?_) (fun c_2 => ?_)
    · obtain ⟨s0, hs0⟩ : ∃ s0 : Nat, x9 = (s0 : Int) := ⟨x9.toNat, by omega⟩
      have hs2 : s0 < 2 := by omega
      have hFs := isF_slot hs2
      have hl : lv_has ls 2 [(0, .ref (tad θ 0)), (1, .int (iZ ((s0 : Nat) : Int)))] := by rw [hs0] at hl; exact hl
      refine lv_aload_n hx hb dX5_keep_11 rfl (lv_at hl 0 rfl) ?_
      refine g_getr (k := 1) (j := 3) hx hb hts hown hK hθ hB cf5 (by decide) rfl (by decide) kw_167 rfl rfl dX5_keep_12 ?_
      refine lv_aload_n hx hb dX5_keep_15 rfl (lv_at hl 0 rfl) ?_
      refine g_getr (k := 6) (j := 98) hx hb hts hown hK hθ hB cf5 (by decide) rfl (by decide) kw_172 rfl rfl dX5_keep_16 ?_
      refine lv_iload_n hx hb dX5_keep_19 rfl (lv_at hl 1 rfl) ?_
      refine g_aald (k := s0) (j := (101 + 5 * s0)) hx hb hK hθ hB (by decide) rfl (by omega) (Nat.lt_of_lt_of_eq (by omega : s0 < 2) (Eq.symm rfl)) (by decide) (tg_98 s0) dX5_keep_20 ?_
      refine g_callv (g_runS (As := [.ref (tad θ 3), .ref (tad θ (101 + 5 * s0))]) (rest := []) hx hb hml hown hts hK hst hB (mX5_carry l θ hθ σ z 3 isF_3 (101 + 5 * s0) hFs (by omega)) ms_X5_carry kw_648 rfl hl.1 rfl (Nat.le_of_ble_eq_true rfl) ⟨by decide, by decide⟩ ⟨Nat.le_refl _, Nat.le_refl _⟩ dX5_keep_21) hB (fun σ1 z_3 H locs hp1 hB => ?_)
      obtain ⟨hp1, hf1, e2_⟩ := hp1
      rw [e2_] at hB
      clear e2_
      have hR := hB.1.2
      refine lv_aload_n hx hb dX5_keep_24 rfl (lv_at hl 0 rfl) ?_
      refine g_getr (k := 7) (j := 99) hx hb hts hown hK hθ hB cf5 (by decide) rfl (by decide) kw_173 rfl rfl dX5_keep_25 ?_
      refine lv_iload_n hx hb dX5_keep_28 rfl (lv_at hl 1 rfl) ?_
      refine lv_iconst (v := iZ 1) hx hb dX5_keep_29 rfl ?_
      refine g_zast (k := s0) hx hb hK hθ hB (by decide) rfl (by omega) (Nat.lt_of_lt_of_eq (by omega : s0 < 2) (Eq.symm rfl)) (by decide) (by omega) dX5_keep_30 (fun H locs hB => ?_)
      obtain ⟨σ2, hσ2⟩ : ∃ x_ : gS, x_ = up2 σ1 99 s0 1 := ⟨_, rfl⟩
      rw [← hσ2] at hB
      have hR := hB.1.2
      refine lv_aload_n hx hb dX5_keep_31 rfl (lv_at hl 0 rfl) ?_
      refine g_getr (k := 1) (j := 3) hx hb hts hown hK hθ hB cf5 (by decide) rfl (by decide) kw_167 rfl rfl dX5_keep_32 ?_
      refine g_geti (k := 1) hx hb hts hown hK hB cf1 (by decide) rfl (by decide) kw_54 rfl dX5_keep_35 ?_
      refine z_top (b := (fp σ 3 49)) (by rw [fp_t, hσ2, up2_c _ _ (by decide), hf1 3 1 (by simp [wF]; omega)]) ?_
      have hr49 := fp_rg (σ := σ2) hR 3 49
      rw [hσ2, fp_off (by omega), fp_ne hf1 hFs isF_3 (by omega)] at hr49
      exact g_iret hx hb hr hlk hB dX5_keep_38 hr49 (⟨Or.inr ⟨s0, hs0, hs2, rfl, by rw [hσ2, fp_off (by omega)]; exact hp1, by rw [hσ2, up2_row_eq, hf1.row (fun k => by simp [wF]; omega)], fun j hj hne => by rw [hσ2, fp_off (by omega), fp_ne hf1 hFs (isF_slot hj) (by omega)]⟩, by rw [hσ2]; exact (hf1.mono (fun i k h => by simp [wF] at h; simp [wKp]; omega)).tr (fr.up rfl), rfl⟩)
    · refine lv_iconst (v := iZ (-1)) hx hb dX5_keep_9 rfl ?_
      exact g_iret hx hb hr hlk hB dX5_keep_10 ⟨by decide, by decide⟩ (⟨Or.inl ⟨by omega, rfl, rfl⟩, fr.rf, rfl⟩)
set_option maxHeartbeats 4000000 in
set_option maxRecDepth 100000 in
theorem mX5_again (l : Launch) (θ : gT) (hθ : gOK θ) (σ : gS) (z : gZ) (Ns : Nat → Nat) (hsl : ∀ s0, s0 < 2 → σ 99 s0 ≠ 0 → cW (fp σ (101 + 5 * s0)) (Ns s0)) (x9 : Int) (hxr : rg x9) : GI l θ yX5_again cX5_again 2 (some .int) 6 138 [.ref (tad θ 0), .int (iZ x9)] σ z (fun q σ' z' => ((¬ (0 ≤ x9 ∧ x9 ≤ 1) ∧ q = -1 ∧ σ' = σ) ∨ ∃ s0 : Nat, x9 = (s0 : Int) ∧ s0 < 2 ∧ ((σ 99 s0 = 0 ∧ q = -3 ∧ σ' = σ) ∨ (σ 99 s0 ≠ 0 ∧ q = fp σ (101 + 5 * s0) 49 ∧ fp σ' 3 = fp σ (101 + 5 * s0) ∧ σ' 21 0 = 0 ∧ σ' 21 1 = σ 21 1 ∧ cAn (fp σ (101 + 5 * s0)) (Ns s0) σ'))) ∧ fr wNw σ σ' ∧ z' = z) := by
  refine g_enter (ret := (some .int)) (by decide +kernel) (Nat.le_of_ble_eq_true rfl) ?_
  intro p e s m args below meth c ls F hB hl
  obtain ⟨hx, hb, hr, hml, hown, hts, hlk, hK, hst⟩ := F
  have hR := hB.1.2
  have hl : lv_has ls 2 [(0, .ref (tad θ 0)), (1, .int (iZ x9))] := hl
  refine lv_iload_n hx hb dX5_again_0 rfl (lv_at hl 1 rfl) ?_
  refine z_if_lt (tgt := 9) hx hb dX5_again_1 (by decide) ⟨by omega, by omega⟩ (fun c_1 => ?_) (fun c_1 => ?_)
  · refine lv_iconst (v := iZ (-1)) hx hb dX5_again_9 rfl ?_
    exact g_iret hx hb hr hlk hB dX5_again_10 ⟨by decide, by decide⟩ (⟨Or.inl ⟨by omega, rfl, rfl⟩, fr.rf, rfl⟩)
  · refine lv_iload_n hx hb dX5_again_4 rfl (lv_at hl 1 rfl) ?_
    refine lv_iconst (v := iZ 2) hx hb dX5_again_5 rfl ?_
    refine z_icmp_lt (tgt := 11) hx hb dX5_again_6 (by decide) ⟨by omega, by omega⟩ ⟨by decide, by decide⟩ (fun c_2 => ?_) (fun c_2 => ?_)
    · obtain ⟨s0, hs0⟩ : ∃ s0 : Nat, x9 = (s0 : Int) := ⟨x9.toNat, by omega⟩
      have hs2 : s0 < 2 := by omega
      have hFs := isF_slot hs2
      have hl : lv_has ls 2 [(0, .ref (tad θ 0)), (1, .int (iZ ((s0 : Nat) : Int)))] := by rw [hs0] at hl; exact hl
      refine lv_aload_n hx hb dX5_again_11 rfl (lv_at hl 0 rfl) ?_
      refine g_getr (k := 7) (j := 99) hx hb hts hown hK hθ hB cf5 (by decide) rfl (by decide) kw_173 rfl rfl dX5_again_12 ?_
      refine lv_iload_n hx hb dX5_again_15 rfl (lv_at hl 1 rfl) ?_
      refine g_zald (k := s0) hx hb hK hB (by decide) rfl (by omega) (Nat.lt_of_lt_of_eq (by omega : s0 < 2) (Eq.symm rfl)) (by decide) dX5_again_16 ?_
      have hr_3 := hR 99 s0
      refine z_if_ne (tgt := 23) hx hb dX5_again_17 (by decide) ⟨by omega, by omega⟩ (fun c_4 => ?_) (fun c_4 => ?_)
      · have hk0 : σ 99 s0 ≠ 0 := c_4
        have hcw := hsl s0 hs2 hk0
        refine lv_aload_n hx hb dX5_again_23 rfl (lv_at hl 0 rfl) ?_
        refine g_getr (k := 6) (j := 98) hx hb hts hown hK hθ hB cf5 (by decide) rfl (by decide) kw_172 rfl rfl dX5_again_24 ?_
        refine lv_iload_n hx hb dX5_again_27 rfl (lv_at hl 1 rfl) ?_
        refine g_aald (k := s0) (j := (101 + 5 * s0)) hx hb hK hθ hB (by decide) rfl (by omega) (Nat.lt_of_lt_of_eq (by omega : s0 < 2) (Eq.symm rfl)) (by decide) (tg_98 s0) dX5_again_28 ?_
        refine lv_aload_n hx hb dX5_again_29 rfl (lv_at hl 0 rfl) ?_
        refine g_getr (k := 1) (j := 3) hx hb hts hown hK hθ hB cf5 (by decide) rfl (by decide) kw_167 rfl rfl dX5_again_30 ?_
        refine g_callv (g_runS (As := [.ref (tad θ (101 + 5 * s0)), .ref (tad θ 3)]) (rest := []) hx hb hml hown hts hK hst hB (mX5_carry l θ hθ σ z (101 + 5 * s0) hFs 3 isF_3 (by omega)) ms_X5_carry kw_648 rfl hl.1 rfl (Nat.le_of_ble_eq_true rfl) ⟨by decide, by decide⟩ ⟨Nat.le_refl _, Nat.le_refl _⟩ dX5_again_33) hB (fun σ1 z_5 H locs hp1 hB => ?_)
        obtain ⟨hp1, hf1, e2_⟩ := hp1
        rw [e2_] at hB
        clear e2_
        have hR := hB.1.2
        refine lv_aload_n hx hb dX5_again_36 rfl (lv_at hl 0 rfl) ?_
        refine g_getr (k := 4) (j := 21) hx hb hts hown hK hθ hB cf5 (by decide) rfl (by decide) kw_170 rfl rfl dX5_again_37 ?_
        refine g_callv (g_runV (i := 21) (As := []) (rest := []) hx hb hml hown hts hK hst hB (mX0_forget l θ hθ σ1 z ) mv_X0_forget kw_362 cf0 (by decide) rfl rfl hl.1 rfl (Nat.le_of_ble_eq_true rfl) ⟨by decide, by decide⟩ ⟨Nat.le_refl _, Nat.le_refl _⟩ dX5_again_40) hB (fun σ2 z_7 H locs hp2 hB => ?_)
        obtain ⟨hp2, hf2, e2_⟩ := hp2
        rw [e2_] at hB
        clear e2_
        have hR := hB.1.2
        have hg2 : fp σ2 3 = fp σ (101 + 5 * s0) := by rw [fp_fr hf2 ⟨rfl, rfl, fun j k h1 h2 => by simp [w21]; omega⟩]; exact hp1
        refine lv_aload_n hx hb dX5_again_43 rfl (lv_at hl 0 rfl) ?_
        refine g_getr (k := 3) (j := 13) hx hb hts hown hK hθ hB cf5 (by decide) rfl (by decide) kw_169 rfl rfl dX5_again_44 ?_
        refine lv_aload_n hx hb dX5_again_47 rfl (lv_at hl 0 rfl) ?_
        refine g_getr (k := 1) (j := 3) hx hb hts hown hK hθ hB cf5 (by decide) rfl (by decide) kw_167 rfl rfl dX5_again_48 ?_
        refine g_callv (g_runV (i := 13) (As := [.ref (tad θ 3)]) (rest := []) hx hb hml hown hts hK hst hB (mX2_study l θ hθ σ2 z (Ns s0) (by rw [hg2]; exact hcw)) mv_X2_study kw_366 cf2 (by decide) rfl rfl hl.1 rfl (Nat.le_of_ble_eq_true rfl) ⟨by decide, by decide⟩ ⟨Nat.le_refl _, Nat.le_refl _⟩ dX5_again_51) hB (fun σ3 z_9 H locs hp3 hB => ?_)
        obtain ⟨hp3, hf3, e2_⟩ := hp3
        rw [e2_] at hB
        clear e2_
        have hR := hB.1.2
        rw [hg2] at hp3
        have hg3 : fp σ3 3 = fp σ (101 + 5 * s0) := by rw [se_fp hf3 isF_3]; exact hg2
        refine lv_aload_n hx hb dX5_again_54 rfl (lv_at hl 0 rfl) ?_
        refine g_getr (k := 1) (j := 3) hx hb hts hown hK hθ hB cf5 (by decide) rfl (by decide) kw_167 rfl rfl dX5_again_55 ?_
        refine g_geti (k := 1) hx hb hts hown hK hB cf1 (by decide) rfl (by decide) kw_54 rfl dX5_again_58 ?_
        refine z_top (b := (fp σ (101 + 5 * s0) 49)) (by rw [← hg3]; rfl) ?_
        have hr49 := fp_rg hR 3 49
        rw [hg3] at hr49
        exact g_iret hx hb hr hlk hB dX5_again_61 hr49 (⟨Or.inr ⟨s0, hs0, hs2, Or.inr ⟨hk0, rfl, hg3, by rw [hf3 21 0 rfl]; exact hp2, by rw [hf3 21 1 rfl, hf2 21 1 rfl, hf1 21 1 rfl], hp3⟩⟩, ((hf1.mono nw_3).tr (hf2.mono (fun i k h => by simp [w21] at h; simp [wNw]; omega))).tr (hf3.mono nw_se), rfl⟩)
      · refine lv_bipush (v := iZ (-3)) hx hb dX5_again_20 (by decide) ?_
        exact g_iret hx hb hr hlk hB dX5_again_22 ⟨by decide, by decide⟩ (⟨Or.inr ⟨s0, hs0, hs2, Or.inl ⟨by omega, rfl, rfl⟩⟩, fr.rf, rfl⟩)
    · refine lv_iconst (v := iZ (-1)) hx hb dX5_again_9 rfl ?_
      exact g_iret hx hb hr hlk hB dX5_again_10 ⟨by decide, by decide⟩ (⟨Or.inl ⟨by omega, rfl, rfl⟩, fr.rf, rfl⟩)
set_option maxHeartbeats 4000000 in
set_option maxRecDepth 100000 in
theorem mX5_afresh (l : Launch) (θ : gT) (hθ : gOK θ) (σ : gS) (z : gZ) (c0 o : Nat) (hc : σ 21 0 = (c0 : Int)) (ho9 : σ 21 1 = (o : Int)) (hc14 : c0 ≤ 14) (ho14 : o < 14) : GI l θ yX5_afresh cX5_afresh 2 (some .int) 4 89 [.ref (tad θ 0)] σ z (fun q σ' z' => (q = fp σ 3 49 ∧ fp σ' 3 = rsC (fp σ 3) ∧ rmC (fp σ 3) c0 o σ σ') ∧ fr wNd σ σ' ∧ z' = z) := by
  refine g_enter (ret := (some .int)) (by decide +kernel) (Nat.le_of_ble_eq_true rfl) ?_
  intro p e s m args below meth c ls F hB hl
  obtain ⟨hx, hb, hr, hml, hown, hts, hlk, hK, hst⟩ := F
  have hR := hB.1.2
  have hl : lv_has ls 2 [(0, .ref (tad θ 0))] := hl
  refine lv_aload_n hx hb dX5_afresh_0 rfl (lv_at hl 0 rfl) ?_
  refine g_getr (k := 1) (j := 3) hx hb hts hown hK hθ hB cf5 (by decide) rfl (by decide) kw_167 rfl rfl dX5_afresh_1 ?_
  refine g_geti (k := 1) hx hb hts hown hK hB cf1 (by decide) rfl (by decide) kw_54 rfl dX5_afresh_4 ?_
  have hr_1 := hR 3 1
  refine lv_istore_n (lv' := [(1, .int (iZ (σ 3 1))), (0, .ref (tad θ 0))]) hx hb dX5_afresh_7 rfl hl (by decide) rfl (fun ls hl => ?_)
  refine lv_aload_n hx hb dX5_afresh_8 rfl (lv_at hl 1 rfl) ?_
  refine g_getr (k := 4) (j := 21) hx hb hts hown hK hθ hB cf5 (by decide) rfl (by decide) kw_170 rfl rfl dX5_afresh_9 ?_
  refine lv_aload_n hx hb dX5_afresh_12 rfl (lv_at hl 1 rfl) ?_
  refine g_getr (k := 1) (j := 3) hx hb hts hown hK hθ hB cf5 (by decide) rfl (by decide) kw_167 rfl rfl dX5_afresh_13 ?_
  refine g_callv (g_runV (i := 21) (As := [.ref (tad θ 3)]) (rest := []) hx hb hml hown hts hK hst hB (mX0_remember l θ hθ σ z c0 o hc ho9 hc14 ho14) mv_X0_remember kw_491 cf0 (by decide) rfl rfl hl.1 rfl (Nat.le_of_ble_eq_true rfl) ⟨by decide, by decide⟩ ⟨Nat.le_refl _, Nat.le_refl _⟩ dX5_afresh_16) hB (fun σ1 z_2 H locs hp1 hB => ?_)
  obtain ⟨hp1, hf1, e2_⟩ := hp1
  rw [e2_] at hB
  clear e2_
  have hR := hB.1.2
  have hrm1 := rmC.of hp1 hf1
  have hnw1 := hf1.mono (nw_do (show (o + c0) % 14 < 14 by omega))
  have hnd1 := hf1.mono (nd_do (show (o + c0) % 14 < 14 by omega))
  have hg1 : fp σ1 3 = fp σ 3 := fp_fr hf1 ⟨by simp [wDo, wF]; omega, by simp [wDo, wF]; omega, fun j k h1 h2 => by simp [wDo, wF]; omega⟩
  refine lv_aload_n hx hb dX5_afresh_19 rfl (lv_at hl 1 rfl) ?_
  refine g_getr (k := 1) (j := 3) hx hb hts hown hK hθ hB cf5 (by decide) rfl (by decide) kw_167 rfl rfl dX5_afresh_20 ?_
  refine g_callv (g_runV (i := 3) (As := []) (rest := []) hx hb hml hown hts hK hst hB (mX1_restart l θ hθ σ1 z 3 isF_3) mv_X1_restart kw_349 cf1 (by decide) rfl rfl hl.1 rfl (Nat.le_of_ble_eq_true rfl) ⟨by decide, by decide⟩ ⟨Nat.le_refl _, Nat.le_refl _⟩ dX5_afresh_23) hB (fun σ2 z_4 H locs hp2 hB => ?_)
  obtain ⟨hp2, hf2, e2_⟩ := hp2
  rw [e2_] at hB
  clear e2_
  have hR := hB.1.2
  refine lv_iload_n hx hb dX5_afresh_26 rfl (lv_at hl 0 rfl) ?_
  exact g_iret hx hb hr hlk hB dX5_afresh_27 ⟨by omega, by omega⟩ (⟨⟨rfl, by rw [hp2, hg1], hrm1.keep hf2 wF3_row⟩, hnd1.tr (hf2.mono nd_3), rfl⟩)
set_option maxHeartbeats 4000000 in
set_option maxRecDepth 100000 in
theorem mX5_tell (l : Launch) (θ : gT) (hθ : gOK θ) (σ : gS) (z : gZ) (N : Nat) (hG : cW (fp σ 3) N) (c9 o : Nat) (hc : σ 21 0 = (c9 : Int)) (ho9 : σ 21 1 = (o : Int)) (hc14 : c9 ≤ 14) (ho14 : o < 14) (x9 K a0 b0 c0 : Int) (hxr : rg x9) (hKr : rg K) (har : rg a0) (hbr : rg b0) (hcr : rg c0) : GI l θ yX5_tell cX5_tell 6 (some .int) 6 138 [.ref (tad θ 0), .int (iZ x9), .int (iZ K), .int (iZ a0), .int (iZ b0), .int (iZ c0)] σ z (fun q σ' z' => ((¬ (0 ≤ x9 ∧ x9 < σ 3 0) ∧ q = -1 ∧ σ' = σ) ∨ ∃ s0 : Nat, x9 = (s0 : Int) ∧ (s0 : Int) < σ 3 0 ∧ ((¬ ((0 ≤ K ∧ K ≤ 11) ∧ (0 ≤ a0 ∧ a0 ≤ fgL K 0 (σ 3 0)) ∧ (0 ≤ b0 ∧ b0 ≤ fgL K 1 (σ 3 0)) ∧ (0 ≤ c0 ∧ c0 ≤ fgL K 2 (σ 3 0))) ∧ q = -2 ∧ σ' = σ) ∨ (((0 ≤ K ∧ K ≤ 11) ∧ (0 ≤ a0 ∧ a0 ≤ fgL K 0 (σ 3 0)) ∧ (0 ≤ b0 ∧ b0 ≤ fgL K 1 (σ 3 0)) ∧ (0 ≤ c0 ∧ c0 ≤ fgL K 2 (σ 3 0))) ∧ fp σ' 3 = rsC (eqC (fp σ 3) s0 K a0 b0 c0) ∧ cAn (rsC (eqC (fp σ 3) s0 K a0 b0 c0)) N σ' ∧ rmC (fp σ 3) c9 o σ σ' ∧ (((σ' 13 0 = -9 ∧ σ' 13 1 = 0 ∧ σ' 13 2 = -9) ∧ q = 1) ∨ (¬ (σ' 13 0 = -9 ∧ σ' 13 1 = 0 ∧ σ' 13 2 = -9) ∧ q = 0))))) ∧ fr wNw σ σ' ∧ z' = z) := by
  refine g_enter (ret := (some .int)) (by decide +kernel) (Nat.le_of_ble_eq_true rfl) ?_
  intro p e s m args below meth c ls F hB hl
  obtain ⟨hx, hb, hr, hml, hown, hts, hlk, hK, hst⟩ := F
  have hR := hB.1.2
  have hl : lv_has ls 6 [(0, .ref (tad θ 0)), (1, .int (iZ x9)), (2, .int (iZ K)), (3, .int (iZ a0)), (4, .int (iZ b0)), (5, .int (iZ c0))] := hl
  have hN8 := hG.2.1
  have h00 : σ 3 0 = (N : Int) := hG.1
  have hn8 : 0 ≤ σ 3 0 ∧ σ 3 0 ≤ 8 := by omega
  refine lv_aload_n hx hb dX5_tell_0 rfl (lv_at hl 0 rfl) ?_
  refine lv_iload_n hx hb dX5_tell_1 rfl (lv_at hl 1 rfl) ?_
  refine g_calli (g_runV (i := 0) (As := [.int (iZ x9)]) (rest := []) hx hb hml hown hts hK hst hB (mX5_isStream l θ hθ σ z (by omega) x9 ⟨by omega, by omega⟩) mv_X5_isStream kw_462 cf5 (by decide) rfl rfl hl.1 rfl (Nat.le_of_ble_eq_true rfl) ⟨by decide, by decide⟩ ⟨Nat.le_refl _, Nat.le_refl _⟩ dX5_tell_2) hB (fun qi σ_1 z_2 H locs hqi hpi hB => ?_)
  obtain ⟨hpi, e1_, e2_⟩ := hpi
  rw [e1_, e2_] at hB
  clear e1_ e2_
  refine z_if_ne (tgt := 10) hx hb dX5_tell_5 (by decide) ⟨by omega, by omega⟩ (fun c_3 => ?_) (fun c_3 => ?_)
  · obtain ⟨s0, hs0⟩ : ∃ s0 : Nat, x9 = (s0 : Int) := ⟨x9.toNat, by omega⟩
    have hs8 : s0 < 8 := by omega
    have hl : lv_has ls 6 [(0, .ref (tad θ 0)), (1, .int (iZ ((s0 : Nat) : Int))), (2, .int (iZ K)), (3, .int (iZ a0)), (4, .int (iZ b0)), (5, .int (iZ c0))] := by rw [hs0] at hl; exact hl
    refine lv_aload_n hx hb dX5_tell_10 rfl (lv_at hl 0 rfl) ?_
    refine lv_iload_n hx hb dX5_tell_11 rfl (lv_at hl 2 rfl) ?_
    refine lv_iload_n hx hb dX5_tell_12 rfl (lv_at hl 3 rfl) ?_
    refine lv_iload hx hb dX5_tell_13 (lv_at hl 4 rfl) ?_
    refine lv_iload hx hb dX5_tell_15 (lv_at hl 5 rfl) ?_
    refine g_calli (g_runV (i := 0) (As := [.int (iZ K), .int (iZ a0), .int (iZ b0), .int (iZ c0)]) (rest := []) hx hb hml hown hts hK hst hB (mX5_isEquation l θ hθ σ z hn8 K a0 b0 c0 ⟨by omega, by omega⟩ ⟨by omega, by omega⟩ ⟨by omega, by omega⟩ ⟨by omega, by omega⟩) mv_X5_isEquation kw_538 cf5 (by decide) rfl rfl hl.1 rfl (Nat.le_of_ble_eq_true rfl) ⟨by decide, by decide⟩ ⟨Nat.le_refl _, Nat.le_refl _⟩ dX5_tell_17) hB (fun qe σ_4 z_5 H locs hqe hpe hB => ?_)
    obtain ⟨hpe, e1_, e2_⟩ := hpe
    rw [e1_, e2_] at hB
    clear e1_ e2_
    rcases hpe with ⟨hqe, heq⟩ | ⟨hqe, hE⟩
    · subst hqe
      have hE := heq
      rw [h00] at heq
      have hcw := cW_rs (cW_eq hG (s := s0) (by omega) heq.1 heq.2.1 heq.2.2.1 heq.2.2.2)
      refine z_if_ne (tgt := 26) hx hb dX5_tell_20 (by decide) ⟨by decide, by decide⟩ (fun c_6 => ?_) (fun c_6 => ?_)
      · refine lv_aload_n hx hb dX5_tell_26 rfl (lv_at hl 0 rfl) ?_
        refine g_getr (k := 4) (j := 21) hx hb hts hown hK hθ hB cf5 (by decide) rfl (by decide) kw_170 rfl rfl dX5_tell_27 ?_
        refine lv_aload_n hx hb dX5_tell_30 rfl (lv_at hl 0 rfl) ?_
        refine g_getr (k := 1) (j := 3) hx hb hts hown hK hθ hB cf5 (by decide) rfl (by decide) kw_167 rfl rfl dX5_tell_31 ?_
        refine g_callv (g_runV (i := 21) (As := [.ref (tad θ 3)]) (rest := []) hx hb hml hown hts hK hst hB (mX0_remember l θ hθ σ z c9 o hc ho9 hc14 ho14) mv_X0_remember kw_491 cf0 (by decide) rfl rfl hl.1 rfl (Nat.le_of_ble_eq_true rfl) ⟨by decide, by decide⟩ ⟨Nat.le_refl _, Nat.le_refl _⟩ dX5_tell_34) hB (fun σ1 z_7 H locs hp1 hB => ?_)
        obtain ⟨hp1, hf1, e2_⟩ := hp1
        rw [e2_] at hB
        clear e2_
        have hR := hB.1.2
        have hrm1 := rmC.of hp1 hf1
        have hnw1 := hf1.mono (nw_do (show (o + c9) % 14 < 14 by omega))
        have hnd1 := hf1.mono (nd_do (show (o + c9) % 14 < 14 by omega))
        have hg1 : fp σ1 3 = fp σ 3 := fp_fr hf1 ⟨by simp [wDo, wF]; omega, by simp [wDo, wF]; omega, fun j k h1 h2 => by simp [wDo, wF]; omega⟩
        refine lv_aload_n hx hb dX5_tell_37 rfl (lv_at hl 0 rfl) ?_
        refine g_getr (k := 1) (j := 3) hx hb hts hown hK hθ hB cf5 (by decide) rfl (by decide) kw_167 rfl rfl dX5_tell_38 ?_
        refine lv_iload_n hx hb dX5_tell_41 rfl (lv_at hl 1 rfl) ?_
        refine lv_iload_n hx hb dX5_tell_42 rfl (lv_at hl 2 rfl) ?_
        refine lv_iload_n hx hb dX5_tell_43 rfl (lv_at hl 3 rfl) ?_
        refine lv_iload hx hb dX5_tell_44 (lv_at hl 4 rfl) ?_
        refine lv_iload hx hb dX5_tell_46 (lv_at hl 5 rfl) ?_
        refine g_callv (g_runV (i := 3) (As := [.int (iZ ((s0 : Nat) : Int)), .int (iZ K), .int (iZ a0), .int (iZ b0), .int (iZ c0)]) (rest := []) hx hb hml hown hts hK hst hB (mX1_equate l θ hθ σ1 z 3 isF_3 s0 (by omega) K a0 b0 c0 ⟨by omega, by omega⟩ ⟨by omega, by omega⟩ ⟨by omega, by omega⟩ ⟨by omega, by omega⟩) mv_X1_equate kw_543 cf1 (by decide) rfl rfl hl.1 rfl (Nat.le_of_ble_eq_true rfl) ⟨by decide, by decide⟩ ⟨Nat.le_refl _, Nat.le_refl _⟩ dX5_tell_48) hB (fun σ2 z_9 H locs hp2 hB => ?_)
        obtain ⟨hp2, hf2, e2_⟩ := hp2
        rw [e2_] at hB
        clear e2_
        have hR := hB.1.2
        refine lv_aload_n hx hb dX5_tell_51 rfl (lv_at hl 0 rfl) ?_
        refine g_getr (k := 1) (j := 3) hx hb hts hown hK hθ hB cf5 (by decide) rfl (by decide) kw_167 rfl rfl dX5_tell_52 ?_
        refine g_callv (g_runV (i := 3) (As := []) (rest := []) hx hb hml hown hts hK hst hB (mX1_restart l θ hθ σ2 z 3 isF_3) mv_X1_restart kw_349 cf1 (by decide) rfl rfl hl.1 rfl (Nat.le_of_ble_eq_true rfl) ⟨by decide, by decide⟩ ⟨Nat.le_refl _, Nat.le_refl _⟩ dX5_tell_55) hB (fun σ3 z_11 H locs hp3 hB => ?_)
        obtain ⟨hp3, hf3, e2_⟩ := hp3
        rw [e2_] at hB
        clear e2_
        have hR := hB.1.2
        have hg3 : fp σ3 3 = rsC (eqC (fp σ 3) s0 K a0 b0 c0) := by rw [hp3, hp2, hg1]
        refine lv_aload_n hx hb dX5_tell_58 rfl (lv_at hl 0 rfl) ?_
        refine g_getr (k := 3) (j := 13) hx hb hts hown hK hθ hB cf5 (by decide) rfl (by decide) kw_169 rfl rfl dX5_tell_59 ?_
        refine lv_aload_n hx hb dX5_tell_62 rfl (lv_at hl 0 rfl) ?_
        refine g_getr (k := 1) (j := 3) hx hb hts hown hK hθ hB cf5 (by decide) rfl (by decide) kw_167 rfl rfl dX5_tell_63 ?_
        refine g_callv (g_runV (i := 13) (As := [.ref (tad θ 3)]) (rest := []) hx hb hml hown hts hK hst hB (mX2_study l θ hθ σ3 z N (by rw [hg3]; exact hcw)) mv_X2_study kw_366 cf2 (by decide) rfl rfl hl.1 rfl (Nat.le_of_ble_eq_true rfl) ⟨by decide, by decide⟩ ⟨Nat.le_refl _, Nat.le_refl _⟩ dX5_tell_66) hB (fun σ4 z_13 H locs hp4 hB => ?_)
        obtain ⟨hp4, hf4, e2_⟩ := hp4
        rw [e2_] at hB
        clear e2_
        have hR := hB.1.2
        rw [hg3] at hp4
        refine lv_aload_n hx hb dX5_tell_69 rfl (lv_at hl 0 rfl) ?_
        refine g_calli (g_runV (i := 0) (As := []) (rest := []) hx hb hml hown hts hK hst hB (mX5_soundness l θ hθ σ4 z ) mv_X5_soundness kw_442 cf5 (by decide) rfl rfl hl.1 rfl (Nat.le_of_ble_eq_true rfl) ⟨by decide, by decide⟩ ⟨Nat.le_refl _, Nat.le_refl _⟩ dX5_tell_70) hB (fun qs σ_15 z_16 H locs hqs hps hB => ?_)
        obtain ⟨hps, e1_, e2_⟩ := hps
        rw [e1_, e2_] at hB
        clear e1_ e2_
        exact g_iret hx hb hr hlk hB dX5_tell_73 ⟨by omega, by omega⟩ (⟨Or.inr ⟨s0, hs0, by omega, Or.inr ⟨hE, by rw [se_fp hf4 isF_3]; exact hg3, hp4, ((hrm1.keep hf2 wF3_row).keep hf3 wF3_row).keep hf4 wSe_row, hps⟩⟩, ((hnw1.tr (hf2.mono nw_3)).tr (hf3.mono nw_3)).tr (hf4.mono nw_se), rfl⟩)
      · exact absurd c_6 (by decide)
    · subst hqe
      refine z_if_ne (tgt := 26) hx hb dX5_tell_20 (by decide) ⟨by decide, by decide⟩ (fun c_17 => ?_) (fun c_17 => ?_)
      · exact absurd (by decide) c_17
      · refine lv_bipush (v := iZ (-2)) hx hb dX5_tell_23 (by decide) ?_
        exact g_iret hx hb hr hlk hB dX5_tell_25 ⟨by decide, by decide⟩ (⟨Or.inr ⟨s0, hs0, by omega, Or.inl ⟨hE, rfl, rfl⟩⟩, fr.rf, rfl⟩)
  · refine lv_iconst (v := iZ (-1)) hx hb dX5_tell_8 rfl ?_
    exact g_iret hx hb hr hlk hB dX5_tell_9 ⟨by decide, by decide⟩ (⟨Or.inl ⟨by omega, rfl, rfl⟩, fr.rf, rfl⟩)
set_option maxHeartbeats 4000000 in
set_option maxRecDepth 100000 in
theorem mX5_undo (l : Launch) (θ : gT) (hθ : gOK θ) (σ : gS) (z : gZ) (c0 o : Nat) (hc : σ 21 0 = (c0 : Int)) (ho9 : σ 21 1 = (o : Int)) (hc14 : c0 ≤ 14) (ho14 : o < 14) (N : Nat) (hrw : 0 < c0 → cW (fp σ (23 + 5 * ((o + (c0 - 1)) % 14))) N) : GI l θ yX5_undo cX5_undo 1 (some .int) 6 138 [.ref (tad θ 0)] σ z (fun q σ' z' => ((c0 = 0 ∧ q = -3 ∧ σ' = σ) ∨ (0 < c0 ∧ q = ((c0 - 1 : Nat) : Int) ∧ fp σ' 3 = fp σ (23 + 5 * ((o + (c0 - 1)) % 14)) ∧ σ' 21 0 = ((c0 - 1 : Nat) : Int) ∧ σ' 21 1 = (o : Int) ∧ cAn (fp σ (23 + 5 * ((o + (c0 - 1)) % 14))) N σ' ∧ ∀ j, j < 14 → fp σ' (23 + 5 * j) = fp σ (23 + 5 * j))) ∧ fr wNw σ σ' ∧ z' = z) := by
  refine g_enter (ret := (some .int)) (by decide +kernel) (Nat.le_of_ble_eq_true rfl) ?_
  intro p e s m args below meth c ls F hB hl
  obtain ⟨hx, hb, hr, hml, hown, hts, hlk, hK, hst⟩ := F
  have hR := hB.1.2
  have hl : lv_has ls 1 [(0, .ref (tad θ 0))] := hl
  refine lv_aload_n hx hb dX5_undo_0 rfl (lv_at hl 0 rfl) ?_
  refine g_getr (k := 4) (j := 21) hx hb hts hown hK hθ hB cf5 (by decide) rfl (by decide) kw_170 rfl rfl dX5_undo_1 ?_
  refine g_geti (k := 0) hx hb hts hown hK hB cf0 (by decide) rfl (by decide) kw_132 rfl dX5_undo_4 ?_
  refine z_top (b := ((c0 : Nat) : Int)) (hc) ?_
  refine z_if_ne (tgt := 13) hx hb dX5_undo_7 (by decide) ⟨by omega, by omega⟩ (fun c_1 => ?_) (fun c_1 => ?_)
  · have hcp : 0 < c0 := by omega
    have hcw := hrw hcp
    refine lv_aload_n hx hb dX5_undo_13 rfl (lv_at hl 0 rfl) ?_
    refine g_getr (k := 4) (j := 21) hx hb hts hown hK hθ hB cf5 (by decide) rfl (by decide) kw_170 rfl rfl dX5_undo_14 ?_
    refine lv_aload_n hx hb dX5_undo_17 rfl (lv_at hl 0 rfl) ?_
    refine g_getr (k := 1) (j := 3) hx hb hts hown hK hθ hB cf5 (by decide) rfl (by decide) kw_167 rfl rfl dX5_undo_18 ?_
    refine g_callv (g_runV (i := 21) (As := [.ref (tad θ 3)]) (rest := []) hx hb hml hown hts hK hst hB (mX0_takeBack l θ hθ σ z c0 o hc ho9 hc14 ho14 hcp) mv_X0_takeBack kw_548 cf0 (by decide) rfl rfl hl.1 rfl (Nat.le_of_ble_eq_true rfl) ⟨by decide, by decide⟩ ⟨Nat.le_refl _, Nat.le_refl _⟩ dX5_undo_21) hB (fun σ1 z_2 H locs hp1 hB => ?_)
    obtain ⟨hp1, hf1, e2_⟩ := hp1
    rw [e2_] at hB
    clear e2_
    have hR := hB.1.2
    obtain ⟨hg1, hc1, ho1⟩ := hp1
    refine lv_aload_n hx hb dX5_undo_24 rfl (lv_at hl 0 rfl) ?_
    refine g_getr (k := 3) (j := 13) hx hb hts hown hK hθ hB cf5 (by decide) rfl (by decide) kw_169 rfl rfl dX5_undo_25 ?_
    refine lv_aload_n hx hb dX5_undo_28 rfl (lv_at hl 0 rfl) ?_
    refine g_getr (k := 1) (j := 3) hx hb hts hown hK hθ hB cf5 (by decide) rfl (by decide) kw_167 rfl rfl dX5_undo_29 ?_
    refine g_callv (g_runV (i := 13) (As := [.ref (tad θ 3)]) (rest := []) hx hb hml hown hts hK hst hB (mX2_study l θ hθ σ1 z N (by rw [hg1]; exact hcw)) mv_X2_study kw_366 cf2 (by decide) rfl rfl hl.1 rfl (Nat.le_of_ble_eq_true rfl) ⟨by decide, by decide⟩ ⟨Nat.le_refl _, Nat.le_refl _⟩ dX5_undo_32) hB (fun σ2 z_4 H locs hp2 hB => ?_)
    obtain ⟨hp2, hf2, e2_⟩ := hp2
    rw [e2_] at hB
    clear e2_
    have hR := hB.1.2
    rw [hg1] at hp2
    refine lv_aload_n hx hb dX5_undo_35 rfl (lv_at hl 0 rfl) ?_
    refine g_getr (k := 4) (j := 21) hx hb hts hown hK hθ hB cf5 (by decide) rfl (by decide) kw_170 rfl rfl dX5_undo_36 ?_
    refine g_geti (k := 0) hx hb hts hown hK hB cf0 (by decide) rfl (by decide) kw_132 rfl dX5_undo_39 ?_
    refine z_top (b := (((c0 - 1) : Nat) : Int)) (by rw [hf2 21 0 rfl]; exact hc1) ?_
    exact g_iret hx hb hr hlk hB dX5_undo_42 ⟨by omega, by omega⟩ (⟨Or.inr ⟨hcp, rfl, by rw [se_fp hf2 isF_3]; exact hg1, by rw [hf2 21 0 rfl]; exact hc1, by rw [hf2 21 1 rfl]; exact ho1, hp2, fun j hj => by rw [se_fp hf2 (isF_row hj)]; exact fp_fr hf1 ⟨by simp [wTB, wF]; omega, by simp [wTB, wF]; omega, fun i k h1 h2 => by simp [wTB, wF]; omega⟩⟩, (hf1.mono nw_tb).tr (hf2.mono nw_se), rfl⟩)
  · refine lv_bipush (v := iZ (-3)) hx hb dX5_undo_10 (by decide) ?_
    exact g_iret hx hb hr hlk hB dX5_undo_12 ⟨by decide, by decide⟩ (⟨Or.inl ⟨by omega, rfl, rfl⟩, fr.rf, rfl⟩)
