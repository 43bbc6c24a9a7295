set_option maxHeartbeats 4000000 in
set_option maxRecDepth 100000 in
theorem mX0_forget (l : Launch) (θ : gT) (hθ : gOK θ) (σ : gS) (z : gZ)  : GV l θ yX0_forget cX0_forget 1 0 0 [.ref (tad θ 21)] σ z (fun σ' z' => (σ' 21 0 = 0) ∧ fr w21 σ σ' ∧ z' = z) := by
  refine g_enter (ret := none) (by decide +kernel) (Nat.le_of_ble_eq_true rfl) ?_
  intro p e s m args below meth c ls F hB hl
  obtain ⟨hx, hb, hr, hml, hown, hts, hlk, hK, hst⟩ := F
  have hR := hB.1.2
  have hl : lv_has ls 1 [(0, .ref (tad θ 21))] := hl
  refine lv_aload_n hx hb dX0_forget_0 rfl (lv_at hl 0 rfl) ?_
  refine lv_iconst (v := iZ 0) hx hb dX0_forget_1 rfl ?_
  refine g_putI (k := 0) hx hb hts hown hK hθ hB cf0 tyX0 tyX0_ok (by decide) rfl (by decide) kw_131 rfl rfl rfl ⟨by decide, by decide⟩ dX0_forget_2 (fun H locs hB => ?_)
  obtain ⟨σ1, hσ1⟩ : ∃ x_ : gS, x_ = up2 σ 21 0 0 := ⟨_, rfl⟩
  rw [← hσ1] at hB
  have hR := hB.1.2
  exact g_vret hx hb hr hlk hB dX0_forget_5 (⟨by rw [hσ1, up2_eq], by rw [hσ1]; exact fr.up rfl, rfl⟩)
set_option maxHeartbeats 4000000 in
set_option maxRecDepth 100000 in
theorem mX0_remember (l : Launch) (θ : gT) (hθ : gOK θ) (σ : gS) (z : gZ) (c0 o : Nat) (hc : σ 21 0 = (c0 : Int)) (ho9 : σ 21 1 = (o : Int)) (hc14 : c0 ≤ 14) (ho14 : o < 14) : GV l θ yX0_remember cX0_remember 2 3 68 [.ref (tad θ 21), .ref (tad θ 3)] σ z (fun σ' z' => (fp σ' (23 + 5 * ((o + c0) % 14)) = fp σ 3 ∧ ((c0 < 14 ∧ σ' 21 0 = (c0 : Int) + 1 ∧ σ' 21 1 = (o : Int)) ∨ (c0 = 14 ∧ σ' 21 0 = 14 ∧ σ' 21 1 = (((o + 1) % 14 : Nat) : Int)))) ∧ fr (wDo ((o + c0) % 14)) σ σ' ∧ z' = z) := by
  refine g_enter (ret := none) (by decide +kernel) (Nat.le_of_ble_eq_true rfl) ?_
  intro p e s m args below meth c ls F hB hl
  obtain ⟨hx, hb, hr, hml, hown, hts, hlk, hK, hst⟩ := F
  have hR := hB.1.2
  have hl : lv_has ls 2 [(0, .ref (tad θ 21)), (1, .ref (tad θ 3))] := hl
  obtain ⟨p0, hp0⟩ : ∃ p0, p0 = (o + c0) % 14 := ⟨_, rfl⟩
  have hp14 : p0 < 14 := by omega
  have hFp := isF_row hp14
  rw [← hp0]
  refine lv_aload_n hx hb dX0_remember_0 rfl (lv_at hl 1 rfl) ?_
  refine lv_aload_n hx hb dX0_remember_1 rfl (lv_at hl 0 rfl) ?_
  refine g_getr (k := 2) (j := 22) hx hb hts hown hK hθ hB cf0 (by decide) rfl (by decide) kw_134 rfl rfl dX0_remember_2 ?_
  refine lv_aload_n hx hb dX0_remember_5 rfl (lv_at hl 0 rfl) ?_
  refine g_geti (k := 1) hx hb hts hown hK hB cf0 (by decide) rfl (by decide) kw_133 rfl dX0_remember_6 ?_
  refine z_top (b := ((o : Nat) : Int)) (ho9) ?_
  refine lv_aload_n hx hb dX0_remember_9 rfl (lv_at hl 0 rfl) ?_
  refine g_geti (k := 0) hx hb hts hown hK hB cf0 (by decide) rfl (by decide) kw_131 rfl dX0_remember_10 ?_
  refine z_top (b := ((c0 : Nat) : Int)) (hc) ?_
  refine z_iadd hx hb dX0_remember_13 ?_
  refine lv_bipush (v := iZ 14) hx hb dX0_remember_14 (by decide) ?_
  refine z_irem hx hb dX0_remember_16 ⟨by omega, by omega⟩ (by omega) ⟨by decide, by decide⟩ (by decide) ?_
  refine g_aald (k := p0) (j := (23 + 5 * p0)) hx hb hK hθ hB (by decide) rfl (by omega) (Nat.lt_of_lt_of_eq (by omega : p0 < 14) (Eq.symm rfl)) (by decide) (tg_22 p0) dX0_remember_17 ?_
  refine g_callv (g_runSN (As := [.ref (tad θ 3), .ref (tad θ (23 + 5 * p0))]) (rest := []) hx hb hml hown hts hK hst hB (mX5_carry l θ hθ σ z 3 isF_3 (23 + 5 * p0) hFp (by omega)) ms_X5_carry hst.2.2.2.2.2.2.1 rfl hl.1 rfl (Nat.le_of_ble_eq_true rfl) ⟨by decide, by decide⟩ ⟨Nat.le_refl _, Nat.le_refl _⟩ dX0_remember_18) hB (fun σ1 z_1 H locs hp1 hB => ?_)
  obtain ⟨hp1, hf1, e2_⟩ := hp1
  rw [e2_] at hB
  clear e2_
  have hR := hB.1.2
  have h21 : ∀ k, wF (23 + 5 * p0) 21 k = false := fun k => by simp [wF]; omega
  have hc1 : σ1 21 0 = (c0 : Int) := by rw [hf1 21 0 (h21 0)]; exact hc
  have ho1 : σ1 21 1 = (o : Int) := by rw [hf1 21 1 (h21 1)]; exact ho9
  refine lv_aload_n hx hb dX0_remember_21 rfl (lv_at hl 0 rfl) ?_
  refine g_geti (k := 0) hx hb hts hown hK hB cf0 (by decide) rfl (by decide) kw_131 rfl dX0_remember_22 ?_
  refine z_top (b := ((c0 : Nat) : Int)) (hc1) ?_
  refine lv_bipush (v := iZ 14) hx hb dX0_remember_25 (by decide) ?_
  refine z_icmp_ge (tgt := 43) hx hb dX0_remember_27 (by decide) ⟨by omega, by omega⟩ ⟨by decide, by decide⟩ (fun c_3 => ?_) (fun c_3 => ?_)
  · refine lv_aload_n hx hb dX0_remember_43 rfl (lv_at hl 0 rfl) ?_
    refine lv_aload_n hx hb dX0_remember_44 rfl (lv_at hl 0 rfl) ?_
    refine g_geti (k := 1) hx hb hts hown hK hB cf0 (by decide) rfl (by decide) kw_133 rfl dX0_remember_45 ?_
    refine z_top (b := ((o : Nat) : Int)) (ho1) ?_
    refine lv_iconst (v := iZ 1) hx hb dX0_remember_48 rfl ?_
    refine z_iadd hx hb dX0_remember_49 ?_
    refine lv_bipush (v := iZ 14) hx hb dX0_remember_50 (by decide) ?_
    refine z_irem hx hb dX0_remember_52 ⟨by omega, by omega⟩ (by omega) ⟨by decide, by decide⟩ (by decide) ?_
    refine g_putI (k := 1) hx hb hts hown hK hθ hB cf0 tyX0 tyX0_ok (by decide) rfl (by decide) kw_133 rfl rfl rfl ⟨by omega, by omega⟩ dX0_remember_53 (fun H locs hB => ?_)
    obtain ⟨σ2, hσ2⟩ : ∃ x_ : gS, x_ = up2 σ1 21 1 ((((o : Nat) : Int) + 1) % 14) := ⟨_, rfl⟩
    rw [← hσ2] at hB
    have hR := hB.1.2
    exact g_vret hx hb hr hlk hB dX0_remember_56 (⟨⟨by rw [hσ2, fp_off (by omega)]; exact hp1, Or.inr ⟨by omega, by rw [hσ2, up2_k _ _ (by decide), hc1]; omega, by rw [hσ2, up2_eq]; omega⟩⟩, by rw [hσ2]; exact (hf1.mono (wF_wDo p0)).tr (fr.up (by simp [wDo])), rfl⟩)
  · refine lv_aload_n hx hb dX0_remember_30 rfl (lv_at hl 0 rfl) ?_
    refine lv_dup hx hb dX0_remember_31 rfl ?_
    refine g_geti (k := 0) hx hb hts hown hK hB cf0 (by decide) rfl (by decide) kw_131 rfl dX0_remember_32 ?_
    refine z_top (b := ((c0 : Nat) : Int)) (hc1) ?_
    refine lv_iconst (v := iZ 1) hx hb dX0_remember_35 rfl ?_
    refine z_iadd hx hb dX0_remember_36 ?_
    refine g_putI (k := 0) hx hb hts hown hK hθ hB cf0 tyX0 tyX0_ok (by decide) rfl (by decide) kw_131 rfl rfl rfl ⟨by omega, by omega⟩ dX0_remember_37 (fun H locs hB => ?_)
    obtain ⟨σ2, hσ2⟩ : ∃ x_ : gS, x_ = up2 σ1 21 0 (((c0 : Nat) : Int) + 1) := ⟨_, rfl⟩
    rw [← hσ2] at hB
    have hR := hB.1.2
    refine lv_goto (tgt := 56) hx hb dX0_remember_40 (by decide) ?_
    exact g_vret hx hb hr hlk hB dX0_remember_56 (⟨⟨by rw [hσ2, fp_off (by omega)]; exact hp1, Or.inl ⟨by omega, by rw [hσ2, up2_eq], by rw [hσ2, up2_k _ _ (by decide)]; exact ho1⟩⟩, by rw [hσ2]; exact (hf1.mono (wF_wDo p0)).tr (fr.up (by simp [wDo])), rfl⟩)
set_option maxHeartbeats 4000000 in
set_option maxRecDepth 100000 in
theorem mX0_takeBack (l : Launch) (θ : gT) (hθ : gOK θ) (σ : gS) (z : gZ) (c0 o : Nat) (hc : σ 21 0 = (c0 : Int)) (ho9 : σ 21 1 = (o : Int)) (hc14 : c0 ≤ 14) (ho14 : o < 14) (h0 : 0 < c0) : GV l θ yX0_takeBack cX0_takeBack 2 3 68 [.ref (tad θ 21), .ref (tad θ 3)] σ z (fun σ' z' => (fp σ' 3 = fp σ (23 + 5 * ((o + (c0 - 1)) % 14)) ∧ σ' 21 0 = ((c0 - 1 : Nat) : Int) ∧ σ' 21 1 = (o : Int)) ∧ fr wTB σ σ' ∧ z' = z) := by
  refine g_enter (ret := none) (by decide +kernel) (Nat.le_of_ble_eq_true rfl) ?_
  intro p e s m args below meth c ls F hB hl
  obtain ⟨hx, hb, hr, hml, hown, hts, hlk, hK, hst⟩ := F
  have hR := hB.1.2
  have hl : lv_has ls 2 [(0, .ref (tad θ 21)), (1, .ref (tad θ 3))] := hl
  obtain ⟨p0, hp0⟩ : ∃ p0, p0 = (o + (c0 - 1)) % 14 := ⟨_, rfl⟩
  have hp14 : p0 < 14 := by omega
  have hFp := isF_row hp14
  rw [← hp0]
  refine lv_aload_n hx hb dX0_takeBack_0 rfl (lv_at hl 0 rfl) ?_
  refine g_geti (k := 0) hx hb hts hown hK hB cf0 (by decide) rfl (by decide) kw_131 rfl dX0_takeBack_1 ?_
  refine z_top (b := ((c0 : Nat) : Int)) (hc) ?_
  refine z_if_le (tgt := 38) hx hb dX0_takeBack_4 (by decide) ⟨by omega, by omega⟩ (fun c_1 => ?_) (fun c_1 => ?_)
  · exfalso; omega
  · refine lv_aload_n hx hb dX0_takeBack_7 rfl (lv_at hl 0 rfl) ?_
    refine lv_dup hx hb dX0_takeBack_8 rfl ?_
    refine g_geti (k := 0) hx hb hts hown hK hB cf0 (by decide) rfl (by decide) kw_131 rfl dX0_takeBack_9 ?_
    refine z_top (b := ((c0 : Nat) : Int)) (hc) ?_
    refine lv_iconst (v := iZ 1) hx hb dX0_takeBack_12 rfl ?_
    refine z_isub hx hb dX0_takeBack_13 ?_
    refine z_top (b := (((c0 - 1) : Nat) : Int)) (by omega) ?_
    refine g_putI (k := 0) hx hb hts hown hK hθ hB cf0 tyX0 tyX0_ok (by decide) rfl (by decide) kw_131 rfl rfl rfl ⟨by omega, by omega⟩ dX0_takeBack_14 (fun H locs hB => ?_)
    obtain ⟨σ1, hσ1⟩ : ∃ x_ : gS, x_ = up2 σ 21 0 (((c0 - 1) : Nat) : Int) := ⟨_, rfl⟩
    rw [← hσ1] at hB
    have hR := hB.1.2
    refine lv_aload_n hx hb dX0_takeBack_17 rfl (lv_at hl 0 rfl) ?_
    refine g_getr (k := 2) (j := 22) hx hb hts hown hK hθ hB cf0 (by decide) rfl (by decide) kw_134 rfl rfl dX0_takeBack_18 ?_
    refine lv_aload_n hx hb dX0_takeBack_21 rfl (lv_at hl 0 rfl) ?_
    refine g_geti (k := 1) hx hb hts hown hK hB cf0 (by decide) rfl (by decide) kw_133 rfl dX0_takeBack_22 ?_
    refine z_top (b := ((o : Nat) : Int)) (by rw [hσ1, up2_k _ _ (by decide)]; exact ho9) ?_
    refine lv_aload_n hx hb dX0_takeBack_25 rfl (lv_at hl 0 rfl) ?_
    refine g_geti (k := 0) hx hb hts hown hK hB cf0 (by decide) rfl (by decide) kw_131 rfl dX0_takeBack_26 ?_
    refine z_top (b := (((c0 - 1) : Nat) : Int)) (by rw [hσ1, up2_eq]) ?_
    refine z_iadd hx hb dX0_takeBack_29 ?_
    refine lv_bipush (v := iZ 14) hx hb dX0_takeBack_30 (by decide) ?_
    refine z_irem hx hb dX0_takeBack_32 ⟨by omega, by omega⟩ (by omega) ⟨by decide, by decide⟩ (by decide) ?_
    refine g_aald (k := p0) (j := (23 + 5 * p0)) hx hb hK hθ hB (by decide) rfl (by omega) (Nat.lt_of_lt_of_eq (by omega : p0 < 14) (Eq.symm rfl)) (by decide) (tg_22 p0) dX0_takeBack_33 ?_
    refine lv_aload_n hx hb dX0_takeBack_34 rfl (lv_at hl 1 rfl) ?_
    refine g_callv (g_runSN (As := [.ref (tad θ (23 + 5 * p0)), .ref (tad θ 3)]) (rest := []) hx hb hml hown hts hK hst hB (mX5_carry l θ hθ σ1 z (23 + 5 * p0) hFp 3 isF_3 (by omega)) ms_X5_carry hst.2.2.2.2.2.2.1 rfl hl.1 rfl (Nat.le_of_ble_eq_true rfl) ⟨by decide, by decide⟩ ⟨Nat.le_refl _, Nat.le_refl _⟩ dX0_takeBack_35) hB (fun σ2 z_2 H locs hp2 hB => ?_)
    obtain ⟨hp2, hf2, e2_⟩ := hp2
    rw [e2_] at hB
    clear e2_
    have hR := hB.1.2
    exact g_vret hx hb hr hlk hB dX0_takeBack_38 (⟨⟨by rw [hp2, hσ1, fp_off (by omega)], by rw [hf2 21 0 rfl, hσ1, up2_eq], by rw [hf2 21 1 rfl, hσ1, up2_k _ _ (by decide)]; exact ho9⟩, by rw [hσ1] at hf2; exact (fr.up rfl : fr wTB σ _).tr (hf2.mono wF_wTB), rfl⟩)
set_option maxHeartbeats 4000000 in
set_option maxRecDepth 100000 in
theorem mX3_add (l : Launch) (θ : gT) (hθ : gOK θ) (σ : gS) (z : gZ) (n : Nat) (hn : σ 93 0 = (n : Int)) (hn6 : n ≤ 6) (a0 b0 c0 y : Int) (har : rg a0) (hbr : rg b0) (hcr : rg c0) (hyr : rg y) : GI l θ yX3_add cX3_add 5 (some .boolean) 0 0 [.ref (tad θ 93), .int (iZ a0), .int (iZ b0), .int (iZ c0), .int (iZ y)] σ z (fun q σ' z' => ((n = 6 ∧ q = 0 ∧ σ' = σ) ∨ (n < 6 ∧ q = 1 ∧ σ' 93 0 = ((n + 1 : Nat) : Int) ∧ σ' 94 = upn (σ 94) n a0 ∧ σ' 95 = upn (σ 95) n b0 ∧ σ' 96 = upn (σ 96) n c0 ∧ σ' 97 = upn (σ 97) n (if y = 1 then 1 else 0))) ∧ fr wSg σ σ' ∧ z' = z) := by
  refine g_enter (ret := (some .boolean)) (by decide +kernel) (Nat.le_of_ble_eq_true rfl) ?_
  intro p e s m args below meth c ls F hB hl
  obtain ⟨hx, hb, hr, hml, hown, hts, hlk, hK, hst⟩ := F
  have hR := hB.1.2
  have hl : lv_has ls 5 [(0, .ref (tad θ 93)), (1, .int (iZ a0)), (2, .int (iZ b0)), (3, .int (iZ c0)), (4, .int (iZ y))] := hl
  refine lv_aload_n hx hb dX3_add_0 rfl (lv_at hl 0 rfl) ?_
  refine g_geti (k := 0) hx hb hts hown hK hB cf3 (by decide) rfl (by decide) kw_148 rfl dX3_add_1 ?_
  refine z_top (b := ((n : Nat) : Int)) (hn) ?_
  refine z_if_lt (tgt := 16) hx hb dX3_add_4 (by decide) ⟨by omega, by omega⟩ (fun c_1 => ?_) (fun c_1 => ?_)
  · exfalso; omega
  · refine lv_aload_n hx hb dX3_add_7 rfl (lv_at hl 0 rfl) ?_
    refine g_geti (k := 0) hx hb hts hown hK hB cf3 (by decide) rfl (by decide) kw_148 rfl dX3_add_8 ?_
    refine z_top (b := ((n : Nat) : Int)) (hn) ?_
    refine lv_bipush (v := iZ 6) hx hb dX3_add_11 (by decide) ?_
    refine z_icmp_lt (tgt := 18) hx hb dX3_add_13 (by decide) ⟨by omega, by omega⟩ ⟨by decide, by decide⟩ (fun c_2 => ?_) (fun c_2 => ?_)
    · refine lv_aload_n hx hb dX3_add_18 rfl (lv_at hl 0 rfl) ?_
      refine g_getr (k := 1) (j := 94) hx hb hts hown hK hθ hB cf3 (by decide) rfl (by decide) kw_150 rfl rfl dX3_add_19 ?_
      refine lv_aload_n hx hb dX3_add_22 rfl (lv_at hl 0 rfl) ?_
      refine g_geti (k := 0) hx hb hts hown hK hB cf3 (by decide) rfl (by decide) kw_148 rfl dX3_add_23 ?_
      refine z_top (b := ((n : Nat) : Int)) (hn) ?_
      refine lv_iload_n hx hb dX3_add_26 rfl (lv_at hl 1 rfl) ?_
      refine g_iast (k := n) hx hb hK hθ hB (by decide) rfl (by omega) (Nat.lt_of_lt_of_eq (by omega : n < 6) (Eq.symm rfl)) (by decide) ⟨by omega, by omega⟩ dX3_add_27 (fun H locs hB => ?_)
      obtain ⟨σ1, hσ1⟩ : ∃ x_ : gS, x_ = up2 σ 94 n a0 := ⟨_, rfl⟩
      rw [← hσ1] at hB
      have hR := hB.1.2
      refine lv_aload_n hx hb dX3_add_28 rfl (lv_at hl 0 rfl) ?_
      refine g_getr (k := 2) (j := 95) hx hb hts hown hK hθ hB cf3 (by decide) rfl (by decide) kw_151 rfl rfl dX3_add_29 ?_
      refine lv_aload_n hx hb dX3_add_32 rfl (lv_at hl 0 rfl) ?_
      refine g_geti (k := 0) hx hb hts hown hK hB cf3 (by decide) rfl (by decide) kw_148 rfl dX3_add_33 ?_
      refine z_top (b := ((n : Nat) : Int)) (by rw [hσ1, up2_c _ _ (by decide)]; exact hn) ?_
      refine lv_iload_n hx hb dX3_add_36 rfl (lv_at hl 2 rfl) ?_
      refine g_iast (k := n) hx hb hK hθ hB (by decide) rfl (by omega) (Nat.lt_of_lt_of_eq (by omega : n < 6) (Eq.symm rfl)) (by decide) ⟨by omega, by omega⟩ dX3_add_37 (fun H locs hB => ?_)
      obtain ⟨σ2, hσ2⟩ : ∃ x_ : gS, x_ = up2 σ1 95 n b0 := ⟨_, rfl⟩
      rw [← hσ2] at hB
      have hR := hB.1.2
      refine lv_aload_n hx hb dX3_add_38 rfl (lv_at hl 0 rfl) ?_
      refine g_getr (k := 3) (j := 96) hx hb hts hown hK hθ hB cf3 (by decide) rfl (by decide) kw_152 rfl rfl dX3_add_39 ?_
      refine lv_aload_n hx hb dX3_add_42 rfl (lv_at hl 0 rfl) ?_
      refine g_geti (k := 0) hx hb hts hown hK hB cf3 (by decide) rfl (by decide) kw_148 rfl dX3_add_43 ?_
      refine z_top (b := ((n : Nat) : Int)) (by rw [hσ2, up2_c _ _ (by decide), hσ1, up2_c _ _ (by decide)]; exact hn) ?_
      refine lv_iload_n hx hb dX3_add_46 rfl (lv_at hl 3 rfl) ?_
      refine g_iast (k := n) hx hb hK hθ hB (by decide) rfl (by omega) (Nat.lt_of_lt_of_eq (by omega : n < 6) (Eq.symm rfl)) (by decide) ⟨by omega, by omega⟩ dX3_add_47 (fun H locs hB => ?_)
      obtain ⟨σ3, hσ3⟩ : ∃ x_ : gS, x_ = up2 σ2 96 n c0 := ⟨_, rfl⟩
      rw [← hσ3] at hB
      have hR := hB.1.2
      refine lv_aload_n hx hb dX3_add_48 rfl (lv_at hl 0 rfl) ?_
      refine g_getr (k := 4) (j := 97) hx hb hts hown hK hθ hB cf3 (by decide) rfl (by decide) kw_153 rfl rfl dX3_add_49 ?_
      refine lv_aload_n hx hb dX3_add_52 rfl (lv_at hl 0 rfl) ?_
      refine g_geti (k := 0) hx hb hts hown hK hB cf3 (by decide) rfl (by decide) kw_148 rfl dX3_add_53 ?_
      refine z_top (b := ((n : Nat) : Int)) (by rw [hσ3, up2_c _ _ (by decide), hσ2, up2_c _ _ (by decide), hσ1, up2_c _ _ (by decide)]; exact hn) ?_
      refine lv_iload hx hb dX3_add_56 (lv_at hl 4 rfl) ?_
      refine lv_iconst (v := iZ 1) hx hb dX3_add_58 rfl ?_
      refine z_icmp_ne (tgt := 66) hx hb dX3_add_59 (by decide) ⟨by omega, by omega⟩ ⟨by decide, by decide⟩ (fun c_3 => ?_) (fun c_3 => ?_)
      · refine lv_iconst (v := iZ 0) hx hb dX3_add_66 rfl ?_
        refine g_zast (k := n) hx hb hK hθ hB (by decide) rfl (by omega) (Nat.lt_of_lt_of_eq (by omega : n < 6) (Eq.symm rfl)) (by decide) (by omega) dX3_add_67 (fun H locs hB => ?_)
        obtain ⟨σ4, hσ4⟩ : ∃ x_ : gS, x_ = up2 σ3 97 n 0 := ⟨_, rfl⟩
        rw [← hσ4] at hB
        have hR := hB.1.2
        refine lv_aload_n hx hb dX3_add_68 rfl (lv_at hl 0 rfl) ?_
        refine lv_dup hx hb dX3_add_69 rfl ?_
        refine g_geti (k := 0) hx hb hts hown hK hB cf3 (by decide) rfl (by decide) kw_148 rfl dX3_add_70 ?_
        refine z_top (b := ((n : Nat) : Int)) (by rw [hσ4, up2_c _ _ (by decide), hσ3, up2_c _ _ (by decide), hσ2, up2_c _ _ (by decide), hσ1, up2_c _ _ (by decide)]; exact hn) ?_
        refine lv_iconst (v := iZ 1) hx hb dX3_add_73 rfl ?_
        refine z_iadd hx hb dX3_add_74 ?_
        refine g_putI (k := 0) hx hb hts hown hK hθ hB cf3 tyX3 tyX3_ok (by decide) rfl (by decide) kw_148 rfl rfl rfl ⟨by omega, by omega⟩ dX3_add_75 (fun H locs hB => ?_)
        obtain ⟨σ5, hσ5⟩ : ∃ x_ : gS, x_ = up2 σ4 93 0 (((n : Nat) : Int) + 1) := ⟨_, rfl⟩
        rw [← hσ5] at hB
        have hR := hB.1.2
        refine lv_iconst (v := iZ 1) hx hb dX3_add_78 rfl ?_
        exact g_zret hx hb hr hlk hB dX3_add_79 (by decide) (⟨Or.inr ⟨by omega, rfl, by rw [hσ5, up2_eq]; omega, by rw [hσ5, up2_row _ _ (by decide), hσ4, up2_row _ _ (by decide), hσ3, up2_row _ _ (by decide), hσ2, up2_row _ _ (by decide), hσ1, up2_row_eq], by rw [hσ5, up2_row _ _ (by decide), hσ4, up2_row _ _ (by decide), hσ3, up2_row _ _ (by decide), hσ2, up2_row_eq, hσ1, up2_row _ _ (by decide)], by rw [hσ5, up2_row _ _ (by decide), hσ4, up2_row _ _ (by decide), hσ3, up2_row_eq, hσ2, up2_row _ _ (by decide), hσ1, up2_row _ _ (by decide)], by rw [hσ5, up2_row _ _ (by decide), hσ4, up2_row_eq, hσ3, up2_row _ _ (by decide), hσ2, up2_row _ _ (by decide), hσ1, up2_row _ _ (by decide), if_neg (by omega)]⟩, by rw [hσ5, hσ4, hσ3, hσ2, hσ1]; exact ((((fr.up rfl : fr wSg σ _).tr (fr.up rfl)).tr (fr.up rfl)).tr (fr.up rfl)).tr (fr.up rfl), rfl⟩)
      · refine lv_iconst (v := iZ 1) hx hb dX3_add_62 rfl ?_
        refine lv_goto (tgt := 67) hx hb dX3_add_63 (by decide) ?_
        refine g_zast (k := n) hx hb hK hθ hB (by decide) rfl (by omega) (Nat.lt_of_lt_of_eq (by omega : n < 6) (Eq.symm rfl)) (by decide) (by omega) dX3_add_67 (fun H locs hB => ?_)
        obtain ⟨σ4, hσ4⟩ : ∃ x_ : gS, x_ = up2 σ3 97 n 1 := ⟨_, rfl⟩
        rw [← hσ4] at hB
        have hR := hB.1.2
        refine lv_aload_n hx hb dX3_add_68 rfl (lv_at hl 0 rfl) ?_
        refine lv_dup hx hb dX3_add_69 rfl ?_
        refine g_geti (k := 0) hx hb hts hown hK hB cf3 (by decide) rfl (by decide) kw_148 rfl dX3_add_70 ?_
        refine z_top (b := ((n : Nat) : Int)) (by rw [hσ4, up2_c _ _ (by decide), hσ3, up2_c _ _ (by decide), hσ2, up2_c _ _ (by decide), hσ1, up2_c _ _ (by decide)]; exact hn) ?_
        refine lv_iconst (v := iZ 1) hx hb dX3_add_73 rfl ?_
        refine z_iadd hx hb dX3_add_74 ?_
        refine g_putI (k := 0) hx hb hts hown hK hθ hB cf3 tyX3 tyX3_ok (by decide) rfl (by decide) kw_148 rfl rfl rfl ⟨by omega, by omega⟩ dX3_add_75 (fun H locs hB => ?_)
        obtain ⟨σ5, hσ5⟩ : ∃ x_ : gS, x_ = up2 σ4 93 0 (((n : Nat) : Int) + 1) := ⟨_, rfl⟩
        rw [← hσ5] at hB
        have hR := hB.1.2
        refine lv_iconst (v := iZ 1) hx hb dX3_add_78 rfl ?_
        exact g_zret hx hb hr hlk hB dX3_add_79 (by decide) (⟨Or.inr ⟨by omega, rfl, by rw [hσ5, up2_eq]; omega, by rw [hσ5, up2_row _ _ (by decide), hσ4, up2_row _ _ (by decide), hσ3, up2_row _ _ (by decide), hσ2, up2_row _ _ (by decide), hσ1, up2_row_eq], by rw [hσ5, up2_row _ _ (by decide), hσ4, up2_row _ _ (by decide), hσ3, up2_row _ _ (by decide), hσ2, up2_row_eq, hσ1, up2_row _ _ (by decide)], by rw [hσ5, up2_row _ _ (by decide), hσ4, up2_row _ _ (by decide), hσ3, up2_row_eq, hσ2, up2_row _ _ (by decide), hσ1, up2_row _ _ (by decide)], by rw [hσ5, up2_row _ _ (by decide), hσ4, up2_row_eq, hσ3, up2_row _ _ (by decide), hσ2, up2_row _ _ (by decide), hσ1, up2_row _ _ (by decide), if_pos (by omega)]⟩, by rw [hσ5, hσ4, hσ3, hσ2, hσ1]; exact ((((fr.up rfl : fr wSg σ _).tr (fr.up rfl)).tr (fr.up rfl)).tr (fr.up rfl)).tr (fr.up rfl), rfl⟩)
    · refine lv_iconst (v := iZ 0) hx hb dX3_add_16 rfl ?_
      exact g_zret hx hb hr hlk hB dX3_add_17 (by decide) (⟨Or.inl ⟨by omega, rfl, rfl⟩, fr.rf, rfl⟩)
set_option maxHeartbeats 4000000 in
set_option maxRecDepth 100000 in
theorem mX3_lastTick (l : Launch) (θ : gT) (hθ : gOK θ) (σ : gS) (z : gZ) (n : Nat) (hn : σ 93 0 = (n : Int)) (hn6 : n ≤ 6) : GI l θ yX3_lastTick cX3_lastTick 3 (some .int) 1 21 [.ref (tad θ 93)] σ z (fun q σ' z' => (q = lsT (σ 94) n) ∧ σ' = σ ∧ z' = z) := by
  refine g_enter (ret := (some .int)) (by decide +kernel) (Nat.le_of_ble_eq_true rfl) ?_
  intro p e s m args below meth c ls F hB hl
  obtain ⟨hx, hb, hr, hml, hown, hts, hlk, hK, hst⟩ := F
  have hR := hB.1.2
  have hl : lv_has ls 3 [(0, .ref (tad θ 93))] := hl
  refine lv_iconst (v := iZ 0) hx hb dX3_lastTick_0 rfl ?_
  refine z_top (b := (lsT (σ 94) 0)) (rfl) ?_
  refine lv_istore_n (lv' := [(1, .int (iZ (lsT (σ 94) 0))), (0, .ref (tad θ 93))]) hx hb dX3_lastTick_1 rfl hl (by decide) rfl (fun ls hl => ?_)
  refine lv_iconst (v := iZ 0) hx hb dX3_lastTick_2 rfl ?_
  refine lv_istore_n (lv' := [(2, .int (iZ 0)), (1, .int (iZ (lsT (σ 94) 0))), (0, .ref (tad θ 93))]) hx hb dX3_lastTick_3 rfl hl (by decide) rfl (fun ls hl => ?_)
  have loop4 : ∀ (n4 : Nat) (i : Nat) (H : Heap) (locs : List Loc) (ls : Array Slot), n - i < n4 → (i ≤ n) → (rg (lsT (σ 94) i)) →  gB θ σ z s.heap H locs → lv_has ls 3 [(2, .int (iZ ((i : Nat) : Int))), (1, .int (iZ (lsT (σ 94) i))), (0, .ref (tad θ 93))] → W p l e (gRm 1 21) s m args below meth c H locs 0 0 (MQ below (gQi θ (fun q σ' z' => (q = lsT (σ 94) n) ∧ σ' = σ ∧ z' = z)) args s 0 0 (tA θ)) (F0 m 4 ls []) := by
    intro n4
    induction n4 with
    | zero => intro i H locs ls hmu; exact absurd hmu (Nat.not_lt_zero _)
    | succ n4 ih4 =>
      intro i H locs ls hmu hi hrl hB hl
      have hR := hB.1.2
      refine lv_iload_n hx hb dX3_lastTick_4 rfl (lv_at hl 0 rfl) ?_
      refine lv_aload_n hx hb dX3_lastTick_5 rfl (lv_at hl 2 rfl) ?_
      refine g_geti (k := 0) hx hb hts hown hK hB cf3 (by decide) rfl (by decide) kw_148 rfl dX3_lastTick_6 ?_
      refine z_top (b := ((n : Nat) : Int)) (hn) ?_
      refine z_icmp_ge (tgt := 35) hx hb dX3_lastTick_9 (by decide) ⟨by omega, by omega⟩ ⟨by omega, by omega⟩ (fun c_1 => ?_) (fun c_1 => ?_)
      · refine lv_iload_n hx hb dX3_lastTick_35 rfl (lv_at hl 1 rfl) ?_
        exact g_iret hx hb hr hlk hB dX3_lastTick_36 hrl (⟨by rw [show i = n by omega], rfl, rfl⟩)
      · refine lv_iload_n hx hb dX3_lastTick_12 rfl (lv_at hl 0 rfl) ?_
        refine lv_bipush (v := iZ 6) hx hb dX3_lastTick_13 (by decide) ?_
        refine z_icmp_ge (tgt := 35) hx hb dX3_lastTick_15 (by decide) ⟨by omega, by omega⟩ ⟨by decide, by decide⟩ (fun c_2 => ?_) (fun c_2 => ?_)
        · exfalso; omega
        · refine lv_iload_n hx hb dX3_lastTick_18 rfl (lv_at hl 1 rfl) ?_
          refine lv_aload_n hx hb dX3_lastTick_19 rfl (lv_at hl 2 rfl) ?_
          refine g_getr (k := 1) (j := 94) hx hb hts hown hK hθ hB cf3 (by decide) rfl (by decide) kw_150 rfl rfl dX3_lastTick_20 ?_
          refine lv_iload_n hx hb dX3_lastTick_23 rfl (lv_at hl 0 rfl) ?_
          refine g_iald (k := i) hx hb hK hB (by decide) rfl (by omega) (Nat.lt_of_lt_of_eq (by omega : i < 6) (Eq.symm rfl)) (by decide) dX3_lastTick_24 ?_
          refine z_top (b := (σ 94 i)) (rfl) ?_
          have hr9 := hR 94 i
          refine g_max hx hb hml hl.1 hown kw_609 hts (Nat.le_of_ble_eq_true rfl) ⟨by decide, by decide⟩ ⟨Nat.zero_le _, Nat.zero_le _⟩ ⟨by omega, by omega⟩ ⟨by omega, by omega⟩ dX3_lastTick_25 (fun q_3 hq_3 => ?_)
          refine z_top (b := (lsT (σ 94) (i + 1))) (by rw [lsT]; split <;> omega) ?_
          refine lv_istore_n (lv' := [(1, .int (iZ (lsT (σ 94) (i + 1)))), (2, .int (iZ ((i : Nat) : Int))), (0, .ref (tad θ 93))]) hx hb dX3_lastTick_28 rfl hl (by decide) rfl (fun ls hl => ?_)
          refine z_iinc (k := 1) (lv' := [(2, .int (iZ (((i : Nat) : Int) + 1))), (1, .int (iZ (lsT (σ 94) (i + 1)))), (0, .ref (tad θ 93))]) hx hb dX3_lastTick_29 hl rfl (by decide) rfl (fun ls hl => ?_)
          have hl : lv_has ls 3 [(2, .int (iZ (((i + 1) : Nat) : Int))), (1, .int (iZ (lsT (σ 94) (i + 1)))), (0, .ref (tad θ 93))] := by have e9 : (((i : Nat) : Int) + 1) = (((i + 1) : Nat) : Int) := (by omega); rw [e9] at hl; exact hl
          refine lv_goto (tgt := 4) hx hb dX3_lastTick_32 (by decide) ?_
          exact ih4 (i + 1) _ _ _ (by omega) (by omega) (by rw [lsT]; split; exact hr9; exact hrl) hB (lv_sub hl [0, 1, 2] rfl)
  exact loop4 _ 0 _ _ _ (Nat.lt_succ_self _) (by omega) (show rg 0 from ⟨by decide, by decide⟩) hB (lv_sub hl [0, 1, 2] rfl)
set_option maxHeartbeats 4000000 in
set_option maxRecDepth 100000 in
theorem mX3_fit (l : Launch) (θ : gT) (hθ : gOK θ) (σ : gS) (z : gZ) (n : Nat) (hn : σ 93 0 = (n : Int)) (hn6 : n ≤ 6) (h01 : ∀ i, i < n → σ 97 i = 0 ∨ σ 97 i = 1) (t : Nat) (ht : t < 1000) : GI l θ yX3_fit cX3_fit 4 (some .boolean) 1 21 [.ref (tad θ 93), .int (iZ ((t : Nat) : Int)), .ref (tad θ 8)] σ z (fun q σ' z' => ((q = 1 ∧ (∀ i, i < n → ftC σ t i)) ∨ (q = 0 ∧ ¬ (∀ i, i < n → ftC σ t i))) ∧ σ' = σ ∧ z' = z) := by
  refine g_enter (ret := (some .boolean)) (by decide +kernel) (Nat.le_of_ble_eq_true rfl) ?_
  intro p e s m args below meth c ls F hB hl
  obtain ⟨hx, hb, hr, hml, hown, hts, hlk, hK, hst⟩ := F
  have hR := hB.1.2
  have hl : lv_has ls 4 [(0, .ref (tad θ 93)), (1, .int (iZ ((t : Nat) : Int))), (2, .ref (tad θ 8))] := hl
  refine lv_iconst (v := iZ 0) hx hb dX3_fit_0 rfl ?_
  refine lv_istore_n (lv' := [(3, .int (iZ 0)), (0, .ref (tad θ 93)), (1, .int (iZ ((t : Nat) : Int))), (2, .ref (tad θ 8))]) hx hb dX3_fit_1 rfl hl (by decide) rfl (fun ls hl => ?_)
  have loop2 : ∀ (n2 : Nat) (i : Nat) (H : Heap) (locs : List Loc) (ls : Array Slot), n - i < n2 → (i ≤ n) → (∀ j, j < i → ftC σ t j) →  gB θ σ z s.heap H locs → lv_has ls 4 [(3, .int (iZ ((i : Nat) : Int))), (0, .ref (tad θ 93)), (1, .int (iZ ((t : Nat) : Int))), (2, .ref (tad θ 8))] → W p l e (gRm 1 21) s m args below meth c H locs 0 0 (MQ below (gQi θ (fun q σ' z' => ((q = 1 ∧ (∀ i, i < n → ftC σ t i)) ∨ (q = 0 ∧ ¬ (∀ i, i < n → ftC σ t i))) ∧ σ' = σ ∧ z' = z)) args s 0 0 (tA θ)) (F0 m 2 ls []) := by
    intro n2
    induction n2 with
    | zero => intro i H locs ls hmu; exact absurd hmu (Nat.not_lt_zero _)
    | succ n2 ih2 =>
      intro i H locs ls hmu hi hall hB hl
      have hR := hB.1.2
      refine lv_iload_n hx hb dX3_fit_2 rfl (lv_at hl 0 rfl) ?_
      refine lv_aload_n hx hb dX3_fit_3 rfl (lv_at hl 1 rfl) ?_
      refine g_geti (k := 0) hx hb hts hown hK hB cf3 (by decide) rfl (by decide) kw_148 rfl dX3_fit_4 ?_
      refine z_top (b := ((n : Nat) : Int)) (hn) ?_
      refine z_icmp_ge (tgt := 67) hx hb dX3_fit_7 (by decide) ⟨by omega, by omega⟩ ⟨by omega, by omega⟩ (fun c_1 => ?_) (fun c_1 => ?_)
      · refine lv_iconst (v := iZ 1) hx hb dX3_fit_67 rfl ?_
        exact g_zret hx hb hr hlk hB dX3_fit_68 (by decide) (⟨Or.inl ⟨rfl, fun j hj => hall j (by omega)⟩, rfl, rfl⟩)
      · refine lv_iload_n hx hb dX3_fit_10 rfl (lv_at hl 0 rfl) ?_
        refine lv_bipush (v := iZ 6) hx hb dX3_fit_11 (by decide) ?_
        refine z_icmp_ge (tgt := 67) hx hb dX3_fit_13 (by decide) ⟨by omega, by omega⟩ ⟨by decide, by decide⟩ (fun c_2 => ?_) (fun c_2 => ?_)
        · exfalso; omega
        · refine lv_aload_n hx hb dX3_fit_16 rfl (lv_at hl 1 rfl) ?_
          refine g_getr (k := 1) (j := 94) hx hb hts hown hK hθ hB cf3 (by decide) rfl (by decide) kw_150 rfl rfl dX3_fit_17 ?_
          refine lv_iload_n hx hb dX3_fit_20 rfl (lv_at hl 0 rfl) ?_
          refine g_iald (k := i) hx hb hK hB (by decide) rfl (by omega) (Nat.lt_of_lt_of_eq (by omega : i < 6) (Eq.symm rfl)) (by decide) dX3_fit_21 ?_
          have hr_3 := hR 94 i
          refine lv_iload_n hx hb dX3_fit_22 rfl (lv_at hl 2 rfl) ?_
          refine z_icmp_ne (tgt := 61) hx hb dX3_fit_23 (by decide) ⟨by omega, by omega⟩ ⟨by omega, by omega⟩ (fun c_4 => ?_) (fun c_4 => ?_)
          · have hat : ¬ σ 94 i = ((t : Nat) : Int) := c_4
            refine z_iinc (k := 0) (lv' := [(3, .int (iZ (((i : Nat) : Int) + 1))), (0, .ref (tad θ 93)), (1, .int (iZ ((t : Nat) : Int))), (2, .ref (tad θ 8))]) hx hb dX3_fit_61 hl rfl (by decide) rfl (fun ls hl => ?_)
            have hl : lv_has ls 4 [(3, .int (iZ (((i + 1) : Nat) : Int))), (0, .ref (tad θ 93)), (1, .int (iZ ((t : Nat) : Int))), (2, .ref (tad θ 8))] := by have e9 : (((i : Nat) : Int) + 1) = (((i + 1) : Nat) : Int) := (by omega); rw [e9] at hl; exact hl
            refine lv_goto (tgt := 2) hx hb dX3_fit_64 (by decide) ?_
            exact ih2 (i + 1) _ _ _ (by omega) (by omega) (lt_s hall (fun q => absurd q hat)) hB (lv_sub hl [0, 1, 2, 3] rfl)
          · have hat : σ 94 i = ((t : Nat) : Int) := c_4
            have h97 := h01 i (by omega)
            refine lv_aload_n hx hb dX3_fit_26 rfl (lv_at hl 3 rfl) ?_
            refine lv_aload_n hx hb dX3_fit_27 rfl (lv_at hl 1 rfl) ?_
            refine g_getr (k := 2) (j := 95) hx hb hts hown hK hθ hB cf3 (by decide) rfl (by decide) kw_151 rfl rfl dX3_fit_28 ?_
            refine lv_iload_n hx hb dX3_fit_31 rfl (lv_at hl 0 rfl) ?_
            refine g_iald (k := i) hx hb hK hB (by decide) rfl (by omega) (Nat.lt_of_lt_of_eq (by omega : i < 6) (Eq.symm rfl)) (by decide) dX3_fit_32 ?_
            have hr_5 := hR 95 i
            refine g_calli (g_runV (i := 8) (As := [.int (iZ (σ 95 i))]) (rest := []) hx hb hml hown hts hK hst hB (mX1_valueOf l θ hθ σ z 8 isF_8 (σ 95 i) (show rg _ from ⟨by omega, by omega⟩)) mv_X1_valueOf kw_614 cf1 (by decide) rfl rfl hl.1 rfl (Nat.le_of_ble_eq_true rfl) ⟨by decide, by decide⟩ ⟨Nat.le_refl _, Nat.le_refl _⟩ dX3_fit_33) hB (fun q_8 σ_6 z_7 H locs hq_8 pq_8 hB => ?_)
            obtain ⟨pq_8, e1_, e2_⟩ := pq_8
            rw [e1_, e2_] at hB
            clear e1_ e2_
            subst pq_8
            refine lv_aload_n hx hb dX3_fit_36 rfl (lv_at hl 1 rfl) ?_
            refine g_getr (k := 3) (j := 96) hx hb hts hown hK hθ hB cf3 (by decide) rfl (by decide) kw_152 rfl rfl dX3_fit_37 ?_
            refine lv_iload_n hx hb dX3_fit_40 rfl (lv_at hl 0 rfl) ?_
            refine g_iald (k := i) hx hb hK hB (by decide) rfl (by omega) (Nat.lt_of_lt_of_eq (by omega : i < 6) (Eq.symm rfl)) (by decide) dX3_fit_41 ?_
            have hr_9 := hR 96 i
            refine z_icmp_ne (tgt := 49) hx hb dX3_fit_42 (by decide) ⟨by omega, by omega⟩ ⟨by omega, by omega⟩ (fun c_10 => ?_) (fun c_10 => ?_)
            · refine lv_iconst (v := iZ 0) hx hb dX3_fit_49 rfl ?_
              refine lv_aload_n hx hb dX3_fit_50 rfl (lv_at hl 1 rfl) ?_
              refine g_getr (k := 4) (j := 97) hx hb hts hown hK hθ hB cf3 (by decide) rfl (by decide) kw_153 rfl rfl dX3_fit_51 ?_
              refine lv_iload_n hx hb dX3_fit_54 rfl (lv_at hl 0 rfl) ?_
              refine g_zald (k := i) hx hb hK hB (by decide) rfl (by omega) (Nat.lt_of_lt_of_eq (by omega : i < 6) (Eq.symm rfl)) (by decide) dX3_fit_55 ?_
              have hr_11 := hR 97 i
              refine z_icmp_eq (tgt := 61) hx hb dX3_fit_56 (by decide) ⟨by decide, by decide⟩ ⟨by omega, by omega⟩ (fun c_12 => ?_) (fun c_12 => ?_)
              · refine z_iinc (k := 0) (lv' := [(3, .int (iZ (((i : Nat) : Int) + 1))), (0, .ref (tad θ 93)), (1, .int (iZ ((t : Nat) : Int))), (2, .ref (tad θ 8))]) hx hb dX3_fit_61 hl rfl (by decide) rfl (fun ls hl => ?_)
                have hl : lv_has ls 4 [(3, .int (iZ (((i + 1) : Nat) : Int))), (0, .ref (tad θ 93)), (1, .int (iZ ((t : Nat) : Int))), (2, .ref (tad θ 8))] := by have e9 : (((i : Nat) : Int) + 1) = (((i + 1) : Nat) : Int) := (by omega); rw [e9] at hl; exact hl
                refine lv_goto (tgt := 2) hx hb dX3_fit_64 (by decide) ?_
                exact ih2 (i + 1) _ _ _ (by omega) (by omega) (lt_s hall (fun _ => (show _ ↔ _ by omega))) hB (lv_sub hl [0, 1, 2, 3] rfl)
              · refine lv_iconst (v := iZ 0) hx hb dX3_fit_59 rfl ?_
                exact g_zret hx hb hr hlk hB dX3_fit_60 (by decide) (⟨Or.inr ⟨rfl, fun q => by have h9 := q i (by omega) hat; omega⟩, rfl, rfl⟩)
            · refine lv_iconst (v := iZ 1) hx hb dX3_fit_45 rfl ?_
              refine lv_goto (tgt := 50) hx hb dX3_fit_46 (by decide) ?_
              refine lv_aload_n hx hb dX3_fit_50 rfl (lv_at hl 1 rfl) ?_
              refine g_getr (k := 4) (j := 97) hx hb hts hown hK hθ hB cf3 (by decide) rfl (by decide) kw_153 rfl rfl dX3_fit_51 ?_
              refine lv_iload_n hx hb dX3_fit_54 rfl (lv_at hl 0 rfl) ?_
              refine g_zald (k := i) hx hb hK hB (by decide) rfl (by omega) (Nat.lt_of_lt_of_eq (by omega : i < 6) (Eq.symm rfl)) (by decide) dX3_fit_55 ?_
              have hr_13 := hR 97 i
              refine z_icmp_eq (tgt := 61) hx hb dX3_fit_56 (by decide) ⟨by decide, by decide⟩ ⟨by omega, by omega⟩ (fun c_14 => ?_) (fun c_14 => ?_)
              · refine z_iinc (k := 0) (lv' := [(3, .int (iZ (((i : Nat) : Int) + 1))), (0, .ref (tad θ 93)), (1, .int (iZ ((t : Nat) : Int))), (2, .ref (tad θ 8))]) hx hb dX3_fit_61 hl rfl (by decide) rfl (fun ls hl => ?_)
                have hl : lv_has ls 4 [(3, .int (iZ (((i + 1) : Nat) : Int))), (0, .ref (tad θ 93)), (1, .int (iZ ((t : Nat) : Int))), (2, .ref (tad θ 8))] := by have e9 : (((i : Nat) : Int) + 1) = (((i + 1) : Nat) : Int) := (by omega); rw [e9] at hl; exact hl
                refine lv_goto (tgt := 2) hx hb dX3_fit_64 (by decide) ?_
                exact ih2 (i + 1) _ _ _ (by omega) (by omega) (lt_s hall (fun _ => (show _ ↔ _ by omega))) hB (lv_sub hl [0, 1, 2, 3] rfl)
              · refine lv_iconst (v := iZ 0) hx hb dX3_fit_59 rfl ?_
                exact g_zret hx hb hr hlk hB dX3_fit_60 (by decide) (⟨Or.inr ⟨rfl, fun q => by have h9 := q i (by omega) hat; omega⟩, rfl, rfl⟩)
  exact loop2 _ 0 _ _ _ (Nat.lt_succ_self _) (by omega) (fun j h => absurd h (Nat.not_lt_zero _)) hB (lv_sub hl [0, 1, 2, 3] rfl)
set_option maxHeartbeats 4000000 in
set_option maxRecDepth 100000 in
theorem mX4_append (l : Launch) (θ : gT) (hθ : gOK θ) (σ : gS) (z : gZ) (len : Nat) (hlen : σ 1 1 = (len : Int)) (hl40 : len ≤ 40) (v : Int) (hv : rg v) : GI l θ yX4_append cX4_append 2 (some .boolean) 0 0 [.ref (tad θ 1), .int (iZ v)] σ z (fun q σ' z' => ((len = 40 ∧ q = 0 ∧ σ' = σ) ∨ (len < 40 ∧ q = 1 ∧ σ' 1 1 = ((len + 1 : Nat) : Int) ∧ σ' 2 = upn (σ 2) len v)) ∧ fr wTc σ σ' ∧ z' = z) := by
  refine g_enter (ret := (some .boolean)) (by decide +kernel) (Nat.le_of_ble_eq_true rfl) ?_
  intro p e s m args below meth c ls F hB hl
  obtain ⟨hx, hb, hr, hml, hown, hts, hlk, hK, hst⟩ := F
  have hR := hB.1.2
  have hl : lv_has ls 2 [(0, .ref (tad θ 1)), (1, .int (iZ v))] := hl
  refine lv_aload_n hx hb dX4_append_0 rfl (lv_at hl 0 rfl) ?_
  refine g_geti (k := 1) hx hb hts hown hK hB cf4 (by decide) rfl (by decide) kw_32 rfl dX4_append_1 ?_
  refine z_top (b := ((len : Nat) : Int)) (hlen) ?_
  refine z_if_lt (tgt := 16) hx hb dX4_append_4 (by decide) ⟨by omega, by omega⟩ (fun c_1 => ?_) (fun c_1 => ?_)
  · exfalso; omega
  · refine lv_aload_n hx hb dX4_append_7 rfl (lv_at hl 0 rfl) ?_
    refine g_geti (k := 1) hx hb hts hown hK hB cf4 (by decide) rfl (by decide) kw_32 rfl dX4_append_8 ?_
    refine z_top (b := ((len : Nat) : Int)) (hlen) ?_
    refine lv_bipush (v := iZ 40) hx hb dX4_append_11 (by decide) ?_
    refine z_icmp_lt (tgt := 18) hx hb dX4_append_13 (by decide) ⟨by omega, by omega⟩ ⟨by decide, by decide⟩ (fun c_2 => ?_) (fun c_2 => ?_)
    · refine lv_aload_n hx hb dX4_append_18 rfl (lv_at hl 0 rfl) ?_
      refine g_getr (k := 0) (j := 2) hx hb hts hown hK hθ hB cf4 (by decide) rfl (by decide) kw_31 rfl rfl dX4_append_19 ?_
      refine lv_aload_n hx hb dX4_append_22 rfl (lv_at hl 0 rfl) ?_
      refine g_geti (k := 1) hx hb hts hown hK hB cf4 (by decide) rfl (by decide) kw_32 rfl dX4_append_23 ?_
      refine z_top (b := ((len : Nat) : Int)) (hlen) ?_
      refine lv_iload_n hx hb dX4_append_26 rfl (lv_at hl 1 rfl) ?_
      refine g_iast (k := len) hx hb hK hθ hB (by decide) rfl (by omega) (Nat.lt_of_lt_of_eq (by omega : len < 40) (Eq.symm rfl)) (by decide) ⟨by omega, by omega⟩ dX4_append_27 (fun H locs hB => ?_)
      obtain ⟨σ1, hσ1⟩ : ∃ x_ : gS, x_ = up2 σ 2 len v := ⟨_, rfl⟩
      rw [← hσ1] at hB
      have hR := hB.1.2
      refine lv_aload_n hx hb dX4_append_28 rfl (lv_at hl 0 rfl) ?_
      refine lv_dup hx hb dX4_append_29 rfl ?_
      refine g_geti (k := 1) hx hb hts hown hK hB cf4 (by decide) rfl (by decide) kw_32 rfl dX4_append_30 ?_
      refine z_top (b := ((len : Nat) : Int)) (by rw [hσ1, up2_c _ _ (by decide)]; exact hlen) ?_
      refine lv_iconst (v := iZ 1) hx hb dX4_append_33 rfl ?_
      refine z_iadd hx hb dX4_append_34 ?_
      refine g_putI (k := 1) hx hb hts hown hK hθ hB cf4 tyX4 tyX4_ok (by decide) rfl (by decide) kw_32 rfl rfl rfl ⟨by omega, by omega⟩ dX4_append_35 (fun H locs hB => ?_)
      obtain ⟨σ2, hσ2⟩ : ∃ x_ : gS, x_ = up2 σ1 1 1 (((len : Nat) : Int) + 1) := ⟨_, rfl⟩
      rw [← hσ2] at hB
      have hR := hB.1.2
      refine lv_iconst (v := iZ 1) hx hb dX4_append_38 rfl ?_
      exact g_zret hx hb hr hlk hB dX4_append_39 (by decide) (⟨Or.inr ⟨by omega, rfl, by rw [hσ2, up2_eq]; omega, by rw [hσ2, up2_row _ _ (by decide), hσ1, up2_row_eq]⟩, by rw [hσ2, hσ1]; exact (fr.up rfl : fr wTc σ _).tr (fr.up rfl), rfl⟩)
    · refine lv_iconst (v := iZ 0) hx hb dX4_append_16 rfl ?_
      exact g_zret hx hb hr hlk hB dX4_append_17 (by decide) (⟨Or.inl ⟨by omega, rfl, rfl⟩, fr.rf, rfl⟩)
set_option maxHeartbeats 4000000 in
set_option maxRecDepth 100000 in
theorem mX4_letterAt (l : Launch) (θ : gT) (hθ : gOK θ) (σ : gS) (z : gZ) (k : Nat) (hk : k < 40) : GI l θ yX4_letterAt cX4_letterAt 2 (some .int) 0 0 [.ref (tad θ 1), .int (iZ ((k : Nat) : Int))] σ z (fun q σ' z' => (q = σ 2 k) ∧ σ' = σ ∧ z' = z) := by
  refine g_enter (ret := (some .int)) (by decide +kernel) (Nat.le_of_ble_eq_true rfl) ?_
  intro p e s m args below meth c ls F hB hl
  obtain ⟨hx, hb, hr, hml, hown, hts, hlk, hK, hst⟩ := F
  have hR := hB.1.2
  have hl : lv_has ls 2 [(0, .ref (tad θ 1)), (1, .int (iZ ((k : Nat) : Int)))] := hl
  refine lv_iload_n hx hb dX4_letterAt_0 rfl (lv_at hl 1 rfl) ?_
  refine z_if_lt (tgt := 10) hx hb dX4_letterAt_1 (by decide) ⟨by omega, by omega⟩ (fun c_1 => ?_) (fun c_1 => ?_)
  · exact absurd hk (by omega)
  · refine lv_iload_n hx hb dX4_letterAt_4 rfl (lv_at hl 1 rfl) ?_
    refine lv_bipush (v := iZ 40) hx hb dX4_letterAt_5 (by decide) ?_
    refine z_icmp_lt (tgt := 14) hx hb dX4_letterAt_7 (by decide) ⟨by omega, by omega⟩ ⟨by decide, by decide⟩ (fun c_2 => ?_) (fun c_2 => ?_)
    · refine lv_aload_n hx hb dX4_letterAt_14 rfl (lv_at hl 0 rfl) ?_
      refine g_getr (k := 0) (j := 2) hx hb hts hown hK hθ hB cf4 (by decide) rfl (by decide) kw_31 rfl rfl dX4_letterAt_15 ?_
      refine lv_iload_n hx hb dX4_letterAt_18 rfl (lv_at hl 1 rfl) ?_
      refine g_iald (k := k) hx hb hK hB (by decide) rfl (by omega) (Nat.lt_of_lt_of_eq (by omega : k < 40) (Eq.symm rfl)) (by decide) dX4_letterAt_19 ?_
      have hr_3 := hR 2 k
      exact g_iret hx hb hr hlk hB dX4_letterAt_20 ⟨by omega, by omega⟩ (⟨rfl, rfl, rfl⟩)
    · exact absurd hk (by omega)
