set_option maxHeartbeats 4000000 in
set_option maxRecDepth 100000 in
theorem mX6_write (l : Launch) (θ : gT) (hθ : gOK θ) (σ : gS) (z : gZ) (len : Nat) (hlen : σ 111 2 = (len : Int)) (hx0 : txOK (σ 112) len) (x : Int) (hxr : rg x) : GI l θ yX6_write cX6_write 2 (some .int) 1 25 [.ref (tad θ 111), .int (iZ x)] σ z (fun q σ' z' => ((¬ (0 ≤ x ∧ x ≤ 255) ∧ q = -2 ∧ fr wSc σ σ') ∨ ((0 ≤ x ∧ x ≤ 255) ∧ len = 40 ∧ q = -4 ∧ fr wSc σ σ') ∨ ((0 ≤ x ∧ x ≤ 255) ∧ len < 40 ∧ q = (len : Int) + 1 ∧ σ' 111 2 = (len : Int) + 1 ∧ σ' 112 = upn (σ 112) len x)) ∧ fr wTx σ σ' ∧ z' = z) := by
  refine g_enter (ret := (some .int)) (by decide +kernel) (Nat.le_of_ble_eq_true rfl) ?_
  intro p e s m args below meth c ls F hB hl
  obtain ⟨hx, hb, hr, hml, hown, hts, hlk, hK, hst⟩ := F
  have hR := hB.1.2
  have hl : lv_has ls 2 [(0, .ref (tad θ 111)), (1, .int (iZ x))] := hl
  have hlen40 := hx0.1
  refine lv_aload_n hx hb dX6_write_0 rfl (lv_at hl 0 rfl) ?_
  refine lv_iconst (v := iZ 0) hx hb dX6_write_1 rfl ?_
  refine g_putI (k := 0) hx hb hts hown hK hθ hB cf6 tyX6 tyX6_ok (by decide) rfl (by decide) kw_659 rfl rfl rfl ⟨by decide, by decide⟩ dX6_write_2 (fun H locs hB => ?_)
  obtain ⟨σ1, hσ1⟩ : ∃ x_ : gS, x_ = up2 σ 111 0 0 := ⟨_, rfl⟩
  rw [← hσ1] at hB
  have hR := hB.1.2
  refine lv_iload_n hx hb dX6_write_5 rfl (lv_at hl 1 rfl) ?_
  refine z_i2l hx hb ⟨by omega, by omega⟩ dX6_write_6 ?_
  refine lv_lconst (v := lZ 0) hx hb dX6_write_7 (by decide) ?_
  refine lv_ldc2 (v := lZ 255) hx hb hown (hts _ kw_748) dX6_write_8 ?_
  refine g_calli (g_runS (As := [.long (lZ x), .long (lZ 0), .long (lZ 255)]) (rest := []) hx hb hml hown hts hK hst hB (mX6_in l θ hθ σ1 z x 0 255 ⟨by omega, by omega⟩ ⟨by omega, by omega⟩ ⟨by omega, by omega⟩) ms_X6_in kw_749 rfl hl.1 rfl (Nat.le_of_ble_eq_true rfl) ⟨by decide, by decide⟩ ⟨Nat.le_refl _, Nat.le_refl _⟩ dX6_write_11) hB (fun q_3 σ_1 z_2 H locs hq_3 pq_3 hB => ?_)
  obtain ⟨pq_3, e1_, e2_⟩ := pq_3
  rw [e1_, e2_] at hB
  clear e1_ e2_
  refine z_if_ne (tgt := 20) hx hb dX6_write_14 (by decide) ⟨by omega, by omega⟩ (fun c_4 => ?_) (fun c_4 => ?_)
  · refine lv_aload_n hx hb dX6_write_20 rfl (lv_at hl 0 rfl) ?_
    refine g_geti (k := 2) hx hb hts hown hK hB cf6 (by decide) rfl (by decide) kw_661 rfl dX6_write_21 ?_
    refine z_top (b := ((len : Nat) : Int)) (by rw [hσ1, up2_k _ _ (by decide)]; exact hlen) ?_
    refine lv_bipush (v := iZ 40) hx hb dX6_write_24 (by decide) ?_
    refine z_icmp_ne (tgt := 32) hx hb dX6_write_26 (by decide) ⟨by omega, by omega⟩ ⟨by decide, by decide⟩ (fun c_5 => ?_) (fun c_5 => ?_)
    · refine lv_aload_n hx hb dX6_write_32 rfl (lv_at hl 0 rfl) ?_
      refine g_getr (k := 1) (j := 112) hx hb hts hown hK hθ hB cf6 (by decide) rfl (by decide) kw_660 rfl rfl dX6_write_33 ?_
      refine lv_aload_n hx hb dX6_write_36 rfl (lv_at hl 0 rfl) ?_
      refine g_geti (k := 2) hx hb hts hown hK hB cf6 (by decide) rfl (by decide) kw_661 rfl dX6_write_37 ?_
      refine z_top (b := ((len : Nat) : Int)) (by rw [hσ1, up2_k _ _ (by decide)]; exact hlen) ?_
      refine lv_iload_n hx hb dX6_write_40 rfl (lv_at hl 1 rfl) ?_
      refine g_iast (k := len) hx hb hK hθ hB (by decide) rfl (by omega) (Nat.lt_of_lt_of_eq (by omega : len < 40) (Eq.symm rfl)) (by decide) ⟨by omega, by omega⟩ dX6_write_41 (fun H locs hB => ?_)
      obtain ⟨σ2, hσ2⟩ : ∃ x_ : gS, x_ = up2 σ1 112 len x := ⟨_, rfl⟩
      rw [← hσ2] at hB
      have hR := hB.1.2
      refine lv_aload_n hx hb dX6_write_42 rfl (lv_at hl 0 rfl) ?_
      refine lv_dup hx hb dX6_write_43 rfl ?_
      refine g_geti (k := 2) hx hb hts hown hK hB cf6 (by decide) rfl (by decide) kw_661 rfl dX6_write_44 ?_
      refine z_top (b := ((len : Nat) : Int)) (by rw [hσ2, up2_c _ _ (by decide), hσ1, up2_k _ _ (by decide)]; exact hlen) ?_
      refine lv_iconst (v := iZ 1) hx hb dX6_write_47 rfl ?_
      refine z_iadd hx hb dX6_write_48 ?_
      refine g_putI (k := 2) hx hb hts hown hK hθ hB cf6 tyX6 tyX6_ok (by decide) rfl (by decide) kw_661 rfl rfl rfl ⟨by omega, by omega⟩ dX6_write_49 (fun H locs hB => ?_)
      obtain ⟨σ3, hσ3⟩ : ∃ x_ : gS, x_ = up2 σ2 111 2 (((len : Nat) : Int) + 1) := ⟨_, rfl⟩
      rw [← hσ3] at hB
      have hR := hB.1.2
      refine lv_aload_n hx hb dX6_write_52 rfl (lv_at hl 0 rfl) ?_
      refine g_geti (k := 2) hx hb hts hown hK hB cf6 (by decide) rfl (by decide) kw_661 rfl dX6_write_53 ?_
      refine z_top (b := ((len : Int) + 1)) (by rw [hσ3, up2_eq]) ?_
      exact g_iret hx hb hr hlk hB dX6_write_56 ⟨by omega, by omega⟩ (⟨Or.inr (Or.inr ⟨by omega, by omega, rfl, by rw [hσ3, up2_eq], by rw [hσ3, up2_row _ _ (by decide), hσ2, up2_row_eq, hσ1, up2_row _ _ (by decide)]⟩), by rw [hσ3, hσ2]; exact ((((by rw [hσ1]; exact fr.up rfl : fr wSc σ σ1)).mono tx_sc).tr (fr.up rfl)).tr (fr.up rfl), rfl⟩)
    · refine lv_bipush (v := iZ (-4)) hx hb dX6_write_29 (by decide) ?_
      exact g_iret hx hb hr hlk hB dX6_write_31 ⟨by decide, by decide⟩ (⟨Or.inr (Or.inl ⟨by omega, by omega, rfl, (by rw [hσ1]; exact fr.up rfl : fr wSc σ σ1)⟩), ((by rw [hσ1]; exact fr.up rfl : fr wSc σ σ1)).mono tx_sc, rfl⟩)
  · refine lv_bipush (v := iZ (-2)) hx hb dX6_write_17 (by decide) ?_
    exact g_iret hx hb hr hlk hB dX6_write_19 ⟨by decide, by decide⟩ (⟨Or.inl ⟨by omega, rfl, (by rw [hσ1]; exact fr.up rfl : fr wSc σ σ1)⟩, ((by rw [hσ1]; exact fr.up rfl : fr wSc σ σ1)).mono tx_sc, rfl⟩)
set_option maxHeartbeats 4000000 in
set_option maxRecDepth 100000 in
theorem mX6_wipe (l : Launch) (θ : gT) (hθ : gOK θ) (σ : gS) (z : gZ) (len : Nat) (hlen : σ 111 2 = (len : Int)) (hx0 : txOK (σ 112) len) : GI l θ yX6_wipe cX6_wipe 2 (some .int) 0 0 [.ref (tad θ 111)] σ z (fun q σ' z' => (q = (len : Int) ∧ σ' 111 2 = 0 ∧ σ' 112 = σ 112) ∧ fr wTx σ σ' ∧ z' = z) := by
  refine g_enter (ret := (some .int)) (by decide +kernel) (Nat.le_of_ble_eq_true rfl) ?_
  intro p e s m args below meth c ls F hB hl
  obtain ⟨hx, hb, hr, hml, hown, hts, hlk, hK, hst⟩ := F
  have hR := hB.1.2
  have hl : lv_has ls 2 [(0, .ref (tad θ 111))] := hl
  have hlen40 := hx0.1
  refine lv_aload_n hx hb dX6_wipe_0 rfl (lv_at hl 0 rfl) ?_
  refine lv_iconst (v := iZ 0) hx hb dX6_wipe_1 rfl ?_
  refine g_putI (k := 0) hx hb hts hown hK hθ hB cf6 tyX6 tyX6_ok (by decide) rfl (by decide) kw_659 rfl rfl rfl ⟨by decide, by decide⟩ dX6_wipe_2 (fun H locs hB => ?_)
  obtain ⟨σ1, hσ1⟩ : ∃ x_ : gS, x_ = up2 σ 111 0 0 := ⟨_, rfl⟩
  rw [← hσ1] at hB
  have hR := hB.1.2
  refine lv_aload_n hx hb dX6_wipe_5 rfl (lv_at hl 0 rfl) ?_
  refine g_geti (k := 2) hx hb hts hown hK hB cf6 (by decide) rfl (by decide) kw_661 rfl dX6_wipe_6 ?_
  refine z_top (b := ((len : Nat) : Int)) (by rw [hσ1, up2_k _ _ (by decide)]; exact hlen) ?_
  refine lv_istore_n (lv' := [(1, .int (iZ ((len : Nat) : Int))), (0, .ref (tad θ 111))]) hx hb dX6_wipe_9 rfl hl (by decide) rfl (fun ls hl => ?_)
  refine lv_aload_n hx hb dX6_wipe_10 rfl (lv_at hl 1 rfl) ?_
  refine lv_iconst (v := iZ 0) hx hb dX6_wipe_11 rfl ?_
  refine g_putI (k := 2) hx hb hts hown hK hθ hB cf6 tyX6 tyX6_ok (by decide) rfl (by decide) kw_661 rfl rfl rfl ⟨by decide, by decide⟩ dX6_wipe_12 (fun H locs hB => ?_)
  obtain ⟨σ2, hσ2⟩ : ∃ x_ : gS, x_ = up2 σ1 111 2 0 := ⟨_, rfl⟩
  rw [← hσ2] at hB
  have hR := hB.1.2
  refine lv_iload_n hx hb dX6_wipe_15 rfl (lv_at hl 0 rfl) ?_
  exact g_iret hx hb hr hlk hB dX6_wipe_16 ⟨by omega, by omega⟩ (⟨⟨rfl, by rw [hσ2, up2_eq], by rw [hσ2, up2_row _ _ (by decide), hσ1, up2_row _ _ (by decide)]⟩, by rw [hσ2]; exact (((by rw [hσ1]; exact fr.up rfl : fr wSc σ σ1)).mono tx_sc).tr (fr.up rfl), rfl⟩)
set_option maxHeartbeats 4000000 in
set_option maxRecDepth 100000 in
theorem mX6_program (l : Launch) (θ : gT) (hθ : gOK θ) (σ : gS) (z : gZ) (len : Nat) (hlen : σ 111 2 = (len : Int)) (hx0 : txOK (σ 112) len) : GI l θ yX6_program cX6_program 2 (some .int) 7 161 [.ref (tad θ 111)] σ z (fun q σ' z' => ((fltT (σ 112) len ≠ -9 ∧ q = -3 ∧ fr wSc σ σ') ∨ (fltT (σ 112) len = -9 ∧ σ' 114 = (afM (cpr (rowT (σ 112) len (zr (σ 113) 50)) (σ 114) 50)) ∧ σ' 111 8 = 0 ∧ σ' 118 0 = 0 ∧ σ' 118 1 = 0 ∧ ((q = 1 ∧ sndG (afM (cpr (rowT (σ 112) len (zr (σ 113) 50)) (σ 114) 50)) (nOf (σ 112) len).toNat) ∨ (q = 0 ∧ ¬ sndG (afM (cpr (rowT (σ 112) len (zr (σ 113) 50)) (σ 114) 50)) (nOf (σ 112) len).toNat)))) ∧ fr wPr σ σ' ∧ z' = z) := by
  refine g_enter (ret := (some .int)) (by decide +kernel) (Nat.le_of_ble_eq_true rfl) ?_
  intro p e s m args below meth c ls F hB hl
  obtain ⟨hx, hb, hr, hml, hown, hts, hlk, hK, hst⟩ := F
  have hR := hB.1.2
  have hl : lv_has ls 2 [(0, .ref (tad θ 111))] := hl
  refine lv_aload_n hx hb dX6_program_0 rfl (lv_at hl 0 rfl) ?_
  refine lv_iconst (v := iZ 0) hx hb dX6_program_1 rfl ?_
  refine g_putI (k := 0) hx hb hts hown hK hθ hB cf6 tyX6 tyX6_ok (by decide) rfl (by decide) kw_659 rfl rfl rfl ⟨by decide, by decide⟩ dX6_program_2 (fun H locs hB => ?_)
  obtain ⟨σ1, hσ1⟩ : ∃ x_ : gS, x_ = up2 σ 111 0 0 := ⟨_, rfl⟩
  rw [← hσ1] at hB
  have hR := hB.1.2
  refine lv_aload_n hx hb dX6_program_5 rfl (lv_at hl 0 rfl) ?_
  refine g_calli (g_runV (i := 111) (As := []) (rest := []) hx hb hml hown hts hK hst hB (mX6_readProgram l θ hθ σ1 z len (by rw [hσ1, up2_k _ _ (by decide)]; exact hlen) (by rw [hσ1, up2_row _ _ (by decide)]; exact hx0)) mv_X6_readProgram kw_760 cf6 (by decide) rfl rfl hl.1 rfl (Nat.le_of_ble_eq_true rfl) ⟨by decide, by decide⟩ ⟨Nat.le_refl _, Nat.le_refl _⟩ dX6_program_6) hB (fun q2 σ2 z_1 H locs hq2 hp2 hB => ?_)
  obtain ⟨hp2, hf2, e2_⟩ := hp2
  rw [e2_] at hB
  clear e2_
  have hR := hB.1.2
  rw [hσ1, up2_row _ _ (by decide), up2_row _ _ (by decide)] at hp2
  obtain ⟨hfl, hr2⟩ := hp2
  have hfs : fr wSc σ σ2 := ((by rw [hσ1]; exact fr.up rfl : fr wSc σ σ1)).tr (hf2.mono sc_rd)
  refine lv_bipush (v := iZ (-9)) hx hb dX6_program_9 (by decide) ?_
  refine z_icmp_eq (tgt := 17) hx hb dX6_program_11 (by decide) ⟨by omega, by omega⟩ ⟨by decide, by decide⟩ (fun c_2 => ?_) (fun c_2 => ?_)
  · have hok : fltT (σ 112) len = -9 := by rw [← hfl]; exact c_2
    have hr2 := hr2 c_2
    obtain ⟨hwR, hnR, hzR, hkR⟩ := rowT_wf hok (g0 := zr (σ 113) 50) (fun k hk => by unfold zr; rw [if_pos hk])
    have hnn := fltT_ok hok
    refine lv_iconst (v := iZ 0) hx hb dX6_program_17 rfl ?_
    refine lv_istore_n (lv' := [(1, .int (iZ 0)), (0, .ref (tad θ 111))]) hx hb dX6_program_18 rfl hl (by decide) rfl (fun ls hl => ?_)
    have loop19 : ∀ (n19 : Nat) (i : Nat) (σ3 : gS) (H : Heap) (locs : List Loc) (ls : Array Slot), 50 - i < n19 → (i ≤ 50) → (σ3 114 = cpr (rowT (σ 112) len (zr (σ 113) 50)) (σ 114) i) → (fr (fun i _ => i == 114) σ2 σ3) →  gB θ σ3 z s.heap H locs → lv_has ls 2 [(1, .int (iZ ((i : Nat) : Int))), (0, .ref (tad θ 111))] → W p l e (gRm 7 161) s m args below meth c H locs 0 0 (MQ below (gQi θ (fun q σ' z' => ((fltT (σ 112) len ≠ -9 ∧ q = -3 ∧ fr wSc σ σ') ∨ (fltT (σ 112) len = -9 ∧ σ' 114 = (afM (cpr (rowT (σ 112) len (zr (σ 113) 50)) (σ 114) 50)) ∧ σ' 111 8 = 0 ∧ σ' 118 0 = 0 ∧ σ' 118 1 = 0 ∧ ((q = 1 ∧ sndG (afM (cpr (rowT (σ 112) len (zr (σ 113) 50)) (σ 114) 50)) (nOf (σ 112) len).toNat) ∨ (q = 0 ∧ ¬ sndG (afM (cpr (rowT (σ 112) len (zr (σ 113) 50)) (σ 114) 50)) (nOf (σ 112) len).toNat)))) ∧ fr wPr σ σ' ∧ z' = z)) args s 0 0 (tA θ)) (F0 m 19 ls []) := by
      intro n19
      induction n19 with
      | zero => intro i σ3 H locs ls hmu; exact absurd hmu (Nat.not_lt_zero _)
      | succ n19 ih19 =>
        intro i σ3 H locs ls hmu hi hrow hf3 hB hl
        have hR := hB.1.2
        have h113 : σ3 113 = (rowT (σ 112) len (zr (σ 113) 50)) := by rw [hf3.row (fun k => rfl)]; exact hr2
        refine lv_iload_n hx hb dX6_program_19 rfl (lv_at hl 0 rfl) ?_
        refine lv_bipush (v := iZ 50) hx hb dX6_program_20 (by decide) ?_
        refine z_icmp_ge (tgt := 43) hx hb dX6_program_22 (by decide) ⟨by omega, by omega⟩ ⟨by decide, by decide⟩ (fun c_3 => ?_) (fun c_3 => ?_)
        · refine lv_aload_n hx hb dX6_program_43 rfl (lv_at hl 1 rfl) ?_
          refine g_getr (k := 5) (j := 114) hx hb hts hown hK hθ hB cf6 (by decide) rfl (by decide) kw_664 rfl rfl dX6_program_44 ?_
          have hrow50 : σ3 114 = cpr (rowT (σ 112) len (zr (σ 113) 50)) (σ 114) 50 := by rw [hrow, show i = 50 by omega]
          have hW3 : Wf (σ3 114) := hwR.cong (fun k hk => by rw [hrow50]; unfold cpr; rw [if_pos (by omega)])
          refine g_callv (g_runS (As := [.ref (tad θ 114)]) (rest := []) hx hb hml hown hts hK hst hB (mX6_goAfresh l θ hθ σ3 z 114 (Or.inl rfl) hW3) ms_X6_goAfresh kw_786 rfl hl.1 rfl (Nat.le_of_ble_eq_true rfl) ⟨by decide, by decide⟩ ⟨Nat.le_refl _, Nat.le_refl _⟩ dX6_program_47) hB (fun σ5 z_4 H locs hp5 hB => ?_)
          obtain ⟨hp5, hf5, e2_⟩ := hp5
          rw [e2_] at hB
          clear e2_
          have hR := hB.1.2
          refine lv_aload_n hx hb dX6_program_50 rfl (lv_at hl 1 rfl) ?_
          refine lv_iconst (v := iZ 0) hx hb dX6_program_51 rfl ?_
          refine g_putI (k := 8) hx hb hts hown hK hθ hB cf6 tyX6 tyX6_ok (by decide) rfl (by decide) kw_667 rfl rfl rfl ⟨by decide, by decide⟩ dX6_program_52 (fun H locs hB => ?_)
          obtain ⟨σ6, hσ6⟩ : ∃ x_ : gS, x_ = up2 σ5 111 8 0 := ⟨_, rfl⟩
          rw [← hσ6] at hB
          have hR := hB.1.2
          refine lv_aload_n hx hb dX6_program_55 rfl (lv_at hl 1 rfl) ?_
          refine g_getr (k := 10) (j := 118) hx hb hts hown hK hθ hB cf6 (by decide) rfl (by decide) kw_669 rfl rfl dX6_program_56 ?_
          refine lv_iconst (v := iZ 0) hx hb dX6_program_59 rfl ?_
          refine lv_iconst (v := iZ 0) hx hb dX6_program_60 rfl ?_
          refine g_zast (k := 0) hx hb hK hθ hB (by decide) rfl (by omega) (Nat.lt_of_lt_of_eq (by omega : 0 < 2) (Eq.symm rfl)) (by decide) (by omega) dX6_program_61 (fun H locs hB => ?_)
          obtain ⟨σ7, hσ7⟩ : ∃ x_ : gS, x_ = up2 σ6 118 0 0 := ⟨_, rfl⟩
          rw [← hσ7] at hB
          have hR := hB.1.2
          refine lv_aload_n hx hb dX6_program_62 rfl (lv_at hl 1 rfl) ?_
          refine g_getr (k := 10) (j := 118) hx hb hts hown hK hθ hB cf6 (by decide) rfl (by decide) kw_669 rfl rfl dX6_program_63 ?_
          refine lv_iconst (v := iZ 1) hx hb dX6_program_66 rfl ?_
          refine lv_iconst (v := iZ 0) hx hb dX6_program_67 rfl ?_
          refine g_zast (k := 1) hx hb hK hθ hB (by decide) rfl (by omega) (Nat.lt_of_lt_of_eq (by omega : 1 < 2) (Eq.symm rfl)) (by decide) (by omega) dX6_program_68 (fun H locs hB => ?_)
          obtain ⟨σ8, hσ8⟩ : ∃ x_ : gS, x_ = up2 σ7 118 1 0 := ⟨_, rfl⟩
          rw [← hσ8] at hB
          have hR := hB.1.2
          refine lv_aload_n hx hb dX6_program_69 rfl (lv_at hl 1 rfl) ?_
          have hG8 : σ8 114 = (afM (cpr (rowT (σ 112) len (zr (σ 113) 50)) (σ 114) 50)) := by rw [hσ8, up2_row _ _ (by decide), hσ7, up2_row _ _ (by decide), hσ6, up2_row _ _ (by decide), hp5, hrow50]
          have hW8 : Wf (afM (cpr (rowT (σ 112) len (zr (σ 113) 50)) (σ 114) 50)) := hwR.cong (fun k hk => by rw [afM_low _ hk]; unfold cpr; rw [if_pos (by omega)])
          have hN8 : (afM (cpr (rowT (σ 112) len (zr (σ 113) 50)) (σ 114) 50)) 0 = (((nOf (σ 112) len).toNat : Nat) : Int) := by rw [afM_low _ (by omega)]; unfold cpr; rw [if_pos (by omega), hnR]; omega
          have hf8 : fr wPr σ σ8 := by rw [hσ8, hσ7, hσ6]; exact (((((hfs.mono pr_sc).tr (hf3.mono (fun i k h => by simp at h; simp [wPr]; omega))).tr (hf5.mono pr_tk)).tr (fr.up rfl)).tr (fr.up rfl)).tr (fr.up rfl)
          refine g_calli (g_runV (i := 111) (As := []) (rest := []) hx hb hml hown hts hK hst hB (mX6_soundNow l θ hθ σ8 z (by rw [hG8]; exact hW8) (nOf (σ 112) len).toNat (by rw [hG8]; exact hN8)) mv_X6_soundNow kw_789 cf6 (by decide) rfl rfl hl.1 rfl (Nat.le_of_ble_eq_true rfl) ⟨by decide, by decide⟩ ⟨Nat.le_refl _, Nat.le_refl _⟩ dX6_program_70) hB (fun q9 σ9 z_6 H locs hq9 hp9 hB => ?_)
          obtain ⟨hp9, hf9, e2_⟩ := hp9
          rw [e2_] at hB
          clear e2_
          have hR := hB.1.2
          rw [hG8] at hp9
          obtain ⟨han, hp9⟩ := hp9
          have hiff := mAn_iff han
          have hst : σ9 114 = (afM (cpr (rowT (σ 112) len (zr (σ 113) 50)) (σ 114) 50)) ∧ σ9 111 8 = 0 ∧ σ9 118 0 = 0 ∧ σ9 118 1 = 0 := ⟨by rw [hf9.row (fun k => rfl)]; exact hG8, by rw [hf9 111 8 rfl, hσ8, up2_c _ _ (by decide), hσ7, up2_c _ _ (by decide), hσ6, up2_eq], by rw [hf9 118 0 rfl, hσ8, up2_k _ _ (by decide), hσ7, up2_eq], by rw [hf9 118 1 rfl, hσ8, up2_eq]⟩
          rcases hp9 with ⟨hqa, hsn⟩ | ⟨hqa, hsn⟩
          · subst hqa
            refine z_if_eq (tgt := 80) hx hb dX6_program_73 (by decide) ⟨by decide, by decide⟩ (fun c_7 => ?_) (fun c_7 => ?_)
            · exact absurd c_7 (by decide)
            · refine lv_iconst (v := iZ 1) hx hb dX6_program_76 rfl ?_
              refine lv_goto (tgt := 81) hx hb dX6_program_77 (by decide) ?_
              exact g_iret hx hb hr hlk hB dX6_program_81 ⟨by decide, by decide⟩ (⟨Or.inr ⟨hok, hst.1, hst.2.1, hst.2.2.1, hst.2.2.2, Or.inl ⟨rfl, hiff.mp hsn⟩⟩, hf8.tr (hf9.mono (fun i k h => pr_sc i k (sc_an i k h))), rfl⟩)
          · subst hqa
            refine z_if_eq (tgt := 80) hx hb dX6_program_73 (by decide) ⟨by decide, by decide⟩ (fun c_8 => ?_) (fun c_8 => ?_)
            · refine lv_iconst (v := iZ 0) hx hb dX6_program_80 rfl ?_
              exact g_iret hx hb hr hlk hB dX6_program_81 ⟨by decide, by decide⟩ (⟨Or.inr ⟨hok, hst.1, hst.2.1, hst.2.2.1, hst.2.2.2, Or.inr ⟨rfl, fun q => hsn (hiff.mpr q)⟩⟩, hf8.tr (hf9.mono (fun i k h => pr_sc i k (sc_an i k h))), rfl⟩)
            · exact absurd (by decide) c_8
        · refine lv_aload_n hx hb dX6_program_25 rfl (lv_at hl 1 rfl) ?_
          refine g_getr (k := 5) (j := 114) hx hb hts hown hK hθ hB cf6 (by decide) rfl (by decide) kw_664 rfl rfl dX6_program_26 ?_
          refine lv_iload_n hx hb dX6_program_29 rfl (lv_at hl 0 rfl) ?_
          refine lv_aload_n hx hb dX6_program_30 rfl (lv_at hl 1 rfl) ?_
          refine g_getr (k := 4) (j := 113) hx hb hts hown hK hθ hB cf6 (by decide) rfl (by decide) kw_663 rfl rfl dX6_program_31 ?_
          refine lv_iload_n hx hb dX6_program_34 rfl (lv_at hl 0 rfl) ?_
          refine g_iald (k := i) hx hb hK hB (by decide) rfl (by omega) (Nat.lt_of_lt_of_eq (by omega : i < 50) (Eq.symm rfl)) (by decide) dX6_program_35 ?_
          refine z_top (b := ((rowT (σ 112) len (zr (σ 113) 50)) i)) (by rw [h113]) ?_
          have hri := hR 113 i
          rw [h113] at hri
          refine g_iast (k := i) hx hb hK hθ hB (by decide) rfl (by omega) (Nat.lt_of_lt_of_eq (by omega : i < 50) (Eq.symm rfl)) (by decide) ⟨by omega, by omega⟩ dX6_program_36 (fun H locs hB => ?_)
          obtain ⟨σ4, hσ4⟩ : ∃ x_ : gS, x_ = up2 σ3 114 i ((rowT (σ 112) len (zr (σ 113) 50)) i) := ⟨_, rfl⟩
          rw [← hσ4] at hB
          have hR := hB.1.2
          refine z_iinc (k := 0) (lv' := [(1, .int (iZ (((i : Nat) : Int) + 1))), (0, .ref (tad θ 111))]) hx hb dX6_program_37 hl rfl (by decide) rfl (fun ls hl => ?_)
          have hl : lv_has ls 2 [(1, .int (iZ (((i + 1) : Nat) : Int))), (0, .ref (tad θ 111))] := by have e9 : (((i : Nat) : Int) + 1) = (((i + 1) : Nat) : Int) := (by omega); rw [e9] at hl; exact hl
          refine lv_goto (tgt := 19) hx hb dX6_program_40 (by decide) ?_
          exact ih19 (i + 1) σ4 _ _ _ (by omega) (by omega) (by rw [hσ4, up2_row_eq, hrow, cpr_step]) (by rw [hσ4]; exact hf3.tr (fr.up rfl)) hB (lv_sub hl [0, 1] rfl)
    exact loop19 _ 0 σ2 _ _ _ (Nat.lt_succ_self _) (by omega) (by rw [hf2.row (fun k => rfl), hσ1, up2_row _ _ (by decide), cpr_0]) fr.rf hB (lv_sub hl [0, 1] rfl)
  · have hbad : fltT (σ 112) len ≠ -9 := by rw [← hfl]; exact c_2
    refine lv_bipush (v := iZ (-3)) hx hb dX6_program_14 (by decide) ?_
    exact g_iret hx hb hr hlk hB dX6_program_16 ⟨by decide, by decide⟩ (⟨Or.inl ⟨hbad, rfl, hfs⟩, hfs.mono pr_sc, rfl⟩)
set_option maxHeartbeats 4000000 in
set_option maxRecDepth 100000 in
theorem mX6_there (l : Launch) (θ : gT) (hθ : gOK θ) (σ : gS) (z : gZ) (hW : Wf (σ 114)) (N : Nat) (hN : σ 114 0 = (N : Int)) : GI l θ yX6_there cX6_there 3 (some .int) 0 0 [.ref (tad θ 111)] σ z (fun q σ' z' => (q = ((thb (σ 114) N : Nat) : Int)) ∧ σ' = σ ∧ z' = z) := by
  refine g_enter (ret := (some .int)) (by decide +kernel) (Nat.le_of_ble_eq_true rfl) ?_
  intro p e s m args below meth c ls F hB hl
  obtain ⟨hx, hb, hr, hml, hown, hts, hlk, hK, hst⟩ := F
  have hR := hB.1.2
  have hl : lv_has ls 3 [(0, .ref (tad θ 111))] := hl
  have hN8 : N ≤ 8 := by have := hW.1; omega
  refine lv_iconst (v := iZ 0) hx hb dX6_there_0 rfl ?_
  refine lv_istore_n (lv' := [(1, .int (iZ 0)), (0, .ref (tad θ 111))]) hx hb dX6_there_1 rfl hl (by decide) rfl (fun ls hl => ?_)
  refine lv_iconst (v := iZ 0) hx hb dX6_there_2 rfl ?_
  refine lv_istore_n (lv' := [(2, .int (iZ 0)), (1, .int (iZ 0)), (0, .ref (tad θ 111))]) hx hb dX6_there_3 rfl hl (by decide) rfl (fun ls hl => ?_)
  have loop4 : ∀ (n4 : Nat) (i : Nat) (H : Heap) (locs : List Loc) (ls : Array Slot), N - i < n4 → (i ≤ N) →  gB θ σ z s.heap H locs → lv_has ls 3 [(2, .int (iZ ((i : Nat) : Int))), (1, .int (iZ (((thb (σ 114) i) : Nat) : Int))), (0, .ref (tad θ 111))] → W p l e (gRm 0 0) s m args below meth c H locs 0 0 (MQ below (gQi θ (fun q σ' z' => (q = ((thb (σ 114) N : Nat) : Int)) ∧ σ' = σ ∧ z' = z)) args s 0 0 (tA θ)) (F0 m 4 ls []) := by
    intro n4
    induction n4 with
    | zero => intro i H locs ls hmu; exact absurd hmu (Nat.not_lt_zero _)
    | succ n4 ih4 =>
      intro i H locs ls hmu hi hB hl
      have hR := hB.1.2
      have htl := thb_lt (σ 114) (s := i) (by omega)
      refine lv_iload_n hx hb dX6_there_4 rfl (lv_at hl 0 rfl) ?_
      refine lv_aload_n hx hb dX6_there_5 rfl (lv_at hl 2 rfl) ?_
      refine g_getr (k := 5) (j := 114) hx hb hts hown hK hθ hB cf6 (by decide) rfl (by decide) kw_664 rfl rfl dX6_there_6 ?_
      refine lv_iconst (v := iZ 0) hx hb dX6_there_9 rfl ?_
      refine g_iald (k := 0) hx hb hK hB (by decide) rfl (by omega) (Nat.lt_of_lt_of_eq (by omega : 0 < 50) (Eq.symm rfl)) (by decide) dX6_there_10 ?_
      refine z_top (b := ((N : Nat) : Int)) (hN) ?_
      refine z_icmp_ge (tgt := 44) hx hb dX6_there_11 (by decide) ⟨by omega, by omega⟩ ⟨by omega, by omega⟩ (fun c_1 => ?_) (fun c_1 => ?_)
      · refine lv_iload_n hx hb dX6_there_44 rfl (lv_at hl 1 rfl) ?_
        exact g_iret hx hb hr hlk hB dX6_there_45 ⟨by omega, by omega⟩ (⟨by rw [show i = N by omega], rfl, rfl⟩)
      · refine lv_iload_n hx hb dX6_there_14 rfl (lv_at hl 1 rfl) ?_
        refine lv_aload_n hx hb dX6_there_15 rfl (lv_at hl 2 rfl) ?_
        refine g_getr (k := 5) (j := 114) hx hb hts hown hK hθ hB cf6 (by decide) rfl (by decide) kw_664 rfl rfl dX6_there_16 ?_
        refine lv_bipush (v := iZ 41) hx hb dX6_there_19 (by decide) ?_
        refine lv_iload_n hx hb dX6_there_21 rfl (lv_at hl 0 rfl) ?_
        refine z_iadd hx hb dX6_there_22 ?_
        refine g_iald (k := (41 + i)) hx hb hK hB (by decide) rfl (by omega) (Nat.lt_of_lt_of_eq (by omega : (41 + i) < 50) (Eq.symm rfl)) (by decide) dX6_there_23 ?_
        have hr_2 := hR 114 (41 + i)
        refine lv_bipush (v := iZ (-9)) hx hb dX6_there_24 (by decide) ?_
        refine z_icmp_ne (tgt := 33) hx hb dX6_there_26 (by decide) ⟨by omega, by omega⟩ ⟨by decide, by decide⟩ (fun c_3 => ?_) (fun c_3 => ?_)
        · refine lv_iconst (v := iZ 1) hx hb dX6_there_33 rfl ?_
          refine lv_iload_n hx hb dX6_there_34 rfl (lv_at hl 0 rfl) ?_
          refine z_ishl1 (j := i) hx hb (by omega) dX6_there_35 ?_
          refine z_ior (a := (thb (σ 114) i)) (b := (2 ^ i)) hx hb dX6_there_36 ?_
          refine z_top (b := (((thb (σ 114) (i + 1)) : Nat) : Int)) (by rw [thb, if_neg (by omega)]) ?_
          refine lv_istore_n (lv' := [(1, .int (iZ (((thb (σ 114) (i + 1)) : Nat) : Int))), (2, .int (iZ ((i : Nat) : Int))), (0, .ref (tad θ 111))]) hx hb dX6_there_37 rfl hl (by decide) rfl (fun ls hl => ?_)
          refine z_iinc (k := 1) (lv' := [(2, .int (iZ (((i : Nat) : Int) + 1))), (1, .int (iZ (((thb (σ 114) (i + 1)) : Nat) : Int))), (0, .ref (tad θ 111))]) hx hb dX6_there_38 hl rfl (by decide) rfl (fun ls hl => ?_)
          have hl : lv_has ls 3 [(2, .int (iZ (((i + 1) : Nat) : Int))), (1, .int (iZ (((thb (σ 114) (i + 1)) : Nat) : Int))), (0, .ref (tad θ 111))] := by have e9 : (((i : Nat) : Int) + 1) = (((i + 1) : Nat) : Int) := (by omega); rw [e9] at hl; exact hl
          refine lv_goto (tgt := 4) hx hb dX6_there_41 (by decide) ?_
          exact ih4 (i + 1) _ _ _ (by omega) (by omega) hB (lv_sub hl [0, 1, 2] rfl)
        · refine lv_iconst (v := iZ 0) hx hb dX6_there_29 rfl ?_
          refine lv_goto (tgt := 36) hx hb dX6_there_30 (by decide) ?_
          refine z_ior (a := (thb (σ 114) i)) (b := 0) hx hb dX6_there_36 ?_
          refine z_top (b := (((thb (σ 114) (i + 1)) : Nat) : Int)) (by rw [thb, if_pos (by omega)]) ?_
          refine lv_istore_n (lv' := [(1, .int (iZ (((thb (σ 114) (i + 1)) : Nat) : Int))), (2, .int (iZ ((i : Nat) : Int))), (0, .ref (tad θ 111))]) hx hb dX6_there_37 rfl hl (by decide) rfl (fun ls hl => ?_)
          refine z_iinc (k := 1) (lv' := [(2, .int (iZ (((i : Nat) : Int) + 1))), (1, .int (iZ (((thb (σ 114) (i + 1)) : Nat) : Int))), (0, .ref (tad θ 111))]) hx hb dX6_there_38 hl rfl (by decide) rfl (fun ls hl => ?_)
          have hl : lv_has ls 3 [(2, .int (iZ (((i + 1) : Nat) : Int))), (1, .int (iZ (((thb (σ 114) (i + 1)) : Nat) : Int))), (0, .ref (tad θ 111))] := by have e9 : (((i : Nat) : Int) + 1) = (((i + 1) : Nat) : Int) := (by omega); rw [e9] at hl; exact hl
          refine lv_goto (tgt := 4) hx hb dX6_there_41 (by decide) ?_
          exact ih4 (i + 1) _ _ _ (by omega) (by omega) hB (lv_sub hl [0, 1, 2] rfl)
  exact loop4 _ 0 _ _ _ (Nat.lt_succ_self _) (by omega) hB (lv_sub hl [0, 1, 2] rfl)
