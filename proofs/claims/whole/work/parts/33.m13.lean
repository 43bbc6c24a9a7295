theorem noteR.cong {D D' : Nat} {a b a' b' : gS} (h : noteR D D' a b) (e1 : a' 116 = a 116) (e2 : b' 116 = b 116) : noteR D D' a' b' := by
  unfold noteR at h ⊢; rw [e1, e2]; exact h
theorem noteP.cong {D' : Nat} {a b a' b' : gS} (h : noteP D' a b) (e1 : a' 114 = a 114) (e2 : b' 116 = b 116) : noteP D' a' b' := by
  unfold noteP at h ⊢; rw [e1, e2]; exact h
set_option maxHeartbeats 4000000 in
set_option maxRecDepth 100000 in
theorem mX6_areInputs (l : Launch) (θ : gT) (hθ : gOK θ) (σ : gS) (z : gZ) (a0 b0 : Int) (har : rg a0) (hbr : rg b0) : GI l θ yX6_areInputs cX6_areInputs 2 (some .boolean) 1 25 [.int (iZ a0), .int (iZ b0)] σ z (fun q σ' z' => ((q = 1 ∧ ((0 ≤ a0 ∧ a0 ≤ 99) ∧ (0 ≤ b0 ∧ b0 ≤ 99))) ∨ (q = 0 ∧ ¬ ((0 ≤ a0 ∧ a0 ≤ 99) ∧ (0 ≤ b0 ∧ b0 ≤ 99)))) ∧ σ' = σ ∧ z' = z) := by
  refine g_enter (ret := (some .boolean)) (by decide +kernel) (Nat.le_of_ble_eq_true rfl) ?_
  intro p e s m args below meth c ls F hB hl
  obtain ⟨hx, hb, hr, hml, hown, hts, hlk, hK, hst⟩ := F
  have hR := hB.1.2
  have hl : lv_has ls 2 [(0, .int (iZ a0)), (1, .int (iZ b0))] := hl
  refine lv_iload_n hx hb dX6_areInputs_0 rfl (lv_at hl 0 rfl) ?_
  refine z_i2l hx hb ⟨by omega, by omega⟩ dX6_areInputs_1 ?_
  refine lv_lconst (v := lZ 0) hx hb dX6_areInputs_2 (by decide) ?_
  refine lv_ldc2 (v := lZ 99) hx hb hown (hts _ kw_888) dX6_areInputs_3 ?_
  refine g_calli (g_runS (As := [.long (lZ a0), .long (lZ 0), .long (lZ 99)]) (rest := []) hx hb hml hown hts hK hst hB (mX6_in l θ hθ σ z a0 0 99 ⟨by omega, by omega⟩ ⟨by omega, by omega⟩ ⟨by omega, by omega⟩) ms_X6_in kw_749 rfl hl.1 rfl (Nat.le_of_ble_eq_true rfl) ⟨by decide, by decide⟩ ⟨Nat.le_refl _, Nat.le_refl _⟩ dX6_areInputs_6) hB (fun q_3 σ_1 z_2 H locs hq_3 pq_3 hB => ?_)
  obtain ⟨pq_3, e1_, e2_⟩ := pq_3
  rw [e1_, e2_] at hB
  clear e1_ e2_
  refine z_if_eq (tgt := 28) hx hb dX6_areInputs_9 (by decide) ⟨by omega, by omega⟩ (fun c_4 => ?_) (fun c_4 => ?_)
  · refine lv_iconst (v := iZ 0) hx hb dX6_areInputs_28 rfl ?_
    exact g_zret hx hb hr hlk hB dX6_areInputs_29 (by decide) (⟨by omega, rfl, rfl⟩)
  · refine lv_iload_n hx hb dX6_areInputs_12 rfl (lv_at hl 1 rfl) ?_
    refine z_i2l hx hb ⟨by omega, by omega⟩ dX6_areInputs_13 ?_
    refine lv_lconst (v := lZ 0) hx hb dX6_areInputs_14 (by decide) ?_
    refine lv_ldc2 (v := lZ 99) hx hb hown (hts _ kw_888) dX6_areInputs_15 ?_
    refine g_calli (g_runS (As := [.long (lZ b0), .long (lZ 0), .long (lZ 99)]) (rest := []) hx hb hml hown hts hK hst hB (mX6_in l θ hθ σ z b0 0 99 ⟨by omega, by omega⟩ ⟨by omega, by omega⟩ ⟨by omega, by omega⟩) ms_X6_in kw_749 rfl hl.1 rfl (Nat.le_of_ble_eq_true rfl) ⟨by decide, by decide⟩ ⟨Nat.le_refl _, Nat.le_refl _⟩ dX6_areInputs_18) hB (fun q_7 σ_5 z_6 H locs hq_7 pq_7 hB => ?_)
    obtain ⟨pq_7, e1_, e2_⟩ := pq_7
    rw [e1_, e2_] at hB
    clear e1_ e2_
    refine z_if_eq (tgt := 28) hx hb dX6_areInputs_21 (by decide) ⟨by omega, by omega⟩ (fun c_8 => ?_) (fun c_8 => ?_)
    · refine lv_iconst (v := iZ 0) hx hb dX6_areInputs_28 rfl ?_
      exact g_zret hx hb hr hlk hB dX6_areInputs_29 (by decide) (⟨by omega, rfl, rfl⟩)
    · refine lv_iconst (v := iZ 1) hx hb dX6_areInputs_24 rfl ?_
      refine lv_goto (tgt := 29) hx hb dX6_areInputs_25 (by decide) ?_
      exact g_zret hx hb hr hlk hB dX6_areInputs_29 (by decide) (⟨by omega, rfl, rfl⟩)
set_option maxHeartbeats 4000000 in
set_option maxRecDepth 100000 in
theorem mX6_tick (l : Launch) (θ : gT) (hθ : gOK θ) (σ : gS) (z : gZ) (hW : Wf (σ 114)) (N : Nat) (hN : σ 114 0 = (N : Int)) (hV : Vb (σ 114)) (D : Nat) (hD : σ 111 8 = (D : Int)) (hD14 : D ≤ 14) (a0 b0 : Int) (har : rg a0) (hbr : rg b0) : GI l θ yX6_tick cX6_tick 3 (some .int) 7 161 [.ref (tad θ 111), .int (iZ a0), .int (iZ b0)] σ z (fun q σ' z' => ((¬ ((0 ≤ a0 ∧ a0 ≤ 99) ∧ (0 ≤ b0 ∧ b0 ≤ 99)) ∧ q = -2 ∧ fr wSc σ σ') ∨ (((0 ≤ a0 ∧ a0 ≤ 99) ∧ (0 ≤ b0 ∧ b0 ≤ 99)) ∧ ¬ sndG (σ 114) N ∧ q = -3 ∧ fr wSc σ σ') ∨ (((0 ≤ a0 ∧ a0 ≤ 99) ∧ (0 ≤ b0 ∧ b0 ≤ 99)) ∧ sndG (σ 114) N ∧ (∃ w, mClk (σ 114) N = some w ∧ σ' 114 = tkM (σ 114) w (tn (wtN (σ 114) w) N) N a0 b0 ∧ q = ((mN (σ 114) w (tn (wtN (σ 114) w) N) a0 b0 N : Nat) : Int)) ∧ (∃ D' : Nat, σ' 111 8 = (D' : Int) ∧ D' ≤ 14 ∧ 0 < D' ∧ noteR D D' σ σ' ∧ noteP D' σ σ'))) ∧ fr wPg σ σ' ∧ z' = z) := by
  refine g_enter (ret := (some .int)) (by decide +kernel) (Nat.le_of_ble_eq_true rfl) ?_
  intro p e s m args below meth c ls F hB hl
  obtain ⟨hx, hb, hr, hml, hown, hts, hlk, hK, hst⟩ := F
  have hR := hB.1.2
  have hl : lv_has ls 3 [(0, .ref (tad θ 111)), (1, .int (iZ a0)), (2, .int (iZ b0))] := hl
  refine lv_aload_n hx hb dX6_tick_0 rfl (lv_at hl 0 rfl) ?_
  refine lv_iconst (v := iZ 0) hx hb dX6_tick_1 rfl ?_
  refine g_putI (k := 0) hx hb hts hown hK hθ hB cf6 tyX6 tyX6_ok (by decide) rfl (by decide) kw_659 rfl rfl rfl ⟨by decide, by decide⟩ dX6_tick_2 (fun H locs hB => ?_)
  obtain ⟨σ1, hσ1⟩ : ∃ x_ : gS, x_ = up2 σ 111 0 0 := ⟨_, rfl⟩
  rw [← hσ1] at hB
  have hR := hB.1.2
  refine lv_iload_n hx hb dX6_tick_5 rfl (lv_at hl 1 rfl) ?_
  refine lv_iload_n hx hb dX6_tick_6 rfl (lv_at hl 2 rfl) ?_
  refine g_calli (g_runS (As := [.int (iZ a0), .int (iZ b0)]) (rest := []) hx hb hml hown hts hK hst hB (mX6_areInputs l θ hθ σ1 z a0 b0 ⟨by omega, by omega⟩ ⟨by omega, by omega⟩) ms_X6_areInputs kw_885 rfl hl.1 rfl (Nat.le_of_ble_eq_true rfl) ⟨by decide, by decide⟩ ⟨Nat.le_refl _, Nat.le_refl _⟩ dX6_tick_7) hB (fun q_3 σ_1 z_2 H locs hq_3 pq_3 hB => ?_)
  obtain ⟨pq_3, e1_, e2_⟩ := pq_3
  rw [e1_, e2_] at hB
  clear e1_ e2_
  refine z_if_ne (tgt := 16) hx hb dX6_tick_10 (by decide) ⟨by omega, by omega⟩ (fun c_4 => ?_) (fun c_4 => ?_)
  · refine lv_aload_n hx hb dX6_tick_16 rfl (lv_at hl 0 rfl) ?_
    refine g_calli (g_runV (i := 111) (As := []) (rest := []) hx hb hml hown hts hK hst hB (mX6_soundNow l θ hθ σ1 z (by rw [hσ1, up2_row _ _ (by decide)]; exact hW) N (by rw [hσ1, up2_row _ _ (by decide)]; exact hN)) mv_X6_soundNow kw_789 cf6 (by decide) rfl rfl hl.1 rfl (Nat.le_of_ble_eq_true rfl) ⟨by decide, by decide⟩ ⟨Nat.le_refl _, Nat.le_refl _⟩ dX6_tick_17) hB (fun q2 σ2 z_5 H locs hq2 hp2 hB => ?_)
    obtain ⟨hp2, hf2, e2_⟩ := hp2
    rw [e2_] at hB
    clear e2_
    have hR := hB.1.2
    rw [hσ1, up2_row _ _ (by decide)] at hp2
    have hfs : fr wSc σ σ2 := ((by rw [hσ1]; exact fr.up rfl : fr wSc σ σ1)).tr (hf2.mono sc_an)
    have hg2 : σ2 114 = σ 114 := by rw [hf2.row (fun k => rfl), hσ1, up2_row _ _ (by decide)]
    have hgr := hW.1
    obtain ⟨han, hp2⟩ := hp2
    have hiff := mAn_iff han
    rcases hp2 with ⟨hqa, hsn⟩ | ⟨hqa, hsn⟩
    · subst hqa
      have hsd := hiff.mp hsn
      obtain ⟨w, ew, ho, hA2, hfn, hT2, hraw⟩ := mAn_snd hW hN han hsn
      refine z_if_ne (tgt := 26) hx hb dX6_tick_20 (by decide) ⟨by decide, by decide⟩ (fun c_6 => ?_) (fun c_6 => ?_)
      · refine lv_aload_n hx hb dX6_tick_26 rfl (lv_at hl 0 rfl) ?_
        refine g_callv (g_runV (i := 111) (As := []) (rest := []) hx hb hml hown hts hK hst hB (mX6_note l θ hθ σ2 z D (by rw [hfs 111 8 rfl]; exact hD) hD14) mv_X6_note kw_889 cf6 (by decide) rfl rfl hl.1 rfl (Nat.le_of_ble_eq_true rfl) ⟨by decide, by decide⟩ ⟨Nat.le_refl _, Nat.le_refl _⟩ dX6_tick_27) hB (fun σ3 z_7 H locs hp3 hB => ?_)
        obtain ⟨hp3, hf3, e2_⟩ := hp3
        rw [e2_] at hB
        clear e2_
        have hR := hB.1.2
        have hg3 : σ3 114 = σ 114 := by rw [hf3.row (fun k => rfl)]; exact hg2
        refine lv_aload_n hx hb dX6_tick_30 rfl (lv_at hl 0 rfl) ?_
        refine lv_aload_n hx hb dX6_tick_31 rfl (lv_at hl 0 rfl) ?_
        refine g_getr (k := 5) (j := 114) hx hb hts hown hK hθ hB cf6 (by decide) rfl (by decide) kw_664 rfl rfl dX6_tick_32 ?_
        refine lv_iload_n hx hb dX6_tick_35 rfl (lv_at hl 1 rfl) ?_
        refine lv_iload_n hx hb dX6_tick_36 rfl (lv_at hl 2 rfl) ?_
        refine g_calli (g_runV (i := 111) (As := [.ref (tad θ 114), .int (iZ a0), .int (iZ b0)]) (rest := []) hx hb hml hown hts hK hst hB (mX6_goTick l θ hθ σ3 z w (hA2.keep (hf3.row (fun k => rfl)) (hf3.row (fun k => rfl))) ho 114 (Or.inl rfl) (by rw [hg3]; exact hW) N (by rw [hg3]; exact hN) (by rw [hg3]; exact hV) (tn (wtN (σ 114) w) N) (by rw [hf3.row (fun k => rfl)]; exact hT2) a0 b0 (by omega) (by omega)) mv_X6_goTick kw_893 cf6 (by decide) rfl rfl hl.1 rfl (Nat.le_of_ble_eq_true rfl) ⟨by decide, by decide⟩ ⟨Nat.le_refl _, Nat.le_refl _⟩ dX6_tick_37) hB (fun q4 σ4 z_9 H locs hq4 hp4 hB => ?_)
        obtain ⟨hp4, hf4, e2_⟩ := hp4
        rw [e2_] at hB
        clear e2_
        have hR := hB.1.2
        rw [hg3] at hp4
        obtain ⟨D', n1, n2, n3, n4, n5⟩ := hp3
        have h116 : σ4 116 = σ3 116 := hf4.row (fun k => rfl)
        have hmn := mN_le (σ 114) w (tn (wtN (σ 114) w) N) a0 b0 N
        exact g_iret hx hb hr hlk hB dX6_tick_40 ⟨by omega, by omega⟩ (⟨Or.inr (Or.inr ⟨by omega, hsd, ⟨w, ew, hp4.1, hp4.2⟩, D', by rw [hf4 111 8 rfl]; exact n1, n2, n3, n4.cong (hfs.row (fun k => rfl)).symm h116, n5.cong hg2.symm h116⟩), ((hfs.mono pg_sc).tr (hf3.mono pg_no)).tr (hf4.mono pg_tk), rfl⟩)
      · exact absurd c_6 (by decide)
    · subst hqa
      have hnd : ¬ sndG (σ 114) N := fun q => hsn (hiff.mpr q)
      refine z_if_ne (tgt := 26) hx hb dX6_tick_20 (by decide) ⟨by decide, by decide⟩ (fun c_10 => ?_) (fun c_10 => ?_)
      · exact absurd (by decide) c_10
      · refine lv_bipush (v := iZ (-3)) hx hb dX6_tick_23 (by decide) ?_
        exact g_iret hx hb hr hlk hB dX6_tick_25 ⟨by decide, by decide⟩ (⟨Or.inr (Or.inl ⟨by omega, hnd, rfl, hfs⟩), hfs.mono pg_sc, rfl⟩)
  · refine lv_bipush (v := iZ (-2)) hx hb dX6_tick_13 (by decide) ?_
    exact g_iret hx hb hr hlk hB dX6_tick_15 ⟨by decide, by decide⟩ (⟨Or.inl ⟨by omega, rfl, (by rw [hσ1]; exact fr.up rfl : fr wSc σ σ1)⟩, ((by rw [hσ1]; exact fr.up rfl : fr wSc σ σ1)).mono pg_sc, rfl⟩)
set_option maxHeartbeats 4000000 in
set_option maxRecDepth 100000 in
theorem mX6_afresh (l : Launch) (θ : gT) (hθ : gOK θ) (σ : gS) (z : gZ) (hW : Wf (σ 114)) (N : Nat) (hN : σ 114 0 = (N : Int)) (D : Nat) (hD : σ 111 8 = (D : Int)) (hD14 : D ≤ 14) : GI l θ yX6_afresh cX6_afresh 2 (some .int) 1 22 [.ref (tad θ 111)] σ z (fun q σ' z' => (q = σ 114 49 ∧ σ' 114 = afM (σ 114) ∧ (∃ D' : Nat, σ' 111 8 = (D' : Int) ∧ D' ≤ 14 ∧ 0 < D' ∧ noteR D D' σ σ' ∧ noteP D' σ σ')) ∧ fr wPg σ σ' ∧ z' = z) := by
  refine g_enter (ret := (some .int)) (by decide +kernel) (Nat.le_of_ble_eq_true rfl) ?_
  intro p e s m args below meth c ls F hB hl
  obtain ⟨hx, hb, hr, hml, hown, hts, hlk, hK, hst⟩ := F
  have hR := hB.1.2
  have hl : lv_has ls 2 [(0, .ref (tad θ 111))] := hl
  refine lv_aload_n hx hb dX6_afresh_0 rfl (lv_at hl 0 rfl) ?_
  refine lv_iconst (v := iZ 0) hx hb dX6_afresh_1 rfl ?_
  refine g_putI (k := 0) hx hb hts hown hK hθ hB cf6 tyX6 tyX6_ok (by decide) rfl (by decide) kw_659 rfl rfl rfl ⟨by decide, by decide⟩ dX6_afresh_2 (fun H locs hB => ?_)
  obtain ⟨σ1, hσ1⟩ : ∃ x_ : gS, x_ = up2 σ 111 0 0 := ⟨_, rfl⟩
  rw [← hσ1] at hB
  have hR := hB.1.2
  refine lv_aload_n hx hb dX6_afresh_5 rfl (lv_at hl 0 rfl) ?_
  refine g_callv (g_runV (i := 111) (As := []) (rest := []) hx hb hml hown hts hK hst hB (mX6_note l θ hθ σ1 z D (by rw [hσ1, up2_k _ _ (by decide)]; exact hD) hD14) mv_X6_note kw_889 cf6 (by decide) rfl rfl hl.1 rfl (Nat.le_of_ble_eq_true rfl) ⟨by decide, by decide⟩ ⟨Nat.le_refl _, Nat.le_refl _⟩ dX6_afresh_6) hB (fun σ3 z_1 H locs hp3 hB => ?_)
  obtain ⟨hp3, hf3, e2_⟩ := hp3
  rw [e2_] at hB
  clear e2_
  have hR := hB.1.2
  have hg3 : σ3 114 = σ 114 := by rw [hf3.row (fun k => rfl), hσ1, up2_row _ _ (by decide)]
  refine lv_aload_n hx hb dX6_afresh_9 rfl (lv_at hl 0 rfl) ?_
  refine g_getr (k := 5) (j := 114) hx hb hts hown hK hθ hB cf6 (by decide) rfl (by decide) kw_664 rfl rfl dX6_afresh_10 ?_
  refine lv_bipush (v := iZ 49) hx hb dX6_afresh_13 (by decide) ?_
  refine g_iald (k := 49) hx hb hK hB (by decide) rfl (by omega) (Nat.lt_of_lt_of_eq (by omega : 49 < 50) (Eq.symm rfl)) (by decide) dX6_afresh_15 ?_
  refine z_top (b := (σ 114 49)) (by rw [hg3]) ?_
  have hr49 := hR 114 49
  rw [hg3] at hr49
  refine lv_istore_n (lv' := [(1, .int (iZ (σ 114 49))), (0, .ref (tad θ 111))]) hx hb dX6_afresh_16 rfl hl (by decide) rfl (fun ls hl => ?_)
  refine lv_aload_n hx hb dX6_afresh_17 rfl (lv_at hl 1 rfl) ?_
  refine g_getr (k := 5) (j := 114) hx hb hts hown hK hθ hB cf6 (by decide) rfl (by decide) kw_664 rfl rfl dX6_afresh_18 ?_
  refine g_callv (g_runS (As := [.ref (tad θ 114)]) (rest := []) hx hb hml hown hts hK hst hB (mX6_goAfresh l θ hθ σ3 z 114 (Or.inl rfl) (by rw [hg3]; exact hW)) ms_X6_goAfresh kw_786 rfl hl.1 rfl (Nat.le_of_ble_eq_true rfl) ⟨by decide, by decide⟩ ⟨Nat.le_refl _, Nat.le_refl _⟩ dX6_afresh_21) hB (fun σ4 z_3 H locs hp4 hB => ?_)
  obtain ⟨hp4, hf4, e2_⟩ := hp4
  rw [e2_] at hB
  clear e2_
  have hR := hB.1.2
  rw [hg3] at hp4
  obtain ⟨D', n1, n2, n3, n4, n5⟩ := hp3
  have h116 : σ4 116 = σ3 116 := hf4.row (fun k => rfl)
  refine lv_iload_n hx hb dX6_afresh_24 rfl (lv_at hl 0 rfl) ?_
  exact g_iret hx hb hr hlk hB dX6_afresh_25 ⟨by omega, by omega⟩ (⟨⟨rfl, hp4, D', by rw [hf4 111 8 rfl]; exact n1, n2, n3, n4.cong (by rw [hσ1, up2_row _ _ (by decide)]) h116, n5.cong (by rw [hσ1, up2_row _ _ (by decide)]) h116⟩, ((((by rw [hσ1]; exact fr.up rfl : fr wSc σ σ1)).mono pg_sc).tr (hf3.mono pg_no)).tr (hf4.mono pg_tk), rfl⟩)
set_option maxHeartbeats 4000000 in
set_option maxRecDepth 100000 in
theorem mX6_areFigures (l : Launch) (θ : gT) (hθ : gOK θ) (σ : gS) (z : gZ) (hW : Wf (σ 114)) (N : Nat) (hN : σ 114 0 = (N : Int)) (K a0 b0 c0 : Int) (hKr : 0 ≤ K ∧ K ≤ 11) (har : rg a0) (hbr : rg b0) (hcr : rg c0) : GI l θ yX6_areFigures cX6_areFigures 7 (some .boolean) 1 25 [.ref (tad θ 111), .int (iZ K), .int (iZ a0), .int (iZ b0), .int (iZ c0)] σ z (fun q σ' z' => ((q = 1 ∧ ((0 ≤ a0 ∧ a0 ≤ mst K 0 (σ 114 0)) ∧ (0 ≤ b0 ∧ b0 ≤ (if 1 < fgz K then mst K 1 (σ 114 0) else 0)) ∧ (0 ≤ c0 ∧ c0 ≤ (if 2 < fgz K then mst K 2 (σ 114 0) else 0)))) ∨ (q = 0 ∧ ¬ ((0 ≤ a0 ∧ a0 ≤ mst K 0 (σ 114 0)) ∧ (0 ≤ b0 ∧ b0 ≤ (if 1 < fgz K then mst K 1 (σ 114 0) else 0)) ∧ (0 ≤ c0 ∧ c0 ≤ (if 2 < fgz K then mst K 2 (σ 114 0) else 0))))) ∧ σ' = σ ∧ z' = z) := by
  refine g_enter (ret := (some .boolean)) (by decide +kernel) (Nat.le_of_ble_eq_true rfl) ?_
  intro p e s m args below meth c ls F hB hl
  obtain ⟨hx, hb, hr, hml, hown, hts, hlk, hK, hst⟩ := F
  have hR := hB.1.2
  have hl : lv_has ls 7 [(0, .ref (tad θ 111)), (1, .int (iZ K)), (2, .int (iZ a0)), (3, .int (iZ b0)), (4, .int (iZ c0))] := hl
  have hgr := hW.1
  have hfi := fgz_in K
  obtain ⟨M0, hM0⟩ : ∃ x, x = mst K 0 (σ 114 0) := ⟨_, rfl⟩
  obtain ⟨B1, hB1⟩ : ∃ x, x = (if 1 < fgz K then mst K 1 (σ 114 0) else 0) := ⟨_, rfl⟩
  obtain ⟨C1, hC1⟩ : ∃ x, x = (if 2 < fgz K then mst K 2 (σ 114 0) else 0) := ⟨_, rfl⟩
  refine lv_iload_n hx hb dX6_areFigures_0 rfl (lv_at hl 1 rfl) ?_
  refine g_calli (g_runS (As := [.int (iZ K)]) (rest := []) hx hb hml hown hts hK hst hB (mX6_figures l θ hθ σ z K ⟨by omega, by omega⟩) ms_X6_figures kw_776 rfl hl.1 rfl (Nat.le_of_ble_eq_true rfl) ⟨by decide, by decide⟩ ⟨Nat.le_refl _, Nat.le_refl _⟩ dX6_areFigures_1) hB (fun qz σ_1 z_2 H locs hqz hpz hB => ?_)
  obtain ⟨hpz, e1_, e2_⟩ := hpz
  rw [e1_, e2_] at hB
  clear e1_ e2_
  have hfz := fgz_of hpz
  subst hfz
  refine lv_istore (lv' := [(5, .int (iZ (((fgz K) : Nat) : Int))), (0, .ref (tad θ 111)), (1, .int (iZ K)), (2, .int (iZ a0)), (3, .int (iZ b0)), (4, .int (iZ c0))]) hx hb dX6_areFigures_4 hl (by decide) rfl (fun ls hl => ?_)
  refine lv_iload_n hx hb dX6_areFigures_6 rfl (lv_at hl 3 rfl) ?_
  refine z_i2l hx hb ⟨by omega, by omega⟩ dX6_areFigures_7 ?_
  refine lv_lconst (v := lZ 0) hx hb dX6_areFigures_8 (by decide) ?_
  refine lv_iload_n hx hb dX6_areFigures_9 rfl (lv_at hl 2 rfl) ?_
  refine lv_iconst (v := iZ 0) hx hb dX6_areFigures_10 rfl ?_
  refine lv_aload_n hx hb dX6_areFigures_11 rfl (lv_at hl 1 rfl) ?_
  refine g_getr (k := 5) (j := 114) hx hb hts hown hK hθ hB cf6 (by decide) rfl (by decide) kw_664 rfl rfl dX6_areFigures_12 ?_
  refine lv_iconst (v := iZ 0) hx hb dX6_areFigures_15 rfl ?_
  refine g_iald (k := 0) hx hb hK hB (by decide) rfl (by omega) (Nat.lt_of_lt_of_eq (by omega : 0 < 50) (Eq.symm rfl)) (by decide) dX6_areFigures_16 ?_
  have hr_3 := hR 114 0
  refine g_calli (g_runS (As := [.int (iZ K), .int (iZ 0), .int (iZ (σ 114 0))]) (rest := [.long (lZ 0), .long (lZ a0)]) hx hb hml hown hts hK hst hB (mX6_most l θ hθ σ z K 0 (σ 114 0) ⟨by omega, by omega⟩ ⟨by omega, by omega⟩ ⟨by omega, by omega⟩) ms_X6_most kw_779 rfl hl.1 rfl (Nat.le_of_ble_eq_true rfl) ⟨by decide, by decide⟩ ⟨Nat.le_refl _, Nat.le_refl _⟩ dX6_areFigures_17) hB (fun qm0 σ_4 z_5 H locs hqm0 hpm0 hB => ?_)
  obtain ⟨hpm0, e1_, e2_⟩ := hpm0
  rw [e1_, e2_] at hB
  clear e1_ e2_
  have hmm0 := mst_of hpm0
  rw [← hM0] at hmm0
  refine z_i2l hx hb ⟨by omega, by omega⟩ dX6_areFigures_20 ?_
  refine g_calli (g_runS (As := [.long (lZ a0), .long (lZ 0), .long (lZ qm0)]) (rest := []) hx hb hml hown hts hK hst hB (mX6_in l θ hθ σ z a0 0 qm0 ⟨by omega, by omega⟩ ⟨by omega, by omega⟩ ⟨by omega, by omega⟩) ms_X6_in kw_749 rfl hl.1 rfl (Nat.le_of_ble_eq_true rfl) ⟨by decide, by decide⟩ ⟨Nat.le_refl _, Nat.le_refl _⟩ dX6_areFigures_21) hB (fun q_8 σ_6 z_7 H locs hq_8 pq_8 hB => ?_)
  obtain ⟨pq_8, e1_, e2_⟩ := pq_8
  rw [e1_, e2_] at hB
  clear e1_ e2_
  refine lv_istore (lv' := [(6, .int (iZ q_8)), (5, .int (iZ (((fgz K) : Nat) : Int))), (0, .ref (tad θ 111)), (1, .int (iZ K)), (2, .int (iZ a0)), (3, .int (iZ b0)), (4, .int (iZ c0))]) hx hb dX6_areFigures_24 hl (by decide) rfl (fun ls hl => ?_)
  refine lv_iload hx hb dX6_areFigures_26 (lv_at hl 0 rfl) ?_
  refine z_if_eq (tgt := 66) hx hb dX6_areFigures_28 (by decide) ⟨by omega, by omega⟩ (fun c_9 => ?_) (fun c_9 => ?_)
  · refine lv_iconst (v := iZ 0) hx hb dX6_areFigures_66 rfl ?_
    refine lv_istore (lv' := [(6, .int (iZ 0)), (5, .int (iZ (((fgz K) : Nat) : Int))), (0, .ref (tad θ 111)), (1, .int (iZ K)), (2, .int (iZ a0)), (3, .int (iZ b0)), (4, .int (iZ c0))]) hx hb dX6_areFigures_67 hl (by decide) rfl (fun ls hl => ?_)
    refine lv_iload hx hb dX6_areFigures_69 (lv_at hl 0 rfl) ?_
    refine z_if_eq (tgt := 110) hx hb dX6_areFigures_71 (by decide) ⟨by decide, by decide⟩ (fun c_10 => ?_) (fun c_10 => ?_)
    · refine lv_iconst (v := iZ 0) hx hb dX6_areFigures_110 rfl ?_
      exact g_zret hx hb hr hlk hB dX6_areFigures_111 (by decide) (⟨by rw [← hM0, ← hB1, ← hC1]; omega, rfl, rfl⟩)
    · exact absurd (by decide) c_10
  · refine lv_iload_n hx hb dX6_areFigures_31 rfl (lv_at hl 5 rfl) ?_
    refine z_i2l hx hb ⟨by omega, by omega⟩ dX6_areFigures_32 ?_
    refine lv_lconst (v := lZ 0) hx hb dX6_areFigures_33 (by decide) ?_
    refine lv_iload hx hb dX6_areFigures_34 (lv_at hl 1 rfl) ?_
    refine lv_iconst (v := iZ 1) hx hb dX6_areFigures_36 rfl ?_
    refine z_icmp_le (tgt := 55) hx hb dX6_areFigures_37 (by decide) ⟨by omega, by omega⟩ ⟨by decide, by decide⟩ (fun c_11 => ?_) (fun c_11 => ?_)
    · have hB2 : B1 = 0 := by rw [hB1, if_neg (by omega)]
      refine lv_lconst (v := lZ 0) hx hb dX6_areFigures_55 (by decide) ?_
      refine g_calli (g_runS (As := [.long (lZ b0), .long (lZ 0), .long (lZ 0)]) (rest := []) hx hb hml hown hts hK hst hB (mX6_in l θ hθ σ z b0 0 0 ⟨by omega, by omega⟩ ⟨by omega, by omega⟩ ⟨by omega, by omega⟩) ms_X6_in kw_749 rfl hl.1 rfl (Nat.le_of_ble_eq_true rfl) ⟨by decide, by decide⟩ ⟨Nat.le_refl _, Nat.le_refl _⟩ dX6_areFigures_56) hB (fun q_14 σ_12 z_13 H locs hq_14 pq_14 hB => ?_)
      obtain ⟨pq_14, e1_, e2_⟩ := pq_14
      rw [e1_, e2_] at hB
      clear e1_ e2_
      refine z_if_eq (tgt := 66) hx hb dX6_areFigures_59 (by decide) ⟨by omega, by omega⟩ (fun c_15 => ?_) (fun c_15 => ?_)
      · refine lv_iconst (v := iZ 0) hx hb dX6_areFigures_66 rfl ?_
        refine lv_istore (lv' := [(6, .int (iZ 0)), (5, .int (iZ (((fgz K) : Nat) : Int))), (0, .ref (tad θ 111)), (1, .int (iZ K)), (2, .int (iZ a0)), (3, .int (iZ b0)), (4, .int (iZ c0))]) hx hb dX6_areFigures_67 hl (by decide) rfl (fun ls hl => ?_)
        refine lv_iload hx hb dX6_areFigures_69 (lv_at hl 0 rfl) ?_
        refine z_if_eq (tgt := 110) hx hb dX6_areFigures_71 (by decide) ⟨by decide, by decide⟩ (fun c_16 => ?_) (fun c_16 => ?_)
        · refine lv_iconst (v := iZ 0) hx hb dX6_areFigures_110 rfl ?_
          exact g_zret hx hb hr hlk hB dX6_areFigures_111 (by decide) (⟨by rw [← hM0, ← hB1, ← hC1]; omega, rfl, rfl⟩)
        · exact absurd (by decide) c_16
      · refine lv_iconst (v := iZ 1) hx hb dX6_areFigures_62 rfl ?_
        refine lv_goto (tgt := 67) hx hb dX6_areFigures_63 (by decide) ?_
        refine lv_istore (lv' := [(6, .int (iZ 1)), (5, .int (iZ (((fgz K) : Nat) : Int))), (0, .ref (tad θ 111)), (1, .int (iZ K)), (2, .int (iZ a0)), (3, .int (iZ b0)), (4, .int (iZ c0))]) hx hb dX6_areFigures_67 hl (by decide) rfl (fun ls hl => ?_)
        refine lv_iload hx hb dX6_areFigures_69 (lv_at hl 0 rfl) ?_
        refine z_if_eq (tgt := 110) hx hb dX6_areFigures_71 (by decide) ⟨by decide, by decide⟩ (fun c_17 => ?_) (fun c_17 => ?_)
        · exact absurd c_17 (by decide)
        · refine lv_iload hx hb dX6_areFigures_74 (lv_at hl 6 rfl) ?_
          refine z_i2l hx hb ⟨by omega, by omega⟩ dX6_areFigures_76 ?_
          refine lv_lconst (v := lZ 0) hx hb dX6_areFigures_77 (by decide) ?_
          refine lv_iload hx hb dX6_areFigures_78 (lv_at hl 1 rfl) ?_
          refine lv_iconst (v := iZ 2) hx hb dX6_areFigures_80 rfl ?_
          refine z_icmp_le (tgt := 99) hx hb dX6_areFigures_81 (by decide) ⟨by omega, by omega⟩ ⟨by decide, by decide⟩ (fun c_18 => ?_) (fun c_18 => ?_)
          · have hC2 : C1 = 0 := by rw [hC1, if_neg (by omega)]
            refine lv_lconst (v := lZ 0) hx hb dX6_areFigures_99 (by decide) ?_
            refine g_calli (g_runS (As := [.long (lZ c0), .long (lZ 0), .long (lZ 0)]) (rest := []) hx hb hml hown hts hK hst hB (mX6_in l θ hθ σ z c0 0 0 ⟨by omega, by omega⟩ ⟨by omega, by omega⟩ ⟨by omega, by omega⟩) ms_X6_in kw_749 rfl hl.1 rfl (Nat.le_of_ble_eq_true rfl) ⟨by decide, by decide⟩ ⟨Nat.le_refl _, Nat.le_refl _⟩ dX6_areFigures_100) hB (fun q_21 σ_19 z_20 H locs hq_21 pq_21 hB => ?_)
            obtain ⟨pq_21, e1_, e2_⟩ := pq_21
            rw [e1_, e2_] at hB
            clear e1_ e2_
            refine z_if_eq (tgt := 110) hx hb dX6_areFigures_103 (by decide) ⟨by omega, by omega⟩ (fun c_22 => ?_) (fun c_22 => ?_)
            · refine lv_iconst (v := iZ 0) hx hb dX6_areFigures_110 rfl ?_
              exact g_zret hx hb hr hlk hB dX6_areFigures_111 (by decide) (⟨by rw [← hM0, ← hB1, ← hC1]; omega, rfl, rfl⟩)
            · refine lv_iconst (v := iZ 1) hx hb dX6_areFigures_106 rfl ?_
              refine lv_goto (tgt := 111) hx hb dX6_areFigures_107 (by decide) ?_
              exact g_zret hx hb hr hlk hB dX6_areFigures_111 (by decide) (⟨by rw [← hM0, ← hB1, ← hC1]; omega, rfl, rfl⟩)
          · refine lv_iload_n hx hb dX6_areFigures_84 rfl (lv_at hl 3 rfl) ?_
            refine lv_iconst (v := iZ 2) hx hb dX6_areFigures_85 rfl ?_
            refine lv_aload_n hx hb dX6_areFigures_86 rfl (lv_at hl 2 rfl) ?_
            refine g_getr (k := 5) (j := 114) hx hb hts hown hK hθ hB cf6 (by decide) rfl (by decide) kw_664 rfl rfl dX6_areFigures_87 ?_
            refine lv_iconst (v := iZ 0) hx hb dX6_areFigures_90 rfl ?_
            refine g_iald (k := 0) hx hb hK hB (by decide) rfl (by omega) (Nat.lt_of_lt_of_eq (by omega : 0 < 50) (Eq.symm rfl)) (by decide) dX6_areFigures_91 ?_
            have hr_23 := hR 114 0
            refine g_calli (g_runS (As := [.int (iZ K), .int (iZ 2), .int (iZ (σ 114 0))]) (rest := [.long (lZ 0), .long (lZ c0)]) hx hb hml hown hts hK hst hB (mX6_most l θ hθ σ z K 2 (σ 114 0) ⟨by omega, by omega⟩ ⟨by omega, by omega⟩ ⟨by omega, by omega⟩) ms_X6_most kw_779 rfl hl.1 rfl (Nat.le_of_ble_eq_true rfl) ⟨by decide, by decide⟩ ⟨Nat.le_refl _, Nat.le_refl _⟩ dX6_areFigures_92) hB (fun qm2 σ_24 z_25 H locs hqm2 hpm2 hB => ?_)
            obtain ⟨hpm2, e1_, e2_⟩ := hpm2
            rw [e1_, e2_] at hB
            clear e1_ e2_
            have hmm2 := mst_of hpm2
            have hC2 : C1 = qm2 := by rw [hC1, if_pos (by omega), ← hmm2]
            refine z_i2l hx hb ⟨by omega, by omega⟩ dX6_areFigures_95 ?_
            refine lv_goto (tgt := 100) hx hb dX6_areFigures_96 (by decide) ?_
            refine g_calli (g_runS (As := [.long (lZ c0), .long (lZ 0), .long (lZ qm2)]) (rest := []) hx hb hml hown hts hK hst hB (mX6_in l θ hθ σ z c0 0 qm2 ⟨by omega, by omega⟩ ⟨by omega, by omega⟩ ⟨by omega, by omega⟩) ms_X6_in kw_749 rfl hl.1 rfl (Nat.le_of_ble_eq_true rfl) ⟨by decide, by decide⟩ ⟨Nat.le_refl _, Nat.le_refl _⟩ dX6_areFigures_100) hB (fun q_28 σ_26 z_27 H locs hq_28 pq_28 hB => ?_)
            obtain ⟨pq_28, e1_, e2_⟩ := pq_28
            rw [e1_, e2_] at hB
            clear e1_ e2_
            refine z_if_eq (tgt := 110) hx hb dX6_areFigures_103 (by decide) ⟨by omega, by omega⟩ (fun c_29 => ?_) (fun c_29 => ?_)
            · refine lv_iconst (v := iZ 0) hx hb dX6_areFigures_110 rfl ?_
              exact g_zret hx hb hr hlk hB dX6_areFigures_111 (by decide) (⟨by rw [← hM0, ← hB1, ← hC1]; omega, rfl, rfl⟩)
            · refine lv_iconst (v := iZ 1) hx hb dX6_areFigures_106 rfl ?_
              refine lv_goto (tgt := 111) hx hb dX6_areFigures_107 (by decide) ?_
              exact g_zret hx hb hr hlk hB dX6_areFigures_111 (by decide) (⟨by rw [← hM0, ← hB1, ← hC1]; omega, rfl, rfl⟩)
    · refine lv_iload_n hx hb dX6_areFigures_40 rfl (lv_at hl 3 rfl) ?_
      refine lv_iconst (v := iZ 1) hx hb dX6_areFigures_41 rfl ?_
      refine lv_aload_n hx hb dX6_areFigures_42 rfl (lv_at hl 2 rfl) ?_
      refine g_getr (k := 5) (j := 114) hx hb hts hown hK hθ hB cf6 (by decide) rfl (by decide) kw_664 rfl rfl dX6_areFigures_43 ?_
      refine lv_iconst (v := iZ 0) hx hb dX6_areFigures_46 rfl ?_
      refine g_iald (k := 0) hx hb hK hB (by decide) rfl (by omega) (Nat.lt_of_lt_of_eq (by omega : 0 < 50) (Eq.symm rfl)) (by decide) dX6_areFigures_47 ?_
      have hr_30 := hR 114 0
      refine g_calli (g_runS (As := [.int (iZ K), .int (iZ 1), .int (iZ (σ 114 0))]) (rest := [.long (lZ 0), .long (lZ b0)]) hx hb hml hown hts hK hst hB (mX6_most l θ hθ σ z K 1 (σ 114 0) ⟨by omega, by omega⟩ ⟨by omega, by omega⟩ ⟨by omega, by omega⟩) ms_X6_most kw_779 rfl hl.1 rfl (Nat.le_of_ble_eq_true rfl) ⟨by decide, by decide⟩ ⟨Nat.le_refl _, Nat.le_refl _⟩ dX6_areFigures_48) hB (fun qm1 σ_31 z_32 H locs hqm1 hpm1 hB => ?_)
      obtain ⟨hpm1, e1_, e2_⟩ := hpm1
      rw [e1_, e2_] at hB
      clear e1_ e2_
      have hmm1 := mst_of hpm1
      have hB2 : B1 = qm1 := by rw [hB1, if_pos (by omega), ← hmm1]
      refine z_i2l hx hb ⟨by omega, by omega⟩ dX6_areFigures_51 ?_
      refine lv_goto (tgt := 56) hx hb dX6_areFigures_52 (by decide) ?_
      refine g_calli (g_runS (As := [.long (lZ b0), .long (lZ 0), .long (lZ qm1)]) (rest := []) hx hb hml hown hts hK hst hB (mX6_in l θ hθ σ z b0 0 qm1 ⟨by omega, by omega⟩ ⟨by omega, by omega⟩ ⟨by omega, by omega⟩) ms_X6_in kw_749 rfl hl.1 rfl (Nat.le_of_ble_eq_true rfl) ⟨by decide, by decide⟩ ⟨Nat.le_refl _, Nat.le_refl _⟩ dX6_areFigures_56) hB (fun q_35 σ_33 z_34 H locs hq_35 pq_35 hB => ?_)
      obtain ⟨pq_35, e1_, e2_⟩ := pq_35
      rw [e1_, e2_] at hB
      clear e1_ e2_
      refine z_if_eq (tgt := 66) hx hb dX6_areFigures_59 (by decide) ⟨by omega, by omega⟩ (fun c_36 => ?_) (fun c_36 => ?_)
      · refine lv_iconst (v := iZ 0) hx hb dX6_areFigures_66 rfl ?_
        refine lv_istore (lv' := [(6, .int (iZ 0)), (5, .int (iZ (((fgz K) : Nat) : Int))), (0, .ref (tad θ 111)), (1, .int (iZ K)), (2, .int (iZ a0)), (3, .int (iZ b0)), (4, .int (iZ c0))]) hx hb dX6_areFigures_67 hl (by decide) rfl (fun ls hl => ?_)
        refine lv_iload hx hb dX6_areFigures_69 (lv_at hl 0 rfl) ?_
        refine z_if_eq (tgt := 110) hx hb dX6_areFigures_71 (by decide) ⟨by decide, by decide⟩ (fun c_37 => ?_) (fun c_37 => ?_)
        · refine lv_iconst (v := iZ 0) hx hb dX6_areFigures_110 rfl ?_
          exact g_zret hx hb hr hlk hB dX6_areFigures_111 (by decide) (⟨by rw [← hM0, ← hB1, ← hC1]; omega, rfl, rfl⟩)
        · exact absurd (by decide) c_37
      · refine lv_iconst (v := iZ 1) hx hb dX6_areFigures_62 rfl ?_
        refine lv_goto (tgt := 67) hx hb dX6_areFigures_63 (by decide) ?_
        refine lv_istore (lv' := [(6, .int (iZ 1)), (5, .int (iZ (((fgz K) : Nat) : Int))), (0, .ref (tad θ 111)), (1, .int (iZ K)), (2, .int (iZ a0)), (3, .int (iZ b0)), (4, .int (iZ c0))]) hx hb dX6_areFigures_67 hl (by decide) rfl (fun ls hl => ?_)
        refine lv_iload hx hb dX6_areFigures_69 (lv_at hl 0 rfl) ?_
        refine z_if_eq (tgt := 110) hx hb dX6_areFigures_71 (by decide) ⟨by decide, by decide⟩ (fun c_38 => ?_) (fun c_38 => ?_)
        · exact absurd c_38 (by decide)
        · refine lv_iload hx hb dX6_areFigures_74 (lv_at hl 6 rfl) ?_
          refine z_i2l hx hb ⟨by omega, by omega⟩ dX6_areFigures_76 ?_
          refine lv_lconst (v := lZ 0) hx hb dX6_areFigures_77 (by decide) ?_
          refine lv_iload hx hb dX6_areFigures_78 (lv_at hl 1 rfl) ?_
          refine lv_iconst (v := iZ 2) hx hb dX6_areFigures_80 rfl ?_
          refine z_icmp_le (tgt := 99) hx hb dX6_areFigures_81 (by decide) ⟨by omega, by omega⟩ ⟨by decide, by decide⟩ (fun c_39 => ?_) (fun c_39 => ?_)
          · have hC2 : C1 = 0 := by rw [hC1, if_neg (by omega)]
            refine lv_lconst (v := lZ 0) hx hb dX6_areFigures_99 (by decide) ?_
            refine g_calli (g_runS (As := [.long (lZ c0), .long (lZ 0), .long (lZ 0)]) (rest := []) hx hb hml hown hts hK hst hB (mX6_in l θ hθ σ z c0 0 0 ⟨by omega, by omega⟩ ⟨by omega, by omega⟩ ⟨by omega, by omega⟩) ms_X6_in kw_749 rfl hl.1 rfl (Nat.le_of_ble_eq_true rfl) ⟨by decide, by decide⟩ ⟨Nat.le_refl _, Nat.le_refl _⟩ dX6_areFigures_100) hB (fun q_42 σ_40 z_41 H locs hq_42 pq_42 hB => ?_)
            obtain ⟨pq_42, e1_, e2_⟩ := pq_42
            rw [e1_, e2_] at hB
            clear e1_ e2_
            refine z_if_eq (tgt := 110) hx hb dX6_areFigures_103 (by decide) ⟨by omega, by omega⟩ (fun c_43 => ?_) (fun c_43 => ?_)
            · refine lv_iconst (v := iZ 0) hx hb dX6_areFigures_110 rfl ?_
              exact g_zret hx hb hr hlk hB dX6_areFigures_111 (by decide) (⟨by rw [← hM0, ← hB1, ← hC1]; omega, rfl, rfl⟩)
            · refine lv_iconst (v := iZ 1) hx hb dX6_areFigures_106 rfl ?_
              refine lv_goto (tgt := 111) hx hb dX6_areFigures_107 (by decide) ?_
              exact g_zret hx hb hr hlk hB dX6_areFigures_111 (by decide) (⟨by rw [← hM0, ← hB1, ← hC1]; omega, rfl, rfl⟩)
          · refine lv_iload_n hx hb dX6_areFigures_84 rfl (lv_at hl 3 rfl) ?_
            refine lv_iconst (v := iZ 2) hx hb dX6_areFigures_85 rfl ?_
            refine lv_aload_n hx hb dX6_areFigures_86 rfl (lv_at hl 2 rfl) ?_
            refine g_getr (k := 5) (j := 114) hx hb hts hown hK hθ hB cf6 (by decide) rfl (by decide) kw_664 rfl rfl dX6_areFigures_87 ?_
            refine lv_iconst (v := iZ 0) hx hb dX6_areFigures_90 rfl ?_
            refine g_iald (k := 0) hx hb hK hB (by decide) rfl (by omega) (Nat.lt_of_lt_of_eq (by omega : 0 < 50) (Eq.symm rfl)) (by decide) dX6_areFigures_91 ?_
            have hr_44 := hR 114 0
            refine g_calli (g_runS (As := [.int (iZ K), .int (iZ 2), .int (iZ (σ 114 0))]) (rest := [.long (lZ 0), .long (lZ c0)]) hx hb hml hown hts hK hst hB (mX6_most l θ hθ σ z K 2 (σ 114 0) ⟨by omega, by omega⟩ ⟨by omega, by omega⟩ ⟨by omega, by omega⟩) ms_X6_most kw_779 rfl hl.1 rfl (Nat.le_of_ble_eq_true rfl) ⟨by decide, by decide⟩ ⟨Nat.le_refl _, Nat.le_refl _⟩ dX6_areFigures_92) hB (fun qm2 σ_45 z_46 H locs hqm2 hpm2 hB => ?_)
            obtain ⟨hpm2, e1_, e2_⟩ := hpm2
            rw [e1_, e2_] at hB
            clear e1_ e2_
            have hmm2 := mst_of hpm2
            have hC2 : C1 = qm2 := by rw [hC1, if_pos (by omega), ← hmm2]
            refine z_i2l hx hb ⟨by omega, by omega⟩ dX6_areFigures_95 ?_
            refine lv_goto (tgt := 100) hx hb dX6_areFigures_96 (by decide) ?_
            refine g_calli (g_runS (As := [.long (lZ c0), .long (lZ 0), .long (lZ qm2)]) (rest := []) hx hb hml hown hts hK hst hB (mX6_in l θ hθ σ z c0 0 qm2 ⟨by omega, by omega⟩ ⟨by omega, by omega⟩ ⟨by omega, by omega⟩) ms_X6_in kw_749 rfl hl.1 rfl (Nat.le_of_ble_eq_true rfl) ⟨by decide, by decide⟩ ⟨Nat.le_refl _, Nat.le_refl _⟩ dX6_areFigures_100) hB (fun q_49 σ_47 z_48 H locs hq_49 pq_49 hB => ?_)
            obtain ⟨pq_49, e1_, e2_⟩ := pq_49
            rw [e1_, e2_] at hB
            clear e1_ e2_
            refine z_if_eq (tgt := 110) hx hb dX6_areFigures_103 (by decide) ⟨by omega, by omega⟩ (fun c_50 => ?_) (fun c_50 => ?_)
            · refine lv_iconst (v := iZ 0) hx hb dX6_areFigures_110 rfl ?_
              exact g_zret hx hb hr hlk hB dX6_areFigures_111 (by decide) (⟨by rw [← hM0, ← hB1, ← hC1]; omega, rfl, rfl⟩)
            · refine lv_iconst (v := iZ 1) hx hb dX6_areFigures_106 rfl ?_
              refine lv_goto (tgt := 111) hx hb dX6_areFigures_107 (by decide) ?_
              exact g_zret hx hb hr hlk hB dX6_areFigures_111 (by decide) (⟨by rw [← hM0, ← hB1, ← hC1]; omega, rfl, rfl⟩)
set_option maxHeartbeats 4000000 in
set_option maxRecDepth 100000 in
theorem mX6_tell (l : Launch) (θ : gT) (hθ : gOK θ) (σ : gS) (z : gZ) (hW : Wf (σ 114)) (N : Nat) (hN : σ 114 0 = (N : Int)) (D : Nat) (hD : σ 111 8 = (D : Int)) (hD14 : D ≤ 14) (x K a0 b0 c0 : Int) (hxr : rg x) (hKr : rg K) (har : rg a0) (hbr : rg b0) (hcr : rg c0) : GI l θ yX6_tell cX6_tell 6 (some .int) 7 161 [.ref (tad θ 111), .int (iZ x), .int (iZ K), .int (iZ a0), .int (iZ b0), .int (iZ c0)] σ z (fun q σ' z' => ((¬ (0 ≤ x ∧ x < σ 114 0) ∧ q = -1 ∧ fr wSc σ σ') ∨ ∃ s0 : Nat, x = (s0 : Int) ∧ (s0 : Int) < σ 114 0 ∧ ((¬ figOK K a0 b0 c0 (σ 114 0) ∧ q = -2 ∧ fr wSc σ σ') ∨ (figOK K a0 b0 c0 (σ 114 0) ∧ σ' 114 = afM (tlR (σ 114) s0 K a0 b0 c0) ∧ ((q = 1 ∧ sndG (afM (tlR (σ 114) s0 K a0 b0 c0)) N) ∨ (q = 0 ∧ ¬ sndG (afM (tlR (σ 114) s0 K a0 b0 c0)) N)) ∧ (∃ D' : Nat, σ' 111 8 = (D' : Int) ∧ D' ≤ 14 ∧ 0 < D' ∧ noteR D D' σ σ' ∧ noteP D' σ σ')))) ∧ fr wPg σ σ' ∧ z' = z) := by
  refine g_enter (ret := (some .int)) (by decide +kernel) (Nat.le_of_ble_eq_true rfl) ?_
  intro p e s m args below meth c ls F hB hl
  obtain ⟨hx, hb, hr, hml, hown, hts, hlk, hK, hst⟩ := F
  have hR := hB.1.2
  have hl : lv_has ls 6 [(0, .ref (tad θ 111)), (1, .int (iZ x)), (2, .int (iZ K)), (3, .int (iZ a0)), (4, .int (iZ b0)), (5, .int (iZ c0))] := hl
  refine lv_aload_n hx hb dX6_tell_0 rfl (lv_at hl 0 rfl) ?_
  refine lv_iconst (v := iZ 0) hx hb dX6_tell_1 rfl ?_
  refine g_putI (k := 0) hx hb hts hown hK hθ hB cf6 tyX6 tyX6_ok (by decide) rfl (by decide) kw_659 rfl rfl rfl ⟨by decide, by decide⟩ dX6_tell_2 (fun H locs hB => ?_)
  obtain ⟨σ1, hσ1⟩ : ∃ x_ : gS, x_ = up2 σ 111 0 0 := ⟨_, rfl⟩
  rw [← hσ1] at hB
  have hR := hB.1.2
  refine lv_aload_n hx hb dX6_tell_5 rfl (lv_at hl 0 rfl) ?_
  refine lv_iload_n hx hb dX6_tell_6 rfl (lv_at hl 1 rfl) ?_
  refine g_calli (g_runV (i := 111) (As := [.int (iZ x)]) (rest := []) hx hb hml hown hts hK hst hB (mX6_noStream l θ hθ σ1 z x ⟨by omega, by omega⟩ (by rw [hσ1, up2_row _ _ (by decide)]; exact hW.1)) mv_X6_noStream kw_869 cf6 (by decide) rfl rfl hl.1 rfl (Nat.le_of_ble_eq_true rfl) ⟨by decide, by decide⟩ ⟨Nat.le_refl _, Nat.le_refl _⟩ dX6_tell_7) hB (fun qn σ_1 z_2 H locs hqn hpn hB => ?_)
  obtain ⟨hpn, e1_, e2_⟩ := hpn
  rw [e1_, e2_] at hB
  clear e1_ e2_
  rw [hσ1, up2_row _ _ (by decide)] at hpn
  have hgr := hW.1
  refine z_if_eq (tgt := 15) hx hb dX6_tell_10 (by decide) ⟨by omega, by omega⟩ (fun c_3 => ?_) (fun c_3 => ?_)
  · obtain ⟨s0, hs0⟩ : ∃ s0 : Nat, x = (s0 : Int) := ⟨x.toNat, by omega⟩
    subst hs0
    have hs8 : s0 < 8 := by omega
    refine lv_iload_n hx hb dX6_tell_15 rfl (lv_at hl 2 rfl) ?_
    refine z_i2l hx hb ⟨by omega, by omega⟩ dX6_tell_16 ?_
    refine lv_lconst (v := lZ 0) hx hb dX6_tell_17 (by decide) ?_
    refine lv_ldc2 (v := lZ 11) hx hb hown (hts _ kw_920) dX6_tell_18 ?_
    refine g_calli (g_runS (As := [.long (lZ K), .long (lZ 0), .long (lZ 11)]) (rest := []) hx hb hml hown hts hK hst hB (mX6_in l θ hθ σ1 z K 0 11 ⟨by omega, by omega⟩ ⟨by omega, by omega⟩ ⟨by omega, by omega⟩) ms_X6_in kw_749 rfl hl.1 rfl (Nat.le_of_ble_eq_true rfl) ⟨by decide, by decide⟩ ⟨Nat.le_refl _, Nat.le_refl _⟩ dX6_tell_21) hB (fun q_6 σ_4 z_5 H locs hq_6 pq_6 hB => ?_)
    obtain ⟨pq_6, e1_, e2_⟩ := pq_6
    rw [e1_, e2_] at hB
    clear e1_ e2_
    refine z_if_eq (tgt := 40) hx hb dX6_tell_24 (by decide) ⟨by omega, by omega⟩ (fun c_7 => ?_) (fun c_7 => ?_)
    · have hbad : ¬ figOK K a0 b0 c0 (σ 114 0) := fun h => by have := h.1; omega
      refine lv_bipush (v := iZ (-2)) hx hb dX6_tell_40 (by decide) ?_
      exact g_iret hx hb hr hlk hB dX6_tell_42 ⟨by decide, by decide⟩ (⟨Or.inr ⟨s0, rfl, by omega, Or.inl ⟨hbad, rfl, (by rw [hσ1]; exact fr.up rfl : fr wSc σ σ1)⟩⟩, ((by rw [hσ1]; exact fr.up rfl : fr wSc σ σ1)).mono pg_sc, rfl⟩)
    · refine lv_aload_n hx hb dX6_tell_27 rfl (lv_at hl 0 rfl) ?_
      refine lv_iload_n hx hb dX6_tell_28 rfl (lv_at hl 2 rfl) ?_
      refine lv_iload_n hx hb dX6_tell_29 rfl (lv_at hl 3 rfl) ?_
      refine lv_iload hx hb dX6_tell_30 (lv_at hl 4 rfl) ?_
      refine lv_iload hx hb dX6_tell_32 (lv_at hl 5 rfl) ?_
      refine g_calli (g_runV (i := 111) (As := [.int (iZ K), .int (iZ a0), .int (iZ b0), .int (iZ c0)]) (rest := []) hx hb hml hown hts hK hst hB (mX6_areFigures l θ hθ σ1 z (by rw [hσ1, up2_row _ _ (by decide)]; exact hW) N (by rw [hσ1, up2_row _ _ (by decide)]; exact hN) K a0 b0 c0 (by omega) ⟨by omega, by omega⟩ ⟨by omega, by omega⟩ ⟨by omega, by omega⟩) mv_X6_areFigures kw_921 cf6 (by decide) rfl rfl hl.1 rfl (Nat.le_of_ble_eq_true rfl) ⟨by decide, by decide⟩ ⟨Nat.le_refl _, Nat.le_refl _⟩ dX6_tell_34) hB (fun qf σ_8 z_9 H locs hqf hpf hB => ?_)
      obtain ⟨hpf, e1_, e2_⟩ := hpf
      rw [e1_, e2_] at hB
      clear e1_ e2_
      rw [hσ1, up2_row _ _ (by decide)] at hpf
      rcases hpf with ⟨hqa, hfg⟩ | ⟨hqa, hfg⟩
      · subst hqa
        have hfok : figOK K a0 b0 c0 (σ 114 0) := ⟨by omega, hfg⟩
        refine z_if_ne (tgt := 43) hx hb dX6_tell_37 (by decide) ⟨by decide, by decide⟩ (fun c_10 => ?_) (fun c_10 => ?_)
        · refine lv_aload_n hx hb dX6_tell_43 rfl (lv_at hl 0 rfl) ?_
          refine g_callv (g_runV (i := 111) (As := []) (rest := []) hx hb hml hown hts hK hst hB (mX6_note l θ hθ σ1 z D (by rw [hσ1, up2_k _ _ (by decide)]; exact hD) hD14) mv_X6_note kw_889 cf6 (by decide) rfl rfl hl.1 rfl (Nat.le_of_ble_eq_true rfl) ⟨by decide, by decide⟩ ⟨Nat.le_refl _, Nat.le_refl _⟩ dX6_tell_44) hB (fun σ3 z_11 H locs hp3 hB => ?_)
          obtain ⟨hp3, hf3, e2_⟩ := hp3
          rw [e2_] at hB
          clear e2_
          have hR := hB.1.2
          have hg3 : σ3 114 = σ 114 := by rw [hf3.row (fun k => rfl), hσ1, up2_row _ _ (by decide)]
          have hWt := tlR_wf hW hs8 (show (s0 : Int) < σ 114 0 by omega) hfok
          refine lv_aload_n hx hb dX6_tell_47 rfl (lv_at hl 0 rfl) ?_
          refine g_getr (k := 5) (j := 114) hx hb hts hown hK hθ hB cf6 (by decide) rfl (by decide) kw_664 rfl rfl dX6_tell_48 ?_
          refine lv_iconst (v := iZ 1) hx hb dX6_tell_51 rfl ?_
          refine lv_iload_n hx hb dX6_tell_52 rfl (lv_at hl 1 rfl) ?_
          refine z_iadd hx hb dX6_tell_53 ?_
          refine lv_iload_n hx hb dX6_tell_54 rfl (lv_at hl 2 rfl) ?_
          refine g_iast (k := (1 + s0)) hx hb hK hθ hB (by decide) rfl (by omega) (Nat.lt_of_lt_of_eq (by omega : (1 + s0) < 50) (Eq.symm rfl)) (by decide) ⟨by omega, by omega⟩ dX6_tell_55 (fun H locs hB => ?_)
          obtain ⟨σ4, hσ4⟩ : ∃ x_ : gS, x_ = up2 σ3 114 (1 + s0) K := ⟨_, rfl⟩
          rw [← hσ4] at hB
          have hR := hB.1.2
          refine lv_aload_n hx hb dX6_tell_56 rfl (lv_at hl 0 rfl) ?_
          refine g_getr (k := 5) (j := 114) hx hb hts hown hK hθ hB cf6 (by decide) rfl (by decide) kw_664 rfl rfl dX6_tell_57 ?_
          refine lv_bipush (v := iZ 9) hx hb dX6_tell_60 (by decide) ?_
          refine lv_iconst (v := iZ 3) hx hb dX6_tell_62 rfl ?_
          refine lv_iload_n hx hb dX6_tell_63 rfl (lv_at hl 1 rfl) ?_
          refine z_imul hx hb dX6_tell_64 ?_
          refine z_iadd hx hb dX6_tell_65 ?_
          refine lv_iload_n hx hb dX6_tell_66 rfl (lv_at hl 3 rfl) ?_
          refine g_iast (k := (9 + (3 * s0))) hx hb hK hθ hB (by decide) rfl (by omega) (Nat.lt_of_lt_of_eq (by omega : (9 + (3 * s0)) < 50) (Eq.symm rfl)) (by decide) ⟨by omega, by omega⟩ dX6_tell_67 (fun H locs hB => ?_)
          obtain ⟨σ5, hσ5⟩ : ∃ x_ : gS, x_ = up2 σ4 114 (9 + (3 * s0)) a0 := ⟨_, rfl⟩
          rw [← hσ5] at hB
          have hR := hB.1.2
          refine lv_aload_n hx hb dX6_tell_68 rfl (lv_at hl 0 rfl) ?_
          refine g_getr (k := 5) (j := 114) hx hb hts hown hK hθ hB cf6 (by decide) rfl (by decide) kw_664 rfl rfl dX6_tell_69 ?_
          refine lv_bipush (v := iZ 9) hx hb dX6_tell_72 (by decide) ?_
          refine lv_iconst (v := iZ 3) hx hb dX6_tell_74 rfl ?_
          refine lv_iload_n hx hb dX6_tell_75 rfl (lv_at hl 1 rfl) ?_
          refine z_imul hx hb dX6_tell_76 ?_
          refine z_iadd hx hb dX6_tell_77 ?_
          refine lv_iconst (v := iZ 1) hx hb dX6_tell_78 rfl ?_
          refine z_iadd hx hb dX6_tell_79 ?_
          refine lv_iload hx hb dX6_tell_80 (lv_at hl 4 rfl) ?_
          refine g_iast (k := ((9 + (3 * s0)) + 1)) hx hb hK hθ hB (by decide) rfl (by omega) (Nat.lt_of_lt_of_eq (by omega : ((9 + (3 * s0)) + 1) < 50) (Eq.symm rfl)) (by decide) ⟨by omega, by omega⟩ dX6_tell_82 (fun H locs hB => ?_)
          obtain ⟨σ6, hσ6⟩ : ∃ x_ : gS, x_ = up2 σ5 114 ((9 + (3 * s0)) + 1) b0 := ⟨_, rfl⟩
          rw [← hσ6] at hB
          have hR := hB.1.2
          refine lv_aload_n hx hb dX6_tell_83 rfl (lv_at hl 0 rfl) ?_
          refine g_getr (k := 5) (j := 114) hx hb hts hown hK hθ hB cf6 (by decide) rfl (by decide) kw_664 rfl rfl dX6_tell_84 ?_
          refine lv_bipush (v := iZ 9) hx hb dX6_tell_87 (by decide) ?_
          refine lv_iconst (v := iZ 3) hx hb dX6_tell_89 rfl ?_
          refine lv_iload_n hx hb dX6_tell_90 rfl (lv_at hl 1 rfl) ?_
          refine z_imul hx hb dX6_tell_91 ?_
          refine z_iadd hx hb dX6_tell_92 ?_
          refine lv_iconst (v := iZ 2) hx hb dX6_tell_93 rfl ?_
          refine z_iadd hx hb dX6_tell_94 ?_
          refine lv_iload hx hb dX6_tell_95 (lv_at hl 5 rfl) ?_
          refine g_iast (k := ((9 + (3 * s0)) + 2)) hx hb hK hθ hB (by decide) rfl (by omega) (Nat.lt_of_lt_of_eq (by omega : ((9 + (3 * s0)) + 2) < 50) (Eq.symm rfl)) (by decide) ⟨by omega, by omega⟩ dX6_tell_97 (fun H locs hB => ?_)
          obtain ⟨σ7, hσ7⟩ : ∃ x_ : gS, x_ = up2 σ6 114 ((9 + (3 * s0)) + 2) c0 := ⟨_, rfl⟩
          rw [← hσ7] at hB
          have hR := hB.1.2
          refine lv_aload_n hx hb dX6_tell_98 rfl (lv_at hl 0 rfl) ?_
          refine g_getr (k := 5) (j := 114) hx hb hts hown hK hθ hB cf6 (by decide) rfl (by decide) kw_664 rfl rfl dX6_tell_99 ?_
          have hg7 : σ7 114 = (tlR (σ 114) s0 K a0 b0 c0) := by rw [hσ7, up2_row_eq, hσ6, up2_row_eq, hσ5, up2_row_eq, hσ4, up2_row_eq, hg3]; rfl
          have hf7 : fr (wTk 114) σ3 σ7 := by rw [hσ7, hσ6, hσ5, hσ4]; exact (((fr.up rfl : fr (wTk 114) σ3 _).tr (fr.up rfl)).tr (fr.up rfl)).tr (fr.up rfl)
          refine g_callv (g_runS (As := [.ref (tad θ 114)]) (rest := []) hx hb hml hown hts hK hst hB (mX6_goAfresh l θ hθ σ7 z 114 (Or.inl rfl) (by rw [hg7]; exact hWt)) ms_X6_goAfresh kw_786 rfl hl.1 rfl (Nat.le_of_ble_eq_true rfl) ⟨by decide, by decide⟩ ⟨Nat.le_refl _, Nat.le_refl _⟩ dX6_tell_102) hB (fun σ8 z_13 H locs hp8 hB => ?_)
          obtain ⟨hp8, hf8, e2_⟩ := hp8
          rw [e2_] at hB
          clear e2_
          have hR := hB.1.2
          rw [hg7] at hp8
          obtain ⟨D', n1, n2, n3, n4, n5⟩ := hp3
          have hW8 : Wf (afM (tlR (σ 114) s0 K a0 b0 c0)) := hWt.cong (fun k hk => afM_low _ hk)
          have hN8 : afM (tlR (σ 114) s0 K a0 b0 c0) 0 = (N : Int) := by rw [afM_low _ (by omega)]; unfold tlR; rw [upn_ne _ _ (by omega), upn_ne _ _ (by omega), upn_ne _ _ (by omega), upn_ne _ _ (by omega)]; exact hN
          refine lv_aload_n hx hb dX6_tell_105 rfl (lv_at hl 0 rfl) ?_
          refine g_calli (g_runV (i := 111) (As := []) (rest := []) hx hb hml hown hts hK hst hB (mX6_soundNow l θ hθ σ8 z (by rw [hp8]; exact hW8) N (by rw [hp8]; exact hN8)) mv_X6_soundNow kw_789 cf6 (by decide) rfl rfl hl.1 rfl (Nat.le_of_ble_eq_true rfl) ⟨by decide, by decide⟩ ⟨Nat.le_refl _, Nat.le_refl _⟩ dX6_tell_106) hB (fun q9 σ9 z_15 H locs hq9 hp9 hB => ?_)
          obtain ⟨hp9, hf9, e2_⟩ := hp9
          rw [e2_] at hB
          clear e2_
          have hR := hB.1.2
          rw [hp8] at hp9
          obtain ⟨han, hp9⟩ := hp9
          have hiff := mAn_iff han
          have hg9 : σ9 114 = afM (tlR (σ 114) s0 K a0 b0 c0) := by rw [hf9.row (fun k => rfl)]; exact hp8
          have h116 : σ9 116 = σ3 116 := by rw [hf9.row (fun k => rfl), hf8.row (fun k => rfl), hf7.row (fun k => rfl)]
          have h8 : σ9 111 8 = σ3 111 8 := by rw [hf9 111 8 rfl, hf8 111 8 rfl, hf7 111 8 rfl]
          rcases hp9 with ⟨hqa, hsn⟩ | ⟨hqa, hsn⟩
          · subst hqa
            refine z_if_eq (tgt := 116) hx hb dX6_tell_109 (by decide) ⟨by decide, by decide⟩ (fun c_16 => ?_) (fun c_16 => ?_)
            · exact absurd c_16 (by decide)
            · refine lv_iconst (v := iZ 1) hx hb dX6_tell_112 rfl ?_
              refine lv_goto (tgt := 117) hx hb dX6_tell_113 (by decide) ?_
              exact g_iret hx hb hr hlk hB dX6_tell_117 ⟨by decide, by decide⟩ (⟨Or.inr ⟨s0, rfl, by omega, Or.inr ⟨hfok, hg9, Or.inl ⟨rfl, hiff.mp hsn⟩, D', by rw [h8]; exact n1, n2, n3, n4.cong (by rw [hσ1, up2_row _ _ (by decide)]) h116, n5.cong (by rw [hσ1, up2_row _ _ (by decide)]) h116⟩⟩, ((((((by rw [hσ1]; exact fr.up rfl : fr wSc σ σ1)).mono pg_sc).tr (hf3.mono pg_no)).tr (hf7.mono pg_tk)).tr (hf8.mono pg_tk)).tr (hf9.mono (fun i k h => pg_sc i k (sc_an i k h))), rfl⟩)
          · subst hqa
            refine z_if_eq (tgt := 116) hx hb dX6_tell_109 (by decide) ⟨by decide, by decide⟩ (fun c_17 => ?_) (fun c_17 => ?_)
            · refine lv_iconst (v := iZ 0) hx hb dX6_tell_116 rfl ?_
              exact g_iret hx hb hr hlk hB dX6_tell_117 ⟨by decide, by decide⟩ (⟨Or.inr ⟨s0, rfl, by omega, Or.inr ⟨hfok, hg9, Or.inr ⟨rfl, fun q => hsn (hiff.mpr q)⟩, D', by rw [h8]; exact n1, n2, n3, n4.cong (by rw [hσ1, up2_row _ _ (by decide)]) h116, n5.cong (by rw [hσ1, up2_row _ _ (by decide)]) h116⟩⟩, ((((((by rw [hσ1]; exact fr.up rfl : fr wSc σ σ1)).mono pg_sc).tr (hf3.mono pg_no)).tr (hf7.mono pg_tk)).tr (hf8.mono pg_tk)).tr (hf9.mono (fun i k h => pg_sc i k (sc_an i k h))), rfl⟩)
            · exact absurd (by decide) c_17
        · exact absurd c_10 (by decide)
      · subst hqa
        have hbad : ¬ figOK K a0 b0 c0 (σ 114 0) := fun h => hfg h.2
        refine z_if_ne (tgt := 43) hx hb dX6_tell_37 (by decide) ⟨by decide, by decide⟩ (fun c_18 => ?_) (fun c_18 => ?_)
        · exact absurd (by decide) c_18
        · refine lv_bipush (v := iZ (-2)) hx hb dX6_tell_40 (by decide) ?_
          exact g_iret hx hb hr hlk hB dX6_tell_42 ⟨by decide, by decide⟩ (⟨Or.inr ⟨s0, rfl, by omega, Or.inl ⟨hbad, rfl, (by rw [hσ1]; exact fr.up rfl : fr wSc σ σ1)⟩⟩, ((by rw [hσ1]; exact fr.up rfl : fr wSc σ σ1)).mono pg_sc, rfl⟩)
  · refine lv_iconst (v := iZ (-1)) hx hb dX6_tell_13 rfl ?_
    exact g_iret hx hb hr hlk hB dX6_tell_14 ⟨by decide, by decide⟩ (⟨Or.inl ⟨by omega, rfl, (by rw [hσ1]; exact fr.up rfl : fr wSc σ σ1)⟩, ((by rw [hσ1]; exact fr.up rfl : fr wSc σ σ1)).mono pg_sc, rfl⟩)
set_option maxHeartbeats 4000000 in
set_option maxRecDepth 100000 in
theorem mX6_undo (l : Launch) (θ : gT) (hθ : gOK θ) (σ : gS) (z : gZ) (D : Nat) (hD : σ 111 8 = (D : Int)) (hD14 : D ≤ 14) : GI l θ yX6_undo cX6_undo 2 (some .int) 0 0 [.ref (tad θ 111)] σ z (fun q σ' z' => ((D = 0 ∧ q = -3 ∧ fr wSc σ σ') ∨ (0 < D ∧ q = ((D - 1 : Nat) : Int) ∧ σ' 111 8 = ((D - 1 : Nat) : Int) ∧ σ' 116 = σ 116 ∧ ∀ k, k < 50 → σ' 114 k = σ 116 (50 * (D - 1) + k))) ∧ fr wPg σ σ' ∧ z' = z) := by
  refine g_enter (ret := (some .int)) (by decide +kernel) (Nat.le_of_ble_eq_true rfl) ?_
  intro p e s m args below meth c ls F hB hl
  obtain ⟨hx, hb, hr, hml, hown, hts, hlk, hK, hst⟩ := F
  have hR := hB.1.2
  have hl : lv_has ls 2 [(0, .ref (tad θ 111))] := hl
  refine lv_aload_n hx hb dX6_undo_0 rfl (lv_at hl 0 rfl) ?_
  refine lv_iconst (v := iZ 0) hx hb dX6_undo_1 rfl ?_
  refine g_putI (k := 0) hx hb hts hown hK hθ hB cf6 tyX6 tyX6_ok (by decide) rfl (by decide) kw_659 rfl rfl rfl ⟨by decide, by decide⟩ dX6_undo_2 (fun H locs hB => ?_)
  obtain ⟨σ1, hσ1⟩ : ∃ x_ : gS, x_ = up2 σ 111 0 0 := ⟨_, rfl⟩
  rw [← hσ1] at hB
  have hR := hB.1.2
  refine lv_aload_n hx hb dX6_undo_5 rfl (lv_at hl 0 rfl) ?_
  refine g_geti (k := 8) hx hb hts hown hK hB cf6 (by decide) rfl (by decide) kw_667 rfl dX6_undo_6 ?_
  refine z_top (b := ((D : Nat) : Int)) (by rw [hσ1, up2_k _ _ (by decide)]; exact hD) ?_
  refine z_if_ne (tgt := 15) hx hb dX6_undo_9 (by decide) ⟨by omega, by omega⟩ (fun c_1 => ?_) (fun c_1 => ?_)
  · refine lv_aload_n hx hb dX6_undo_15 rfl (lv_at hl 0 rfl) ?_
    refine lv_dup hx hb dX6_undo_16 rfl ?_
    refine g_geti (k := 8) hx hb hts hown hK hB cf6 (by decide) rfl (by decide) kw_667 rfl dX6_undo_17 ?_
    refine z_top (b := ((D : Nat) : Int)) (by rw [hσ1, up2_k _ _ (by decide)]; exact hD) ?_
    refine lv_iconst (v := iZ 1) hx hb dX6_undo_20 rfl ?_
    refine z_isub hx hb dX6_undo_21 ?_
    refine z_top (b := (((D - 1) : Nat) : Int)) (by omega) ?_
    refine g_putI (k := 8) hx hb hts hown hK hθ hB cf6 tyX6 tyX6_ok (by decide) rfl (by decide) kw_667 rfl rfl rfl ⟨by omega, by omega⟩ dX6_undo_22 (fun H locs hB => ?_)
    obtain ⟨σ2, hσ2⟩ : ∃ x_ : gS, x_ = up2 σ1 111 8 (((D - 1) : Nat) : Int) := ⟨_, rfl⟩
    rw [← hσ2] at hB
    have hR := hB.1.2
    refine lv_iconst (v := iZ 0) hx hb dX6_undo_25 rfl ?_
    refine lv_istore_n (lv' := [(1, .int (iZ 0)), (0, .ref (tad θ 111))]) hx hb dX6_undo_26 rfl hl (by decide) rfl (fun ls hl => ?_)
    have loop27 : ∀ (n27 : Nat) (i : Nat) (σ3 : gS) (H : Heap) (locs : List Loc) (ls : Array Slot), 50 - i < n27 → (i ≤ 50) → (∀ k, k < i → σ3 114 k = σ 116 (50 * (D - 1) + k)) → (fr (fun i _ => i == 114) σ2 σ3) →  gB θ σ3 z s.heap H locs → lv_has ls 2 [(1, .int (iZ ((i : Nat) : Int))), (0, .ref (tad θ 111))] → W p l e (gRm 0 0) s m args below meth c H locs 0 0 (MQ below (gQi θ (fun q σ' z' => ((D = 0 ∧ q = -3 ∧ fr wSc σ σ') ∨ (0 < D ∧ q = ((D - 1 : Nat) : Int) ∧ σ' 111 8 = ((D - 1 : Nat) : Int) ∧ σ' 116 = σ 116 ∧ ∀ k, k < 50 → σ' 114 k = σ 116 (50 * (D - 1) + k))) ∧ fr wPg σ σ' ∧ z' = z)) args s 0 0 (tA θ)) (F0 m 27 ls []) := by
      intro n27
      induction n27 with
      | zero => intro i σ3 H locs ls hmu; exact absurd hmu (Nat.not_lt_zero _)
      | succ n27 ih27 =>
        intro i σ3 H locs ls hmu hi hrow hf3 hB hl
        have hR := hB.1.2
        have h8 : σ3 111 8 = ((D - 1 : Nat) : Int) := by rw [hf3 111 8 rfl, hσ2, up2_eq]
        have h116 : σ3 116 = σ 116 := by rw [hf3.row (fun k => rfl), hσ2, up2_row _ _ (by decide), hσ1, up2_row _ _ (by decide)]
        refine lv_iload_n hx hb dX6_undo_27 rfl (lv_at hl 0 rfl) ?_
        refine lv_bipush (v := iZ 50) hx hb dX6_undo_28 (by decide) ?_
        refine z_icmp_ge (tgt := 59) hx hb dX6_undo_30 (by decide) ⟨by omega, by omega⟩ ⟨by decide, by decide⟩ (fun c_2 => ?_) (fun c_2 => ?_)
        · refine lv_aload_n hx hb dX6_undo_59 rfl (lv_at hl 1 rfl) ?_
          refine g_geti (k := 8) hx hb hts hown hK hB cf6 (by decide) rfl (by decide) kw_667 rfl dX6_undo_60 ?_
          refine z_top (b := (((D - 1) : Nat) : Int)) (h8) ?_
          exact g_iret hx hb hr hlk hB dX6_undo_63 ⟨by omega, by omega⟩ (⟨Or.inr ⟨by omega, rfl, h8, h116, fun k hk => hrow k (by omega)⟩, by rw [hσ2] at hf3; exact ((((by rw [hσ1]; exact fr.up rfl : fr wSc σ σ1)).mono pg_sc).tr (fr.up rfl)).tr (hf3.mono (fun i k h => by simp at h; simp [wPg]; omega)), rfl⟩)
        · refine lv_aload_n hx hb dX6_undo_33 rfl (lv_at hl 1 rfl) ?_
          refine g_getr (k := 5) (j := 114) hx hb hts hown hK hθ hB cf6 (by decide) rfl (by decide) kw_664 rfl rfl dX6_undo_34 ?_
          refine lv_iload_n hx hb dX6_undo_37 rfl (lv_at hl 0 rfl) ?_
          refine lv_aload_n hx hb dX6_undo_38 rfl (lv_at hl 1 rfl) ?_
          refine g_getr (k := 7) (j := 116) hx hb hts hown hK hθ hB cf6 (by decide) rfl (by decide) kw_666 rfl rfl dX6_undo_39 ?_
          refine lv_bipush (v := iZ 50) hx hb dX6_undo_42 (by decide) ?_
          refine lv_aload_n hx hb dX6_undo_44 rfl (lv_at hl 1 rfl) ?_
          refine g_geti (k := 8) hx hb hts hown hK hB cf6 (by decide) rfl (by decide) kw_667 rfl dX6_undo_45 ?_
          refine z_top (b := (((D - 1) : Nat) : Int)) (h8) ?_
          refine z_imul hx hb dX6_undo_48 ?_
          refine lv_iload_n hx hb dX6_undo_49 rfl (lv_at hl 0 rfl) ?_
          refine z_iadd hx hb dX6_undo_50 ?_
          refine g_iald (k := ((50 * (D - 1)) + i)) hx hb hK hB (by decide) rfl (by omega) (Nat.lt_of_lt_of_eq (by omega : ((50 * (D - 1)) + i) < 700) (Eq.symm rfl)) (by decide) dX6_undo_51 ?_
          refine z_top (b := (σ 116 (50 * (D - 1) + i))) (by rw [h116]) ?_
          have hrb := hR 116 (50 * (D - 1) + i)
          rw [h116] at hrb
          refine g_iast (k := i) hx hb hK hθ hB (by decide) rfl (by omega) (Nat.lt_of_lt_of_eq (by omega : i < 50) (Eq.symm rfl)) (by decide) ⟨by omega, by omega⟩ dX6_undo_52 (fun H locs hB => ?_)
          obtain ⟨σ4, hσ4⟩ : ∃ x_ : gS, x_ = up2 σ3 114 i (σ 116 (50 * (D - 1) + i)) := ⟨_, rfl⟩
          rw [← hσ4] at hB
          have hR := hB.1.2
          refine z_iinc (k := 0) (lv' := [(1, .int (iZ (((i : Nat) : Int) + 1))), (0, .ref (tad θ 111))]) hx hb dX6_undo_53 hl rfl (by decide) rfl (fun ls hl => ?_)
          have hl : lv_has ls 2 [(1, .int (iZ (((i + 1) : Nat) : Int))), (0, .ref (tad θ 111))] := by have e9 : (((i : Nat) : Int) + 1) = (((i + 1) : Nat) : Int) := (by omega); rw [e9] at hl; exact hl
          refine lv_goto (tgt := 27) hx hb dX6_undo_56 (by decide) ?_
          exact ih27 (i + 1) σ4 _ _ _ (by omega) (by omega) (lt_s (fun k h => by rw [hσ4, up2_k _ _ (by omega)]; exact hrow k h) (by rw [hσ4, up2_eq])) (by rw [hσ4]; exact hf3.tr (fr.up rfl)) hB (lv_sub hl [0, 1] rfl)
    exact loop27 _ 0 σ2 _ _ _ (Nat.lt_succ_self _) (by omega) (fun k h => absurd h (Nat.not_lt_zero _)) fr.rf hB (lv_sub hl [0, 1] rfl)
  · refine lv_bipush (v := iZ (-3)) hx hb dX6_undo_12 (by decide) ?_
    exact g_iret hx hb hr hlk hB dX6_undo_14 ⟨by decide, by decide⟩ (⟨Or.inl ⟨by omega, rfl, (by rw [hσ1]; exact fr.up rfl : fr wSc σ σ1)⟩, ((by rw [hσ1]; exact fr.up rfl : fr wSc σ σ1)).mono pg_sc, rfl⟩)
