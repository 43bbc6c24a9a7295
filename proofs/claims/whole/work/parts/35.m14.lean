set_option maxHeartbeats 4000000 in
set_option maxRecDepth 100000 in
theorem mX6_begin (l : Launch) (θ : gT) (hθ : gOK θ) (σ : gS) (z : gZ)  : GV l θ yX6_begin cX6_begin 2 0 0 [.ref (tad θ 111)] σ z (fun σ' z' => (σ' 115 = cpr (σ 114) (σ 115) 50) ∧ fr w115 σ σ' ∧ z' = z) := by
  refine g_enter (ret := none) (by decide +kernel) (Nat.le_of_ble_eq_true rfl) ?_
  intro p e s m args below meth c ls F hB hl
  obtain ⟨hx, hb, hr, hml, hown, hts, hlk, hK, hst⟩ := F
  have hR := hB.1.2
  have hl : lv_has ls 2 [(0, .ref (tad θ 111))] := hl
  refine lv_iconst (v := iZ 0) hx hb dX6_begin_0 rfl ?_
  refine lv_istore_n (lv' := [(1, .int (iZ 0)), (0, .ref (tad θ 111))]) hx hb dX6_begin_1 rfl hl (by decide) rfl (fun ls hl => ?_)
  have loop2 : ∀ (n2 : Nat) (i : Nat) (σ1 : gS) (H : Heap) (locs : List Loc) (ls : Array Slot), 50 - i < n2 → (i ≤ 50) → (σ1 115 = cpr (σ 114) (σ 115) i) → (fr w115 σ σ1) →  gB θ σ1 z s.heap H locs → lv_has ls 2 [(1, .int (iZ ((i : Nat) : Int))), (0, .ref (tad θ 111))] → W p l e (gRm 0 0) s m args below meth c H locs 0 0 (MQ below (gQv θ (fun σ' z' => (σ' 115 = cpr (σ 114) (σ 115) 50) ∧ fr w115 σ σ' ∧ z' = z)) args s 0 0 (tA θ)) (F0 m 2 ls []) := by
    intro n2
    induction n2 with
    | zero => intro i σ1 H locs ls hmu; exact absurd hmu (Nat.not_lt_zero _)
    | succ n2 ih2 =>
      intro i σ1 H locs ls hmu hi hg hf hB hl
      have hR := hB.1.2
      refine lv_iload_n hx hb dX6_begin_2 rfl (lv_at hl 0 rfl) ?_
      refine lv_bipush (v := iZ 50) hx hb dX6_begin_3 (by decide) ?_
      refine z_icmp_ge (tgt := 26) hx hb dX6_begin_5 (by decide) ⟨by omega, by omega⟩ ⟨by decide, by decide⟩ (fun c_1 => ?_) (fun c_1 => ?_)
      · exact g_vret hx hb hr hlk hB dX6_begin_26 (⟨by rw [hg, show i = 50 by omega], hf, rfl⟩)
      · refine lv_aload_n hx hb dX6_begin_8 rfl (lv_at hl 1 rfl) ?_
        refine g_getr (k := 6) (j := 115) hx hb hts hown hK hθ hB cf6 (by decide) rfl (by decide) kw_665 rfl rfl dX6_begin_9 ?_
        refine lv_iload_n hx hb dX6_begin_12 rfl (lv_at hl 0 rfl) ?_
        refine lv_aload_n hx hb dX6_begin_13 rfl (lv_at hl 1 rfl) ?_
        refine g_getr (k := 5) (j := 114) hx hb hts hown hK hθ hB cf6 (by decide) rfl (by decide) kw_664 rfl rfl dX6_begin_14 ?_
        refine lv_iload_n hx hb dX6_begin_17 rfl (lv_at hl 0 rfl) ?_
        refine g_iald (k := i) hx hb hK hB (by decide) rfl (by omega) (Nat.lt_of_lt_of_eq (by omega : i < 50) (Eq.symm rfl)) (by decide) dX6_begin_18 ?_
        refine z_top (b := (σ 114 i)) (by rw [hf.row (fun k => rfl)]) ?_
        have hr4 := hR 114 i
        rw [hf.row (fun k => rfl)] at hr4
        refine g_iast (k := i) hx hb hK hθ hB (by decide) rfl (by omega) (Nat.lt_of_lt_of_eq (by omega : i < 50) (Eq.symm rfl)) (by decide) ⟨by omega, by omega⟩ dX6_begin_19 (fun H locs hB => ?_)
        obtain ⟨σ2, hσ2⟩ : ∃ x_ : gS, x_ = up2 σ1 115 i (σ 114 i) := ⟨_, rfl⟩
        rw [← hσ2] at hB
        have hR := hB.1.2
        refine z_iinc (k := 0) (lv' := [(1, .int (iZ (((i : Nat) : Int) + 1))), (0, .ref (tad θ 111))]) hx hb dX6_begin_20 hl rfl (by decide) rfl (fun ls hl => ?_)
        have hl : lv_has ls 2 [(1, .int (iZ (((i + 1) : Nat) : Int))), (0, .ref (tad θ 111))] := by have e9 : (((i : Nat) : Int) + 1) = (((i + 1) : Nat) : Int) := (by omega); rw [e9] at hl; exact hl
        refine lv_goto (tgt := 2) hx hb dX6_begin_23 (by decide) ?_
        exact ih2 (i + 1) σ2 _ _ _ (by omega) (by omega) (by rw [hσ2, up2_row_eq, hg, cpr_step]) (by rw [hσ2]; exact hf.tr (fr.up rfl)) hB (lv_sub hl [0, 1] rfl)
  exact loop2 _ 0 σ _ _ _ (Nat.lt_succ_self _) (by omega) (cpr_0 _ _).symm fr.rf hB (lv_sub hl [0, 1] rfl)
set_option maxHeartbeats 4000000 in
set_option maxRecDepth 100000 in
theorem mX6_goTicks (l : Launch) (θ : gT) (hθ : gOK θ) (σ : gS) (z : gZ) (w : mC) (N : Nat) (T : Nat → Nat) (hX : tCx σ w N T) (hr0 : tOk (σ 115) N) (n : Nat) (hn : n ≤ 40) (a0 b0 : Int) (ha : 0 ≤ a0 ∧ a0 ≤ 99) (hb0 : 0 ≤ b0 ∧ b0 ≤ 99) : GV l θ yX6_goTicks cX6_goTicks 5 4 100 [.ref (tad θ 111), .int (iZ ((n : Nat) : Int)), .int (iZ a0), .int (iZ b0)] σ z (fun σ' z' => (σ' 115 = (tkC (σ 115) w T N a0 b0 n)) ∧ fr (wTk 115) σ σ' ∧ z' = z) := by
  refine g_enter (ret := none) (by decide +kernel) (Nat.le_of_ble_eq_true rfl) ?_
  intro p e s m args below meth c ls F hB hl
  obtain ⟨hx, hb, hr, hml, hown, hts, hlk, hK, hst⟩ := F
  have hR := hB.1.2
  have hl : lv_has ls 5 [(0, .ref (tad θ 111)), (1, .int (iZ ((n : Nat) : Int))), (2, .int (iZ a0)), (3, .int (iZ b0))] := hl
  refine lv_iconst (v := iZ 0) hx hb dX6_goTicks_0 rfl ?_
  refine lv_istore (lv' := [(4, .int (iZ 0)), (0, .ref (tad θ 111)), (1, .int (iZ ((n : Nat) : Int))), (2, .int (iZ a0)), (3, .int (iZ b0))]) hx hb dX6_goTicks_1 hl (by decide) rfl (fun ls hl => ?_)
  have loop3 : ∀ (n3 : Nat) (i : Nat) (σ1 : gS) (H : Heap) (locs : List Loc) (ls : Array Slot), n - i < n3 → (i ≤ n) → (σ1 115 = (tkC (σ 115) w T N a0 b0 i)) → (fr (wTk 115) σ σ1) →  gB θ σ1 z s.heap H locs → lv_has ls 5 [(4, .int (iZ ((i : Nat) : Int))), (0, .ref (tad θ 111)), (1, .int (iZ ((n : Nat) : Int))), (2, .int (iZ a0)), (3, .int (iZ b0))] → W p l e (gRm 4 100) s m args below meth c H locs 0 0 (MQ below (gQv θ (fun σ' z' => (σ' 115 = (tkC (σ 115) w T N a0 b0 n)) ∧ fr (wTk 115) σ σ' ∧ z' = z)) args s 0 0 (tA θ)) (F0 m 3 ls []) := by
    intro n3
    induction n3 with
    | zero => intro i σ1 H locs ls hmu; exact absurd hmu (Nat.not_lt_zero _)
    | succ n3 ih3 =>
      intro i σ1 H locs ls hmu hi hg hf hB hl
      have hR := hB.1.2
      have hX1 : tCx σ1 w N T := hX.keep (hf.row (fun k => rfl)) (hf.row (fun k => rfl)) (hf.row (fun k => rfl))
      have hr1 : tOk (σ1 115) N := by rw [hg]; exact tkC_ok hr0 hX.lt ha hb0 i
      refine lv_iload hx hb dX6_goTicks_3 (lv_at hl 0 rfl) ?_
      refine lv_iload_n hx hb dX6_goTicks_5 rfl (lv_at hl 2 rfl) ?_
      refine z_icmp_ge (tgt := 26) hx hb dX6_goTicks_6 (by decide) ⟨by omega, by omega⟩ ⟨by omega, by omega⟩ (fun c_1 => ?_) (fun c_1 => ?_)
      · exact g_vret hx hb hr hlk hB dX6_goTicks_26 (⟨by rw [hg, show i = n by omega], hf, rfl⟩)
      · refine lv_aload_n hx hb dX6_goTicks_9 rfl (lv_at hl 1 rfl) ?_
        refine lv_aload_n hx hb dX6_goTicks_10 rfl (lv_at hl 1 rfl) ?_
        refine g_getr (k := 6) (j := 115) hx hb hts hown hK hθ hB cf6 (by decide) rfl (by decide) kw_665 rfl rfl dX6_goTicks_11 ?_
        refine lv_iload_n hx hb dX6_goTicks_14 rfl (lv_at hl 3 rfl) ?_
        refine lv_iload_n hx hb dX6_goTicks_15 rfl (lv_at hl 4 rfl) ?_
        refine g_calli (g_runV (i := 111) (As := [.ref (tad θ 115), .int (iZ a0), .int (iZ b0)]) (rest := []) hx hb hml hown hts hK hst hB (mX6_goTick l θ hθ σ1 z w (hX1).1 (hX1).2.1 115 (Or.inr rfl) (hr1).1 N (hr1).2.2 (hr1).2.1 T (hX1).2.2 a0 b0 (ha) (hb0)) mv_X6_goTick kw_893 cf6 (by decide) rfl rfl hl.1 rfl (Nat.le_of_ble_eq_true rfl) ⟨by decide, by decide⟩ ⟨Nat.le_refl _, Nat.le_refl _⟩ dX6_goTicks_16) hB (fun q_3 σ2 z_2 H locs hq_3 hp2 hB => ?_)
        obtain ⟨hp2, hf2, e2_⟩ := hp2
        rw [e2_] at hB
        clear e2_
        have hR := hB.1.2
        refine lv_pop hx hb dX6_goTicks_19 rfl ?_
        refine z_iinc (k := 0) (lv' := [(4, .int (iZ (((i : Nat) : Int) + 1))), (0, .ref (tad θ 111)), (1, .int (iZ ((n : Nat) : Int))), (2, .int (iZ a0)), (3, .int (iZ b0))]) hx hb dX6_goTicks_20 hl rfl (by decide) rfl (fun ls hl => ?_)
        have hl : lv_has ls 5 [(4, .int (iZ (((i + 1) : Nat) : Int))), (0, .ref (tad θ 111)), (1, .int (iZ ((n : Nat) : Int))), (2, .int (iZ a0)), (3, .int (iZ b0))] := by have e9 : (((i : Nat) : Int) + 1) = (((i + 1) : Nat) : Int) := (by omega); rw [e9] at hl; exact hl
        refine lv_goto (tgt := 3) hx hb dX6_goTicks_23 (by decide) ?_
        exact ih3 (i + 1) σ2 _ _ _ (by omega) (by omega) (by rw [hp2.1, hg]; rfl) (hf.tr hf2) hB (lv_sub hl [0, 1, 2, 3, 4] rfl)
  exact loop3 _ 0 σ _ _ _ (Nat.lt_succ_self _) (by omega) rfl fr.rf hB (lv_sub hl [0, 1, 2, 3, 4] rfl)
set_option maxHeartbeats 4000000 in
set_option maxRecDepth 100000 in
theorem mX6_later (l : Launch) (θ : gT) (hθ : gOK θ) (σ : gS) (z : gZ) (hW : Wf (σ 114)) (N : Nat) (hN : σ 114 0 = (N : Int)) (hV : Vb (σ 114)) (x y a0 b0 : Int) (hxr : rg x) (hyr : rg y) (har : rg a0) (hbr : rg b0) : GI l θ yX6_later cX6_later 5 (some .int) 7 161 [.ref (tad θ 111), .int (iZ x), .int (iZ y), .int (iZ a0), .int (iZ b0)] σ z (fun q σ' z' => ((¬ (0 ≤ x ∧ x < σ 114 0) ∧ q = -1) ∨ ∃ s0 : Nat, x = (s0 : Int) ∧ (s0 : Int) < σ 114 0 ∧ ((¬ ((1 ≤ y ∧ y ≤ 40) ∧ (0 ≤ a0 ∧ a0 ≤ 99) ∧ (0 ≤ b0 ∧ b0 ≤ 99)) ∧ q = -2) ∨ (((1 ≤ y ∧ y ≤ 40) ∧ (0 ≤ a0 ∧ a0 ≤ 99) ∧ (0 ≤ b0 ∧ b0 ≤ 99)) ∧ ¬ sndG (σ 114) N ∧ q = -3) ∨ (((1 ≤ y ∧ y ≤ 40) ∧ (0 ≤ a0 ∧ a0 ≤ 99) ∧ (0 ≤ b0 ∧ b0 ≤ 99)) ∧ sndG (σ 114) N ∧ ∃ w, mClk (σ 114) N = some w ∧ q = (tkC (cpr (σ 114) (σ 115) 50) w (tn (wtN (σ 114) w) N) N a0 b0 y.toNat) (41 + s0)))) ∧ fr wSc σ σ' ∧ z' = z) := by
  refine g_enter (ret := (some .int)) (by decide +kernel) (Nat.le_of_ble_eq_true rfl) ?_
  intro p e s m args below meth c ls F hB hl
  obtain ⟨hx, hb, hr, hml, hown, hts, hlk, hK, hst⟩ := F
  have hR := hB.1.2
  have hl : lv_has ls 5 [(0, .ref (tad θ 111)), (1, .int (iZ x)), (2, .int (iZ y)), (3, .int (iZ a0)), (4, .int (iZ b0))] := hl
  refine lv_aload_n hx hb dX6_later_0 rfl (lv_at hl 0 rfl) ?_
  refine lv_iconst (v := iZ 0) hx hb dX6_later_1 rfl ?_
  refine g_putI (k := 0) hx hb hts hown hK hθ hB cf6 tyX6 tyX6_ok (by decide) rfl (by decide) kw_659 rfl rfl rfl ⟨by decide, by decide⟩ dX6_later_2 (fun H locs hB => ?_)
  obtain ⟨σ1, hσ1⟩ : ∃ x_ : gS, x_ = up2 σ 111 0 0 := ⟨_, rfl⟩
  rw [← hσ1] at hB
  have hR := hB.1.2
  refine lv_aload_n hx hb dX6_later_5 rfl (lv_at hl 0 rfl) ?_
  refine lv_iload_n hx hb dX6_later_6 rfl (lv_at hl 1 rfl) ?_
  refine g_calli (g_runV (i := 111) (As := [.int (iZ x)]) (rest := []) hx hb hml hown hts hK hst hB (mX6_noStream l θ hθ σ1 z x ⟨by omega, by omega⟩ (by rw [hσ1, up2_row _ _ (by decide)]; exact hW.1)) mv_X6_noStream kw_869 cf6 (by decide) rfl rfl hl.1 rfl (Nat.le_of_ble_eq_true rfl) ⟨by decide, by decide⟩ ⟨Nat.le_refl _, Nat.le_refl _⟩ dX6_later_7) hB (fun qn σ_1 z_2 H locs hqn hpn hB => ?_)
  obtain ⟨hpn, e1_, e2_⟩ := hpn
  rw [e1_, e2_] at hB
  clear e1_ e2_
  rw [hσ1, up2_row _ _ (by decide)] at hpn
  have hgr := hW.1
  refine z_if_eq (tgt := 15) hx hb dX6_later_10 (by decide) ⟨by omega, by omega⟩ (fun c_3 => ?_) (fun c_3 => ?_)
  · obtain ⟨s0, hs0⟩ : ∃ s0 : Nat, x = (s0 : Int) := ⟨x.toNat, by omega⟩
    subst hs0
    have hs8 : s0 < 8 := by omega
    refine lv_iload_n hx hb dX6_later_15 rfl (lv_at hl 2 rfl) ?_
    refine z_i2l hx hb ⟨by omega, by omega⟩ dX6_later_16 ?_
    refine lv_lconst (v := lZ 1) hx hb dX6_later_17 (by decide) ?_
    refine lv_ldc2 (v := lZ 40) hx hb hown (hts _ kw_933) dX6_later_18 ?_
    refine g_calli (g_runS (As := [.long (lZ y), .long (lZ 1), .long (lZ 40)]) (rest := []) hx hb hml hown hts hK hst hB (mX6_in l θ hθ σ1 z y 1 40 ⟨by omega, by omega⟩ ⟨by omega, by omega⟩ ⟨by omega, by omega⟩) ms_X6_in kw_749 rfl hl.1 rfl (Nat.le_of_ble_eq_true rfl) ⟨by decide, by decide⟩ ⟨Nat.le_refl _, Nat.le_refl _⟩ dX6_later_21) hB (fun q_6 σ_4 z_5 H locs hq_6 pq_6 hB => ?_)
    obtain ⟨pq_6, e1_, e2_⟩ := pq_6
    rw [e1_, e2_] at hB
    clear e1_ e2_
    refine z_if_eq (tgt := 36) hx hb dX6_later_24 (by decide) ⟨by omega, by omega⟩ (fun c_7 => ?_) (fun c_7 => ?_)
    · refine lv_bipush (v := iZ (-2)) hx hb dX6_later_36 (by decide) ?_
      exact g_iret hx hb hr hlk hB dX6_later_38 ⟨by decide, by decide⟩ (⟨Or.inr ⟨s0, rfl, by omega, Or.inl ⟨by omega, rfl⟩⟩, (by rw [hσ1]; exact fr.up rfl : fr wSc σ σ1), rfl⟩)
    · refine lv_iload_n hx hb dX6_later_27 rfl (lv_at hl 3 rfl) ?_
      refine lv_iload hx hb dX6_later_28 (lv_at hl 4 rfl) ?_
      refine g_calli (g_runS (As := [.int (iZ a0), .int (iZ b0)]) (rest := []) hx hb hml hown hts hK hst hB (mX6_areInputs l θ hθ σ1 z a0 b0 ⟨by omega, by omega⟩ ⟨by omega, by omega⟩) ms_X6_areInputs kw_885 rfl hl.1 rfl (Nat.le_of_ble_eq_true rfl) ⟨by decide, by decide⟩ ⟨Nat.le_refl _, Nat.le_refl _⟩ dX6_later_30) hB (fun q_10 σ_8 z_9 H locs hq_10 pq_10 hB => ?_)
      obtain ⟨pq_10, e1_, e2_⟩ := pq_10
      rw [e1_, e2_] at hB
      clear e1_ e2_
      refine z_if_ne (tgt := 39) hx hb dX6_later_33 (by decide) ⟨by omega, by omega⟩ (fun c_11 => ?_) (fun c_11 => ?_)
      · refine lv_aload_n hx hb dX6_later_39 rfl (lv_at hl 0 rfl) ?_
        refine g_calli (g_runV (i := 111) (As := []) (rest := []) hx hb hml hown hts hK hst hB (mX6_soundNow l θ hθ σ1 z (by rw [hσ1, up2_row _ _ (by decide)]; exact hW) N (by rw [hσ1, up2_row _ _ (by decide)]; exact hN)) mv_X6_soundNow kw_789 cf6 (by decide) rfl rfl hl.1 rfl (Nat.le_of_ble_eq_true rfl) ⟨by decide, by decide⟩ ⟨Nat.le_refl _, Nat.le_refl _⟩ dX6_later_40) hB (fun q2 σ2 z_12 H locs hq2 hp2 hB => ?_)
        obtain ⟨hp2, hf2, e2_⟩ := hp2
        rw [e2_] at hB
        clear e2_
        have hR := hB.1.2
        rw [hσ1, up2_row _ _ (by decide)] at hp2
        have hfs : fr wSc σ σ2 := ((by rw [hσ1]; exact fr.up rfl : fr wSc σ σ1)).tr (hf2.mono sc_an)
        have hg2 : σ2 114 = σ 114 := by rw [hf2.row (fun k => rfl), hσ1, up2_row _ _ (by decide)]
        have hgr := hW.1
        obtain ⟨han, hp2⟩ := hp2
        have hiff := mAn_iff han
        rcases hp2 with ⟨hqa, hsn⟩ | ⟨hqa, hsn⟩
        · subst hqa
          have hsd := hiff.mp hsn
          obtain ⟨w, ew, ho, hA2, hfn, hT2, hraw⟩ := mAn_snd hW hN han hsn
          refine z_if_ne (tgt := 49) hx hb dX6_later_43 (by decide) ⟨by decide, by decide⟩ (fun c_13 => ?_) (fun c_13 => ?_)
          · refine lv_aload_n hx hb dX6_later_49 rfl (lv_at hl 0 rfl) ?_
            refine g_callv (g_runV (i := 111) (As := []) (rest := []) hx hb hml hown hts hK hst hB (mX6_begin l θ hθ σ2 z ) mv_X6_begin kw_934 cf6 (by decide) rfl rfl hl.1 rfl (Nat.le_of_ble_eq_true rfl) ⟨by decide, by decide⟩ ⟨Nat.le_refl _, Nat.le_refl _⟩ dX6_later_50) hB (fun σ3 z_14 H locs hp3 hB => ?_)
            obtain ⟨hp3, hf3, e2_⟩ := hp3
            rw [e2_] at hB
            clear e2_
            have hR := hB.1.2
            have hX3 : tCx σ3 w N (tn (wtN (σ 114) w) N) := (show tCx σ2 w N (tn (wtN (σ 114) w) N) from ⟨hA2, ho, hT2⟩).keep (hf3.row (fun k => rfl)) (hf3.row (fun k => rfl)) (hf3.row (fun k => rfl))
            have h115 : σ2 115 = σ 115 := by rw [hf2.row (fun k => rfl), hσ1, up2_row _ _ (by decide)]
            rw [hg2, h115] at hp3
            have hB0 : tOk (cpr (σ 114) (σ 115) 50) N := (show tOk (σ 114) N from ⟨hW, hV, hN⟩).cong (fun k hk => cpr_50 _ _ hk)
            have hr3 : tOk (σ3 115) N := by rw [hp3]; exact hB0
            have hfs3 : fr wSc σ σ3 := hfs.tr (hf3.mono sc_115)
            obtain ⟨n0, hn0⟩ : ∃ n0 : Nat, y = (n0 : Int) := ⟨y.toNat, by omega⟩
            subst hn0
            refine lv_aload_n hx hb dX6_later_53 rfl (lv_at hl 0 rfl) ?_
            refine lv_iload_n hx hb dX6_later_54 rfl (lv_at hl 2 rfl) ?_
            refine lv_iload_n hx hb dX6_later_55 rfl (lv_at hl 3 rfl) ?_
            refine lv_iload hx hb dX6_later_56 (lv_at hl 4 rfl) ?_
            refine g_callv (g_runV (i := 111) (As := [.int (iZ ((n0 : Nat) : Int)), .int (iZ a0), .int (iZ b0)]) (rest := []) hx hb hml hown hts hK hst hB (mX6_goTicks l θ hθ σ3 z w N (tn (wtN (σ 114) w) N) hX3 hr3 n0 (by omega) a0 b0 (by omega) (by omega)) mv_X6_goTicks kw_938 cf6 (by decide) rfl rfl hl.1 rfl (Nat.le_of_ble_eq_true rfl) ⟨by decide, by decide⟩ ⟨Nat.le_refl _, Nat.le_refl _⟩ dX6_later_58) hB (fun σ4 z_16 H locs hp4 hB => ?_)
            obtain ⟨hp4, hf4, e2_⟩ := hp4
            rw [e2_] at hB
            clear e2_
            have hR := hB.1.2
            rw [hp3] at hp4
            have hlast := tkC_ok (w := w) (a := a0) (b := b0) hB0 hX3.lt (by omega) (by omega) n0
            refine lv_aload_n hx hb dX6_later_61 rfl (lv_at hl 0 rfl) ?_
            refine g_getr (k := 6) (j := 115) hx hb hts hown hK hθ hB cf6 (by decide) rfl (by decide) kw_665 rfl rfl dX6_later_62 ?_
            refine lv_bipush (v := iZ 41) hx hb dX6_later_65 (by decide) ?_
            refine lv_iload_n hx hb dX6_later_67 rfl (lv_at hl 1 rfl) ?_
            refine z_iadd hx hb dX6_later_68 ?_
            refine g_iald (k := (41 + s0)) hx hb hK hB (by decide) rfl (by omega) (Nat.lt_of_lt_of_eq (by omega : (41 + s0) < 50) (Eq.symm rfl)) (by decide) dX6_later_69 ?_
            refine z_top (b := ((tkC (cpr (σ 114) (σ 115) 50) w (tn (wtN (σ 114) w) N) N a0 b0 n0) (41 + s0))) (by rw [hp4]) ?_
            have hvb := (hlast.2.1 s0 hs8).2
            exact g_iret hx hb hr hlk hB dX6_later_70 ⟨by omega, by omega⟩ (⟨Or.inr ⟨s0, rfl, by omega, Or.inr (Or.inr ⟨by omega, hsd, w, ew, rfl⟩)⟩, (hfs3.tr (hf4.mono sc_tr)), rfl⟩)
          · exact absurd c_13 (by decide)
        · subst hqa
          have hnd : ¬ sndG (σ 114) N := fun q => hsn (hiff.mpr q)
          refine z_if_ne (tgt := 49) hx hb dX6_later_43 (by decide) ⟨by decide, by decide⟩ (fun c_18 => ?_) (fun c_18 => ?_)
          · exact absurd (by decide) c_18
          · refine lv_bipush (v := iZ (-3)) hx hb dX6_later_46 (by decide) ?_
            exact g_iret hx hb hr hlk hB dX6_later_48 ⟨by decide, by decide⟩ (⟨Or.inr ⟨s0, rfl, by omega, Or.inr (Or.inl ⟨by omega, hnd, rfl⟩)⟩, hfs, rfl⟩)
      · refine lv_bipush (v := iZ (-2)) hx hb dX6_later_36 (by decide) ?_
        exact g_iret hx hb hr hlk hB dX6_later_38 ⟨by decide, by decide⟩ (⟨Or.inr ⟨s0, rfl, by omega, Or.inl ⟨by omega, rfl⟩⟩, (by rw [hσ1]; exact fr.up rfl : fr wSc σ σ1), rfl⟩)
  · refine lv_iconst (v := iZ (-1)) hx hb dX6_later_13 rfl ?_
    exact g_iret hx hb hr hlk hB dX6_later_14 ⟨by decide, by decide⟩ (⟨Or.inl ⟨by omega, rfl⟩, (by rw [hσ1]; exact fr.up rfl : fr wSc σ σ1), rfl⟩)
set_option maxHeartbeats 4000000 in
set_option maxRecDepth 100000 in
theorem mX6_first (l : Launch) (θ : gT) (hθ : gOK θ) (σ : gS) (z : gZ) (hW : Wf (σ 114)) (N : Nat) (hN : σ 114 0 = (N : Int)) (hV : Vb (σ 114)) (x y a0 b0 : Int) (hxr : rg x) (hyr : rg y) (har : rg a0) (hbr : rg b0) : GI l θ yX6_first cX6_first 6 (some .int) 7 161 [.ref (tad θ 111), .int (iZ x), .int (iZ y), .int (iZ a0), .int (iZ b0)] σ z (fun q σ' z' => ((¬ (0 ≤ x ∧ x < σ 114 0) ∧ q = -1) ∨ ∃ s0 : Nat, x = (s0 : Int) ∧ (s0 : Int) < σ 114 0 ∧ ((¬ ((0 ≤ y ∧ y ≤ 99) ∧ (0 ≤ a0 ∧ a0 ≤ 99) ∧ (0 ≤ b0 ∧ b0 ≤ 99)) ∧ q = -2) ∨ (((0 ≤ y ∧ y ≤ 99) ∧ (0 ≤ a0 ∧ a0 ≤ 99) ∧ (0 ≤ b0 ∧ b0 ≤ 99)) ∧ ¬ sndG (σ 114) N ∧ q = -3) ∨ (((0 ≤ y ∧ y ≤ 99) ∧ (0 ≤ a0 ∧ a0 ≤ 99) ∧ (0 ≤ b0 ∧ b0 ≤ 99)) ∧ sndG (σ 114) N ∧ ∃ w, mClk (σ 114) N = some w ∧ fiP (fun t => (tkC (cpr (σ 114) (σ 115) 50) w (tn (wtN (σ 114) w) N) N a0 b0 t)) s0 y 40 q))) ∧ fr wSc σ σ' ∧ z' = z) := by
  refine g_enter (ret := (some .int)) (by decide +kernel) (Nat.le_of_ble_eq_true rfl) ?_
  intro p e s m args below meth c ls F hB hl
  obtain ⟨hx, hb, hr, hml, hown, hts, hlk, hK, hst⟩ := F
  have hR := hB.1.2
  have hl : lv_has ls 6 [(0, .ref (tad θ 111)), (1, .int (iZ x)), (2, .int (iZ y)), (3, .int (iZ a0)), (4, .int (iZ b0))] := hl
  refine lv_aload_n hx hb dX6_first_0 rfl (lv_at hl 0 rfl) ?_
  refine lv_iconst (v := iZ 0) hx hb dX6_first_1 rfl ?_
  refine g_putI (k := 0) hx hb hts hown hK hθ hB cf6 tyX6 tyX6_ok (by decide) rfl (by decide) kw_659 rfl rfl rfl ⟨by decide, by decide⟩ dX6_first_2 (fun H locs hB => ?_)
  obtain ⟨σ1, hσ1⟩ : ∃ x_ : gS, x_ = up2 σ 111 0 0 := ⟨_, rfl⟩
  rw [← hσ1] at hB
  have hR := hB.1.2
  refine lv_aload_n hx hb dX6_first_5 rfl (lv_at hl 0 rfl) ?_
  refine lv_iload_n hx hb dX6_first_6 rfl (lv_at hl 1 rfl) ?_
  refine g_calli (g_runV (i := 111) (As := [.int (iZ x)]) (rest := []) hx hb hml hown hts hK hst hB (mX6_noStream l θ hθ σ1 z x ⟨by omega, by omega⟩ (by rw [hσ1, up2_row _ _ (by decide)]; exact hW.1)) mv_X6_noStream kw_869 cf6 (by decide) rfl rfl hl.1 rfl (Nat.le_of_ble_eq_true rfl) ⟨by decide, by decide⟩ ⟨Nat.le_refl _, Nat.le_refl _⟩ dX6_first_7) hB (fun qn σ_1 z_2 H locs hqn hpn hB => ?_)
  obtain ⟨hpn, e1_, e2_⟩ := hpn
  rw [e1_, e2_] at hB
  clear e1_ e2_
  rw [hσ1, up2_row _ _ (by decide)] at hpn
  have hgr := hW.1
  refine z_if_eq (tgt := 15) hx hb dX6_first_10 (by decide) ⟨by omega, by omega⟩ (fun c_3 => ?_) (fun c_3 => ?_)
  · obtain ⟨s0, hs0⟩ : ∃ s0 : Nat, x = (s0 : Int) := ⟨x.toNat, by omega⟩
    have hs8 : s0 < 8 := by omega
    have hl : lv_has ls 6 [(0, .ref (tad θ 111)), (1, .int (iZ ((s0 : Nat) : Int))), (2, .int (iZ y)), (3, .int (iZ a0)), (4, .int (iZ b0))] := by rw [hs0] at hl; exact hl
    refine lv_iload_n hx hb dX6_first_15 rfl (lv_at hl 2 rfl) ?_
    refine z_i2l hx hb ⟨by omega, by omega⟩ dX6_first_16 ?_
    refine lv_lconst (v := lZ 0) hx hb dX6_first_17 (by decide) ?_
    refine lv_ldc2 (v := lZ 99) hx hb hown (hts _ kw_888) dX6_first_18 ?_
    refine g_calli (g_runS (As := [.long (lZ y), .long (lZ 0), .long (lZ 99)]) (rest := []) hx hb hml hown hts hK hst hB (mX6_in l θ hθ σ1 z y 0 99 ⟨by omega, by omega⟩ ⟨by omega, by omega⟩ ⟨by omega, by omega⟩) ms_X6_in kw_749 rfl hl.1 rfl (Nat.le_of_ble_eq_true rfl) ⟨by decide, by decide⟩ ⟨Nat.le_refl _, Nat.le_refl _⟩ dX6_first_21) hB (fun q_6 σ_4 z_5 H locs hq_6 pq_6 hB => ?_)
    obtain ⟨pq_6, e1_, e2_⟩ := pq_6
    rw [e1_, e2_] at hB
    clear e1_ e2_
    refine z_if_eq (tgt := 36) hx hb dX6_first_24 (by decide) ⟨by omega, by omega⟩ (fun c_7 => ?_) (fun c_7 => ?_)
    · refine lv_bipush (v := iZ (-2)) hx hb dX6_first_36 (by decide) ?_
      exact g_iret hx hb hr hlk hB dX6_first_38 ⟨by decide, by decide⟩ (⟨Or.inr ⟨s0, hs0, by omega, Or.inl ⟨by omega, rfl⟩⟩, (by rw [hσ1]; exact fr.up rfl : fr wSc σ σ1), rfl⟩)
    · refine lv_iload_n hx hb dX6_first_27 rfl (lv_at hl 3 rfl) ?_
      refine lv_iload hx hb dX6_first_28 (lv_at hl 4 rfl) ?_
      refine g_calli (g_runS (As := [.int (iZ a0), .int (iZ b0)]) (rest := []) hx hb hml hown hts hK hst hB (mX6_areInputs l θ hθ σ1 z a0 b0 ⟨by omega, by omega⟩ ⟨by omega, by omega⟩) ms_X6_areInputs kw_885 rfl hl.1 rfl (Nat.le_of_ble_eq_true rfl) ⟨by decide, by decide⟩ ⟨Nat.le_refl _, Nat.le_refl _⟩ dX6_first_30) hB (fun q_10 σ_8 z_9 H locs hq_10 pq_10 hB => ?_)
      obtain ⟨pq_10, e1_, e2_⟩ := pq_10
      rw [e1_, e2_] at hB
      clear e1_ e2_
      refine z_if_ne (tgt := 39) hx hb dX6_first_33 (by decide) ⟨by omega, by omega⟩ (fun c_11 => ?_) (fun c_11 => ?_)
      · refine lv_aload_n hx hb dX6_first_39 rfl (lv_at hl 0 rfl) ?_
        refine g_calli (g_runV (i := 111) (As := []) (rest := []) hx hb hml hown hts hK hst hB (mX6_soundNow l θ hθ σ1 z (by rw [hσ1, up2_row _ _ (by decide)]; exact hW) N (by rw [hσ1, up2_row _ _ (by decide)]; exact hN)) mv_X6_soundNow kw_789 cf6 (by decide) rfl rfl hl.1 rfl (Nat.le_of_ble_eq_true rfl) ⟨by decide, by decide⟩ ⟨Nat.le_refl _, Nat.le_refl _⟩ dX6_first_40) hB (fun q2 σ2 z_12 H locs hq2 hp2 hB => ?_)
        obtain ⟨hp2, hf2, e2_⟩ := hp2
        rw [e2_] at hB
        clear e2_
        have hR := hB.1.2
        rw [hσ1, up2_row _ _ (by decide)] at hp2
        have hfs : fr wSc σ σ2 := ((by rw [hσ1]; exact fr.up rfl : fr wSc σ σ1)).tr (hf2.mono sc_an)
        have hg2 : σ2 114 = σ 114 := by rw [hf2.row (fun k => rfl), hσ1, up2_row _ _ (by decide)]
        have hgr := hW.1
        obtain ⟨han, hp2⟩ := hp2
        have hiff := mAn_iff han
        rcases hp2 with ⟨hqa, hsn⟩ | ⟨hqa, hsn⟩
        · subst hqa
          have hsd := hiff.mp hsn
          obtain ⟨w, ew, ho, hA2, hfn, hT2, hraw⟩ := mAn_snd hW hN han hsn
          refine z_if_ne (tgt := 49) hx hb dX6_first_43 (by decide) ⟨by decide, by decide⟩ (fun c_13 => ?_) (fun c_13 => ?_)
          · refine lv_aload_n hx hb dX6_first_49 rfl (lv_at hl 0 rfl) ?_
            refine g_callv (g_runV (i := 111) (As := []) (rest := []) hx hb hml hown hts hK hst hB (mX6_begin l θ hθ σ2 z ) mv_X6_begin kw_934 cf6 (by decide) rfl rfl hl.1 rfl (Nat.le_of_ble_eq_true rfl) ⟨by decide, by decide⟩ ⟨Nat.le_refl _, Nat.le_refl _⟩ dX6_first_50) hB (fun σ3 z_14 H locs hp3 hB => ?_)
            obtain ⟨hp3, hf3, e2_⟩ := hp3
            rw [e2_] at hB
            clear e2_
            have hR := hB.1.2
            have hX3 : tCx σ3 w N (tn (wtN (σ 114) w) N) := (show tCx σ2 w N (tn (wtN (σ 114) w) N) from ⟨hA2, ho, hT2⟩).keep (hf3.row (fun k => rfl)) (hf3.row (fun k => rfl)) (hf3.row (fun k => rfl))
            have h115 : σ2 115 = σ 115 := by rw [hf2.row (fun k => rfl), hσ1, up2_row _ _ (by decide)]
            rw [hg2, h115] at hp3
            have hB0 : tOk (cpr (σ 114) (σ 115) 50) N := (show tOk (σ 114) N from ⟨hW, hV, hN⟩).cong (fun k hk => cpr_50 _ _ hk)
            have hr3 : tOk (σ3 115) N := by rw [hp3]; exact hB0
            have hfs3 : fr wSc σ σ3 := hfs.tr (hf3.mono sc_115)
            refine lv_iconst (v := iZ 1) hx hb dX6_first_53 rfl ?_
            refine z_top (b := (((0 + 1) : Nat) : Int)) (rfl) ?_
            refine lv_istore (lv' := [(5, .int (iZ (((0 + 1) : Nat) : Int))), (0, .ref (tad θ 111)), (1, .int (iZ ((s0 : Nat) : Int))), (2, .int (iZ y)), (3, .int (iZ a0)), (4, .int (iZ b0))]) hx hb dX6_first_54 hl (by decide) rfl (fun ls hl => ?_)
            have loop56 : ∀ (n56 : Nat) (t : Nat) (σ4 : gS) (H : Heap) (locs : List Loc) (ls : Array Slot), 40 - t < n56 → (t ≤ 40) → (σ4 115 = (tkC (cpr (σ 114) (σ 115) 50) w (tn (wtN (σ 114) w) N) N a0 b0 t)) → (∀ u, u < t → (tkC (cpr (σ 114) (σ 115) 50) w (tn (wtN (σ 114) w) N) N a0 b0 (u + 1)) (41 + s0) ≠ y) → (fr (wTk 115) σ3 σ4) →  gB θ σ4 z s.heap H locs → lv_has ls 6 [(5, .int (iZ (((t + 1) : Nat) : Int))), (0, .ref (tad θ 111)), (1, .int (iZ ((s0 : Nat) : Int))), (2, .int (iZ y)), (3, .int (iZ a0)), (4, .int (iZ b0))] → W p l e (gRm 7 161) s m args below meth c H locs 0 0 (MQ below (gQi θ (fun q σ' z' => ((¬ (0 ≤ x ∧ x < σ 114 0) ∧ q = -1) ∨ ∃ s0 : Nat, x = (s0 : Int) ∧ (s0 : Int) < σ 114 0 ∧ ((¬ ((0 ≤ y ∧ y ≤ 99) ∧ (0 ≤ a0 ∧ a0 ≤ 99) ∧ (0 ≤ b0 ∧ b0 ≤ 99)) ∧ q = -2) ∨ (((0 ≤ y ∧ y ≤ 99) ∧ (0 ≤ a0 ∧ a0 ≤ 99) ∧ (0 ≤ b0 ∧ b0 ≤ 99)) ∧ ¬ sndG (σ 114) N ∧ q = -3) ∨ (((0 ≤ y ∧ y ≤ 99) ∧ (0 ≤ a0 ∧ a0 ≤ 99) ∧ (0 ≤ b0 ∧ b0 ≤ 99)) ∧ sndG (σ 114) N ∧ ∃ w, mClk (σ 114) N = some w ∧ fiP (fun t => (tkC (cpr (σ 114) (σ 115) 50) w (tn (wtN (σ 114) w) N) N a0 b0 t)) s0 y 40 q))) ∧ fr wSc σ σ' ∧ z' = z)) args s 0 0 (tA θ)) (F0 m 56 ls []) := by
              intro n56
              induction n56 with
              | zero => intro t σ4 H locs ls hmu; exact absurd hmu (Nat.not_lt_zero _)
              | succ n56 ih56 =>
                intro t σ4 H locs ls hmu ht hg hno hf4 hB hl
                have hR := hB.1.2
                have hX4 : tCx σ4 w N (tn (wtN (σ 114) w) N) := hX3.keep (hf4.row (fun k => rfl)) (hf4.row (fun k => rfl)) (hf4.row (fun k => rfl))
                have hr4 : tOk (σ4 115) N := by rw [hg]; exact tkC_ok hB0 hX3.lt (by omega) (by omega) t
                refine lv_iload hx hb dX6_first_56 (lv_at hl 0 rfl) ?_
                refine lv_bipush (v := iZ 40) hx hb dX6_first_58 (by decide) ?_
                refine z_icmp_gt (tgt := 97) hx hb dX6_first_60 (by decide) ⟨by omega, by omega⟩ ⟨by decide, by decide⟩ (fun c_16 => ?_) (fun c_16 => ?_)
                · refine lv_bipush (v := iZ (-9)) hx hb dX6_first_97 (by decide) ?_
                  exact g_iret hx hb hr hlk hB dX6_first_99 ⟨by decide, by decide⟩ (⟨Or.inr ⟨s0, hs0, by omega, Or.inr (Or.inr ⟨by omega, hsd, w, ew, Or.inl ⟨rfl, fun u hu => hno u (by omega)⟩⟩)⟩, (hfs3.tr (hf4.mono sc_tr)), rfl⟩)
                · refine lv_aload_n hx hb dX6_first_63 rfl (lv_at hl 1 rfl) ?_
                  refine lv_aload_n hx hb dX6_first_64 rfl (lv_at hl 1 rfl) ?_
                  refine g_getr (k := 6) (j := 115) hx hb hts hown hK hθ hB cf6 (by decide) rfl (by decide) kw_665 rfl rfl dX6_first_65 ?_
                  refine lv_iload_n hx hb dX6_first_68 rfl (lv_at hl 4 rfl) ?_
                  refine lv_iload hx hb dX6_first_69 (lv_at hl 5 rfl) ?_
                  refine g_calli (g_runV (i := 111) (As := [.ref (tad θ 115), .int (iZ a0), .int (iZ b0)]) (rest := []) hx hb hml hown hts hK hst hB (mX6_goTick l θ hθ σ4 z w (hX4).1 (hX4).2.1 115 (Or.inr rfl) (hr4).1 N (hr4).2.2 (hr4).2.1 (tn (wtN (σ 114) w) N) (hX4).2.2 a0 b0 (by omega) (by omega)) mv_X6_goTick kw_893 cf6 (by decide) rfl rfl hl.1 rfl (Nat.le_of_ble_eq_true rfl) ⟨by decide, by decide⟩ ⟨Nat.le_refl _, Nat.le_refl _⟩ dX6_first_71) hB (fun q_18 σ5 z_17 H locs hq_18 hp5 hB => ?_)
                  obtain ⟨hp5, hf5, e2_⟩ := hp5
                  rw [e2_] at hB
                  clear e2_
                  have hR := hB.1.2
                  have hg5 : σ5 115 = (tkC (cpr (σ 114) (σ 115) 50) w (tn (wtN (σ 114) w) N) N a0 b0 (t + 1)) := by rw [hp5.1, hg]; rfl
                  have hlast := tkC_ok (w := w) (a := a0) (b := b0) hB0 hX3.lt (by omega) (by omega) (t + 1)
                  refine lv_pop hx hb dX6_first_74 rfl ?_
                  refine lv_aload_n hx hb dX6_first_75 rfl (lv_at hl 1 rfl) ?_
                  refine g_getr (k := 6) (j := 115) hx hb hts hown hK hθ hB cf6 (by decide) rfl (by decide) kw_665 rfl rfl dX6_first_76 ?_
                  refine lv_bipush (v := iZ 41) hx hb dX6_first_79 (by decide) ?_
                  refine lv_iload_n hx hb dX6_first_81 rfl (lv_at hl 2 rfl) ?_
                  refine z_iadd hx hb dX6_first_82 ?_
                  refine g_iald (k := (41 + s0)) hx hb hK hB (by decide) rfl (by omega) (Nat.lt_of_lt_of_eq (by omega : (41 + s0) < 50) (Eq.symm rfl)) (by decide) dX6_first_83 ?_
                  refine z_top (b := ((tkC (cpr (σ 114) (σ 115) 50) w (tn (wtN (σ 114) w) N) N a0 b0 (t + 1)) (41 + s0))) (by rw [hg5]) ?_
                  have hvb := (hlast.2.1 s0 hs8).2
                  refine lv_iload_n hx hb dX6_first_84 rfl (lv_at hl 3 rfl) ?_
                  refine z_icmp_ne (tgt := 91) hx hb dX6_first_85 (by decide) ⟨by omega, by omega⟩ ⟨by omega, by omega⟩ (fun c_19 => ?_) (fun c_19 => ?_)
                  · refine z_iinc (k := 0) (lv' := [(5, .int (iZ ((((t + 1) : Nat) : Int) + 1))), (0, .ref (tad θ 111)), (1, .int (iZ ((s0 : Nat) : Int))), (2, .int (iZ y)), (3, .int (iZ a0)), (4, .int (iZ b0))]) hx hb dX6_first_91 hl rfl (by decide) rfl (fun ls hl => ?_)
                    have hl : lv_has ls 6 [(5, .int (iZ ((((t + 1) + 1) : Nat) : Int))), (0, .ref (tad θ 111)), (1, .int (iZ ((s0 : Nat) : Int))), (2, .int (iZ y)), (3, .int (iZ a0)), (4, .int (iZ b0))] := by have e9 : ((((t + 1) : Nat) : Int) + 1) = ((((t + 1) + 1) : Nat) : Int) := (by omega); rw [e9] at hl; exact hl
                    refine lv_goto (tgt := 56) hx hb dX6_first_94 (by decide) ?_
                    exact ih56 (t + 1) σ5 _ _ _ (by omega) (by omega) hg5 (lt_s hno (by omega)) (hf4.tr hf5) hB (lv_sub hl [0, 1, 2, 3, 4, 5] rfl)
                  · refine lv_iload hx hb dX6_first_88 (lv_at hl 0 rfl) ?_
                    exact g_iret hx hb hr hlk hB dX6_first_90 ⟨by omega, by omega⟩ (⟨Or.inr ⟨s0, hs0, by omega, Or.inr (Or.inr ⟨by omega, hsd, w, ew, Or.inr ⟨t, by omega, rfl, by omega, hno⟩⟩)⟩, ((hfs3.tr (hf4.mono sc_tr)).tr (hf5.mono sc_tr)), rfl⟩)
            exact loop56 _ 0 σ3 _ _ _ (Nat.lt_succ_self _) (by omega) hp3 (fun u h => absurd h (Nat.not_lt_zero _)) fr.rf hB (lv_sub hl [0, 1, 2, 3, 4, 5] rfl)
          · exact absurd c_13 (by decide)
        · subst hqa
          have hnd : ¬ sndG (σ 114) N := fun q => hsn (hiff.mpr q)
          refine z_if_ne (tgt := 49) hx hb dX6_first_43 (by decide) ⟨by decide, by decide⟩ (fun c_20 => ?_) (fun c_20 => ?_)
          · exact absurd (by decide) c_20
          · refine lv_bipush (v := iZ (-3)) hx hb dX6_first_46 (by decide) ?_
            exact g_iret hx hb hr hlk hB dX6_first_48 ⟨by decide, by decide⟩ (⟨Or.inr ⟨s0, hs0, by omega, Or.inr (Or.inl ⟨by omega, hnd, rfl⟩)⟩, hfs, rfl⟩)
      · refine lv_bipush (v := iZ (-2)) hx hb dX6_first_36 (by decide) ?_
        exact g_iret hx hb hr hlk hB dX6_first_38 ⟨by decide, by decide⟩ (⟨Or.inr ⟨s0, hs0, by omega, Or.inl ⟨by omega, rfl⟩⟩, (by rw [hσ1]; exact fr.up rfl : fr wSc σ σ1), rfl⟩)
  · refine lv_iconst (v := iZ (-1)) hx hb dX6_first_13 rfl ?_
    exact g_iret hx hb hr hlk hB dX6_first_14 ⟨by decide, by decide⟩ (⟨Or.inl ⟨by omega, rfl⟩, (by rw [hσ1]; exact fr.up rfl : fr wSc σ σ1), rfl⟩)
