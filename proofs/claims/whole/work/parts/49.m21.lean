set_option maxHeartbeats 4000000 in
set_option maxRecDepth 100000 in
theorem mX1_part (l : Launch) (θ : gT) (hθ : gOK θ) (σ : gS) (z : gZ) (f : Nat) (hF : isF f) (s0 : Nat) (hs : s0 < 8) (i : Nat) (hi : i < 3) : GI l θ yX1_part cX1_part 3 (some .int) 0 0 [.ref (tad θ f), .int (iZ ((s0 : Nat) : Int)), .int (iZ ((i : Nat) : Int))] σ z (fun q σ' z' => (q = fp σ f (9 + 3 * s0 + i)) ∧ σ' = σ ∧ z' = z) := by
  refine g_enter (ret := (some .int)) (by decide +kernel) (Nat.le_of_ble_eq_true rfl) ?_
  intro p e s m args below meth c ls F hB hl
  obtain ⟨hx, hb, hr, hml, hown, hts, hlk, hK, hst⟩ := F
  have hR := hB.1.2
  have hl : lv_has ls 3 [(0, .ref (tad θ f)), (1, .int (iZ ((s0 : Nat) : Int))), (2, .int (iZ ((i : Nat) : Int)))] := hl
  refine lv_iload_n hx hb dX1_part_0 rfl (lv_at hl 1 rfl) ?_
  refine z_if_lt (tgt := 19) hx hb dX1_part_1 (by decide) ⟨by omega, by omega⟩ (fun c_1 => ?_) (fun c_1 => ?_)
  · refine lv_iconst (v := iZ 0) hx hb dX1_part_19 rfl ?_
    exact absurd hs (by omega)
  · refine lv_iload_n hx hb dX1_part_4 rfl (lv_at hl 1 rfl) ?_
    refine lv_bipush (v := iZ 8) hx hb dX1_part_5 (by decide) ?_
    refine z_icmp_ge (tgt := 19) hx hb dX1_part_7 (by decide) ⟨by omega, by omega⟩ ⟨by decide, by decide⟩ (fun c_2 => ?_) (fun c_2 => ?_)
    · refine lv_iconst (v := iZ 0) hx hb dX1_part_19 rfl ?_
      exact absurd hs (by omega)
    · refine lv_iload_n hx hb dX1_part_10 rfl (lv_at hl 2 rfl) ?_
      refine z_if_lt (tgt := 19) hx hb dX1_part_11 (by decide) ⟨by omega, by omega⟩ (fun c_3 => ?_) (fun c_3 => ?_)
      · refine lv_iconst (v := iZ 0) hx hb dX1_part_19 rfl ?_
        exact absurd hs (by omega)
      · refine lv_iload_n hx hb dX1_part_14 rfl (lv_at hl 2 rfl) ?_
        refine lv_iconst (v := iZ 3) hx hb dX1_part_15 rfl ?_
        refine z_icmp_lt (tgt := 21) hx hb dX1_part_16 (by decide) ⟨by omega, by omega⟩ ⟨by decide, by decide⟩ (fun c_4 => ?_) (fun c_4 => ?_)
        · refine lv_aload_n hx hb dX1_part_21 rfl (lv_at hl 0 rfl) ?_
          refine g_getr (k := 3) (j := (f + 2)) hx hb hts hown hK hθ hB cf1 hF.lt0 hF.ck0 (by decide) kw_56 rfl hF.tg3 dX1_part_22 ?_
          refine lv_iload_n hx hb dX1_part_25 rfl (lv_at hl 1 rfl) ?_
          refine lv_iconst (v := iZ 3) hx hb dX1_part_26 rfl ?_
          refine z_imul hx hb dX1_part_27 ?_
          refine lv_iload_n hx hb dX1_part_28 rfl (lv_at hl 2 rfl) ?_
          refine z_iadd hx hb dX1_part_29 ?_
          refine g_iald (k := (3 * s0 + i)) hx hb hK hB hF.lt2 hF.ck2 (by omega) (Nat.lt_of_lt_of_eq (by omega : (3 * s0 + i) < 24) (Eq.symm hF.cn2)) hF.bg2 dX1_part_30 ?_
          refine z_top (b := (fp σ f (9 + 3 * s0 + i))) ((fp_q σ f hs hi).symm) ?_
          have hrg := fp_rg hR f (9 + 3 * s0 + i)
          exact g_iret hx hb hr hlk hB dX1_part_31 hrg (⟨rfl, rfl, rfl⟩)
        · refine lv_iconst (v := iZ 0) hx hb dX1_part_19 rfl ?_
          exact absurd hs (by omega)
set_option maxHeartbeats 4000000 in
set_option maxRecDepth 100000 in
theorem mX1_streamPart (l : Launch) (θ : gT) (hθ : gOK θ) (σ : gS) (z : gZ) (f : Nat) (hF : isF f) (s0 : Nat) (hs : s0 < 8) (i : Nat) (hi : i < 3) : GI l θ yX1_streamPart cX1_streamPart 4 (some .int) 1 22 [.ref (tad θ f), .int (iZ ((s0 : Nat) : Int)), .int (iZ ((i : Nat) : Int))] σ z (fun q σ' z' => (q = spZ (fp σ f (9 + 3 * s0 + i))) ∧ σ' = σ ∧ z' = z) := by
  refine g_enter (ret := (some .int)) (by decide +kernel) (Nat.le_of_ble_eq_true rfl) ?_
  intro p e s m args below meth c ls F hB hl
  obtain ⟨hx, hb, hr, hml, hown, hts, hlk, hK, hst⟩ := F
  have hR := hB.1.2
  have hl : lv_has ls 4 [(0, .ref (tad θ f)), (1, .int (iZ ((s0 : Nat) : Int))), (2, .int (iZ ((i : Nat) : Int)))] := hl
  refine lv_aload_n hx hb dX1_streamPart_0 rfl (lv_at hl 0 rfl) ?_
  refine lv_iload_n hx hb dX1_streamPart_1 rfl (lv_at hl 1 rfl) ?_
  refine lv_iload_n hx hb dX1_streamPart_2 rfl (lv_at hl 2 rfl) ?_
  refine g_calli (g_runV (i := f) (As := [.int (iZ ((s0 : Nat) : Int)), .int (iZ ((i : Nat) : Int))]) (rest := []) hx hb hml hown hts hK hst hB (mX1_part l θ hθ σ z f hF s0 (by omega) i (by omega)) mv_X1_part kw_358 cf1 hF.lt0 hF.ck0 rfl hl.1 rfl (Nat.le_of_ble_eq_true rfl) ⟨by decide, by decide⟩ ⟨Nat.le_refl _, Nat.le_refl _⟩ dX1_streamPart_3) hB (fun q_3 σ_1 z_2 H locs hq_3 pq_3 hB => ?_)
  obtain ⟨pq_3, e1_, e2_⟩ := pq_3
  rw [e1_, e2_] at hB
  clear e1_ e2_
  subst pq_3
  have hrg := fp_rg hR f (9 + 3 * s0 + i)
  refine lv_istore_n (lv' := [(3, .int (iZ (fp σ f (9 + 3 * s0 + i)))), (0, .ref (tad θ f)), (1, .int (iZ ((s0 : Nat) : Int))), (2, .int (iZ ((i : Nat) : Int)))]) hx hb dX1_streamPart_6 rfl hl (by decide) rfl (fun ls hl => ?_)
  refine lv_iload_n hx hb dX1_streamPart_7 rfl (lv_at hl 0 rfl) ?_
  refine z_if_lt (tgt := 17) hx hb dX1_streamPart_8 (by decide) ⟨by omega, by omega⟩ (fun c_4 => ?_) (fun c_4 => ?_)
  · refine lv_iconst (v := iZ 0) hx hb dX1_streamPart_17 rfl ?_
    refine lv_goto (tgt := 22) hx hb dX1_streamPart_18 (by decide) ?_
    exact g_iret hx hb hr hlk hB dX1_streamPart_22 ⟨by decide, by decide⟩ (⟨by rw [spZ, if_pos (by omega)], rfl, rfl⟩)
  · refine lv_iload_n hx hb dX1_streamPart_11 rfl (lv_at hl 0 rfl) ?_
    refine lv_bipush (v := iZ 8) hx hb dX1_streamPart_12 (by decide) ?_
    refine z_icmp_lt (tgt := 21) hx hb dX1_streamPart_14 (by decide) ⟨by omega, by omega⟩ ⟨by decide, by decide⟩ (fun c_5 => ?_) (fun c_5 => ?_)
    · refine lv_iload_n hx hb dX1_streamPart_21 rfl (lv_at hl 0 rfl) ?_
      exact g_iret hx hb hr hlk hB dX1_streamPart_22 hrg (⟨by rw [spZ, if_neg (by omega)], rfl, rfl⟩)
    · refine lv_iconst (v := iZ 0) hx hb dX1_streamPart_17 rfl ?_
      refine lv_goto (tgt := 22) hx hb dX1_streamPart_18 (by decide) ?_
      exact g_iret hx hb hr hlk hB dX1_streamPart_22 ⟨by decide, by decide⟩ (⟨by rw [spZ, if_pos (by omega)], rfl, rfl⟩)
set_option maxHeartbeats 4000000 in
set_option maxRecDepth 100000 in
theorem mX1_kindOf (l : Launch) (θ : gT) (hθ : gOK θ) (σ : gS) (z : gZ) (f : Nat) (hF : isF f) (s0 : Nat) (hs : s0 < 8) : GI l θ yX1_kindOf cX1_kindOf 2 (some .int) 0 0 [.ref (tad θ f), .int (iZ ((s0 : Nat) : Int))] σ z (fun q σ' z' => (q = fp σ f (1 + s0)) ∧ σ' = σ ∧ z' = z) := by
  refine g_enter (ret := (some .int)) (by decide +kernel) (Nat.le_of_ble_eq_true rfl) ?_
  intro p e s m args below meth c ls F hB hl
  obtain ⟨hx, hb, hr, hml, hown, hts, hlk, hK, hst⟩ := F
  have hR := hB.1.2
  have hl : lv_has ls 2 [(0, .ref (tad θ f)), (1, .int (iZ ((s0 : Nat) : Int)))] := hl
  refine lv_iload_n hx hb dX1_kindOf_0 rfl (lv_at hl 1 rfl) ?_
  refine z_if_lt (tgt := 10) hx hb dX1_kindOf_1 (by decide) ⟨by omega, by omega⟩ (fun c_1 => ?_) (fun c_1 => ?_)
  · exact absurd hs (by omega)
  · refine lv_iload_n hx hb dX1_kindOf_4 rfl (lv_at hl 1 rfl) ?_
    refine lv_bipush (v := iZ 8) hx hb dX1_kindOf_5 (by decide) ?_
    refine z_icmp_lt (tgt := 14) hx hb dX1_kindOf_7 (by decide) ⟨by omega, by omega⟩ ⟨by decide, by decide⟩ (fun c_2 => ?_) (fun c_2 => ?_)
    · refine lv_aload_n hx hb dX1_kindOf_14 rfl (lv_at hl 0 rfl) ?_
      refine g_getr (k := 2) (j := (f + 1)) hx hb hts hown hK hθ hB cf1 hF.lt0 hF.ck0 (by decide) kw_55 rfl hF.tg2 dX1_kindOf_15 ?_
      refine lv_iload_n hx hb dX1_kindOf_18 rfl (lv_at hl 1 rfl) ?_
      refine g_iald (k := s0) hx hb hK hB hF.lt1 hF.ck1 (by omega) (Nat.lt_of_lt_of_eq (by omega : s0 < 8) (Eq.symm hF.cn1)) hF.bg1 dX1_kindOf_19 ?_
      refine z_top (b := (fp σ f (1 + s0))) ((fp_k σ f hs).symm) ?_
      have hrg := fp_rg hR f (1 + s0)
      exact g_iret hx hb hr hlk hB dX1_kindOf_20 hrg (⟨rfl, rfl, rfl⟩)
    · exact absurd hs (by omega)
set_option maxHeartbeats 4000000 in
set_option maxRecDepth 100000 in
theorem mX1_valueOf (l : Launch) (θ : gT) (hθ : gOK θ) (σ : gS) (z : gZ) (f : Nat) (hF : isF f) (y : Int) (hyr : rg y) : GI l θ yX1_valueOf cX1_valueOf 2 (some .int) 0 0 [.ref (tad θ f), .int (iZ y)] σ z (fun q σ' z' => (q = vc (fp σ f) y) ∧ σ' = σ ∧ z' = z) := by
  refine g_enter (ret := (some .int)) (by decide +kernel) (Nat.le_of_ble_eq_true rfl) ?_
  intro p e s m args below meth c ls F hB hl
  obtain ⟨hx, hb, hr, hml, hown, hts, hlk, hK, hst⟩ := F
  have hR := hB.1.2
  have hl : lv_has ls 2 [(0, .ref (tad θ f)), (1, .int (iZ y))] := hl
  refine lv_iload_n hx hb dX1_valueOf_0 rfl (lv_at hl 1 rfl) ?_
  refine z_if_lt (tgt := 10) hx hb dX1_valueOf_1 (by decide) ⟨by omega, by omega⟩ (fun c_1 => ?_) (fun c_1 => ?_)
  · refine lv_bipush (v := iZ (-9)) hx hb dX1_valueOf_10 (by decide) ?_
    refine lv_goto (tgt := 21) hx hb dX1_valueOf_12 (by decide) ?_
    exact g_iret hx hb hr hlk hB dX1_valueOf_21 ⟨by decide, by decide⟩ (⟨by rw [vc_out (by omega)], rfl, rfl⟩)
  · refine lv_iload_n hx hb dX1_valueOf_4 rfl (lv_at hl 1 rfl) ?_
    refine lv_bipush (v := iZ 8) hx hb dX1_valueOf_5 (by decide) ?_
    refine z_icmp_lt (tgt := 15) hx hb dX1_valueOf_7 (by decide) ⟨by omega, by omega⟩ ⟨by decide, by decide⟩ (fun c_2 => ?_) (fun c_2 => ?_)
    · refine lv_aload_n hx hb dX1_valueOf_15 rfl (lv_at hl 0 rfl) ?_
      refine g_getr (k := 5) (j := (f + 4)) hx hb hts hown hK hθ hB cf1 hF.lt0 hF.ck0 (by decide) kw_59 rfl hF.tg5 dX1_valueOf_16 ?_
      refine lv_iload_n hx hb dX1_valueOf_19 rfl (lv_at hl 1 rfl) ?_
      refine g_iald (k := y.toNat) hx hb hK hB hF.lt4 hF.ck4 (by omega) (Nat.lt_of_lt_of_eq (by omega : y.toNat < 8) (Eq.symm hF.cn4)) hF.bg4 dX1_valueOf_20 ?_
      refine z_top (b := (fp σ f (41 + y.toNat))) ((fp_v σ f (by omega)).symm) ?_
      have hrg := fp_rg hR f (41 + y.toNat)
      exact g_iret hx hb hr hlk hB dX1_valueOf_21 hrg (⟨by rw [vc_in (by omega)], rfl, rfl⟩)
    · refine lv_bipush (v := iZ (-9)) hx hb dX1_valueOf_10 (by decide) ?_
      refine lv_goto (tgt := 21) hx hb dX1_valueOf_12 (by decide) ?_
      exact g_iret hx hb hr hlk hB dX1_valueOf_21 ⟨by decide, by decide⟩ (⟨by rw [vc_out (by omega)], rfl, rfl⟩)
set_option maxHeartbeats 4000000 in
set_option maxRecDepth 100000 in
theorem mX1_heldAtFirst (l : Launch) (θ : gT) (hθ : gOK θ) (σ : gS) (z : gZ) (f : Nat) (hF : isF f) (s0 : Nat) (hs : s0 < 8) : GI l θ yX1_heldAtFirst cX1_heldAtFirst 2 (some .int) 1 22 [.ref (tad θ f), .int (iZ ((s0 : Nat) : Int))] σ z (fun q σ' z' => (q = haC (fp σ f) s0) ∧ σ' = σ ∧ z' = z) := by
  refine g_enter (ret := (some .int)) (by decide +kernel) (Nat.le_of_ble_eq_true rfl) ?_
  intro p e s m args below meth c ls F hB hl
  obtain ⟨hx, hb, hr, hml, hown, hts, hlk, hK, hst⟩ := F
  have hR := hB.1.2
  have hl : lv_has ls 2 [(0, .ref (tad θ f)), (1, .int (iZ ((s0 : Nat) : Int)))] := hl
  refine lv_aload_n hx hb dX1_heldAtFirst_0 rfl (lv_at hl 0 rfl) ?_
  refine lv_iload_n hx hb dX1_heldAtFirst_1 rfl (lv_at hl 1 rfl) ?_
  refine g_calli (g_runV (i := f) (As := [.int (iZ ((s0 : Nat) : Int))]) (rest := []) hx hb hml hown hts hK hst hB (mX1_kindOf l θ hθ σ z f hF s0 (by omega)) mv_X1_kindOf kw_357 cf1 hF.lt0 hF.ck0 rfl hl.1 rfl (Nat.le_of_ble_eq_true rfl) ⟨by decide, by decide⟩ ⟨Nat.le_refl _, Nat.le_refl _⟩ dX1_heldAtFirst_2) hB (fun q_3 σ_1 z_2 H locs hq_3 pq_3 hB => ?_)
  obtain ⟨pq_3, e1_, e2_⟩ := pq_3
  rw [e1_, e2_] at hB
  clear e1_ e2_
  subst pq_3
  rcases (show ((fp σ f (1 + s0)) ≠ 6 ∧ (fp σ f (1 + s0)) ≠ 7) ∨ (fp σ f (1 + s0)) = 6 ∨ (fp σ f (1 + s0)) = 7 by omega) with c_4 | c_4 | c_4
  · refine z_look (off := 37) (tgt := 42) hx hb dX1_heldAtFirst_5 (by decide) ⟨by omega, by omega⟩ (by simp [Op.lookupswitch.offset, c_4, Ne.symm c_4.1, Ne.symm c_4.2]) (by decide) ?_
    have hxk := c_4
    refine lv_iconst (v := iZ 0) hx hb dX1_heldAtFirst_42 rfl ?_
    exact g_iret hx hb hr hlk hB dX1_heldAtFirst_43 ⟨by decide, by decide⟩ (⟨by rw [haC, if_neg hxk.1, if_neg hxk.2], rfl, rfl⟩)
  · refine z_look (off := 27) (tgt := 32) hx hb dX1_heldAtFirst_5 (by decide) ⟨by omega, by omega⟩ (by rw [c_4]; decide) (by decide) ?_
    have hxk := c_4
    refine lv_aload_n hx hb dX1_heldAtFirst_32 rfl (lv_at hl 0 rfl) ?_
    refine lv_iload_n hx hb dX1_heldAtFirst_33 rfl (lv_at hl 1 rfl) ?_
    refine lv_iconst (v := iZ 0) hx hb dX1_heldAtFirst_34 rfl ?_
    refine g_calli (g_runV (i := f) (As := [.int (iZ ((s0 : Nat) : Int)), .int (iZ 0)]) (rest := []) hx hb hml hown hts hK hst hB (mX1_part l θ hθ σ z f hF s0 (by omega) 0 (by omega)) mv_X1_part kw_358 cf1 hF.lt0 hF.ck0 rfl hl.1 rfl (Nat.le_of_ble_eq_true rfl) ⟨by decide, by decide⟩ ⟨Nat.le_refl _, Nat.le_refl _⟩ dX1_heldAtFirst_35) hB (fun q_7 σ_5 z_6 H locs hq_7 pq_7 hB => ?_)
    obtain ⟨pq_7, e1_, e2_⟩ := pq_7
    rw [e1_, e2_] at hB
    clear e1_ e2_
    subst pq_7
    refine z_top (b := (fp σ f (9 + 3 * s0))) (rfl) ?_
    have hq_8 : rg (fp σ f (9 + 3 * s0)) := hq_7
    exact g_iret hx hb hr hlk hB dX1_heldAtFirst_38 ⟨by omega, by omega⟩ (⟨by rw [haC, if_pos hxk], rfl, rfl⟩)
  · refine z_look (off := 34) (tgt := 39) hx hb dX1_heldAtFirst_5 (by decide) ⟨by omega, by omega⟩ (by rw [c_4]; decide) (by decide) ?_
    have hxk := c_4
    refine lv_bipush (v := iZ (-8)) hx hb dX1_heldAtFirst_39 (by decide) ?_
    exact g_iret hx hb hr hlk hB dX1_heldAtFirst_41 ⟨by decide, by decide⟩ (⟨by rw [haC, if_neg (by omega), if_pos hxk], rfl, rfl⟩)
set_option maxHeartbeats 4000000 in
set_option maxRecDepth 100000 in
theorem mX1_restart (l : Launch) (θ : gT) (hθ : gOK θ) (σ : gS) (z : gZ) (f : Nat) (hF : isF f) : GV l θ yX1_restart cX1_restart 2 2 43 [.ref (tad θ f)] σ z (fun σ' z' => (fp σ' f = rsC (fp σ f)) ∧ fr (wF f) σ σ' ∧ z' = z) := by
  refine g_enter (ret := none) (by decide +kernel) (Nat.le_of_ble_eq_true rfl) ?_
  intro p e s m args below meth c ls F hB hl
  obtain ⟨hx, hb, hr, hml, hown, hts, hlk, hK, hst⟩ := F
  have hR := hB.1.2
  have hl : lv_has ls 2 [(0, .ref (tad θ f))] := hl
  refine lv_aload_n hx hb dX1_restart_0 rfl (lv_at hl 0 rfl) ?_
  refine lv_iconst (v := iZ 0) hx hb dX1_restart_1 rfl ?_
  refine g_putI (k := 1) hx hb hts hown hK hθ hB cf1 tyX1 tyX1_ok hF.lt0 hF.ck0 (by decide) kw_53 rfl rfl rfl ⟨by decide, by decide⟩ dX1_restart_2 (fun H locs hB => ?_)
  obtain ⟨σ0, hσ0⟩ : ∃ x_ : gS, x_ = up2 σ f 1 0 := ⟨_, rfl⟩
  rw [← hσ0] at hB
  have hR := hB.1.2
  refine lv_iconst (v := iZ 0) hx hb dX1_restart_5 rfl ?_
  refine lv_istore_n (lv' := [(1, .int (iZ 0)), (0, .ref (tad θ f))]) hx hb dX1_restart_6 rfl hl (by decide) rfl (fun ls hl => ?_)
  have loop7 : ∀ (n7 : Nat) (i : Nat) (σ1 : gS) (H : Heap) (locs : List Loc) (ls : Array Slot), 8 - i < n7 → (i ≤ 8) → (fp σ1 f = rsP (fp σ f) i) → (fr (wF f) σ σ1) →  gB θ σ1 z s.heap H locs → lv_has ls 2 [(1, .int (iZ ((i : Nat) : Int))), (0, .ref (tad θ f))] → W p l e (gRm 2 43) s m args below meth c H locs 0 0 (MQ below (gQv θ (fun σ' z' => (fp σ' f = rsC (fp σ f)) ∧ fr (wF f) σ σ' ∧ z' = z)) args s 0 0 (tA θ)) (F0 m 7 ls []) := by
    intro n7
    induction n7 with
    | zero => intro i σ1 H locs ls hmu; exact absurd hmu (Nat.not_lt_zero _)
    | succ n7 ih7 =>
      intro i σ1 H locs ls hmu hi hg hf hB hl
      have hR := hB.1.2
      have h0 : σ1 f 0 = fp σ f 0 := by rw [← fp_0 σ1 f, hg, rsP_low _ (by omega)]
      have hr0 := fp_rg hB.1.2 f 0
      rw [hg, rsP_low _ (by omega)] at hr0
      refine lv_iload_n hx hb dX1_restart_7 rfl (lv_at hl 0 rfl) ?_
      refine lv_bipush (v := iZ 8) hx hb dX1_restart_8 (by decide) ?_
      refine z_icmp_ge (tgt := 50) hx hb dX1_restart_10 (by decide) ⟨by omega, by omega⟩ ⟨by decide, by decide⟩ (fun c_1 => ?_) (fun c_1 => ?_)
      · exact g_vret hx hb hr hlk hB dX1_restart_50 (⟨by rw [hg, show i = 8 by omega]; rfl, hf, rfl⟩)
      · refine lv_aload_n hx hb dX1_restart_13 rfl (lv_at hl 1 rfl) ?_
        refine g_getr (k := 5) (j := (f + 4)) hx hb hts hown hK hθ hB cf1 hF.lt0 hF.ck0 (by decide) kw_59 rfl hF.tg5 dX1_restart_14 ?_
        refine lv_iload_n hx hb dX1_restart_17 rfl (lv_at hl 0 rfl) ?_
        refine lv_bipush (v := iZ (-9)) hx hb dX1_restart_18 (by decide) ?_
        refine g_iast (k := i) hx hb hK hθ hB hF.lt4 hF.ck4 (by omega) (Nat.lt_of_lt_of_eq (by omega : i < 8) (Eq.symm hF.cn4)) hF.bg4 ⟨by decide, by decide⟩ dX1_restart_20 (fun H locs hB => ?_)
        obtain ⟨σ2, hσ2⟩ : ∃ x_ : gS, x_ = up2 σ1 (f + 4) i (-9) := ⟨_, rfl⟩
        rw [← hσ2] at hB
        have hR := hB.1.2
        refine lv_aload_n hx hb dX1_restart_21 rfl (lv_at hl 1 rfl) ?_
        refine g_getr (k := 4) (j := (f + 3)) hx hb hts hown hK hθ hB cf1 hF.lt0 hF.ck0 (by decide) kw_57 rfl hF.tg4 dX1_restart_22 ?_
        refine lv_iload_n hx hb dX1_restart_25 rfl (lv_at hl 0 rfl) ?_
        refine lv_iload_n hx hb dX1_restart_26 rfl (lv_at hl 0 rfl) ?_
        refine lv_aload_n hx hb dX1_restart_27 rfl (lv_at hl 1 rfl) ?_
        refine g_geti (k := 0) hx hb hts hown hK hB cf1 hF.lt0 hF.ck0 (by decide) kw_49 rfl dX1_restart_28 ?_
        refine z_top (b := (fp σ f 0)) (by rw [hσ2, up2_c _ _ (by omega)]; exact h0) ?_
        refine z_icmp_ge (tgt := 42) hx hb dX1_restart_31 (by decide) ⟨by omega, by omega⟩ ⟨by omega, by omega⟩ (fun c_2 => ?_) (fun c_2 => ?_)
        · refine lv_iconst (v := iZ 0) hx hb dX1_restart_42 rfl ?_
          refine g_iast (k := i) hx hb hK hθ hB hF.lt3 hF.ck3 (by omega) (Nat.lt_of_lt_of_eq (by omega : i < 8) (Eq.symm hF.cn3)) hF.bg3 ⟨by decide, by decide⟩ dX1_restart_43 (fun H locs hB => ?_)
          obtain ⟨σ3, hσ3⟩ : ∃ x_ : gS, x_ = up2 σ2 (f + 3) i 0 := ⟨_, rfl⟩
          rw [← hσ3] at hB
          have hR := hB.1.2
          refine z_iinc (k := 0) (lv' := [(1, .int (iZ (((i : Nat) : Int) + 1))), (0, .ref (tad θ f))]) hx hb dX1_restart_44 hl rfl (by decide) rfl (fun ls hl => ?_)
          have hl : lv_has ls 2 [(1, .int (iZ (((i + 1) : Nat) : Int))), (0, .ref (tad θ f))] := by have e9 : (((i : Nat) : Int) + 1) = (((i + 1) : Nat) : Int) := (by omega); rw [e9] at hl; exact hl
          refine lv_goto (tgt := 7) hx hb dX1_restart_47 (by decide) ?_
          exact ih7 (i + 1) σ3 _ _ _ (by omega) (by omega) (by rw [hσ3, fp_uph _ _ (by omega), hσ2, fp_upv _ _ (by omega), hg, ← rsP_step _ (by omega), hfC, if_neg (by omega)]) (by rw [hσ3, hσ2]; exact (hf.tr (fr.up (by simp [wF]))).tr (fr.up (by simp [wF]))) hB (lv_sub hl [0, 1] rfl)
        · refine lv_aload_n hx hb dX1_restart_34 rfl (lv_at hl 1 rfl) ?_
          refine lv_iload_n hx hb dX1_restart_35 rfl (lv_at hl 0 rfl) ?_
          refine g_calli (g_runV (i := f) (As := [.int (iZ ((i : Nat) : Int))]) (rest := [.int (iZ ((i : Nat) : Int)), .ref (tad θ (f + 3))]) hx hb hml hown hts hK hst hB (mX1_heldAtFirst l θ hθ σ2 z f hF i (by omega)) mv_X1_heldAtFirst kw_353 cf1 hF.lt0 hF.ck0 rfl hl.1 rfl (Nat.le_of_ble_eq_true rfl) ⟨by decide, by decide⟩ ⟨Nat.le_refl _, Nat.le_refl _⟩ dX1_restart_36) hB (fun q_5 σ_3 z_4 H locs hq_5 pq_5 hB => ?_)
          obtain ⟨pq_5, e1_, e2_⟩ := pq_5
          rw [e1_, e2_] at hB
          clear e1_ e2_
          subst pq_5
          have hha : haC (fp σ2 f) i = haC (fp σ f) i := haC_cong (fun k hk => by rw [hσ2, fp_upv _ _ (by omega), upn_ne _ _ (by omega), hg, rsP_low _ hk]) (by omega)
          refine lv_goto (tgt := 43) hx hb dX1_restart_39 (by decide) ?_
          refine g_iast (k := i) hx hb hK hθ hB hF.lt3 hF.ck3 (by omega) (Nat.lt_of_lt_of_eq (by omega : i < 8) (Eq.symm hF.cn3)) hF.bg3 ⟨by omega, by omega⟩ dX1_restart_43 (fun H locs hB => ?_)
          obtain ⟨σ3, hσ3⟩ : ∃ x_ : gS, x_ = up2 σ2 (f + 3) i (haC (fp σ2 f) i) := ⟨_, rfl⟩
          rw [← hσ3] at hB
          have hR := hB.1.2
          refine z_iinc (k := 0) (lv' := [(1, .int (iZ (((i : Nat) : Int) + 1))), (0, .ref (tad θ f))]) hx hb dX1_restart_44 hl rfl (by decide) rfl (fun ls hl => ?_)
          have hl : lv_has ls 2 [(1, .int (iZ (((i + 1) : Nat) : Int))), (0, .ref (tad θ f))] := by have e9 : (((i : Nat) : Int) + 1) = (((i + 1) : Nat) : Int) := (by omega); rw [e9] at hl; exact hl
          refine lv_goto (tgt := 7) hx hb dX1_restart_47 (by decide) ?_
          exact ih7 (i + 1) σ3 _ _ _ (by omega) (by omega) (by rw [hσ3, hha, fp_uph _ _ (by omega), hσ2, fp_upv _ _ (by omega), hg, ← rsP_step _ (by omega), hfC, if_pos (by omega)]) (by rw [hσ3, hσ2]; exact (hf.tr (fr.up (by simp [wF]))).tr (fr.up (by simp [wF]))) hB (lv_sub hl [0, 1] rfl)
  exact loop7 _ 0 σ0 _ _ _ (Nat.lt_succ_self _) (by omega) (by rw [hσ0, fp_upt, rsP_0]) (by rw [hσ0]; exact fr.up (by simp [wF])) hB (lv_sub hl [0, 1] rfl)
set_option maxHeartbeats 4000000 in
set_option maxRecDepth 100000 in
theorem mX1_thereBits (l : Launch) (θ : gT) (hθ : gOK θ) (σ : gS) (z : gZ) (f : Nat) (hF : isF f) : GI l θ yX1_thereBits cX1_thereBits 3 (some .int) 0 0 [.ref (tad θ f)] σ z (fun q σ' z' => (q = ((tbC (fp σ f) 8 : Nat) : Int)) ∧ σ' = σ ∧ z' = z) := by
  refine g_enter (ret := (some .int)) (by decide +kernel) (Nat.le_of_ble_eq_true rfl) ?_
  intro p e s m args below meth c ls F hB hl
  obtain ⟨hx, hb, hr, hml, hown, hts, hlk, hK, hst⟩ := F
  have hR := hB.1.2
  have hl : lv_has ls 3 [(0, .ref (tad θ f))] := hl
  refine lv_iconst (v := iZ 0) hx hb dX1_thereBits_0 rfl ?_
  refine z_top (b := (((tbC (fp σ f) 0) : Nat) : Int)) (rfl) ?_
  refine lv_istore_n (lv' := [(1, .int (iZ (((tbC (fp σ f) 0) : Nat) : Int))), (0, .ref (tad θ f))]) hx hb dX1_thereBits_1 rfl hl (by decide) rfl (fun ls hl => ?_)
  refine lv_iconst (v := iZ 0) hx hb dX1_thereBits_2 rfl ?_
  refine lv_istore_n (lv' := [(2, .int (iZ 0)), (1, .int (iZ (((tbC (fp σ f) 0) : Nat) : Int))), (0, .ref (tad θ f))]) hx hb dX1_thereBits_3 rfl hl (by decide) rfl (fun ls hl => ?_)
  have loop4 : ∀ (n4 : Nat) (i : Nat) (H : Heap) (locs : List Loc) (ls : Array Slot), 8 - i < n4 → (i ≤ 8) →  gB θ σ z s.heap H locs → lv_has ls 3 [(2, .int (iZ ((i : Nat) : Int))), (1, .int (iZ (((tbC (fp σ f) i) : Nat) : Int))), (0, .ref (tad θ f))] → W p l e (gRm 0 0) s m args below meth c H locs 0 0 (MQ below (gQi θ (fun q σ' z' => (q = ((tbC (fp σ f) 8 : Nat) : Int)) ∧ σ' = σ ∧ z' = z)) args s 0 0 (tA θ)) (F0 m 4 ls []) := by
    intro n4
    induction n4 with
    | zero => intro i H locs ls hmu; exact absurd hmu (Nat.not_lt_zero _)
    | succ n4 ih4 =>
      intro i H locs ls hmu hi hB hl
      have hR := hB.1.2
      have htb := tbC_256 (fp σ f) hi
      refine lv_iload_n hx hb dX1_thereBits_4 rfl (lv_at hl 0 rfl) ?_
      refine lv_bipush (v := iZ 8) hx hb dX1_thereBits_5 (by decide) ?_
      refine z_icmp_ge (tgt := 33) hx hb dX1_thereBits_7 (by decide) ⟨by omega, by omega⟩ ⟨by decide, by decide⟩ (fun c_1 => ?_) (fun c_1 => ?_)
      · refine lv_iload_n hx hb dX1_thereBits_33 rfl (lv_at hl 1 rfl) ?_
        exact g_iret hx hb hr hlk hB dX1_thereBits_34 ⟨by omega, by omega⟩ (⟨by rw [show i = 8 by omega], rfl, rfl⟩)
      · refine lv_aload_n hx hb dX1_thereBits_10 rfl (lv_at hl 2 rfl) ?_
        refine g_getr (k := 5) (j := (f + 4)) hx hb hts hown hK hθ hB cf1 hF.lt0 hF.ck0 (by decide) kw_59 rfl hF.tg5 dX1_thereBits_11 ?_
        refine lv_iload_n hx hb dX1_thereBits_14 rfl (lv_at hl 0 rfl) ?_
        refine g_iald (k := i) hx hb hK hB hF.lt4 hF.ck4 (by omega) (Nat.lt_of_lt_of_eq (by omega : i < 8) (Eq.symm hF.cn4)) hF.bg4 dX1_thereBits_15 ?_
        refine z_top (b := (fp σ f (41 + i))) ((fp_v σ f (by omega)).symm) ?_
        have hrv := fp_rg hR f (41 + i)
        refine lv_bipush (v := iZ (-9)) hx hb dX1_thereBits_16 (by decide) ?_
        refine z_icmp_eq (tgt := 27) hx hb dX1_thereBits_18 (by decide) ⟨by omega, by omega⟩ ⟨by decide, by decide⟩ (fun c_2 => ?_) (fun c_2 => ?_)
        · have hth := c_2
          have htn : tbC (fp σ f) (i + 1) = tbC (fp σ f) i := by rw [tbC, if_pos hth]
          have hl : lv_has ls 3 [(2, .int (iZ ((i : Nat) : Int))), (1, .int (iZ (((tbC (fp σ f) (i + 1)) : Nat) : Int))), (0, .ref (tad θ f))] := by rw [← htn] at hl; exact hl
          refine z_iinc (k := 0) (lv' := [(2, .int (iZ (((i : Nat) : Int) + 1))), (1, .int (iZ (((tbC (fp σ f) (i + 1)) : Nat) : Int))), (0, .ref (tad θ f))]) hx hb dX1_thereBits_27 hl rfl (by decide) rfl (fun ls hl => ?_)
          have hl : lv_has ls 3 [(2, .int (iZ (((i + 1) : Nat) : Int))), (1, .int (iZ (((tbC (fp σ f) (i + 1)) : Nat) : Int))), (0, .ref (tad θ f))] := by have e9 : (((i : Nat) : Int) + 1) = (((i + 1) : Nat) : Int) := (by omega); rw [e9] at hl; exact hl
          refine lv_goto (tgt := 4) hx hb dX1_thereBits_30 (by decide) ?_
          exact ih4 (i + 1) _ _ _ (by omega) (by omega) hB (lv_sub hl [0, 1, 2] rfl)
        · have hth := c_2
          refine lv_iload_n hx hb dX1_thereBits_21 rfl (lv_at hl 1 rfl) ?_
          refine lv_iconst (v := iZ 1) hx hb dX1_thereBits_22 rfl ?_
          refine lv_iload_n hx hb dX1_thereBits_23 rfl (lv_at hl 0 rfl) ?_
          refine z_ishl1 (j := i) hx hb (by omega) dX1_thereBits_24 ?_
          refine z_ior (a := (tbC (fp σ f) i)) (b := (2 ^ i)) hx hb dX1_thereBits_25 ?_
          refine z_top (b := (((tbC (fp σ f) (i + 1)) : Nat) : Int)) (by rw [tbC, if_neg hth]) ?_
          refine lv_istore_n (lv' := [(1, .int (iZ (((tbC (fp σ f) (i + 1)) : Nat) : Int))), (2, .int (iZ ((i : Nat) : Int))), (0, .ref (tad θ f))]) hx hb dX1_thereBits_26 rfl hl (by decide) rfl (fun ls hl => ?_)
          refine z_iinc (k := 1) (lv' := [(2, .int (iZ (((i : Nat) : Int) + 1))), (1, .int (iZ (((tbC (fp σ f) (i + 1)) : Nat) : Int))), (0, .ref (tad θ f))]) hx hb dX1_thereBits_27 hl rfl (by decide) rfl (fun ls hl => ?_)
          have hl : lv_has ls 3 [(2, .int (iZ (((i + 1) : Nat) : Int))), (1, .int (iZ (((tbC (fp σ f) (i + 1)) : Nat) : Int))), (0, .ref (tad θ f))] := by have e9 : (((i : Nat) : Int) + 1) = (((i + 1) : Nat) : Int) := (by omega); rw [e9] at hl; exact hl
          refine lv_goto (tgt := 4) hx hb dX1_thereBits_30 (by decide) ?_
          exact ih4 (i + 1) _ _ _ (by omega) (by omega) hB (lv_sub hl [0, 1, 2] rfl)
  exact loop4 _ 0 _ _ _ (Nat.lt_succ_self _) (by omega) hB (lv_sub hl [0, 1, 2] rfl)
set_option maxHeartbeats 4000000 in
set_option maxRecDepth 100000 in
theorem mX1_sumOfThere (l : Launch) (θ : gT) (hθ : gOK θ) (σ : gS) (z : gZ) (f : Nat) (hF : isF f) (hb9 : bC (fp σ f)) : GI l θ yX1_sumOfThere cX1_sumOfThere 3 (some .int) 0 0 [.ref (tad θ f)] σ z (fun q σ' z' => (q = smC (fp σ f) 8) ∧ σ' = σ ∧ z' = z) := by
  refine g_enter (ret := (some .int)) (by decide +kernel) (Nat.le_of_ble_eq_true rfl) ?_
  intro p e s m args below meth c ls F hB hl
  obtain ⟨hx, hb, hr, hml, hown, hts, hlk, hK, hst⟩ := F
  have hR := hB.1.2
  have hl : lv_has ls 3 [(0, .ref (tad θ f))] := hl
  refine lv_iconst (v := iZ 0) hx hb dX1_sumOfThere_0 rfl ?_
  refine z_top (b := (smC (fp σ f) 0)) (rfl) ?_
  refine lv_istore_n (lv' := [(1, .int (iZ (smC (fp σ f) 0))), (0, .ref (tad θ f))]) hx hb dX1_sumOfThere_1 rfl hl (by decide) rfl (fun ls hl => ?_)
  refine lv_iconst (v := iZ 0) hx hb dX1_sumOfThere_2 rfl ?_
  refine lv_istore_n (lv' := [(2, .int (iZ 0)), (1, .int (iZ (smC (fp σ f) 0))), (0, .ref (tad θ f))]) hx hb dX1_sumOfThere_3 rfl hl (by decide) rfl (fun ls hl => ?_)
  have loop4 : ∀ (n4 : Nat) (i : Nat) (H : Heap) (locs : List Loc) (ls : Array Slot), 8 - i < n4 → (i ≤ 8) →  gB θ σ z s.heap H locs → lv_has ls 3 [(2, .int (iZ ((i : Nat) : Int))), (1, .int (iZ (smC (fp σ f) i))), (0, .ref (tad θ f))] → W p l e (gRm 0 0) s m args below meth c H locs 0 0 (MQ below (gQi θ (fun q σ' z' => (q = smC (fp σ f) 8) ∧ σ' = σ ∧ z' = z)) args s 0 0 (tA θ)) (F0 m 4 ls []) := by
    intro n4
    induction n4 with
    | zero => intro i H locs ls hmu; exact absurd hmu (Nat.not_lt_zero _)
    | succ n4 ih4 =>
      intro i H locs ls hmu hi hB hl
      have hR := hB.1.2
      have hsm := smC_in hb9 hi
      refine lv_iload_n hx hb dX1_sumOfThere_4 rfl (lv_at hl 0 rfl) ?_
      refine lv_bipush (v := iZ 8) hx hb dX1_sumOfThere_5 (by decide) ?_
      refine z_icmp_ge (tgt := 53) hx hb dX1_sumOfThere_7 (by decide) ⟨by omega, by omega⟩ ⟨by decide, by decide⟩ (fun c_1 => ?_) (fun c_1 => ?_)
      · refine lv_iload_n hx hb dX1_sumOfThere_53 rfl (lv_at hl 1 rfl) ?_
        exact g_iret hx hb hr hlk hB dX1_sumOfThere_54 ⟨by omega, by omega⟩ (⟨by rw [show i = 8 by omega], rfl, rfl⟩)
      · refine lv_aload_n hx hb dX1_sumOfThere_10 rfl (lv_at hl 2 rfl) ?_
        refine g_getr (k := 5) (j := (f + 4)) hx hb hts hown hK hθ hB cf1 hF.lt0 hF.ck0 (by decide) kw_59 rfl hF.tg5 dX1_sumOfThere_11 ?_
        refine lv_iload_n hx hb dX1_sumOfThere_14 rfl (lv_at hl 0 rfl) ?_
        refine g_iald (k := i) hx hb hK hB hF.lt4 hF.ck4 (by omega) (Nat.lt_of_lt_of_eq (by omega : i < 8) (Eq.symm hF.cn4)) hF.bg4 dX1_sumOfThere_15 ?_
        refine z_top (b := (fp σ f (41 + i))) ((fp_v σ f (by omega)).symm) ?_
        have hrv := fp_rg hR f (41 + i)
        refine lv_bipush (v := iZ (-9)) hx hb dX1_sumOfThere_16 (by decide) ?_
        refine z_icmp_eq (tgt := 47) hx hb dX1_sumOfThere_18 (by decide) ⟨by omega, by omega⟩ ⟨by decide, by decide⟩ (fun c_2 => ?_) (fun c_2 => ?_)
        · have hth := c_2
          have htn : smC (fp σ f) (i + 1) = smC (fp σ f) i := by rw [smC, if_pos hth]; omega
          have hl : lv_has ls 3 [(2, .int (iZ ((i : Nat) : Int))), (1, .int (iZ (smC (fp σ f) (i + 1)))), (0, .ref (tad θ f))] := by rw [← htn] at hl; exact hl
          refine z_iinc (k := 0) (lv' := [(2, .int (iZ (((i : Nat) : Int) + 1))), (1, .int (iZ (smC (fp σ f) (i + 1)))), (0, .ref (tad θ f))]) hx hb dX1_sumOfThere_47 hl rfl (by decide) rfl (fun ls hl => ?_)
          have hl : lv_has ls 3 [(2, .int (iZ (((i + 1) : Nat) : Int))), (1, .int (iZ (smC (fp σ f) (i + 1)))), (0, .ref (tad θ f))] := by have e9 : (((i : Nat) : Int) + 1) = (((i + 1) : Nat) : Int) := (by omega); rw [e9] at hl; exact hl
          refine lv_goto (tgt := 4) hx hb dX1_sumOfThere_50 (by decide) ?_
          exact ih4 (i + 1) _ _ _ (by omega) (by omega) hB (lv_sub hl [0, 1, 2] rfl)
        · have hth := c_2
          refine lv_iload_n hx hb dX1_sumOfThere_21 rfl (lv_at hl 1 rfl) ?_
          refine lv_iconst (v := iZ 1) hx hb dX1_sumOfThere_22 rfl ?_
          refine lv_aload_n hx hb dX1_sumOfThere_23 rfl (lv_at hl 2 rfl) ?_
          refine g_getr (k := 5) (j := (f + 4)) hx hb hts hown hK hθ hB cf1 hF.lt0 hF.ck0 (by decide) kw_59 rfl hF.tg5 dX1_sumOfThere_24 ?_
          refine lv_iload_n hx hb dX1_sumOfThere_27 rfl (lv_at hl 0 rfl) ?_
          refine g_iald (k := i) hx hb hK hB hF.lt4 hF.ck4 (by omega) (Nat.lt_of_lt_of_eq (by omega : i < 8) (Eq.symm hF.cn4)) hF.bg4 dX1_sumOfThere_28 ?_
          refine z_top (b := (fp σ f (41 + i))) ((fp_v σ f (by omega)).symm) ?_
          have hrv := fp_rg hR f (41 + i)
          refine lv_bipush (v := iZ (-8)) hx hb dX1_sumOfThere_29 (by decide) ?_
          refine z_icmp_ne (tgt := 38) hx hb dX1_sumOfThere_31 (by decide) ⟨by omega, by omega⟩ ⟨by decide, by decide⟩ (fun c_3 => ?_) (fun c_3 => ?_)
          · have hnl := c_3
            refine lv_aload_n hx hb dX1_sumOfThere_38 rfl (lv_at hl 2 rfl) ?_
            refine g_getr (k := 5) (j := (f + 4)) hx hb hts hown hK hθ hB cf1 hF.lt0 hF.ck0 (by decide) kw_59 rfl hF.tg5 dX1_sumOfThere_39 ?_
            refine lv_iload_n hx hb dX1_sumOfThere_42 rfl (lv_at hl 0 rfl) ?_
            refine g_iald (k := i) hx hb hK hB hF.lt4 hF.ck4 (by omega) (Nat.lt_of_lt_of_eq (by omega : i < 8) (Eq.symm hF.cn4)) hF.bg4 dX1_sumOfThere_43 ?_
            refine z_top (b := (fp σ f (41 + i))) ((fp_v σ f (by omega)).symm) ?_
            have hrv := fp_rg hR f (41 + i)
            refine z_iadd hx hb dX1_sumOfThere_44 ?_
            refine z_iadd hx hb dX1_sumOfThere_45 ?_
            refine z_top (b := (smC (fp σ f) (i + 1))) (by rw [smC, if_neg hth, if_neg hnl]) ?_
            refine lv_istore_n (lv' := [(1, .int (iZ (smC (fp σ f) (i + 1)))), (2, .int (iZ ((i : Nat) : Int))), (0, .ref (tad θ f))]) hx hb dX1_sumOfThere_46 rfl hl (by decide) rfl (fun ls hl => ?_)
            refine z_iinc (k := 1) (lv' := [(2, .int (iZ (((i : Nat) : Int) + 1))), (1, .int (iZ (smC (fp σ f) (i + 1)))), (0, .ref (tad θ f))]) hx hb dX1_sumOfThere_47 hl rfl (by decide) rfl (fun ls hl => ?_)
            have hl : lv_has ls 3 [(2, .int (iZ (((i + 1) : Nat) : Int))), (1, .int (iZ (smC (fp σ f) (i + 1)))), (0, .ref (tad θ f))] := by have e9 : (((i : Nat) : Int) + 1) = (((i + 1) : Nat) : Int) := (by omega); rw [e9] at hl; exact hl
            refine lv_goto (tgt := 4) hx hb dX1_sumOfThere_50 (by decide) ?_
            exact ih4 (i + 1) _ _ _ (by omega) (by omega) hB (lv_sub hl [0, 1, 2] rfl)
          · have hnl := c_3
            refine lv_iconst (v := iZ 0) hx hb dX1_sumOfThere_34 rfl ?_
            refine lv_goto (tgt := 44) hx hb dX1_sumOfThere_35 (by decide) ?_
            refine z_iadd hx hb dX1_sumOfThere_44 ?_
            refine z_iadd hx hb dX1_sumOfThere_45 ?_
            refine z_top (b := (smC (fp σ f) (i + 1))) (by rw [smC, if_neg hth, if_pos hnl]) ?_
            refine lv_istore_n (lv' := [(1, .int (iZ (smC (fp σ f) (i + 1)))), (2, .int (iZ ((i : Nat) : Int))), (0, .ref (tad θ f))]) hx hb dX1_sumOfThere_46 rfl hl (by decide) rfl (fun ls hl => ?_)
            refine z_iinc (k := 1) (lv' := [(2, .int (iZ (((i : Nat) : Int) + 1))), (1, .int (iZ (smC (fp σ f) (i + 1)))), (0, .ref (tad θ f))]) hx hb dX1_sumOfThere_47 hl rfl (by decide) rfl (fun ls hl => ?_)
            have hl : lv_has ls 3 [(2, .int (iZ (((i + 1) : Nat) : Int))), (1, .int (iZ (smC (fp σ f) (i + 1)))), (0, .ref (tad θ f))] := by have e9 : (((i : Nat) : Int) + 1) = (((i + 1) : Nat) : Int) := (by omega); rw [e9] at hl; exact hl
            refine lv_goto (tgt := 4) hx hb dX1_sumOfThere_50 (by decide) ?_
            exact ih4 (i + 1) _ _ _ (by omega) (by omega) hB (lv_sub hl [0, 1, 2] rfl)
  exact loop4 _ 0 _ _ _ (Nat.lt_succ_self _) (by omega) hB (lv_sub hl [0, 1, 2] rfl)
set_option maxHeartbeats 4000000 in
set_option maxRecDepth 100000 in
theorem mX5_streamOf (l : Launch) (θ : gT) (hθ : gOK θ) (σ : gS) (z : gZ) (y : Int) (hy0 : 0 ≤ y) (hyr : rg y) : GI l θ yX5_streamOf cX5_streamOf 2 (some .int) 0 0 [.int (iZ y)] σ z (fun q σ' z' => (q = spZ (y / 10)) ∧ σ' = σ ∧ z' = z) := by
  refine g_enter (ret := (some .int)) (by decide +kernel) (Nat.le_of_ble_eq_true rfl) ?_
  intro p e s m args below meth c ls F hB hl
  obtain ⟨hx, hb, hr, hml, hown, hts, hlk, hK, hst⟩ := F
  have hR := hB.1.2
  have hl : lv_has ls 2 [(0, .int (iZ y))] := hl
  refine lv_iload_n hx hb dX5_streamOf_0 rfl (lv_at hl 0 rfl) ?_
  refine lv_bipush (v := iZ 10) hx hb dX5_streamOf_1 (by decide) ?_
  refine z_idiv hx hb dX5_streamOf_3 ⟨by omega, by omega⟩ (by omega) ⟨by decide, by decide⟩ (by decide) ?_
  refine lv_istore_n (lv' := [(1, .int (iZ (y / 10))), (0, .int (iZ y))]) hx hb dX5_streamOf_4 rfl hl (by decide) rfl (fun ls hl => ?_)
  refine lv_iload_n hx hb dX5_streamOf_5 rfl (lv_at hl 0 rfl) ?_
  refine z_if_lt (tgt := 15) hx hb dX5_streamOf_6 (by decide) ⟨by omega, by omega⟩ (fun c_1 => ?_) (fun c_1 => ?_)
  · refine lv_iconst (v := iZ 0) hx hb dX5_streamOf_15 rfl ?_
    refine lv_goto (tgt := 20) hx hb dX5_streamOf_16 (by decide) ?_
    exact g_iret hx hb hr hlk hB dX5_streamOf_20 ⟨by decide, by decide⟩ (⟨by rw [spZ, if_pos (by omega)], rfl, rfl⟩)
  · refine lv_iload_n hx hb dX5_streamOf_9 rfl (lv_at hl 0 rfl) ?_
    refine lv_bipush (v := iZ 8) hx hb dX5_streamOf_10 (by decide) ?_
    refine z_icmp_lt (tgt := 19) hx hb dX5_streamOf_12 (by decide) ⟨by omega, by omega⟩ ⟨by decide, by decide⟩ (fun c_2 => ?_) (fun c_2 => ?_)
    · refine lv_iload_n hx hb dX5_streamOf_19 rfl (lv_at hl 0 rfl) ?_
      exact g_iret hx hb hr hlk hB dX5_streamOf_20 ⟨by omega, by omega⟩ (⟨by rw [spZ, if_neg (by omega)], rfl, rfl⟩)
    · refine lv_iconst (v := iZ 0) hx hb dX5_streamOf_15 rfl ?_
      refine lv_goto (tgt := 20) hx hb dX5_streamOf_16 (by decide) ?_
      exact g_iret hx hb hr hlk hB dX5_streamOf_20 ⟨by decide, by decide⟩ (⟨by rw [spZ, if_pos (by omega)], rfl, rfl⟩)
set_option maxHeartbeats 4000000 in
set_option maxRecDepth 100000 in
theorem mX1_isThere (l : Launch) (θ : gT) (hθ : gOK θ) (σ : gS) (z : gZ) (f : Nat) (hF : isF f) (y : Int) (hyr : rg y) : GI l θ yX1_isThere cX1_isThere 3 (some .boolean) 1 21 [.ref (tad θ f), .int (iZ y)] σ z (fun q σ' z' => ((q = 1 ∧ thC (fp σ f) y = true) ∨ (q = 0 ∧ thC (fp σ f) y = false)) ∧ σ' = σ ∧ z' = z) := by
  refine g_enter (ret := (some .boolean)) (by decide +kernel) (Nat.le_of_ble_eq_true rfl) ?_
  intro p e s m args below meth c ls F hB hl
  obtain ⟨hx, hb, hr, hml, hown, hts, hlk, hK, hst⟩ := F
  have hR := hB.1.2
  have hl : lv_has ls 3 [(0, .ref (tad θ f)), (1, .int (iZ y))] := hl
  refine lv_iload_n hx hb dX1_isThere_0 rfl (lv_at hl 1 rfl) ?_
  refine z_if_ge (tgt := 6) hx hb dX1_isThere_1 (by decide) ⟨by omega, by omega⟩ (fun c_1 => ?_) (fun c_1 => ?_)
  · refine lv_aload_n hx hb dX1_isThere_6 rfl (lv_at hl 0 rfl) ?_
    refine lv_iload_n hx hb dX1_isThere_7 rfl (lv_at hl 1 rfl) ?_
    refine g_calli (g_runSN (As := [.int (iZ y)]) (rest := [.ref (tad θ f)]) hx hb hml hown hts hK hst hB (mX5_streamOf l θ hθ σ z y (by omega) (show rg _ from ⟨by omega, by omega⟩)) ms_X5_streamOf hst.2.2.2.2.2.2.2 rfl hl.1 rfl (Nat.le_of_ble_eq_true rfl) ⟨by decide, by decide⟩ ⟨Nat.le_refl _, Nat.le_refl _⟩ dX1_isThere_8) hB (fun q_4 σ_2 z_3 H locs hq_4 pq_4 hB => ?_)
    obtain ⟨pq_4, e1_, e2_⟩ := pq_4
    rw [e1_, e2_] at hB
    clear e1_ e2_
    subst pq_4
    have hsz := spZ_lt (y / 10)
    refine g_calli (g_runV (i := f) (As := [.int (iZ (spZ (y / 10)))]) (rest := []) hx hb hml hown hts hK hst hB (mX1_valueOf l θ hθ σ z f hF (spZ (y / 10)) (show rg _ from ⟨by omega, by omega⟩)) mv_X1_valueOf kw_507 cf1 hF.lt0 hF.ck0 rfl hl.1 rfl (Nat.le_of_ble_eq_true rfl) ⟨by decide, by decide⟩ ⟨Nat.le_refl _, Nat.le_refl _⟩ dX1_isThere_11) hB (fun q_7 σ_5 z_6 H locs hq_7 pq_7 hB => ?_)
    obtain ⟨pq_7, e1_, e2_⟩ := pq_7
    rw [e1_, e2_] at hB
    clear e1_ e2_
    subst pq_7
    refine lv_istore_n (lv' := [(2, .int (iZ (vc (fp σ f) (spZ (y / 10))))), (0, .ref (tad θ f)), (1, .int (iZ y))]) hx hb dX1_isThere_14 rfl hl (by decide) rfl (fun ls hl => ?_)
    refine lv_iload_n hx hb dX1_isThere_15 rfl (lv_at hl 0 rfl) ?_
    refine lv_bipush (v := iZ (-9)) hx hb dX1_isThere_16 (by decide) ?_
    refine z_icmp_eq (tgt := 27) hx hb dX1_isThere_18 (by decide) ⟨by omega, by omega⟩ ⟨by decide, by decide⟩ (fun c_8 => ?_) (fun c_8 => ?_)
    · refine lv_iconst (v := iZ 0) hx hb dX1_isThere_27 rfl ?_
      exact g_zret hx hb hr hlk hB dX1_isThere_28 (by decide) (⟨Or.inr ⟨rfl, decide_eq_false (fun q => by rcases q with q | ⟨q1, q2, q3⟩; omega; omega)⟩, rfl, rfl⟩)
    · refine lv_iload_n hx hb dX1_isThere_21 rfl (lv_at hl 0 rfl) ?_
      refine lv_bipush (v := iZ (-8)) hx hb dX1_isThere_22 (by decide) ?_
      refine z_icmp_ne (tgt := 29) hx hb dX1_isThere_24 (by decide) ⟨by omega, by omega⟩ ⟨by decide, by decide⟩ (fun c_9 => ?_) (fun c_9 => ?_)
      · refine lv_iload_n hx hb dX1_isThere_29 rfl (lv_at hl 0 rfl) ?_
        refine z_if_eq (tgt := 37) hx hb dX1_isThere_30 (by decide) ⟨by omega, by omega⟩ (fun c_10 => ?_) (fun c_10 => ?_)
        · refine lv_iconst (v := iZ 0) hx hb dX1_isThere_37 rfl ?_
          refine lv_iload_n hx hb dX1_isThere_38 rfl (lv_at hl 2 rfl) ?_
          refine lv_bipush (v := iZ 10) hx hb dX1_isThere_39 (by decide) ?_
          refine z_irem hx hb dX1_isThere_41 ⟨by omega, by omega⟩ (by omega) ⟨by decide, by decide⟩ (by decide) ?_
          refine lv_iconst (v := iZ 1) hx hb dX1_isThere_42 rfl ?_
          refine z_icmp_ne (tgt := 50) hx hb dX1_isThere_43 (by decide) ⟨by omega, by omega⟩ ⟨by decide, by decide⟩ (fun c_11 => ?_) (fun c_11 => ?_)
          · refine lv_iconst (v := iZ 0) hx hb dX1_isThere_50 rfl ?_
            refine z_icmp_ne (tgt := 58) hx hb dX1_isThere_51 (by decide) ⟨by decide, by decide⟩ ⟨by decide, by decide⟩ (fun c_12 => ?_) (fun c_12 => ?_)
            · exact absurd (by decide) c_12
            · refine lv_iconst (v := iZ 1) hx hb dX1_isThere_54 rfl ?_
              refine lv_goto (tgt := 59) hx hb dX1_isThere_55 (by decide) ?_
              exact g_zret hx hb hr hlk hB dX1_isThere_59 (by decide) (⟨Or.inl ⟨rfl, decide_eq_true (Or.inr ⟨by omega, by omega, by omega⟩)⟩, rfl, rfl⟩)
          · refine lv_iconst (v := iZ 1) hx hb dX1_isThere_46 rfl ?_
            refine lv_goto (tgt := 51) hx hb dX1_isThere_47 (by decide) ?_
            refine z_icmp_ne (tgt := 58) hx hb dX1_isThere_51 (by decide) ⟨by decide, by decide⟩ ⟨by decide, by decide⟩ (fun c_13 => ?_) (fun c_13 => ?_)
            · refine lv_iconst (v := iZ 0) hx hb dX1_isThere_58 rfl ?_
              exact g_zret hx hb hr hlk hB dX1_isThere_59 (by decide) (⟨Or.inr ⟨rfl, decide_eq_false (fun q => by rcases q with q | ⟨q1, q2, q3⟩; omega; omega)⟩, rfl, rfl⟩)
            · exact absurd c_13 (by decide)
        · refine lv_iconst (v := iZ 1) hx hb dX1_isThere_33 rfl ?_
          refine lv_goto (tgt := 38) hx hb dX1_isThere_34 (by decide) ?_
          refine lv_iload_n hx hb dX1_isThere_38 rfl (lv_at hl 2 rfl) ?_
          refine lv_bipush (v := iZ 10) hx hb dX1_isThere_39 (by decide) ?_
          refine z_irem hx hb dX1_isThere_41 ⟨by omega, by omega⟩ (by omega) ⟨by decide, by decide⟩ (by decide) ?_
          refine lv_iconst (v := iZ 1) hx hb dX1_isThere_42 rfl ?_
          refine z_icmp_ne (tgt := 50) hx hb dX1_isThere_43 (by decide) ⟨by omega, by omega⟩ ⟨by decide, by decide⟩ (fun c_14 => ?_) (fun c_14 => ?_)
          · refine lv_iconst (v := iZ 0) hx hb dX1_isThere_50 rfl ?_
            refine z_icmp_ne (tgt := 58) hx hb dX1_isThere_51 (by decide) ⟨by decide, by decide⟩ ⟨by decide, by decide⟩ (fun c_15 => ?_) (fun c_15 => ?_)
            · refine lv_iconst (v := iZ 0) hx hb dX1_isThere_58 rfl ?_
              exact g_zret hx hb hr hlk hB dX1_isThere_59 (by decide) (⟨Or.inr ⟨rfl, decide_eq_false (fun q => by rcases q with q | ⟨q1, q2, q3⟩; omega; omega)⟩, rfl, rfl⟩)
            · exact absurd c_15 (by decide)
          · refine lv_iconst (v := iZ 1) hx hb dX1_isThere_46 rfl ?_
            refine lv_goto (tgt := 51) hx hb dX1_isThere_47 (by decide) ?_
            refine z_icmp_ne (tgt := 58) hx hb dX1_isThere_51 (by decide) ⟨by decide, by decide⟩ ⟨by decide, by decide⟩ (fun c_16 => ?_) (fun c_16 => ?_)
            · exact absurd (by decide) c_16
            · refine lv_iconst (v := iZ 1) hx hb dX1_isThere_54 rfl ?_
              refine lv_goto (tgt := 59) hx hb dX1_isThere_55 (by decide) ?_
              exact g_zret hx hb hr hlk hB dX1_isThere_59 (by decide) (⟨Or.inl ⟨rfl, decide_eq_true (Or.inr ⟨by omega, by omega, by omega⟩)⟩, rfl, rfl⟩)
      · refine lv_iconst (v := iZ 0) hx hb dX1_isThere_27 rfl ?_
        exact g_zret hx hb hr hlk hB dX1_isThere_28 (by decide) (⟨Or.inr ⟨rfl, decide_eq_false (fun q => by rcases q with q | ⟨q1, q2, q3⟩; omega; omega)⟩, rfl, rfl⟩)
  · refine lv_iconst (v := iZ 1) hx hb dX1_isThere_4 rfl ?_
    exact g_zret hx hb hr hlk hB dX1_isThere_5 (by decide) (⟨Or.inl ⟨rfl, decide_eq_true (Or.inl (by omega))⟩, rfl, rfl⟩)
set_option maxHeartbeats 4000000 in
set_option maxRecDepth 100000 in
theorem mX1_combine (l : Launch) (θ : gT) (hθ : gOK θ) (σ : gS) (z : gZ) (f : Nat) (hF : isF f) (K x9 y : Int) (hKr : rg K) (hxr : -100 ≤ x9 ∧ x9 ≤ 100) (hyr : -100 ≤ y ∧ y ≤ 100) : GI l θ yX1_combine cX1_combine 4 (some .int) 0 0 [.ref (tad θ f), .int (iZ K), .int (iZ x9), .int (iZ y)] σ z (fun q σ' z' => (q = cmb K x9 y) ∧ σ' = σ ∧ z' = z) := by
  refine g_enter (ret := (some .int)) (by decide +kernel) (Nat.le_of_ble_eq_true rfl) ?_
  intro p e s m args below meth c ls F hB hl
  obtain ⟨hx, hb, hr, hml, hown, hts, hlk, hK, hst⟩ := F
  have hR := hB.1.2
  have hl : lv_has ls 4 [(0, .ref (tad θ f)), (1, .int (iZ K)), (2, .int (iZ x9)), (3, .int (iZ y))] := hl
  refine lv_iload_n hx hb dX1_combine_0 rfl (lv_at hl 2 rfl) ?_
  refine lv_bipush (v := iZ (-8)) hx hb dX1_combine_1 (by decide) ?_
  refine z_icmp_eq (tgt := 12) hx hb dX1_combine_3 (by decide) ⟨by omega, by omega⟩ ⟨by decide, by decide⟩ (fun c_1 => ?_) (fun c_1 => ?_)
  · refine lv_bipush (v := iZ (-8)) hx hb dX1_combine_12 (by decide) ?_
    exact g_iret hx hb hr hlk hB dX1_combine_14 ⟨by decide, by decide⟩ (⟨by rw [cmb, if_pos (by omega)], rfl, rfl⟩)
  · refine lv_iload_n hx hb dX1_combine_6 rfl (lv_at hl 3 rfl) ?_
    refine lv_bipush (v := iZ (-8)) hx hb dX1_combine_7 (by decide) ?_
    refine z_icmp_ne (tgt := 15) hx hb dX1_combine_9 (by decide) ⟨by omega, by omega⟩ ⟨by decide, by decide⟩ (fun c_2 => ?_) (fun c_2 => ?_)
    · refine lv_iload_n hx hb dX1_combine_15 rfl (lv_at hl 1 rfl) ?_
      rcases (show (K ≠ 2 ∧ K ≠ 3) ∨ K = 2 ∨ K = 3 by omega) with c_3 | c_3 | c_3
      · refine z_look (off := 45) (tgt := 61) hx hb dX1_combine_16 (by decide) ⟨by omega, by omega⟩ (by simp [Op.lookupswitch.offset, c_3, Ne.symm c_3.1, Ne.symm c_3.2]) (by decide) ?_
        have hxk := c_3
        refine lv_iload_n hx hb dX1_combine_61 rfl (lv_at hl 2 rfl) ?_
        refine lv_iload_n hx hb dX1_combine_62 rfl (lv_at hl 3 rfl) ?_
        refine z_icmp_ge (tgt := 70) hx hb dX1_combine_63 (by decide) ⟨by omega, by omega⟩ ⟨by omega, by omega⟩ (fun c_4 => ?_) (fun c_4 => ?_)
        · refine lv_iconst (v := iZ 0) hx hb dX1_combine_70 rfl ?_
          exact g_iret hx hb hr hlk hB dX1_combine_71 ⟨by decide, by decide⟩ (⟨by rw [cmb, if_neg (by omega), if_neg hxk.1, if_neg hxk.2, if_neg (by omega)], rfl, rfl⟩)
        · refine lv_iconst (v := iZ 1) hx hb dX1_combine_66 rfl ?_
          refine lv_goto (tgt := 71) hx hb dX1_combine_67 (by decide) ?_
          exact g_iret hx hb hr hlk hB dX1_combine_71 ⟨by decide, by decide⟩ (⟨by rw [cmb, if_neg (by omega), if_neg hxk.1, if_neg hxk.2, if_pos (by omega)], rfl, rfl⟩)
      · refine z_look (off := 28) (tgt := 44) hx hb dX1_combine_16 (by decide) ⟨by omega, by omega⟩ (by rw [c_3]; decide) (by decide) ?_
        have hxk := c_3
        refine lv_iload_n hx hb dX1_combine_44 rfl (lv_at hl 2 rfl) ?_
        refine lv_iload_n hx hb dX1_combine_45 rfl (lv_at hl 3 rfl) ?_
        refine z_iadd hx hb dX1_combine_46 ?_
        refine lv_bipush (v := iZ 100) hx hb dX1_combine_47 (by decide) ?_
        refine z_iremT hx hb dX1_combine_49 ⟨by omega, by omega⟩ ⟨by decide, by decide⟩ (by decide) ?_
        have ht_5 := tmod_in (x9 + y)
        exact g_iret hx hb hr hlk hB dX1_combine_50 ⟨by omega, by omega⟩ (⟨by rw [cmb, if_neg (by omega), if_pos hxk], rfl, rfl⟩)
      · refine z_look (off := 35) (tgt := 51) hx hb dX1_combine_16 (by decide) ⟨by omega, by omega⟩ (by rw [c_3]; decide) (by decide) ?_
        have hxk := c_3
        refine lv_iload_n hx hb dX1_combine_51 rfl (lv_at hl 2 rfl) ?_
        refine lv_iload_n hx hb dX1_combine_52 rfl (lv_at hl 3 rfl) ?_
        refine z_isub hx hb dX1_combine_53 ?_
        refine lv_bipush (v := iZ 100) hx hb dX1_combine_54 (by decide) ?_
        refine z_iadd hx hb dX1_combine_56 ?_
        refine lv_bipush (v := iZ 100) hx hb dX1_combine_57 (by decide) ?_
        refine z_iremT hx hb dX1_combine_59 ⟨by omega, by omega⟩ ⟨by decide, by decide⟩ (by decide) ?_
        have ht_6 := tmod_in ((x9 - y) + 100)
        exact g_iret hx hb hr hlk hB dX1_combine_60 ⟨by omega, by omega⟩ (⟨by rw [cmb, if_neg (by omega), if_neg (by omega), if_pos hxk], rfl, rfl⟩)
    · refine lv_bipush (v := iZ (-8)) hx hb dX1_combine_12 (by decide) ?_
      exact g_iret hx hb hr hlk hB dX1_combine_14 ⟨by decide, by decide⟩ (⟨by rw [cmb, if_pos (by omega)], rfl, rfl⟩)
set_option maxHeartbeats 4000000 in
set_option maxRecDepth 100000 in
theorem mX1_choose (l : Launch) (θ : gT) (hθ : gOK θ) (σ : gS) (z : gZ) (f : Nat) (hF : isF f) (v y n : Int) (hvr : rg v) (hyr : rg y) (hnr : rg n) : GI l θ yX1_choose cX1_choose 4 (some .int) 1 21 [.ref (tad θ f), .int (iZ v), .int (iZ y), .int (iZ n)] σ z (fun q σ' z' => (q = chC (fp σ f) v y n) ∧ σ' = σ ∧ z' = z) := by
  refine g_enter (ret := (some .int)) (by decide +kernel) (Nat.le_of_ble_eq_true rfl) ?_
  intro p e s m args below meth c ls F hB hl
  obtain ⟨hx, hb, hr, hml, hown, hts, hlk, hK, hst⟩ := F
  have hR := hB.1.2
  have hl : lv_has ls 4 [(0, .ref (tad θ f)), (1, .int (iZ v)), (2, .int (iZ y)), (3, .int (iZ n))] := hl
  refine lv_iload_n hx hb dX1_choose_0 rfl (lv_at hl 1 rfl) ?_
  refine lv_bipush (v := iZ (-8)) hx hb dX1_choose_1 (by decide) ?_
  refine z_icmp_ne (tgt := 9) hx hb dX1_choose_3 (by decide) ⟨by omega, by omega⟩ ⟨by decide, by decide⟩ (fun c_1 => ?_) (fun c_1 => ?_)
  · refine lv_aload_n hx hb dX1_choose_9 rfl (lv_at hl 0 rfl) ?_
    refine lv_iload_n hx hb dX1_choose_10 rfl (lv_at hl 1 rfl) ?_
    refine z_if_eq (tgt := 18) hx hb dX1_choose_11 (by decide) ⟨by omega, by omega⟩ (fun c_2 => ?_) (fun c_2 => ?_)
    · refine lv_iload_n hx hb dX1_choose_18 rfl (lv_at hl 3 rfl) ?_
      refine g_calli (g_runV (i := f) (As := [.int (iZ n)]) (rest := []) hx hb hml hown hts hK hst hB (mX1_valueOf l θ hθ σ z f hF n (show rg _ from ⟨by omega, by omega⟩)) mv_X1_valueOf kw_507 cf1 hF.lt0 hF.ck0 rfl hl.1 rfl (Nat.le_of_ble_eq_true rfl) ⟨by decide, by decide⟩ ⟨Nat.le_refl _, Nat.le_refl _⟩ dX1_choose_19) hB (fun q_5 σ_3 z_4 H locs hq_5 pq_5 hB => ?_)
      obtain ⟨pq_5, e1_, e2_⟩ := pq_5
      rw [e1_, e2_] at hB
      clear e1_ e2_
      subst pq_5
      exact g_iret hx hb hr hlk hB dX1_choose_22 ⟨by omega, by omega⟩ (⟨by rw [chC, if_neg (by omega), if_pos (by omega)], rfl, rfl⟩)
    · refine lv_iload_n hx hb dX1_choose_14 rfl (lv_at hl 2 rfl) ?_
      refine lv_goto (tgt := 19) hx hb dX1_choose_15 (by decide) ?_
      refine g_calli (g_runV (i := f) (As := [.int (iZ y)]) (rest := []) hx hb hml hown hts hK hst hB (mX1_valueOf l θ hθ σ z f hF y (show rg _ from ⟨by omega, by omega⟩)) mv_X1_valueOf kw_507 cf1 hF.lt0 hF.ck0 rfl hl.1 rfl (Nat.le_of_ble_eq_true rfl) ⟨by decide, by decide⟩ ⟨Nat.le_refl _, Nat.le_refl _⟩ dX1_choose_19) hB (fun q_8 σ_6 z_7 H locs hq_8 pq_8 hB => ?_)
      obtain ⟨pq_8, e1_, e2_⟩ := pq_8
      rw [e1_, e2_] at hB
      clear e1_ e2_
      subst pq_8
      exact g_iret hx hb hr hlk hB dX1_choose_22 ⟨by omega, by omega⟩ (⟨by rw [chC, if_neg (by omega), if_neg (by omega)], rfl, rfl⟩)
  · refine lv_bipush (v := iZ (-8)) hx hb dX1_choose_6 (by decide) ?_
    exact g_iret hx hb hr hlk hB dX1_choose_8 ⟨by decide, by decide⟩ (⟨by rw [chC, if_pos (by omega)], rfl, rfl⟩)
set_option maxHeartbeats 4000000 in
set_option maxRecDepth 100000 in
theorem mX1_heldNext (l : Launch) (θ : gT) (hθ : gOK θ) (σ : gS) (z : gZ) (f : Nat) (hF : isF f) (s0 : Nat) (hs : s0 < 8) : GI l θ yX1_heldNext cX1_heldNext 2 (some .int) 1 22 [.ref (tad θ f), .int (iZ ((s0 : Nat) : Int))] σ z (fun q σ' z' => (q = knC (fp σ f) s0) ∧ σ' = σ ∧ z' = z) := by
  refine g_enter (ret := (some .int)) (by decide +kernel) (Nat.le_of_ble_eq_true rfl) ?_
  intro p e s m args below meth c ls F hB hl
  obtain ⟨hx, hb, hr, hml, hown, hts, hlk, hK, hst⟩ := F
  have hR := hB.1.2
  have hl : lv_has ls 2 [(0, .ref (tad θ f)), (1, .int (iZ ((s0 : Nat) : Int)))] := hl
  refine lv_aload_n hx hb dX1_heldNext_0 rfl (lv_at hl 0 rfl) ?_
  refine lv_iload_n hx hb dX1_heldNext_1 rfl (lv_at hl 1 rfl) ?_
  refine g_calli (g_runV (i := f) (As := [.int (iZ ((s0 : Nat) : Int))]) (rest := []) hx hb hml hown hts hK hst hB (mX1_kindOf l θ hθ σ z f hF s0 (by omega)) mv_X1_kindOf kw_357 cf1 hF.lt0 hF.ck0 rfl hl.1 rfl (Nat.le_of_ble_eq_true rfl) ⟨by decide, by decide⟩ ⟨Nat.le_refl _, Nat.le_refl _⟩ dX1_heldNext_2) hB (fun q_3 σ_1 z_2 H locs hq_3 pq_3 hB => ?_)
  obtain ⟨pq_3, e1_, e2_⟩ := pq_3
  rw [e1_, e2_] at hB
  clear e1_ e2_
  subst pq_3
  rcases (show ((fp σ f (1 + s0)) < 6 ∨ 8 < (fp σ f (1 + s0))) ∨ (fp σ f (1 + s0)) = 6 ∨ (fp σ f (1 + s0)) = 7 ∨ (fp σ f (1 + s0)) = 8 by omega) with c_4 | c_4 | c_4 | c_4
  · refine z_tabOut (tgt := 56) hx hb dX1_heldNext_5 ⟨by omega, by omega⟩ c_4 (by decide) ?_
    have hxk := c_4
    refine lv_iconst (v := iZ 0) hx hb dX1_heldNext_56 rfl ?_
    exact g_iret hx hb hr hlk hB dX1_heldNext_57 ⟨by decide, by decide⟩ (⟨by rw [knC, if_neg (by omega), if_neg (by omega), if_neg (by omega)], rfl, rfl⟩)
  · refine z_tabIn (v := 6) (off := 27) (tgt := 32) hx hb dX1_heldNext_5 c_4 ⟨by decide, by decide⟩ (by decide) (by decide) rfl (by decide) ?_
    have hxk := c_4
    refine lv_aload_n hx hb dX1_heldNext_32 rfl (lv_at hl 0 rfl) ?_
    refine lv_aload_n hx hb dX1_heldNext_33 rfl (lv_at hl 0 rfl) ?_
    refine lv_iload_n hx hb dX1_heldNext_34 rfl (lv_at hl 1 rfl) ?_
    refine lv_iconst (v := iZ 1) hx hb dX1_heldNext_35 rfl ?_
    refine g_calli (g_runV (i := f) (As := [.int (iZ ((s0 : Nat) : Int)), .int (iZ 1)]) (rest := [.ref (tad θ f)]) hx hb hml hown hts hK hst hB (mX1_part l θ hθ σ z f hF s0 (by omega) 1 (by omega)) mv_X1_part kw_358 cf1 hF.lt0 hF.ck0 rfl hl.1 rfl (Nat.le_of_ble_eq_true rfl) ⟨by decide, by decide⟩ ⟨Nat.le_refl _, Nat.le_refl _⟩ dX1_heldNext_36) hB (fun q_7 σ_5 z_6 H locs hq_7 pq_7 hB => ?_)
    obtain ⟨pq_7, e1_, e2_⟩ := pq_7
    rw [e1_, e2_] at hB
    clear e1_ e2_
    subst pq_7
    refine g_calli (g_runV (i := f) (As := [.int (iZ (fp σ f (9 + 3 * s0 + 1)))]) (rest := []) hx hb hml hown hts hK hst hB (mX1_valueOf l θ hθ σ z f hF (fp σ f (9 + 3 * s0 + 1)) (show rg _ from ⟨by omega, by omega⟩)) mv_X1_valueOf kw_507 cf1 hF.lt0 hF.ck0 rfl hl.1 rfl (Nat.le_of_ble_eq_true rfl) ⟨by decide, by decide⟩ ⟨Nat.le_refl _, Nat.le_refl _⟩ dX1_heldNext_39) hB (fun q_10 σ_8 z_9 H locs hq_10 pq_10 hB => ?_)
    obtain ⟨pq_10, e1_, e2_⟩ := pq_10
    rw [e1_, e2_] at hB
    clear e1_ e2_
    subst pq_10
    exact g_iret hx hb hr hlk hB dX1_heldNext_42 ⟨by omega, by omega⟩ (⟨by rw [knC, if_pos hxk], rfl, rfl⟩)
  · refine z_tabIn (v := 7) (off := 38) (tgt := 43) hx hb dX1_heldNext_5 c_4 ⟨by decide, by decide⟩ (by decide) (by decide) rfl (by decide) ?_
    have hxk := c_4
    refine lv_aload_n hx hb dX1_heldNext_43 rfl (lv_at hl 0 rfl) ?_
    refine lv_aload_n hx hb dX1_heldNext_44 rfl (lv_at hl 0 rfl) ?_
    refine lv_iload_n hx hb dX1_heldNext_45 rfl (lv_at hl 1 rfl) ?_
    refine lv_iconst (v := iZ 0) hx hb dX1_heldNext_46 rfl ?_
    refine g_calli (g_runV (i := f) (As := [.int (iZ ((s0 : Nat) : Int)), .int (iZ 0)]) (rest := [.ref (tad θ f)]) hx hb hml hown hts hK hst hB (mX1_part l θ hθ σ z f hF s0 (by omega) 0 (by omega)) mv_X1_part kw_358 cf1 hF.lt0 hF.ck0 rfl hl.1 rfl (Nat.le_of_ble_eq_true rfl) ⟨by decide, by decide⟩ ⟨Nat.le_refl _, Nat.le_refl _⟩ dX1_heldNext_47) hB (fun q_13 σ_11 z_12 H locs hq_13 pq_13 hB => ?_)
    obtain ⟨pq_13, e1_, e2_⟩ := pq_13
    rw [e1_, e2_] at hB
    clear e1_ e2_
    subst pq_13
    refine z_top (b := (fp σ f (9 + 3 * s0))) (rfl) ?_
    have hq_14 : rg (fp σ f (9 + 3 * s0)) := hq_13
    refine g_calli (g_runV (i := f) (As := [.int (iZ (fp σ f (9 + 3 * s0)))]) (rest := []) hx hb hml hown hts hK hst hB (mX1_valueOf l θ hθ σ z f hF (fp σ f (9 + 3 * s0)) (show rg _ from ⟨by omega, by omega⟩)) mv_X1_valueOf kw_507 cf1 hF.lt0 hF.ck0 rfl hl.1 rfl (Nat.le_of_ble_eq_true rfl) ⟨by decide, by decide⟩ ⟨Nat.le_refl _, Nat.le_refl _⟩ dX1_heldNext_50) hB (fun q_17 σ_15 z_16 H locs hq_17 pq_17 hB => ?_)
    obtain ⟨pq_17, e1_, e2_⟩ := pq_17
    rw [e1_, e2_] at hB
    clear e1_ e2_
    subst pq_17
    exact g_iret hx hb hr hlk hB dX1_heldNext_53 ⟨by omega, by omega⟩ (⟨by rw [knC, if_neg (by omega), if_pos hxk], rfl, rfl⟩)
  · refine z_tabIn (v := 8) (off := 49) (tgt := 54) hx hb dX1_heldNext_5 c_4 ⟨by decide, by decide⟩ (by decide) (by decide) rfl (by decide) ?_
    have hxk := c_4
    refine lv_iconst (v := iZ 1) hx hb dX1_heldNext_54 rfl ?_
    exact g_iret hx hb hr hlk hB dX1_heldNext_55 ⟨by decide, by decide⟩ (⟨by rw [knC, if_neg (by omega), if_neg (by omega), if_pos hxk], rfl, rfl⟩)
set_option maxHeartbeats 4000000 in
set_option maxRecDepth 100000 in
theorem mX1_reckon (l : Launch) (θ : gT) (hθ : gOK θ) (σ : gS) (z : gZ) (f : Nat) (hF : isF f) (hb9 : bC (fp σ f)) (s0 : Nat) (hs : s0 < 8) (hsn : (s0 : Int) < fp σ f 0) (a0 b0 : Int) (ha : 0 ≤ a0 ∧ a0 ≤ 99) (hb0 : 0 ≤ b0 ∧ b0 ≤ 99) : GI l θ yX1_reckon cX1_reckon 6 (some .int) 2 44 [.ref (tad θ f), .int (iZ ((s0 : Nat) : Int)), .int (iZ a0), .int (iZ b0)] σ z (fun q σ' z' => (q = rkC (fp σ f) s0 a0 b0) ∧ σ' = σ ∧ z' = z) := by
  refine g_enter (ret := (some .int)) (by decide +kernel) (Nat.le_of_ble_eq_true rfl) ?_
  intro p e s m args below meth c ls F hB hl
  obtain ⟨hx, hb, hr, hml, hown, hts, hlk, hK, hst⟩ := F
  have hR := hB.1.2
  have hl : lv_has ls 6 [(0, .ref (tad θ f)), (1, .int (iZ ((s0 : Nat) : Int))), (2, .int (iZ a0)), (3, .int (iZ b0))] := hl
  have hv1 := hb9.wv (fp σ f (9 + 3 * s0))
  have hv2 := hb9.wv (fp σ f (9 + 3 * s0 + 1))
  refine lv_aload_n hx hb dX1_reckon_0 rfl (lv_at hl 0 rfl) ?_
  refine lv_iload_n hx hb dX1_reckon_1 rfl (lv_at hl 1 rfl) ?_
  refine lv_iconst (v := iZ 0) hx hb dX1_reckon_2 rfl ?_
  refine g_calli (g_runV (i := f) (As := [.int (iZ ((s0 : Nat) : Int)), .int (iZ 0)]) (rest := []) hx hb hml hown hts hK hst hB (mX1_part l θ hθ σ z f hF s0 (by omega) 0 (by omega)) mv_X1_part kw_358 cf1 hF.lt0 hF.ck0 rfl hl.1 rfl (Nat.le_of_ble_eq_true rfl) ⟨by decide, by decide⟩ ⟨Nat.le_refl _, Nat.le_refl _⟩ dX1_reckon_3) hB (fun q_3 σ_1 z_2 H locs hq_3 pq_3 hB => ?_)
  obtain ⟨pq_3, e1_, e2_⟩ := pq_3
  rw [e1_, e2_] at hB
  clear e1_ e2_
  subst pq_3
  refine z_top (b := (fp σ f (9 + 3 * s0))) (rfl) ?_
  have hq_4 : rg (fp σ f (9 + 3 * s0)) := hq_3
  refine lv_istore (lv' := [(4, .int (iZ (fp σ f (9 + 3 * s0)))), (0, .ref (tad θ f)), (1, .int (iZ ((s0 : Nat) : Int))), (2, .int (iZ a0)), (3, .int (iZ b0))]) hx hb dX1_reckon_6 hl (by decide) rfl (fun ls hl => ?_)
  refine lv_aload_n hx hb dX1_reckon_8 rfl (lv_at hl 1 rfl) ?_
  refine lv_iload_n hx hb dX1_reckon_9 rfl (lv_at hl 2 rfl) ?_
  refine lv_iconst (v := iZ 1) hx hb dX1_reckon_10 rfl ?_
  refine g_calli (g_runV (i := f) (As := [.int (iZ ((s0 : Nat) : Int)), .int (iZ 1)]) (rest := []) hx hb hml hown hts hK hst hB (mX1_part l θ hθ σ z f hF s0 (by omega) 1 (by omega)) mv_X1_part kw_358 cf1 hF.lt0 hF.ck0 rfl hl.1 rfl (Nat.le_of_ble_eq_true rfl) ⟨by decide, by decide⟩ ⟨Nat.le_refl _, Nat.le_refl _⟩ dX1_reckon_11) hB (fun q_7 σ_5 z_6 H locs hq_7 pq_7 hB => ?_)
  obtain ⟨pq_7, e1_, e2_⟩ := pq_7
  rw [e1_, e2_] at hB
  clear e1_ e2_
  subst pq_7
  refine lv_istore (lv' := [(5, .int (iZ (fp σ f (9 + 3 * s0 + 1)))), (4, .int (iZ (fp σ f (9 + 3 * s0)))), (0, .ref (tad θ f)), (1, .int (iZ ((s0 : Nat) : Int))), (2, .int (iZ a0)), (3, .int (iZ b0))]) hx hb dX1_reckon_14 hl (by decide) rfl (fun ls hl => ?_)
  refine lv_aload_n hx hb dX1_reckon_16 rfl (lv_at hl 2 rfl) ?_
  refine lv_iload_n hx hb dX1_reckon_17 rfl (lv_at hl 3 rfl) ?_
  refine g_calli (g_runV (i := f) (As := [.int (iZ ((s0 : Nat) : Int))]) (rest := []) hx hb hml hown hts hK hst hB (mX1_kindOf l θ hθ σ z f hF s0 (by omega)) mv_X1_kindOf kw_357 cf1 hF.lt0 hF.ck0 rfl hl.1 rfl (Nat.le_of_ble_eq_true rfl) ⟨by decide, by decide⟩ ⟨Nat.le_refl _, Nat.le_refl _⟩ dX1_reckon_18) hB (fun q_10 σ_8 z_9 H locs hq_10 pq_10 hB => ?_)
  obtain ⟨pq_10, e1_, e2_⟩ := pq_10
  rw [e1_, e2_] at hB
  clear e1_ e2_
  subst pq_10
  rcases (show ((fp σ f (1 + s0)) < 0 ∨ 11 < (fp σ f (1 + s0))) ∨ (fp σ f (1 + s0)) = 0 ∨ (fp σ f (1 + s0)) = 1 ∨ (fp σ f (1 + s0)) = 2 ∨ (fp σ f (1 + s0)) = 3 ∨ (fp σ f (1 + s0)) = 4 ∨ (fp σ f (1 + s0)) = 5 ∨ (fp σ f (1 + s0)) = 6 ∨ (fp σ f (1 + s0)) = 7 ∨ (fp σ f (1 + s0)) = 8 ∨ (fp σ f (1 + s0)) = 9 ∨ (fp σ f (1 + s0)) = 10 ∨ (fp σ f (1 + s0)) = 11 by omega) with c_11 | c_11 | c_11 | c_11 | c_11 | c_11 | c_11 | c_11 | c_11 | c_11 | c_11 | c_11 | c_11
  · refine z_tabOut (tgt := 167) hx hb dX1_reckon_21 ⟨by omega, by omega⟩ c_11 (by decide) ?_
    have hxk := c_11
    refine lv_aload_n hx hb dX1_reckon_167 rfl (lv_at hl 2 rfl) ?_
    refine lv_iload hx hb dX1_reckon_168 (lv_at hl 1 rfl) ?_
    refine g_calli (g_runV (i := f) (As := [.int (iZ (fp σ f (9 + 3 * s0)))]) (rest := []) hx hb hml hown hts hK hst hB (mX1_valueOf l θ hθ σ z f hF (fp σ f (9 + 3 * s0)) (show rg _ from ⟨by omega, by omega⟩)) mv_X1_valueOf kw_507 cf1 hF.lt0 hF.ck0 rfl hl.1 rfl (Nat.le_of_ble_eq_true rfl) ⟨by decide, by decide⟩ ⟨Nat.le_refl _, Nat.le_refl _⟩ dX1_reckon_170) hB (fun q_14 σ_12 z_13 H locs hq_14 pq_14 hB => ?_)
    obtain ⟨pq_14, e1_, e2_⟩ := pq_14
    rw [e1_, e2_] at hB
    clear e1_ e2_
    subst pq_14
    exact g_iret hx hb hr hlk hB dX1_reckon_173 ⟨by omega, by omega⟩ (⟨by rw [rkC, if_neg (by omega), if_neg (by omega), if_neg (by omega), if_neg (by omega), if_neg (by omega), if_neg (by omega)], rfl, rfl⟩)
  · refine z_tabIn (v := 0) (off := 63) (tgt := 84) hx hb dX1_reckon_21 c_11 ⟨by decide, by decide⟩ (by decide) (by decide) rfl (by decide) ?_
    have hxk := c_11
    refine lv_iload hx hb dX1_reckon_84 (lv_at hl 1 rfl) ?_
    refine z_if_ne (tgt := 93) hx hb dX1_reckon_86 (by decide) ⟨by omega, by omega⟩ (fun c_15 => ?_) (fun c_15 => ?_)
    · refine lv_iload_n hx hb dX1_reckon_93 rfl (lv_at hl 5 rfl) ?_
      exact g_iret hx hb hr hlk hB dX1_reckon_94 ⟨by omega, by omega⟩ (⟨by rw [rkC, if_pos (by omega), if_neg (by omega)], rfl, rfl⟩)
    · refine lv_iload_n hx hb dX1_reckon_89 rfl (lv_at hl 4 rfl) ?_
      refine lv_goto (tgt := 94) hx hb dX1_reckon_90 (by decide) ?_
      exact g_iret hx hb hr hlk hB dX1_reckon_94 ⟨by omega, by omega⟩ (⟨by rw [rkC, if_pos (by omega), if_pos (by omega)], rfl, rfl⟩)
  · refine z_tabIn (v := 1) (off := 74) (tgt := 95) hx hb dX1_reckon_21 c_11 ⟨by decide, by decide⟩ (by decide) (by decide) rfl (by decide) ?_
    have hxk := c_11
    refine lv_iload hx hb dX1_reckon_95 (lv_at hl 1 rfl) ?_
    exact g_iret hx hb hr hlk hB dX1_reckon_97 ⟨by omega, by omega⟩ (⟨by rw [rkC, if_neg (by omega), if_pos (by omega)], rfl, rfl⟩)
  · refine z_tabIn (v := 2) (off := 77) (tgt := 98) hx hb dX1_reckon_21 c_11 ⟨by decide, by decide⟩ (by decide) (by decide) rfl (by decide) ?_
    have hxk := c_11
    refine lv_aload_n hx hb dX1_reckon_98 rfl (lv_at hl 2 rfl) ?_
    refine lv_aload_n hx hb dX1_reckon_99 rfl (lv_at hl 2 rfl) ?_
    refine lv_iload_n hx hb dX1_reckon_100 rfl (lv_at hl 3 rfl) ?_
    refine g_calli (g_runV (i := f) (As := [.int (iZ ((s0 : Nat) : Int))]) (rest := [.ref (tad θ f)]) hx hb hml hown hts hK hst hB (mX1_kindOf l θ hθ σ z f hF s0 (by omega)) mv_X1_kindOf kw_357 cf1 hF.lt0 hF.ck0 rfl hl.1 rfl (Nat.le_of_ble_eq_true rfl) ⟨by decide, by decide⟩ ⟨Nat.le_refl _, Nat.le_refl _⟩ dX1_reckon_101) hB (fun q_18 σ_16 z_17 H locs hq_18 pq_18 hB => ?_)
    obtain ⟨pq_18, e1_, e2_⟩ := pq_18
    rw [e1_, e2_] at hB
    clear e1_ e2_
    subst pq_18
    refine lv_aload_n hx hb dX1_reckon_104 rfl (lv_at hl 2 rfl) ?_
    refine lv_iload hx hb dX1_reckon_105 (lv_at hl 1 rfl) ?_
    refine g_calli (g_runV (i := f) (As := [.int (iZ (fp σ f (9 + 3 * s0)))]) (rest := [.int (iZ (fp σ f (1 + s0))), .ref (tad θ f)]) hx hb hml hown hts hK hst hB (mX1_valueOf l θ hθ σ z f hF (fp σ f (9 + 3 * s0)) (show rg _ from ⟨by omega, by omega⟩)) mv_X1_valueOf kw_507 cf1 hF.lt0 hF.ck0 rfl hl.1 rfl (Nat.le_of_ble_eq_true rfl) ⟨by decide, by decide⟩ ⟨Nat.le_refl _, Nat.le_refl _⟩ dX1_reckon_107) hB (fun q_21 σ_19 z_20 H locs hq_21 pq_21 hB => ?_)
    obtain ⟨pq_21, e1_, e2_⟩ := pq_21
    rw [e1_, e2_] at hB
    clear e1_ e2_
    subst pq_21
    refine lv_aload_n hx hb dX1_reckon_110 rfl (lv_at hl 2 rfl) ?_
    refine lv_iload hx hb dX1_reckon_111 (lv_at hl 0 rfl) ?_
    refine g_calli (g_runV (i := f) (As := [.int (iZ (fp σ f (9 + 3 * s0 + 1)))]) (rest := [.int (iZ (vc (fp σ f) (fp σ f (9 + 3 * s0)))), .int (iZ (fp σ f (1 + s0))), .ref (tad θ f)]) hx hb hml hown hts hK hst hB (mX1_valueOf l θ hθ σ z f hF (fp σ f (9 + 3 * s0 + 1)) (show rg _ from ⟨by omega, by omega⟩)) mv_X1_valueOf kw_507 cf1 hF.lt0 hF.ck0 rfl hl.1 rfl (Nat.le_of_ble_eq_true rfl) ⟨by decide, by decide⟩ ⟨Nat.le_refl _, Nat.le_refl _⟩ dX1_reckon_113) hB (fun q_24 σ_22 z_23 H locs hq_24 pq_24 hB => ?_)
    obtain ⟨pq_24, e1_, e2_⟩ := pq_24
    rw [e1_, e2_] at hB
    clear e1_ e2_
    subst pq_24
    refine g_calli (g_runV (i := f) (As := [.int (iZ (fp σ f (1 + s0))), .int (iZ (vc (fp σ f) (fp σ f (9 + 3 * s0)))), .int (iZ (vc (fp σ f) (fp σ f (9 + 3 * s0 + 1))))]) (rest := []) hx hb hml hown hts hK hst hB (mX1_combine l θ hθ σ z f hF (fp σ f (1 + s0)) (vc (fp σ f) (fp σ f (9 + 3 * s0))) (vc (fp σ f) (fp σ f (9 + 3 * s0 + 1))) ⟨by omega, by omega⟩ (by omega) (by omega)) mv_X1_combine kw_512 cf1 hF.lt0 hF.ck0 rfl hl.1 rfl (Nat.le_of_ble_eq_true rfl) ⟨by decide, by decide⟩ ⟨Nat.le_refl _, Nat.le_refl _⟩ dX1_reckon_116) hB (fun q_27 σ_25 z_26 H locs hq_27 pq_27 hB => ?_)
    obtain ⟨pq_27, e1_, e2_⟩ := pq_27
    rw [e1_, e2_] at hB
    clear e1_ e2_
    subst pq_27
    exact g_iret hx hb hr hlk hB dX1_reckon_119 ⟨by omega, by omega⟩ (⟨by rw [rkC, if_neg (by omega), if_neg (by omega), if_pos (by omega)], rfl, rfl⟩)
  · refine z_tabIn (v := 3) (off := 77) (tgt := 98) hx hb dX1_reckon_21 c_11 ⟨by decide, by decide⟩ (by decide) (by decide) rfl (by decide) ?_
    have hxk := c_11
    refine lv_aload_n hx hb dX1_reckon_98 rfl (lv_at hl 2 rfl) ?_
    refine lv_aload_n hx hb dX1_reckon_99 rfl (lv_at hl 2 rfl) ?_
    refine lv_iload_n hx hb dX1_reckon_100 rfl (lv_at hl 3 rfl) ?_
    refine g_calli (g_runV (i := f) (As := [.int (iZ ((s0 : Nat) : Int))]) (rest := [.ref (tad θ f)]) hx hb hml hown hts hK hst hB (mX1_kindOf l θ hθ σ z f hF s0 (by omega)) mv_X1_kindOf kw_357 cf1 hF.lt0 hF.ck0 rfl hl.1 rfl (Nat.le_of_ble_eq_true rfl) ⟨by decide, by decide⟩ ⟨Nat.le_refl _, Nat.le_refl _⟩ dX1_reckon_101) hB (fun q_30 σ_28 z_29 H locs hq_30 pq_30 hB => ?_)
    obtain ⟨pq_30, e1_, e2_⟩ := pq_30
    rw [e1_, e2_] at hB
    clear e1_ e2_
    subst pq_30
    refine lv_aload_n hx hb dX1_reckon_104 rfl (lv_at hl 2 rfl) ?_
    refine lv_iload hx hb dX1_reckon_105 (lv_at hl 1 rfl) ?_
    refine g_calli (g_runV (i := f) (As := [.int (iZ (fp σ f (9 + 3 * s0)))]) (rest := [.int (iZ (fp σ f (1 + s0))), .ref (tad θ f)]) hx hb hml hown hts hK hst hB (mX1_valueOf l θ hθ σ z f hF (fp σ f (9 + 3 * s0)) (show rg _ from ⟨by omega, by omega⟩)) mv_X1_valueOf kw_507 cf1 hF.lt0 hF.ck0 rfl hl.1 rfl (Nat.le_of_ble_eq_true rfl) ⟨by decide, by decide⟩ ⟨Nat.le_refl _, Nat.le_refl _⟩ dX1_reckon_107) hB (fun q_33 σ_31 z_32 H locs hq_33 pq_33 hB => ?_)
    obtain ⟨pq_33, e1_, e2_⟩ := pq_33
    rw [e1_, e2_] at hB
    clear e1_ e2_
    subst pq_33
    refine lv_aload_n hx hb dX1_reckon_110 rfl (lv_at hl 2 rfl) ?_
    refine lv_iload hx hb dX1_reckon_111 (lv_at hl 0 rfl) ?_
    refine g_calli (g_runV (i := f) (As := [.int (iZ (fp σ f (9 + 3 * s0 + 1)))]) (rest := [.int (iZ (vc (fp σ f) (fp σ f (9 + 3 * s0)))), .int (iZ (fp σ f (1 + s0))), .ref (tad θ f)]) hx hb hml hown hts hK hst hB (mX1_valueOf l θ hθ σ z f hF (fp σ f (9 + 3 * s0 + 1)) (show rg _ from ⟨by omega, by omega⟩)) mv_X1_valueOf kw_507 cf1 hF.lt0 hF.ck0 rfl hl.1 rfl (Nat.le_of_ble_eq_true rfl) ⟨by decide, by decide⟩ ⟨Nat.le_refl _, Nat.le_refl _⟩ dX1_reckon_113) hB (fun q_36 σ_34 z_35 H locs hq_36 pq_36 hB => ?_)
    obtain ⟨pq_36, e1_, e2_⟩ := pq_36
    rw [e1_, e2_] at hB
    clear e1_ e2_
    subst pq_36
    refine g_calli (g_runV (i := f) (As := [.int (iZ (fp σ f (1 + s0))), .int (iZ (vc (fp σ f) (fp σ f (9 + 3 * s0)))), .int (iZ (vc (fp σ f) (fp σ f (9 + 3 * s0 + 1))))]) (rest := []) hx hb hml hown hts hK hst hB (mX1_combine l θ hθ σ z f hF (fp σ f (1 + s0)) (vc (fp σ f) (fp σ f (9 + 3 * s0))) (vc (fp σ f) (fp σ f (9 + 3 * s0 + 1))) ⟨by omega, by omega⟩ (by omega) (by omega)) mv_X1_combine kw_512 cf1 hF.lt0 hF.ck0 rfl hl.1 rfl (Nat.le_of_ble_eq_true rfl) ⟨by decide, by decide⟩ ⟨Nat.le_refl _, Nat.le_refl _⟩ dX1_reckon_116) hB (fun q_39 σ_37 z_38 H locs hq_39 pq_39 hB => ?_)
    obtain ⟨pq_39, e1_, e2_⟩ := pq_39
    rw [e1_, e2_] at hB
    clear e1_ e2_
    subst pq_39
    exact g_iret hx hb hr hlk hB dX1_reckon_119 ⟨by omega, by omega⟩ (⟨by rw [rkC, if_neg (by omega), if_neg (by omega), if_pos (by omega)], rfl, rfl⟩)
  · refine z_tabIn (v := 4) (off := 77) (tgt := 98) hx hb dX1_reckon_21 c_11 ⟨by decide, by decide⟩ (by decide) (by decide) rfl (by decide) ?_
    have hxk := c_11
    refine lv_aload_n hx hb dX1_reckon_98 rfl (lv_at hl 2 rfl) ?_
    refine lv_aload_n hx hb dX1_reckon_99 rfl (lv_at hl 2 rfl) ?_
    refine lv_iload_n hx hb dX1_reckon_100 rfl (lv_at hl 3 rfl) ?_
    refine g_calli (g_runV (i := f) (As := [.int (iZ ((s0 : Nat) : Int))]) (rest := [.ref (tad θ f)]) hx hb hml hown hts hK hst hB (mX1_kindOf l θ hθ σ z f hF s0 (by omega)) mv_X1_kindOf kw_357 cf1 hF.lt0 hF.ck0 rfl hl.1 rfl (Nat.le_of_ble_eq_true rfl) ⟨by decide, by decide⟩ ⟨Nat.le_refl _, Nat.le_refl _⟩ dX1_reckon_101) hB (fun q_42 σ_40 z_41 H locs hq_42 pq_42 hB => ?_)
    obtain ⟨pq_42, e1_, e2_⟩ := pq_42
    rw [e1_, e2_] at hB
    clear e1_ e2_
    subst pq_42
    refine lv_aload_n hx hb dX1_reckon_104 rfl (lv_at hl 2 rfl) ?_
    refine lv_iload hx hb dX1_reckon_105 (lv_at hl 1 rfl) ?_
    refine g_calli (g_runV (i := f) (As := [.int (iZ (fp σ f (9 + 3 * s0)))]) (rest := [.int (iZ (fp σ f (1 + s0))), .ref (tad θ f)]) hx hb hml hown hts hK hst hB (mX1_valueOf l θ hθ σ z f hF (fp σ f (9 + 3 * s0)) (show rg _ from ⟨by omega, by omega⟩)) mv_X1_valueOf kw_507 cf1 hF.lt0 hF.ck0 rfl hl.1 rfl (Nat.le_of_ble_eq_true rfl) ⟨by decide, by decide⟩ ⟨Nat.le_refl _, Nat.le_refl _⟩ dX1_reckon_107) hB (fun q_45 σ_43 z_44 H locs hq_45 pq_45 hB => ?_)
    obtain ⟨pq_45, e1_, e2_⟩ := pq_45
    rw [e1_, e2_] at hB
    clear e1_ e2_
    subst pq_45
    refine lv_aload_n hx hb dX1_reckon_110 rfl (lv_at hl 2 rfl) ?_
    refine lv_iload hx hb dX1_reckon_111 (lv_at hl 0 rfl) ?_
    refine g_calli (g_runV (i := f) (As := [.int (iZ (fp σ f (9 + 3 * s0 + 1)))]) (rest := [.int (iZ (vc (fp σ f) (fp σ f (9 + 3 * s0)))), .int (iZ (fp σ f (1 + s0))), .ref (tad θ f)]) hx hb hml hown hts hK hst hB (mX1_valueOf l θ hθ σ z f hF (fp σ f (9 + 3 * s0 + 1)) (show rg _ from ⟨by omega, by omega⟩)) mv_X1_valueOf kw_507 cf1 hF.lt0 hF.ck0 rfl hl.1 rfl (Nat.le_of_ble_eq_true rfl) ⟨by decide, by decide⟩ ⟨Nat.le_refl _, Nat.le_refl _⟩ dX1_reckon_113) hB (fun q_48 σ_46 z_47 H locs hq_48 pq_48 hB => ?_)
    obtain ⟨pq_48, e1_, e2_⟩ := pq_48
    rw [e1_, e2_] at hB
    clear e1_ e2_
    subst pq_48
    refine g_calli (g_runV (i := f) (As := [.int (iZ (fp σ f (1 + s0))), .int (iZ (vc (fp σ f) (fp σ f (9 + 3 * s0)))), .int (iZ (vc (fp σ f) (fp σ f (9 + 3 * s0 + 1))))]) (rest := []) hx hb hml hown hts hK hst hB (mX1_combine l θ hθ σ z f hF (fp σ f (1 + s0)) (vc (fp σ f) (fp σ f (9 + 3 * s0))) (vc (fp σ f) (fp σ f (9 + 3 * s0 + 1))) ⟨by omega, by omega⟩ (by omega) (by omega)) mv_X1_combine kw_512 cf1 hF.lt0 hF.ck0 rfl hl.1 rfl (Nat.le_of_ble_eq_true rfl) ⟨by decide, by decide⟩ ⟨Nat.le_refl _, Nat.le_refl _⟩ dX1_reckon_116) hB (fun q_51 σ_49 z_50 H locs hq_51 pq_51 hB => ?_)
    obtain ⟨pq_51, e1_, e2_⟩ := pq_51
    rw [e1_, e2_] at hB
    clear e1_ e2_
    subst pq_51
    exact g_iret hx hb hr hlk hB dX1_reckon_119 ⟨by omega, by omega⟩ (⟨by rw [rkC, if_neg (by omega), if_neg (by omega), if_pos (by omega)], rfl, rfl⟩)
  · refine z_tabIn (v := 5) (off := 99) (tgt := 120) hx hb dX1_reckon_21 c_11 ⟨by decide, by decide⟩ (by decide) (by decide) rfl (by decide) ?_
    have hxk := c_11
    refine lv_aload_n hx hb dX1_reckon_120 rfl (lv_at hl 2 rfl) ?_
    refine lv_aload_n hx hb dX1_reckon_121 rfl (lv_at hl 2 rfl) ?_
    refine lv_iload hx hb dX1_reckon_122 (lv_at hl 1 rfl) ?_
    refine g_calli (g_runV (i := f) (As := [.int (iZ (fp σ f (9 + 3 * s0)))]) (rest := [.ref (tad θ f)]) hx hb hml hown hts hK hst hB (mX1_valueOf l θ hθ σ z f hF (fp σ f (9 + 3 * s0)) (show rg _ from ⟨by omega, by omega⟩)) mv_X1_valueOf kw_507 cf1 hF.lt0 hF.ck0 rfl hl.1 rfl (Nat.le_of_ble_eq_true rfl) ⟨by decide, by decide⟩ ⟨Nat.le_refl _, Nat.le_refl _⟩ dX1_reckon_124) hB (fun q_54 σ_52 z_53 H locs hq_54 pq_54 hB => ?_)
    obtain ⟨pq_54, e1_, e2_⟩ := pq_54
    rw [e1_, e2_] at hB
    clear e1_ e2_
    subst pq_54
    refine lv_iload hx hb dX1_reckon_127 (lv_at hl 0 rfl) ?_
    refine lv_aload_n hx hb dX1_reckon_129 rfl (lv_at hl 2 rfl) ?_
    refine lv_iload_n hx hb dX1_reckon_130 rfl (lv_at hl 3 rfl) ?_
    refine lv_iconst (v := iZ 2) hx hb dX1_reckon_131 rfl ?_
    refine g_calli (g_runV (i := f) (As := [.int (iZ ((s0 : Nat) : Int)), .int (iZ 2)]) (rest := [.int (iZ (fp σ f (9 + 3 * s0 + 1))), .int (iZ (vc (fp σ f) (fp σ f (9 + 3 * s0)))), .ref (tad θ f)]) hx hb hml hown hts hK hst hB (mX1_part l θ hθ σ z f hF s0 (by omega) 2 (by omega)) mv_X1_part kw_358 cf1 hF.lt0 hF.ck0 rfl hl.1 rfl (Nat.le_of_ble_eq_true rfl) ⟨by decide, by decide⟩ ⟨Nat.le_refl _, Nat.le_refl _⟩ dX1_reckon_132) hB (fun q_57 σ_55 z_56 H locs hq_57 pq_57 hB => ?_)
    obtain ⟨pq_57, e1_, e2_⟩ := pq_57
    rw [e1_, e2_] at hB
    clear e1_ e2_
    subst pq_57
    refine g_calli (g_runV (i := f) (As := [.int (iZ (vc (fp σ f) (fp σ f (9 + 3 * s0)))), .int (iZ (fp σ f (9 + 3 * s0 + 1))), .int (iZ (fp σ f (9 + 3 * s0 + 2)))]) (rest := []) hx hb hml hown hts hK hst hB (mX1_choose l θ hθ σ z f hF (vc (fp σ f) (fp σ f (9 + 3 * s0))) (fp σ f (9 + 3 * s0 + 1)) (fp σ f (9 + 3 * s0 + 2)) ⟨by omega, by omega⟩ ⟨by omega, by omega⟩ ⟨by omega, by omega⟩) mv_X1_choose kw_516 cf1 hF.lt0 hF.ck0 rfl hl.1 rfl (Nat.le_of_ble_eq_true rfl) ⟨by decide, by decide⟩ ⟨Nat.le_refl _, Nat.le_refl _⟩ dX1_reckon_135) hB (fun q_60 σ_58 z_59 H locs hq_60 pq_60 hB => ?_)
    obtain ⟨pq_60, e1_, e2_⟩ := pq_60
    rw [e1_, e2_] at hB
    clear e1_ e2_
    subst pq_60
    exact g_iret hx hb hr hlk hB dX1_reckon_138 ⟨by omega, by omega⟩ (⟨by rw [rkC, if_neg (by omega), if_neg (by omega), if_neg (by omega), if_pos (by omega)], rfl, rfl⟩)
  · refine z_tabIn (v := 6) (off := 118) (tgt := 139) hx hb dX1_reckon_21 c_11 ⟨by decide, by decide⟩ (by decide) (by decide) rfl (by decide) ?_
    have hxk := c_11
    refine lv_aload_n hx hb dX1_reckon_139 rfl (lv_at hl 2 rfl) ?_
    refine g_getr (k := 4) (j := (f + 3)) hx hb hts hown hK hθ hB cf1 hF.lt0 hF.ck0 (by decide) kw_57 rfl hF.tg4 dX1_reckon_140 ?_
    refine lv_iload_n hx hb dX1_reckon_143 rfl (lv_at hl 3 rfl) ?_
    refine g_iald (k := s0) hx hb hK hB hF.lt3 hF.ck3 (by omega) (Nat.lt_of_lt_of_eq (by omega : s0 < 8) (Eq.symm hF.cn3)) hF.bg3 dX1_reckon_144 ?_
    refine z_top (b := (fp σ f (33 + s0))) ((fp_h σ f hs).symm) ?_
    have hrh := fp_rg hR f (33 + s0)
    exact g_iret hx hb hr hlk hB dX1_reckon_145 ⟨by omega, by omega⟩ (⟨by rw [rkC, if_neg (by omega), if_neg (by omega), if_neg (by omega), if_neg (by omega), if_pos (by omega)], rfl, rfl⟩)
  · refine z_tabIn (v := 7) (off := 118) (tgt := 139) hx hb dX1_reckon_21 c_11 ⟨by decide, by decide⟩ (by decide) (by decide) rfl (by decide) ?_
    have hxk := c_11
    refine lv_aload_n hx hb dX1_reckon_139 rfl (lv_at hl 2 rfl) ?_
    refine g_getr (k := 4) (j := (f + 3)) hx hb hts hown hK hθ hB cf1 hF.lt0 hF.ck0 (by decide) kw_57 rfl hF.tg4 dX1_reckon_140 ?_
    refine lv_iload_n hx hb dX1_reckon_143 rfl (lv_at hl 3 rfl) ?_
    refine g_iald (k := s0) hx hb hK hB hF.lt3 hF.ck3 (by omega) (Nat.lt_of_lt_of_eq (by omega : s0 < 8) (Eq.symm hF.cn3)) hF.bg3 dX1_reckon_144 ?_
    refine z_top (b := (fp σ f (33 + s0))) ((fp_h σ f hs).symm) ?_
    have hrh := fp_rg hR f (33 + s0)
    exact g_iret hx hb hr hlk hB dX1_reckon_145 ⟨by omega, by omega⟩ (⟨by rw [rkC, if_neg (by omega), if_neg (by omega), if_neg (by omega), if_neg (by omega), if_pos (by omega)], rfl, rfl⟩)
  · refine z_tabIn (v := 8) (off := 125) (tgt := 146) hx hb dX1_reckon_21 c_11 ⟨by decide, by decide⟩ (by decide) (by decide) rfl (by decide) ?_
    have hxk := c_11
    refine lv_aload_n hx hb dX1_reckon_146 rfl (lv_at hl 2 rfl) ?_
    refine lv_aload_n hx hb dX1_reckon_147 rfl (lv_at hl 2 rfl) ?_
    refine g_getr (k := 4) (j := (f + 3)) hx hb hts hown hK hθ hB cf1 hF.lt0 hF.ck0 (by decide) kw_57 rfl hF.tg4 dX1_reckon_148 ?_
    refine lv_iload_n hx hb dX1_reckon_151 rfl (lv_at hl 3 rfl) ?_
    refine g_iald (k := s0) hx hb hK hB hF.lt3 hF.ck3 (by omega) (Nat.lt_of_lt_of_eq (by omega : s0 < 8) (Eq.symm hF.cn3)) hF.bg3 dX1_reckon_152 ?_
    refine z_top (b := (fp σ f (33 + s0))) ((fp_h σ f hs).symm) ?_
    have hrh := fp_rg hR f (33 + s0)
    refine z_if_ne (tgt := 161) hx hb dX1_reckon_153 (by decide) ⟨by omega, by omega⟩ (fun c_61 => ?_) (fun c_61 => ?_)
    · refine lv_iload hx hb dX1_reckon_161 (lv_at hl 0 rfl) ?_
      refine g_calli (g_runV (i := f) (As := [.int (iZ (fp σ f (9 + 3 * s0 + 1)))]) (rest := []) hx hb hml hown hts hK hst hB (mX1_valueOf l θ hθ σ z f hF (fp σ f (9 + 3 * s0 + 1)) (show rg _ from ⟨by omega, by omega⟩)) mv_X1_valueOf kw_507 cf1 hF.lt0 hF.ck0 rfl hl.1 rfl (Nat.le_of_ble_eq_true rfl) ⟨by decide, by decide⟩ ⟨Nat.le_refl _, Nat.le_refl _⟩ dX1_reckon_163) hB (fun q_64 σ_62 z_63 H locs hq_64 pq_64 hB => ?_)
      obtain ⟨pq_64, e1_, e2_⟩ := pq_64
      rw [e1_, e2_] at hB
      clear e1_ e2_
      subst pq_64
      exact g_iret hx hb hr hlk hB dX1_reckon_166 ⟨by omega, by omega⟩ (⟨by rw [rkC, if_neg (by omega), if_neg (by omega), if_neg (by omega), if_neg (by omega), if_neg (by omega), if_pos (by omega), if_neg (by omega)], rfl, rfl⟩)
    · refine lv_iload hx hb dX1_reckon_156 (lv_at hl 1 rfl) ?_
      refine lv_goto (tgt := 163) hx hb dX1_reckon_158 (by decide) ?_
      refine g_calli (g_runV (i := f) (As := [.int (iZ (fp σ f (9 + 3 * s0)))]) (rest := []) hx hb hml hown hts hK hst hB (mX1_valueOf l θ hθ σ z f hF (fp σ f (9 + 3 * s0)) (show rg _ from ⟨by omega, by omega⟩)) mv_X1_valueOf kw_507 cf1 hF.lt0 hF.ck0 rfl hl.1 rfl (Nat.le_of_ble_eq_true rfl) ⟨by decide, by decide⟩ ⟨Nat.le_refl _, Nat.le_refl _⟩ dX1_reckon_163) hB (fun q_67 σ_65 z_66 H locs hq_67 pq_67 hB => ?_)
      obtain ⟨pq_67, e1_, e2_⟩ := pq_67
      rw [e1_, e2_] at hB
      clear e1_ e2_
      subst pq_67
      exact g_iret hx hb hr hlk hB dX1_reckon_166 ⟨by omega, by omega⟩ (⟨by rw [rkC, if_neg (by omega), if_neg (by omega), if_neg (by omega), if_neg (by omega), if_neg (by omega), if_pos (by omega), if_pos (by omega)], rfl, rfl⟩)
  · refine z_tabIn (v := 9) (off := 146) (tgt := 167) hx hb dX1_reckon_21 c_11 ⟨by decide, by decide⟩ (by decide) (by decide) rfl (by decide) ?_
    have hxk := c_11
    refine lv_aload_n hx hb dX1_reckon_167 rfl (lv_at hl 2 rfl) ?_
    refine lv_iload hx hb dX1_reckon_168 (lv_at hl 1 rfl) ?_
    refine g_calli (g_runV (i := f) (As := [.int (iZ (fp σ f (9 + 3 * s0)))]) (rest := []) hx hb hml hown hts hK hst hB (mX1_valueOf l θ hθ σ z f hF (fp σ f (9 + 3 * s0)) (show rg _ from ⟨by omega, by omega⟩)) mv_X1_valueOf kw_507 cf1 hF.lt0 hF.ck0 rfl hl.1 rfl (Nat.le_of_ble_eq_true rfl) ⟨by decide, by decide⟩ ⟨Nat.le_refl _, Nat.le_refl _⟩ dX1_reckon_170) hB (fun q_70 σ_68 z_69 H locs hq_70 pq_70 hB => ?_)
    obtain ⟨pq_70, e1_, e2_⟩ := pq_70
    rw [e1_, e2_] at hB
    clear e1_ e2_
    subst pq_70
    exact g_iret hx hb hr hlk hB dX1_reckon_173 ⟨by omega, by omega⟩ (⟨by rw [rkC, if_neg (by omega), if_neg (by omega), if_neg (by omega), if_neg (by omega), if_neg (by omega), if_neg (by omega)], rfl, rfl⟩)
  · refine z_tabIn (v := 10) (off := 146) (tgt := 167) hx hb dX1_reckon_21 c_11 ⟨by decide, by decide⟩ (by decide) (by decide) rfl (by decide) ?_
    have hxk := c_11
    refine lv_aload_n hx hb dX1_reckon_167 rfl (lv_at hl 2 rfl) ?_
    refine lv_iload hx hb dX1_reckon_168 (lv_at hl 1 rfl) ?_
    refine g_calli (g_runV (i := f) (As := [.int (iZ (fp σ f (9 + 3 * s0)))]) (rest := []) hx hb hml hown hts hK hst hB (mX1_valueOf l θ hθ σ z f hF (fp σ f (9 + 3 * s0)) (show rg _ from ⟨by omega, by omega⟩)) mv_X1_valueOf kw_507 cf1 hF.lt0 hF.ck0 rfl hl.1 rfl (Nat.le_of_ble_eq_true rfl) ⟨by decide, by decide⟩ ⟨Nat.le_refl _, Nat.le_refl _⟩ dX1_reckon_170) hB (fun q_73 σ_71 z_72 H locs hq_73 pq_73 hB => ?_)
    obtain ⟨pq_73, e1_, e2_⟩ := pq_73
    rw [e1_, e2_] at hB
    clear e1_ e2_
    subst pq_73
    exact g_iret hx hb hr hlk hB dX1_reckon_173 ⟨by omega, by omega⟩ (⟨by rw [rkC, if_neg (by omega), if_neg (by omega), if_neg (by omega), if_neg (by omega), if_neg (by omega), if_neg (by omega)], rfl, rfl⟩)
  · refine z_tabIn (v := 11) (off := 99) (tgt := 120) hx hb dX1_reckon_21 c_11 ⟨by decide, by decide⟩ (by decide) (by decide) rfl (by decide) ?_
    have hxk := c_11
    refine lv_aload_n hx hb dX1_reckon_120 rfl (lv_at hl 2 rfl) ?_
    refine lv_aload_n hx hb dX1_reckon_121 rfl (lv_at hl 2 rfl) ?_
    refine lv_iload hx hb dX1_reckon_122 (lv_at hl 1 rfl) ?_
    refine g_calli (g_runV (i := f) (As := [.int (iZ (fp σ f (9 + 3 * s0)))]) (rest := [.ref (tad θ f)]) hx hb hml hown hts hK hst hB (mX1_valueOf l θ hθ σ z f hF (fp σ f (9 + 3 * s0)) (show rg _ from ⟨by omega, by omega⟩)) mv_X1_valueOf kw_507 cf1 hF.lt0 hF.ck0 rfl hl.1 rfl (Nat.le_of_ble_eq_true rfl) ⟨by decide, by decide⟩ ⟨Nat.le_refl _, Nat.le_refl _⟩ dX1_reckon_124) hB (fun q_76 σ_74 z_75 H locs hq_76 pq_76 hB => ?_)
    obtain ⟨pq_76, e1_, e2_⟩ := pq_76
    rw [e1_, e2_] at hB
    clear e1_ e2_
    subst pq_76
    refine lv_iload hx hb dX1_reckon_127 (lv_at hl 0 rfl) ?_
    refine lv_aload_n hx hb dX1_reckon_129 rfl (lv_at hl 2 rfl) ?_
    refine lv_iload_n hx hb dX1_reckon_130 rfl (lv_at hl 3 rfl) ?_
    refine lv_iconst (v := iZ 2) hx hb dX1_reckon_131 rfl ?_
    refine g_calli (g_runV (i := f) (As := [.int (iZ ((s0 : Nat) : Int)), .int (iZ 2)]) (rest := [.int (iZ (fp σ f (9 + 3 * s0 + 1))), .int (iZ (vc (fp σ f) (fp σ f (9 + 3 * s0)))), .ref (tad θ f)]) hx hb hml hown hts hK hst hB (mX1_part l θ hθ σ z f hF s0 (by omega) 2 (by omega)) mv_X1_part kw_358 cf1 hF.lt0 hF.ck0 rfl hl.1 rfl (Nat.le_of_ble_eq_true rfl) ⟨by decide, by decide⟩ ⟨Nat.le_refl _, Nat.le_refl _⟩ dX1_reckon_132) hB (fun q_79 σ_77 z_78 H locs hq_79 pq_79 hB => ?_)
    obtain ⟨pq_79, e1_, e2_⟩ := pq_79
    rw [e1_, e2_] at hB
    clear e1_ e2_
    subst pq_79
    refine g_calli (g_runV (i := f) (As := [.int (iZ (vc (fp σ f) (fp σ f (9 + 3 * s0)))), .int (iZ (fp σ f (9 + 3 * s0 + 1))), .int (iZ (fp σ f (9 + 3 * s0 + 2)))]) (rest := []) hx hb hml hown hts hK hst hB (mX1_choose l θ hθ σ z f hF (vc (fp σ f) (fp σ f (9 + 3 * s0))) (fp σ f (9 + 3 * s0 + 1)) (fp σ f (9 + 3 * s0 + 2)) ⟨by omega, by omega⟩ ⟨by omega, by omega⟩ ⟨by omega, by omega⟩) mv_X1_choose kw_516 cf1 hF.lt0 hF.ck0 rfl hl.1 rfl (Nat.le_of_ble_eq_true rfl) ⟨by decide, by decide⟩ ⟨Nat.le_refl _, Nat.le_refl _⟩ dX1_reckon_135) hB (fun q_82 σ_80 z_81 H locs hq_82 pq_82 hB => ?_)
    obtain ⟨pq_82, e1_, e2_⟩ := pq_82
    rw [e1_, e2_] at hB
    clear e1_ e2_
    subst pq_82
    exact g_iret hx hb hr hlk hB dX1_reckon_138 ⟨by omega, by omega⟩ (⟨by rw [rkC, if_neg (by omega), if_neg (by omega), if_neg (by omega), if_pos (by omega)], rfl, rfl⟩)
