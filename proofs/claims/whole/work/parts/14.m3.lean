set_option maxHeartbeats 4000000 in
set_option maxRecDepth 100000 in
theorem mX6_asks (l : Launch) (θ : gT) (hθ : gOK θ) (σ : gS) (z : gZ) (w : mC) (hA : mA σ w) (ho : mOK w) (hW : Wf (σ 114)) (k : Nat) (hk : k < 8) (hn : (k : Int) < σ 114 0) : GI l θ yX6_asks cX6_asks 7 (some .boolean) 3 71 [.ref (tad θ 111), .ref (tad θ 114), .int (iZ ((k : Nat) : Int))] σ z (fun q σ' z' => oP (mAsk (σ 114) k w) q σ' ∧ fr wClk σ σ' ∧ z' = z) := by
  refine g_enter (ret := (some .boolean)) (by decide +kernel) (Nat.le_of_ble_eq_true rfl) ?_
  intro p e s m args below meth c ls F hB hl
  obtain ⟨hx, hb, hr, hml, hown, hts, hlk, hK, hst⟩ := F
  have hR := hB.1.2
  have hl : lv_has ls 7 [(0, .ref (tad θ 111)), (1, .ref (tad θ 114)), (2, .int (iZ ((k : Nat) : Int)))] := hl
  have hKk := (hW.2 k hk).1
  refine lv_aload_n hx hb dX6_asks_0 rfl (lv_at hl 1 rfl) ?_
  refine lv_iconst (v := iZ 1) hx hb dX6_asks_1 rfl ?_
  refine lv_iload_n hx hb dX6_asks_2 rfl (lv_at hl 2 rfl) ?_
  refine z_iadd hx hb dX6_asks_3 ?_
  refine g_iald (k := (1 + k)) hx hb hK hB (by decide) rfl (by omega) (Nat.lt_of_lt_of_eq (by omega : (1 + k) < 50) (Eq.symm rfl)) (by decide) dX6_asks_4 ?_
  have hr_1 := hR 114 (1 + k)
  refine lv_istore_n (lv' := [(3, .int (iZ (σ 114 (1 + k)))), (0, .ref (tad θ 111)), (1, .ref (tad θ 114)), (2, .int (iZ ((k : Nat) : Int)))]) hx hb dX6_asks_5 rfl hl (by decide) rfl (fun ls hl => ?_)
  refine lv_aload_n hx hb dX6_asks_6 rfl (lv_at hl 2 rfl) ?_
  refine lv_bipush (v := iZ 9) hx hb dX6_asks_7 (by decide) ?_
  refine lv_iconst (v := iZ 3) hx hb dX6_asks_9 rfl ?_
  refine lv_iload_n hx hb dX6_asks_10 rfl (lv_at hl 3 rfl) ?_
  refine z_imul hx hb dX6_asks_11 ?_
  refine z_iadd hx hb dX6_asks_12 ?_
  refine g_iald (k := (9 + (3 * k))) hx hb hK hB (by decide) rfl (by omega) (Nat.lt_of_lt_of_eq (by omega : (9 + (3 * k)) < 50) (Eq.symm rfl)) (by decide) dX6_asks_13 ?_
  refine z_top (b := (((fa (σ 114) k 0) : Nat) : Int)) (hW.fg (i := 0) hk (by omega)) ?_
  refine lv_istore (lv' := [(4, .int (iZ (((fa (σ 114) k 0) : Nat) : Int))), (3, .int (iZ (σ 114 (1 + k)))), (0, .ref (tad θ 111)), (1, .ref (tad θ 114)), (2, .int (iZ ((k : Nat) : Int)))]) hx hb dX6_asks_14 hl (by decide) rfl (fun ls hl => ?_)
  refine lv_aload_n hx hb dX6_asks_16 rfl (lv_at hl 3 rfl) ?_
  refine lv_bipush (v := iZ 9) hx hb dX6_asks_17 (by decide) ?_
  refine lv_iconst (v := iZ 3) hx hb dX6_asks_19 rfl ?_
  refine lv_iload_n hx hb dX6_asks_20 rfl (lv_at hl 4 rfl) ?_
  refine z_imul hx hb dX6_asks_21 ?_
  refine z_iadd hx hb dX6_asks_22 ?_
  refine lv_iconst (v := iZ 1) hx hb dX6_asks_23 rfl ?_
  refine z_iadd hx hb dX6_asks_24 ?_
  refine g_iald (k := ((9 + (3 * k)) + 1)) hx hb hK hB (by decide) rfl (by omega) (Nat.lt_of_lt_of_eq (by omega : ((9 + (3 * k)) + 1) < 50) (Eq.symm rfl)) (by decide) dX6_asks_25 ?_
  refine z_top (b := (((fa (σ 114) k 1) : Nat) : Int)) (hW.fg (i := 1) hk (by omega)) ?_
  refine lv_istore (lv' := [(5, .int (iZ (((fa (σ 114) k 1) : Nat) : Int))), (4, .int (iZ (((fa (σ 114) k 0) : Nat) : Int))), (3, .int (iZ (σ 114 (1 + k)))), (0, .ref (tad θ 111)), (1, .ref (tad θ 114)), (2, .int (iZ ((k : Nat) : Int)))]) hx hb dX6_asks_26 hl (by decide) rfl (fun ls hl => ?_)
  refine lv_aload_n hx hb dX6_asks_28 rfl (lv_at hl 4 rfl) ?_
  refine lv_bipush (v := iZ 9) hx hb dX6_asks_29 (by decide) ?_
  refine lv_iconst (v := iZ 3) hx hb dX6_asks_31 rfl ?_
  refine lv_iload_n hx hb dX6_asks_32 rfl (lv_at hl 5 rfl) ?_
  refine z_imul hx hb dX6_asks_33 ?_
  refine z_iadd hx hb dX6_asks_34 ?_
  refine lv_iconst (v := iZ 2) hx hb dX6_asks_35 rfl ?_
  refine z_iadd hx hb dX6_asks_36 ?_
  refine g_iald (k := ((9 + (3 * k)) + 2)) hx hb hK hB (by decide) rfl (by omega) (Nat.lt_of_lt_of_eq (by omega : ((9 + (3 * k)) + 2) < 50) (Eq.symm rfl)) (by decide) dX6_asks_37 ?_
  refine z_top (b := (((fa (σ 114) k 2) : Nat) : Int)) (hW.fg (i := 2) hk (by omega)) ?_
  refine lv_istore (lv' := [(6, .int (iZ (((fa (σ 114) k 2) : Nat) : Int))), (5, .int (iZ (((fa (σ 114) k 1) : Nat) : Int))), (4, .int (iZ (((fa (σ 114) k 0) : Nat) : Int))), (3, .int (iZ (σ 114 (1 + k)))), (0, .ref (tad θ 111)), (1, .ref (tad θ 114)), (2, .int (iZ ((k : Nat) : Int)))]) hx hb dX6_asks_38 hl (by decide) rfl (fun ls hl => ?_)
  refine lv_iload_n hx hb dX6_asks_40 rfl (lv_at hl 3 rfl) ?_
  rcases (show ((σ 114 (1 + k)) < 0 ∨ 11 < (σ 114 (1 + k))) ∨ (σ 114 (1 + k)) = 0 ∨ (σ 114 (1 + k)) = 1 ∨ (σ 114 (1 + k)) = 2 ∨ (σ 114 (1 + k)) = 3 ∨ (σ 114 (1 + k)) = 4 ∨ (σ 114 (1 + k)) = 5 ∨ (σ 114 (1 + k)) = 6 ∨ (σ 114 (1 + k)) = 7 ∨ (σ 114 (1 + k)) = 8 ∨ (σ 114 (1 + k)) = 9 ∨ (σ 114 (1 + k)) = 10 ∨ (σ 114 (1 + k)) = 11 by omega) with c_2 | c_2 | c_2 | c_2 | c_2 | c_2 | c_2 | c_2 | c_2 | c_2 | c_2 | c_2 | c_2
  · (exfalso; omega)
  · refine z_tabIn (v := 0) (off := 63) (tgt := 104) hx hb dX6_asks_41 c_2 ⟨by decide, by decide⟩ (by decide) (by decide) rfl (by decide) ?_
    have hkk := c_2
    refine lv_aload_n hx hb dX6_asks_104 rfl (lv_at hl 4 rfl) ?_
    refine lv_iload_n hx hb dX6_asks_105 rfl (lv_at hl 6 rfl) ?_
    refine lv_iconst (v := iZ (-1)) hx hb dX6_asks_106 rfl ?_
    refine g_calli (g_runV (i := 111) (As := [.int (iZ ((k : Nat) : Int)), .int (iZ (-1))]) (rest := []) hx hb hml hown hts hK hst hB (mX6_settle l θ hθ σ z w hA ho k (hk) (-1) (by omega)) mv_X6_settle kw_805 cf6 (by decide) rfl rfl hl.1 rfl (Nat.le_of_ble_eq_true rfl) ⟨by decide, by decide⟩ ⟨Nat.le_refl _, Nat.le_refl _⟩ dX6_asks_107) hB (fun q_4 σ1 z_3 H locs hq_4 hp1 hB => ?_)
    obtain ⟨hp1, hf1, e2_⟩ := hp1
    rw [e2_] at hB
    clear e2_
    have hR := hB.1.2
    rcases hp1 with ⟨w1, e1, hq1, hA1⟩ | ⟨e1, hq1⟩
    · subst hq1
      have ho1 := mSet_ok ho (hk) (by omega) e1
      exact g_zret hx hb hr hlk hB dX6_asks_110 (by decide) (by first | exact ⟨Or.inl ⟨w1, by simp [mAsk, mThen, hkk, e1], rfl, hA1⟩, hf1, rfl⟩ | exact ⟨Or.inr ⟨by simp [mAsk, mThen, hkk, e1], rfl⟩, hf1, rfl⟩)
    · subst hq1
      exact g_zret hx hb hr hlk hB dX6_asks_110 (by decide) (by first | exact ⟨Or.inl ⟨w1, by simp [mAsk, mThen, hkk, e1], rfl, hA1⟩, hf1, rfl⟩ | exact ⟨Or.inr ⟨by simp [mAsk, mThen, hkk, e1], rfl⟩, hf1, rfl⟩)
  · refine z_tabIn (v := 1) (off := 70) (tgt := 111) hx hb dX6_asks_41 c_2 ⟨by decide, by decide⟩ (by decide) (by decide) rfl (by decide) ?_
    have hkk := c_2
    refine lv_iconst (v := iZ 1) hx hb dX6_asks_111 rfl ?_
    exact g_zret hx hb hr hlk hB dX6_asks_112 (by decide) (⟨Or.inl ⟨w, by simp [mAsk, hkk], rfl, hA⟩, fr.rf, rfl⟩)
  · refine z_tabIn (v := 2) (off := 232) (tgt := 273) hx hb dX6_asks_41 c_2 ⟨by decide, by decide⟩ (by decide) (by decide) rfl (by decide) ?_
    have hkk := c_2
    have l0 : (fa (σ 114) k 0) < 8 := hW.st hk hn (by omega) (by unfold sPl; omega)
    have l1 : (fa (σ 114) k 1) < 8 := hW.st hk hn (by omega) (by unfold sPl; omega)
    refine lv_aload_n hx hb dX6_asks_273 rfl (lv_at hl 4 rfl) ?_
    refine lv_iload_n hx hb dX6_asks_274 rfl (lv_at hl 6 rfl) ?_
    refine lv_iload hx hb dX6_asks_275 (lv_at hl 2 rfl) ?_
    refine g_calli (g_runV (i := 111) (As := [.int (iZ ((k : Nat) : Int)), .int (iZ (((fa (σ 114) k 0) : Nat) : Int))]) (rest := []) hx hb hml hown hts hK hst hB (mX6_like l θ hθ σ z w hA ho k (fa (σ 114) k 0) (hk) (l0)) mv_X6_like kw_817 cf6 (by decide) rfl rfl hl.1 rfl (Nat.le_of_ble_eq_true rfl) ⟨by decide, by decide⟩ ⟨Nat.le_refl _, Nat.le_refl _⟩ dX6_asks_277) hB (fun q_6 σ1 z_5 H locs hq_6 hp1 hB => ?_)
    obtain ⟨hp1, hf1, e2_⟩ := hp1
    rw [e2_] at hB
    clear e2_
    have hR := hB.1.2
    rcases hp1 with ⟨w1, e1, hq1, hA1⟩ | ⟨e1, hq1⟩
    · subst hq1
      have ho1 := mLike_ok ho (hk) (l0) e1
      refine z_if_eq (tgt := 297) hx hb dX6_asks_280 (by decide) ⟨by decide, by decide⟩ (fun c_7 => ?_) (fun c_7 => ?_)
      · exact absurd c_7 (by decide)
      · refine lv_aload_n hx hb dX6_asks_283 rfl (lv_at hl 4 rfl) ?_
        refine lv_iload_n hx hb dX6_asks_284 rfl (lv_at hl 6 rfl) ?_
        refine lv_iload hx hb dX6_asks_285 (lv_at hl 1 rfl) ?_
        refine g_calli (g_runV (i := 111) (As := [.int (iZ ((k : Nat) : Int)), .int (iZ (((fa (σ 114) k 1) : Nat) : Int))]) (rest := []) hx hb hml hown hts hK hst hB (mX6_like l θ hθ σ1 z w1 hA1 ho1 k (fa (σ 114) k 1) (hk) (l1)) mv_X6_like kw_817 cf6 (by decide) rfl rfl hl.1 rfl (Nat.le_of_ble_eq_true rfl) ⟨by decide, by decide⟩ ⟨Nat.le_refl _, Nat.le_refl _⟩ dX6_asks_287) hB (fun q_9 σ2 z_8 H locs hq_9 hp2 hB => ?_)
        obtain ⟨hp2, hf2, e2_⟩ := hp2
        rw [e2_] at hB
        clear e2_
        have hR := hB.1.2
        rcases hp2 with ⟨w2, e2, hq2, hA2⟩ | ⟨e2, hq2⟩
        · subst hq2
          have ho2 := mLike_ok ho1 (hk) (l1) e2
          refine z_if_eq (tgt := 297) hx hb dX6_asks_290 (by decide) ⟨by decide, by decide⟩ (fun c_10 => ?_) (fun c_10 => ?_)
          · exact absurd c_10 (by decide)
          · refine lv_iconst (v := iZ 1) hx hb dX6_asks_293 rfl ?_
            refine lv_goto (tgt := 298) hx hb dX6_asks_294 (by decide) ?_
            exact g_zret hx hb hr hlk hB dX6_asks_298 (by decide) (by first | exact ⟨Or.inl ⟨w2, by simp [mAsk, mThen, hkk, e1, e2], rfl, hA2⟩, hf1.tr hf2, rfl⟩ | exact ⟨Or.inr ⟨by simp [mAsk, mThen, hkk, e1, e2], rfl⟩, hf1.tr hf2, rfl⟩)
        · subst hq2
          refine z_if_eq (tgt := 297) hx hb dX6_asks_290 (by decide) ⟨by decide, by decide⟩ (fun c_11 => ?_) (fun c_11 => ?_)
          · refine lv_iconst (v := iZ 0) hx hb dX6_asks_297 rfl ?_
            exact g_zret hx hb hr hlk hB dX6_asks_298 (by decide) (by first | exact ⟨Or.inl ⟨w2, by simp [mAsk, mThen, hkk, e1, e2], rfl, hA2⟩, hf1.tr hf2, rfl⟩ | exact ⟨Or.inr ⟨by simp [mAsk, mThen, hkk, e1, e2], rfl⟩, hf1.tr hf2, rfl⟩)
          · exact absurd (by decide) c_11
    · subst hq1
      refine z_if_eq (tgt := 297) hx hb dX6_asks_280 (by decide) ⟨by decide, by decide⟩ (fun c_12 => ?_) (fun c_12 => ?_)
      · refine lv_iconst (v := iZ 0) hx hb dX6_asks_297 rfl ?_
        exact g_zret hx hb hr hlk hB dX6_asks_298 (by decide) (by first | exact ⟨Or.inl ⟨w1, by simp [mAsk, mThen, hkk, e1], rfl, hA1⟩, hf1, rfl⟩ | exact ⟨Or.inr ⟨by simp [mAsk, mThen, hkk, e1], rfl⟩, hf1, rfl⟩)
      · exact absurd (by decide) c_12
  · refine z_tabIn (v := 3) (off := 232) (tgt := 273) hx hb dX6_asks_41 c_2 ⟨by decide, by decide⟩ (by decide) (by decide) rfl (by decide) ?_
    have hkk := c_2
    have l0 : (fa (σ 114) k 0) < 8 := hW.st hk hn (by omega) (by unfold sPl; omega)
    have l1 : (fa (σ 114) k 1) < 8 := hW.st hk hn (by omega) (by unfold sPl; omega)
    refine lv_aload_n hx hb dX6_asks_273 rfl (lv_at hl 4 rfl) ?_
    refine lv_iload_n hx hb dX6_asks_274 rfl (lv_at hl 6 rfl) ?_
    refine lv_iload hx hb dX6_asks_275 (lv_at hl 2 rfl) ?_
    refine g_calli (g_runV (i := 111) (As := [.int (iZ ((k : Nat) : Int)), .int (iZ (((fa (σ 114) k 0) : Nat) : Int))]) (rest := []) hx hb hml hown hts hK hst hB (mX6_like l θ hθ σ z w hA ho k (fa (σ 114) k 0) (hk) (l0)) mv_X6_like kw_817 cf6 (by decide) rfl rfl hl.1 rfl (Nat.le_of_ble_eq_true rfl) ⟨by decide, by decide⟩ ⟨Nat.le_refl _, Nat.le_refl _⟩ dX6_asks_277) hB (fun q_14 σ1 z_13 H locs hq_14 hp1 hB => ?_)
    obtain ⟨hp1, hf1, e2_⟩ := hp1
    rw [e2_] at hB
    clear e2_
    have hR := hB.1.2
    rcases hp1 with ⟨w1, e1, hq1, hA1⟩ | ⟨e1, hq1⟩
    · subst hq1
      have ho1 := mLike_ok ho (hk) (l0) e1
      refine z_if_eq (tgt := 297) hx hb dX6_asks_280 (by decide) ⟨by decide, by decide⟩ (fun c_15 => ?_) (fun c_15 => ?_)
      · exact absurd c_15 (by decide)
      · refine lv_aload_n hx hb dX6_asks_283 rfl (lv_at hl 4 rfl) ?_
        refine lv_iload_n hx hb dX6_asks_284 rfl (lv_at hl 6 rfl) ?_
        refine lv_iload hx hb dX6_asks_285 (lv_at hl 1 rfl) ?_
        refine g_calli (g_runV (i := 111) (As := [.int (iZ ((k : Nat) : Int)), .int (iZ (((fa (σ 114) k 1) : Nat) : Int))]) (rest := []) hx hb hml hown hts hK hst hB (mX6_like l θ hθ σ1 z w1 hA1 ho1 k (fa (σ 114) k 1) (hk) (l1)) mv_X6_like kw_817 cf6 (by decide) rfl rfl hl.1 rfl (Nat.le_of_ble_eq_true rfl) ⟨by decide, by decide⟩ ⟨Nat.le_refl _, Nat.le_refl _⟩ dX6_asks_287) hB (fun q_17 σ2 z_16 H locs hq_17 hp2 hB => ?_)
        obtain ⟨hp2, hf2, e2_⟩ := hp2
        rw [e2_] at hB
        clear e2_
        have hR := hB.1.2
        rcases hp2 with ⟨w2, e2, hq2, hA2⟩ | ⟨e2, hq2⟩
        · subst hq2
          have ho2 := mLike_ok ho1 (hk) (l1) e2
          refine z_if_eq (tgt := 297) hx hb dX6_asks_290 (by decide) ⟨by decide, by decide⟩ (fun c_18 => ?_) (fun c_18 => ?_)
          · exact absurd c_18 (by decide)
          · refine lv_iconst (v := iZ 1) hx hb dX6_asks_293 rfl ?_
            refine lv_goto (tgt := 298) hx hb dX6_asks_294 (by decide) ?_
            exact g_zret hx hb hr hlk hB dX6_asks_298 (by decide) (by first | exact ⟨Or.inl ⟨w2, by simp [mAsk, mThen, hkk, e1, e2], rfl, hA2⟩, hf1.tr hf2, rfl⟩ | exact ⟨Or.inr ⟨by simp [mAsk, mThen, hkk, e1, e2], rfl⟩, hf1.tr hf2, rfl⟩)
        · subst hq2
          refine z_if_eq (tgt := 297) hx hb dX6_asks_290 (by decide) ⟨by decide, by decide⟩ (fun c_19 => ?_) (fun c_19 => ?_)
          · refine lv_iconst (v := iZ 0) hx hb dX6_asks_297 rfl ?_
            exact g_zret hx hb hr hlk hB dX6_asks_298 (by decide) (by first | exact ⟨Or.inl ⟨w2, by simp [mAsk, mThen, hkk, e1, e2], rfl, hA2⟩, hf1.tr hf2, rfl⟩ | exact ⟨Or.inr ⟨by simp [mAsk, mThen, hkk, e1, e2], rfl⟩, hf1.tr hf2, rfl⟩)
          · exact absurd (by decide) c_19
    · subst hq1
      refine z_if_eq (tgt := 297) hx hb dX6_asks_280 (by decide) ⟨by decide, by decide⟩ (fun c_20 => ?_) (fun c_20 => ?_)
      · refine lv_iconst (v := iZ 0) hx hb dX6_asks_297 rfl ?_
        exact g_zret hx hb hr hlk hB dX6_asks_298 (by decide) (by first | exact ⟨Or.inl ⟨w1, by simp [mAsk, mThen, hkk, e1], rfl, hA1⟩, hf1, rfl⟩ | exact ⟨Or.inr ⟨by simp [mAsk, mThen, hkk, e1], rfl⟩, hf1, rfl⟩)
      · exact absurd (by decide) c_20
  · refine z_tabIn (v := 4) (off := 232) (tgt := 273) hx hb dX6_asks_41 c_2 ⟨by decide, by decide⟩ (by decide) (by decide) rfl (by decide) ?_
    have hkk := c_2
    have l0 : (fa (σ 114) k 0) < 8 := hW.st hk hn (by omega) (by unfold sPl; omega)
    have l1 : (fa (σ 114) k 1) < 8 := hW.st hk hn (by omega) (by unfold sPl; omega)
    refine lv_aload_n hx hb dX6_asks_273 rfl (lv_at hl 4 rfl) ?_
    refine lv_iload_n hx hb dX6_asks_274 rfl (lv_at hl 6 rfl) ?_
    refine lv_iload hx hb dX6_asks_275 (lv_at hl 2 rfl) ?_
    refine g_calli (g_runV (i := 111) (As := [.int (iZ ((k : Nat) : Int)), .int (iZ (((fa (σ 114) k 0) : Nat) : Int))]) (rest := []) hx hb hml hown hts hK hst hB (mX6_like l θ hθ σ z w hA ho k (fa (σ 114) k 0) (hk) (l0)) mv_X6_like kw_817 cf6 (by decide) rfl rfl hl.1 rfl (Nat.le_of_ble_eq_true rfl) ⟨by decide, by decide⟩ ⟨Nat.le_refl _, Nat.le_refl _⟩ dX6_asks_277) hB (fun q_22 σ1 z_21 H locs hq_22 hp1 hB => ?_)
    obtain ⟨hp1, hf1, e2_⟩ := hp1
    rw [e2_] at hB
    clear e2_
    have hR := hB.1.2
    rcases hp1 with ⟨w1, e1, hq1, hA1⟩ | ⟨e1, hq1⟩
    · subst hq1
      have ho1 := mLike_ok ho (hk) (l0) e1
      refine z_if_eq (tgt := 297) hx hb dX6_asks_280 (by decide) ⟨by decide, by decide⟩ (fun c_23 => ?_) (fun c_23 => ?_)
      · exact absurd c_23 (by decide)
      · refine lv_aload_n hx hb dX6_asks_283 rfl (lv_at hl 4 rfl) ?_
        refine lv_iload_n hx hb dX6_asks_284 rfl (lv_at hl 6 rfl) ?_
        refine lv_iload hx hb dX6_asks_285 (lv_at hl 1 rfl) ?_
        refine g_calli (g_runV (i := 111) (As := [.int (iZ ((k : Nat) : Int)), .int (iZ (((fa (σ 114) k 1) : Nat) : Int))]) (rest := []) hx hb hml hown hts hK hst hB (mX6_like l θ hθ σ1 z w1 hA1 ho1 k (fa (σ 114) k 1) (hk) (l1)) mv_X6_like kw_817 cf6 (by decide) rfl rfl hl.1 rfl (Nat.le_of_ble_eq_true rfl) ⟨by decide, by decide⟩ ⟨Nat.le_refl _, Nat.le_refl _⟩ dX6_asks_287) hB (fun q_25 σ2 z_24 H locs hq_25 hp2 hB => ?_)
        obtain ⟨hp2, hf2, e2_⟩ := hp2
        rw [e2_] at hB
        clear e2_
        have hR := hB.1.2
        rcases hp2 with ⟨w2, e2, hq2, hA2⟩ | ⟨e2, hq2⟩
        · subst hq2
          have ho2 := mLike_ok ho1 (hk) (l1) e2
          refine z_if_eq (tgt := 297) hx hb dX6_asks_290 (by decide) ⟨by decide, by decide⟩ (fun c_26 => ?_) (fun c_26 => ?_)
          · exact absurd c_26 (by decide)
          · refine lv_iconst (v := iZ 1) hx hb dX6_asks_293 rfl ?_
            refine lv_goto (tgt := 298) hx hb dX6_asks_294 (by decide) ?_
            exact g_zret hx hb hr hlk hB dX6_asks_298 (by decide) (by first | exact ⟨Or.inl ⟨w2, by simp [mAsk, mThen, hkk, e1, e2], rfl, hA2⟩, hf1.tr hf2, rfl⟩ | exact ⟨Or.inr ⟨by simp [mAsk, mThen, hkk, e1, e2], rfl⟩, hf1.tr hf2, rfl⟩)
        · subst hq2
          refine z_if_eq (tgt := 297) hx hb dX6_asks_290 (by decide) ⟨by decide, by decide⟩ (fun c_27 => ?_) (fun c_27 => ?_)
          · refine lv_iconst (v := iZ 0) hx hb dX6_asks_297 rfl ?_
            exact g_zret hx hb hr hlk hB dX6_asks_298 (by decide) (by first | exact ⟨Or.inl ⟨w2, by simp [mAsk, mThen, hkk, e1, e2], rfl, hA2⟩, hf1.tr hf2, rfl⟩ | exact ⟨Or.inr ⟨by simp [mAsk, mThen, hkk, e1, e2], rfl⟩, hf1.tr hf2, rfl⟩)
          · exact absurd (by decide) c_27
    · subst hq1
      refine z_if_eq (tgt := 297) hx hb dX6_asks_280 (by decide) ⟨by decide, by decide⟩ (fun c_28 => ?_) (fun c_28 => ?_)
      · refine lv_iconst (v := iZ 0) hx hb dX6_asks_297 rfl ?_
        exact g_zret hx hb hr hlk hB dX6_asks_298 (by decide) (by first | exact ⟨Or.inl ⟨w1, by simp [mAsk, mThen, hkk, e1], rfl, hA1⟩, hf1, rfl⟩ | exact ⟨Or.inr ⟨by simp [mAsk, mThen, hkk, e1], rfl⟩, hf1, rfl⟩)
      · exact absurd (by decide) c_28
  · refine z_tabIn (v := 5) (off := 72) (tgt := 113) hx hb dX6_asks_41 c_2 ⟨by decide, by decide⟩ (by decide) (by decide) rfl (by decide) ?_
    have hkk := c_2
    have l0 : (fa (σ 114) k 0) < 8 := hW.st hk hn (by omega) (by unfold sPl; omega)
    have l1 : (fa (σ 114) k 1) < 8 := hW.st hk hn (by omega) (by unfold sPl; omega)
    have l2 : (fa (σ 114) k 2) < 8 := hW.st hk hn (by omega) (by unfold sPl; omega)
    refine lv_aload_n hx hb dX6_asks_113 rfl (lv_at hl 4 rfl) ?_
    refine lv_iload_n hx hb dX6_asks_114 rfl (lv_at hl 6 rfl) ?_
    refine lv_iload hx hb dX6_asks_115 (lv_at hl 2 rfl) ?_
    refine g_calli (g_runV (i := 111) (As := [.int (iZ ((k : Nat) : Int)), .int (iZ (((fa (σ 114) k 0) : Nat) : Int))]) (rest := []) hx hb hml hown hts hK hst hB (mX6_like l θ hθ σ z w hA ho k (fa (σ 114) k 0) (hk) (l0)) mv_X6_like kw_817 cf6 (by decide) rfl rfl hl.1 rfl (Nat.le_of_ble_eq_true rfl) ⟨by decide, by decide⟩ ⟨Nat.le_refl _, Nat.le_refl _⟩ dX6_asks_117) hB (fun q_30 σ1 z_29 H locs hq_30 hp1 hB => ?_)
    obtain ⟨hp1, hf1, e2_⟩ := hp1
    rw [e2_] at hB
    clear e2_
    have hR := hB.1.2
    rcases hp1 with ⟨w1, e1, hq1, hA1⟩ | ⟨e1, hq1⟩
    · subst hq1
      have ho1 := mLike_ok ho (hk) (l0) e1
      refine z_if_eq (tgt := 147) hx hb dX6_asks_120 (by decide) ⟨by decide, by decide⟩ (fun c_31 => ?_) (fun c_31 => ?_)
      · exact absurd c_31 (by decide)
      · refine lv_aload_n hx hb dX6_asks_123 rfl (lv_at hl 4 rfl) ?_
        refine lv_iload_n hx hb dX6_asks_124 rfl (lv_at hl 6 rfl) ?_
        refine lv_iload hx hb dX6_asks_125 (lv_at hl 1 rfl) ?_
        refine g_calli (g_runV (i := 111) (As := [.int (iZ ((k : Nat) : Int)), .int (iZ (((fa (σ 114) k 1) : Nat) : Int))]) (rest := []) hx hb hml hown hts hK hst hB (mX6_like l θ hθ σ1 z w1 hA1 ho1 k (fa (σ 114) k 1) (hk) (l1)) mv_X6_like kw_817 cf6 (by decide) rfl rfl hl.1 rfl (Nat.le_of_ble_eq_true rfl) ⟨by decide, by decide⟩ ⟨Nat.le_refl _, Nat.le_refl _⟩ dX6_asks_127) hB (fun q_33 σ2 z_32 H locs hq_33 hp2 hB => ?_)
        obtain ⟨hp2, hf2, e2_⟩ := hp2
        rw [e2_] at hB
        clear e2_
        have hR := hB.1.2
        rcases hp2 with ⟨w2, e2, hq2, hA2⟩ | ⟨e2, hq2⟩
        · subst hq2
          have ho2 := mLike_ok ho1 (hk) (l1) e2
          refine z_if_eq (tgt := 147) hx hb dX6_asks_130 (by decide) ⟨by decide, by decide⟩ (fun c_34 => ?_) (fun c_34 => ?_)
          · exact absurd c_34 (by decide)
          · refine lv_aload_n hx hb dX6_asks_133 rfl (lv_at hl 4 rfl) ?_
            refine lv_iload_n hx hb dX6_asks_134 rfl (lv_at hl 6 rfl) ?_
            refine lv_iload hx hb dX6_asks_135 (lv_at hl 0 rfl) ?_
            refine g_calli (g_runV (i := 111) (As := [.int (iZ ((k : Nat) : Int)), .int (iZ (((fa (σ 114) k 2) : Nat) : Int))]) (rest := []) hx hb hml hown hts hK hst hB (mX6_like l θ hθ σ2 z w2 hA2 ho2 k (fa (σ 114) k 2) (hk) (l2)) mv_X6_like kw_817 cf6 (by decide) rfl rfl hl.1 rfl (Nat.le_of_ble_eq_true rfl) ⟨by decide, by decide⟩ ⟨Nat.le_refl _, Nat.le_refl _⟩ dX6_asks_137) hB (fun q_36 σ3 z_35 H locs hq_36 hp3 hB => ?_)
            obtain ⟨hp3, hf3, e2_⟩ := hp3
            rw [e2_] at hB
            clear e2_
            have hR := hB.1.2
            rcases hp3 with ⟨w3, e3, hq3, hA3⟩ | ⟨e3, hq3⟩
            · subst hq3
              have ho3 := mLike_ok ho2 (hk) (l2) e3
              refine z_if_eq (tgt := 147) hx hb dX6_asks_140 (by decide) ⟨by decide, by decide⟩ (fun c_37 => ?_) (fun c_37 => ?_)
              · exact absurd c_37 (by decide)
              · refine lv_iconst (v := iZ 1) hx hb dX6_asks_143 rfl ?_
                refine lv_goto (tgt := 148) hx hb dX6_asks_144 (by decide) ?_
                exact g_zret hx hb hr hlk hB dX6_asks_148 (by decide) (by first | exact ⟨Or.inl ⟨w3, by simp [mAsk, mThen, hkk, e1, e2, e3], rfl, hA3⟩, (hf1.tr hf2).tr hf3, rfl⟩ | exact ⟨Or.inr ⟨by simp [mAsk, mThen, hkk, e1, e2, e3], rfl⟩, (hf1.tr hf2).tr hf3, rfl⟩)
            · subst hq3
              refine z_if_eq (tgt := 147) hx hb dX6_asks_140 (by decide) ⟨by decide, by decide⟩ (fun c_38 => ?_) (fun c_38 => ?_)
              · refine lv_iconst (v := iZ 0) hx hb dX6_asks_147 rfl ?_
                exact g_zret hx hb hr hlk hB dX6_asks_148 (by decide) (by first | exact ⟨Or.inl ⟨w3, by simp [mAsk, mThen, hkk, e1, e2, e3], rfl, hA3⟩, (hf1.tr hf2).tr hf3, rfl⟩ | exact ⟨Or.inr ⟨by simp [mAsk, mThen, hkk, e1, e2, e3], rfl⟩, (hf1.tr hf2).tr hf3, rfl⟩)
              · exact absurd (by decide) c_38
        · subst hq2
          refine z_if_eq (tgt := 147) hx hb dX6_asks_130 (by decide) ⟨by decide, by decide⟩ (fun c_39 => ?_) (fun c_39 => ?_)
          · refine lv_iconst (v := iZ 0) hx hb dX6_asks_147 rfl ?_
            exact g_zret hx hb hr hlk hB dX6_asks_148 (by decide) (by first | exact ⟨Or.inl ⟨w2, by simp [mAsk, mThen, hkk, e1, e2], rfl, hA2⟩, hf1.tr hf2, rfl⟩ | exact ⟨Or.inr ⟨by simp [mAsk, mThen, hkk, e1, e2], rfl⟩, hf1.tr hf2, rfl⟩)
          · exact absurd (by decide) c_39
    · subst hq1
      refine z_if_eq (tgt := 147) hx hb dX6_asks_120 (by decide) ⟨by decide, by decide⟩ (fun c_40 => ?_) (fun c_40 => ?_)
      · refine lv_iconst (v := iZ 0) hx hb dX6_asks_147 rfl ?_
        exact g_zret hx hb hr hlk hB dX6_asks_148 (by decide) (by first | exact ⟨Or.inl ⟨w1, by simp [mAsk, mThen, hkk, e1], rfl, hA1⟩, hf1, rfl⟩ | exact ⟨Or.inr ⟨by simp [mAsk, mThen, hkk, e1], rfl⟩, hf1, rfl⟩)
      · exact absurd (by decide) c_40
  · refine z_tabIn (v := 6) (off := 108) (tgt := 149) hx hb dX6_asks_41 c_2 ⟨by decide, by decide⟩ (by decide) (by decide) rfl (by decide) ?_
    have hkk := c_2
    have l1 : (fa (σ 114) k 1) < 8 := hW.st hk hn (by omega) (by unfold sPl; omega)
    refine lv_aload_n hx hb dX6_asks_149 rfl (lv_at hl 4 rfl) ?_
    refine lv_iload_n hx hb dX6_asks_150 rfl (lv_at hl 6 rfl) ?_
    refine lv_iload hx hb dX6_asks_151 (lv_at hl 1 rfl) ?_
    refine g_calli (g_runV (i := 111) (As := [.int (iZ ((k : Nat) : Int)), .int (iZ (((fa (σ 114) k 1) : Nat) : Int))]) (rest := []) hx hb hml hown hts hK hst hB (mX6_like l θ hθ σ z w hA ho k (fa (σ 114) k 1) (hk) (l1)) mv_X6_like kw_817 cf6 (by decide) rfl rfl hl.1 rfl (Nat.le_of_ble_eq_true rfl) ⟨by decide, by decide⟩ ⟨Nat.le_refl _, Nat.le_refl _⟩ dX6_asks_153) hB (fun q_42 σ1 z_41 H locs hq_42 hp1 hB => ?_)
    obtain ⟨hp1, hf1, e2_⟩ := hp1
    rw [e2_] at hB
    clear e2_
    have hR := hB.1.2
    rcases hp1 with ⟨w1, e1, hq1, hA1⟩ | ⟨e1, hq1⟩
    · subst hq1
      have ho1 := mLike_ok ho (hk) (l1) e1
      exact g_zret hx hb hr hlk hB dX6_asks_156 (by decide) (by first | exact ⟨Or.inl ⟨w1, by simp [mAsk, mThen, hkk, e1], rfl, hA1⟩, hf1, rfl⟩ | exact ⟨Or.inr ⟨by simp [mAsk, mThen, hkk, e1], rfl⟩, hf1, rfl⟩)
    · subst hq1
      exact g_zret hx hb hr hlk hB dX6_asks_156 (by decide) (by first | exact ⟨Or.inl ⟨w1, by simp [mAsk, mThen, hkk, e1], rfl, hA1⟩, hf1, rfl⟩ | exact ⟨Or.inr ⟨by simp [mAsk, mThen, hkk, e1], rfl⟩, hf1, rfl⟩)
  · refine z_tabIn (v := 7) (off := 116) (tgt := 157) hx hb dX6_asks_41 c_2 ⟨by decide, by decide⟩ (by decide) (by decide) rfl (by decide) ?_
    have hkk := c_2
    have l0 : (fa (σ 114) k 0) < 8 := hW.st hk hn (by omega) (by unfold sPl; omega)
    refine lv_aload_n hx hb dX6_asks_157 rfl (lv_at hl 4 rfl) ?_
    refine lv_iload_n hx hb dX6_asks_158 rfl (lv_at hl 6 rfl) ?_
    refine lv_iload hx hb dX6_asks_159 (lv_at hl 2 rfl) ?_
    refine g_calli (g_runV (i := 111) (As := [.int (iZ ((k : Nat) : Int)), .int (iZ (((fa (σ 114) k 0) : Nat) : Int))]) (rest := []) hx hb hml hown hts hK hst hB (mX6_like l θ hθ σ z w hA ho k (fa (σ 114) k 0) (hk) (l0)) mv_X6_like kw_817 cf6 (by decide) rfl rfl hl.1 rfl (Nat.le_of_ble_eq_true rfl) ⟨by decide, by decide⟩ ⟨Nat.le_refl _, Nat.le_refl _⟩ dX6_asks_161) hB (fun q_44 σ1 z_43 H locs hq_44 hp1 hB => ?_)
    obtain ⟨hp1, hf1, e2_⟩ := hp1
    rw [e2_] at hB
    clear e2_
    have hR := hB.1.2
    rcases hp1 with ⟨w1, e1, hq1, hA1⟩ | ⟨e1, hq1⟩
    · subst hq1
      have ho1 := mLike_ok ho (hk) (l0) e1
      exact g_zret hx hb hr hlk hB dX6_asks_164 (by decide) (by first | exact ⟨Or.inl ⟨w1, by simp [mAsk, mThen, hkk, e1], rfl, hA1⟩, hf1, rfl⟩ | exact ⟨Or.inr ⟨by simp [mAsk, mThen, hkk, e1], rfl⟩, hf1, rfl⟩)
    · subst hq1
      exact g_zret hx hb hr hlk hB dX6_asks_164 (by decide) (by first | exact ⟨Or.inl ⟨w1, by simp [mAsk, mThen, hkk, e1], rfl, hA1⟩, hf1, rfl⟩ | exact ⟨Or.inr ⟨by simp [mAsk, mThen, hkk, e1], rfl⟩, hf1, rfl⟩)
  · refine z_tabIn (v := 8) (off := 232) (tgt := 273) hx hb dX6_asks_41 c_2 ⟨by decide, by decide⟩ (by decide) (by decide) rfl (by decide) ?_
    have hkk := c_2
    have l0 : (fa (σ 114) k 0) < 8 := hW.st hk hn (by omega) (by unfold sPl; omega)
    have l1 : (fa (σ 114) k 1) < 8 := hW.st hk hn (by omega) (by unfold sPl; omega)
    refine lv_aload_n hx hb dX6_asks_273 rfl (lv_at hl 4 rfl) ?_
    refine lv_iload_n hx hb dX6_asks_274 rfl (lv_at hl 6 rfl) ?_
    refine lv_iload hx hb dX6_asks_275 (lv_at hl 2 rfl) ?_
    refine g_calli (g_runV (i := 111) (As := [.int (iZ ((k : Nat) : Int)), .int (iZ (((fa (σ 114) k 0) : Nat) : Int))]) (rest := []) hx hb hml hown hts hK hst hB (mX6_like l θ hθ σ z w hA ho k (fa (σ 114) k 0) (hk) (l0)) mv_X6_like kw_817 cf6 (by decide) rfl rfl hl.1 rfl (Nat.le_of_ble_eq_true rfl) ⟨by decide, by decide⟩ ⟨Nat.le_refl _, Nat.le_refl _⟩ dX6_asks_277) hB (fun q_46 σ1 z_45 H locs hq_46 hp1 hB => ?_)
    obtain ⟨hp1, hf1, e2_⟩ := hp1
    rw [e2_] at hB
    clear e2_
    have hR := hB.1.2
    rcases hp1 with ⟨w1, e1, hq1, hA1⟩ | ⟨e1, hq1⟩
    · subst hq1
      have ho1 := mLike_ok ho (hk) (l0) e1
      refine z_if_eq (tgt := 297) hx hb dX6_asks_280 (by decide) ⟨by decide, by decide⟩ (fun c_47 => ?_) (fun c_47 => ?_)
      · exact absurd c_47 (by decide)
      · refine lv_aload_n hx hb dX6_asks_283 rfl (lv_at hl 4 rfl) ?_
        refine lv_iload_n hx hb dX6_asks_284 rfl (lv_at hl 6 rfl) ?_
        refine lv_iload hx hb dX6_asks_285 (lv_at hl 1 rfl) ?_
        refine g_calli (g_runV (i := 111) (As := [.int (iZ ((k : Nat) : Int)), .int (iZ (((fa (σ 114) k 1) : Nat) : Int))]) (rest := []) hx hb hml hown hts hK hst hB (mX6_like l θ hθ σ1 z w1 hA1 ho1 k (fa (σ 114) k 1) (hk) (l1)) mv_X6_like kw_817 cf6 (by decide) rfl rfl hl.1 rfl (Nat.le_of_ble_eq_true rfl) ⟨by decide, by decide⟩ ⟨Nat.le_refl _, Nat.le_refl _⟩ dX6_asks_287) hB (fun q_49 σ2 z_48 H locs hq_49 hp2 hB => ?_)
        obtain ⟨hp2, hf2, e2_⟩ := hp2
        rw [e2_] at hB
        clear e2_
        have hR := hB.1.2
        rcases hp2 with ⟨w2, e2, hq2, hA2⟩ | ⟨e2, hq2⟩
        · subst hq2
          have ho2 := mLike_ok ho1 (hk) (l1) e2
          refine z_if_eq (tgt := 297) hx hb dX6_asks_290 (by decide) ⟨by decide, by decide⟩ (fun c_50 => ?_) (fun c_50 => ?_)
          · exact absurd c_50 (by decide)
          · refine lv_iconst (v := iZ 1) hx hb dX6_asks_293 rfl ?_
            refine lv_goto (tgt := 298) hx hb dX6_asks_294 (by decide) ?_
            exact g_zret hx hb hr hlk hB dX6_asks_298 (by decide) (by first | exact ⟨Or.inl ⟨w2, by simp [mAsk, mThen, hkk, e1, e2], rfl, hA2⟩, hf1.tr hf2, rfl⟩ | exact ⟨Or.inr ⟨by simp [mAsk, mThen, hkk, e1, e2], rfl⟩, hf1.tr hf2, rfl⟩)
        · subst hq2
          refine z_if_eq (tgt := 297) hx hb dX6_asks_290 (by decide) ⟨by decide, by decide⟩ (fun c_51 => ?_) (fun c_51 => ?_)
          · refine lv_iconst (v := iZ 0) hx hb dX6_asks_297 rfl ?_
            exact g_zret hx hb hr hlk hB dX6_asks_298 (by decide) (by first | exact ⟨Or.inl ⟨w2, by simp [mAsk, mThen, hkk, e1, e2], rfl, hA2⟩, hf1.tr hf2, rfl⟩ | exact ⟨Or.inr ⟨by simp [mAsk, mThen, hkk, e1, e2], rfl⟩, hf1.tr hf2, rfl⟩)
          · exact absurd (by decide) c_51
    · subst hq1
      refine z_if_eq (tgt := 297) hx hb dX6_asks_280 (by decide) ⟨by decide, by decide⟩ (fun c_52 => ?_) (fun c_52 => ?_)
      · refine lv_iconst (v := iZ 0) hx hb dX6_asks_297 rfl ?_
        exact g_zret hx hb hr hlk hB dX6_asks_298 (by decide) (by first | exact ⟨Or.inl ⟨w1, by simp [mAsk, mThen, hkk, e1], rfl, hA1⟩, hf1, rfl⟩ | exact ⟨Or.inr ⟨by simp [mAsk, mThen, hkk, e1], rfl⟩, hf1, rfl⟩)
      · exact absurd (by decide) c_52
  · refine z_tabIn (v := 9) (off := 124) (tgt := 165) hx hb dX6_asks_41 c_2 ⟨by decide, by decide⟩ (by decide) (by decide) rfl (by decide) ?_
    have hkk := c_2
    have l0 : (fa (σ 114) k 0) < 8 := hW.st hk hn (by omega) (by unfold sPl; omega)
    have l1 : (fa (σ 114) k 1) < 8 := hW.st hk hn (by omega) (by unfold sPl; omega)
    refine lv_aload_n hx hb dX6_asks_165 rfl (lv_at hl 4 rfl) ?_
    refine lv_iload hx hb dX6_asks_166 (lv_at hl 2 rfl) ?_
    refine lv_iload hx hb dX6_asks_168 (lv_at hl 1 rfl) ?_
    refine g_calli (g_runV (i := 111) (As := [.int (iZ (((fa (σ 114) k 0) : Nat) : Int)), .int (iZ (((fa (σ 114) k 1) : Nat) : Int))]) (rest := []) hx hb hml hown hts hK hst hB (mX6_like l θ hθ σ z w hA ho (fa (σ 114) k 0) (fa (σ 114) k 1) (l0) (l1)) mv_X6_like kw_817 cf6 (by decide) rfl rfl hl.1 rfl (Nat.le_of_ble_eq_true rfl) ⟨by decide, by decide⟩ ⟨Nat.le_refl _, Nat.le_refl _⟩ dX6_asks_170) hB (fun q_54 σ1 z_53 H locs hq_54 hp1 hB => ?_)
    obtain ⟨hp1, hf1, e2_⟩ := hp1
    rw [e2_] at hB
    clear e2_
    have hR := hB.1.2
    rcases hp1 with ⟨w1, e1, hq1, hA1⟩ | ⟨e1, hq1⟩
    · subst hq1
      have ho1 := mLike_ok ho (l0) (l1) e1
      refine z_if_eq (tgt := 195) hx hb dX6_asks_173 (by decide) ⟨by decide, by decide⟩ (fun c_55 => ?_) (fun c_55 => ?_)
      · exact absurd c_55 (by decide)
      · refine lv_aload_n hx hb dX6_asks_176 rfl (lv_at hl 4 rfl) ?_
        refine lv_iload_n hx hb dX6_asks_177 rfl (lv_at hl 6 rfl) ?_
        refine lv_bipush (v := iZ 10) hx hb dX6_asks_178 (by decide) ?_
        refine lv_iload hx hb dX6_asks_180 (lv_at hl 1 rfl) ?_
        refine z_imul hx hb dX6_asks_182 ?_
        refine lv_iconst (v := iZ 1) hx hb dX6_asks_183 rfl ?_
        refine z_iadd hx hb dX6_asks_184 ?_
        refine g_calli (g_runV (i := 111) (As := [.int (iZ ((k : Nat) : Int)), .int (iZ ((10 * (((fa (σ 114) k 1) : Nat) : Int)) + 1))]) (rest := []) hx hb hml hown hts hK hst hB (mX6_settle l θ hθ σ1 z w1 hA1 ho1 k (hk) (10 * (((fa (σ 114) k 1) : Nat) : Int) + 1) (by omega)) mv_X6_settle kw_805 cf6 (by decide) rfl rfl hl.1 rfl (Nat.le_of_ble_eq_true rfl) ⟨by decide, by decide⟩ ⟨Nat.le_refl _, Nat.le_refl _⟩ dX6_asks_185) hB (fun q_57 σ2 z_56 H locs hq_57 hp2 hB => ?_)
        obtain ⟨hp2, hf2, e2_⟩ := hp2
        rw [e2_] at hB
        clear e2_
        have hR := hB.1.2
        rcases hp2 with ⟨w2, e2, hq2, hA2⟩ | ⟨e2, hq2⟩
        · subst hq2
          have ho2 := mSet_ok ho1 (hk) (by omega) e2
          refine z_if_eq (tgt := 195) hx hb dX6_asks_188 (by decide) ⟨by decide, by decide⟩ (fun c_58 => ?_) (fun c_58 => ?_)
          · exact absurd c_58 (by decide)
          · refine lv_iconst (v := iZ 1) hx hb dX6_asks_191 rfl ?_
            refine lv_goto (tgt := 196) hx hb dX6_asks_192 (by decide) ?_
            exact g_zret hx hb hr hlk hB dX6_asks_196 (by decide) (by first | exact ⟨Or.inl ⟨w2, by simp [mAsk, mThen, hkk, e1, e2], rfl, hA2⟩, hf1.tr hf2, rfl⟩ | exact ⟨Or.inr ⟨by simp [mAsk, mThen, hkk, e1, e2], rfl⟩, hf1.tr hf2, rfl⟩)
        · subst hq2
          refine z_if_eq (tgt := 195) hx hb dX6_asks_188 (by decide) ⟨by decide, by decide⟩ (fun c_59 => ?_) (fun c_59 => ?_)
          · refine lv_iconst (v := iZ 0) hx hb dX6_asks_195 rfl ?_
            exact g_zret hx hb hr hlk hB dX6_asks_196 (by decide) (by first | exact ⟨Or.inl ⟨w2, by simp [mAsk, mThen, hkk, e1, e2], rfl, hA2⟩, hf1.tr hf2, rfl⟩ | exact ⟨Or.inr ⟨by simp [mAsk, mThen, hkk, e1, e2], rfl⟩, hf1.tr hf2, rfl⟩)
          · exact absurd (by decide) c_59
    · subst hq1
      refine z_if_eq (tgt := 195) hx hb dX6_asks_173 (by decide) ⟨by decide, by decide⟩ (fun c_60 => ?_) (fun c_60 => ?_)
      · refine lv_iconst (v := iZ 0) hx hb dX6_asks_195 rfl ?_
        exact g_zret hx hb hr hlk hB dX6_asks_196 (by decide) (by first | exact ⟨Or.inl ⟨w1, by simp [mAsk, mThen, hkk, e1], rfl, hA1⟩, hf1, rfl⟩ | exact ⟨Or.inr ⟨by simp [mAsk, mThen, hkk, e1], rfl⟩, hf1, rfl⟩)
      · exact absurd (by decide) c_60
  · refine z_tabIn (v := 10) (off := 156) (tgt := 197) hx hb dX6_asks_41 c_2 ⟨by decide, by decide⟩ (by decide) (by decide) rfl (by decide) ?_
    have hkk := c_2
    have l0 : (fa (σ 114) k 0) < 8 := hW.st hk hn (by omega) (by unfold sPl; omega)
    have l1 : (fa (σ 114) k 1) < 8 := hW.st hk hn (by omega) (by unfold sPl; omega)
    refine lv_aload_n hx hb dX6_asks_197 rfl (lv_at hl 4 rfl) ?_
    refine lv_iload hx hb dX6_asks_198 (lv_at hl 2 rfl) ?_
    refine lv_iload hx hb dX6_asks_200 (lv_at hl 1 rfl) ?_
    refine g_calli (g_runV (i := 111) (As := [.int (iZ (((fa (σ 114) k 0) : Nat) : Int)), .int (iZ (((fa (σ 114) k 1) : Nat) : Int))]) (rest := []) hx hb hml hown hts hK hst hB (mX6_like l θ hθ σ z w hA ho (fa (σ 114) k 0) (fa (σ 114) k 1) (l0) (l1)) mv_X6_like kw_817 cf6 (by decide) rfl rfl hl.1 rfl (Nat.le_of_ble_eq_true rfl) ⟨by decide, by decide⟩ ⟨Nat.le_refl _, Nat.le_refl _⟩ dX6_asks_202) hB (fun q_62 σ1 z_61 H locs hq_62 hp1 hB => ?_)
    obtain ⟨hp1, hf1, e2_⟩ := hp1
    rw [e2_] at hB
    clear e2_
    have hR := hB.1.2
    rcases hp1 with ⟨w1, e1, hq1, hA1⟩ | ⟨e1, hq1⟩
    · subst hq1
      have ho1 := mLike_ok ho (l0) (l1) e1
      refine z_if_eq (tgt := 225) hx hb dX6_asks_205 (by decide) ⟨by decide, by decide⟩ (fun c_63 => ?_) (fun c_63 => ?_)
      · exact absurd c_63 (by decide)
      · refine lv_aload_n hx hb dX6_asks_208 rfl (lv_at hl 4 rfl) ?_
        refine lv_iload_n hx hb dX6_asks_209 rfl (lv_at hl 6 rfl) ?_
        refine lv_bipush (v := iZ 10) hx hb dX6_asks_210 (by decide) ?_
        refine lv_iload hx hb dX6_asks_212 (lv_at hl 1 rfl) ?_
        refine z_imul hx hb dX6_asks_214 ?_
        refine g_calli (g_runV (i := 111) (As := [.int (iZ ((k : Nat) : Int)), .int (iZ (10 * (((fa (σ 114) k 1) : Nat) : Int)))]) (rest := []) hx hb hml hown hts hK hst hB (mX6_settle l θ hθ σ1 z w1 hA1 ho1 k (hk) (10 * (((fa (σ 114) k 1) : Nat) : Int)) (by omega)) mv_X6_settle kw_805 cf6 (by decide) rfl rfl hl.1 rfl (Nat.le_of_ble_eq_true rfl) ⟨by decide, by decide⟩ ⟨Nat.le_refl _, Nat.le_refl _⟩ dX6_asks_215) hB (fun q_65 σ2 z_64 H locs hq_65 hp2 hB => ?_)
        obtain ⟨hp2, hf2, e2_⟩ := hp2
        rw [e2_] at hB
        clear e2_
        have hR := hB.1.2
        rcases hp2 with ⟨w2, e2, hq2, hA2⟩ | ⟨e2, hq2⟩
        · subst hq2
          have ho2 := mSet_ok ho1 (hk) (by omega) e2
          refine z_if_eq (tgt := 225) hx hb dX6_asks_218 (by decide) ⟨by decide, by decide⟩ (fun c_66 => ?_) (fun c_66 => ?_)
          · exact absurd c_66 (by decide)
          · refine lv_iconst (v := iZ 1) hx hb dX6_asks_221 rfl ?_
            refine lv_goto (tgt := 226) hx hb dX6_asks_222 (by decide) ?_
            exact g_zret hx hb hr hlk hB dX6_asks_226 (by decide) (by first | exact ⟨Or.inl ⟨w2, by simp [mAsk, mThen, hkk, e1, e2], rfl, hA2⟩, hf1.tr hf2, rfl⟩ | exact ⟨Or.inr ⟨by simp [mAsk, mThen, hkk, e1, e2], rfl⟩, hf1.tr hf2, rfl⟩)
        · subst hq2
          refine z_if_eq (tgt := 225) hx hb dX6_asks_218 (by decide) ⟨by decide, by decide⟩ (fun c_67 => ?_) (fun c_67 => ?_)
          · refine lv_iconst (v := iZ 0) hx hb dX6_asks_225 rfl ?_
            exact g_zret hx hb hr hlk hB dX6_asks_226 (by decide) (by first | exact ⟨Or.inl ⟨w2, by simp [mAsk, mThen, hkk, e1, e2], rfl, hA2⟩, hf1.tr hf2, rfl⟩ | exact ⟨Or.inr ⟨by simp [mAsk, mThen, hkk, e1, e2], rfl⟩, hf1.tr hf2, rfl⟩)
          · exact absurd (by decide) c_67
    · subst hq1
      refine z_if_eq (tgt := 225) hx hb dX6_asks_205 (by decide) ⟨by decide, by decide⟩ (fun c_68 => ?_) (fun c_68 => ?_)
      · refine lv_iconst (v := iZ 0) hx hb dX6_asks_225 rfl ?_
        exact g_zret hx hb hr hlk hB dX6_asks_226 (by decide) (by first | exact ⟨Or.inl ⟨w1, by simp [mAsk, mThen, hkk, e1], rfl, hA1⟩, hf1, rfl⟩ | exact ⟨Or.inr ⟨by simp [mAsk, mThen, hkk, e1], rfl⟩, hf1, rfl⟩)
      · exact absurd (by decide) c_68
  · refine z_tabIn (v := 11) (off := 186) (tgt := 227) hx hb dX6_asks_41 c_2 ⟨by decide, by decide⟩ (by decide) (by decide) rfl (by decide) ?_
    have hkk := c_2
    have l0 : (fa (σ 114) k 0) < 8 := hW.st hk hn (by omega) (by unfold sPl; omega)
    have l1 : (fa (σ 114) k 1) < 8 := hW.st hk hn (by omega) (by unfold sPl; omega)
    have l2 : (fa (σ 114) k 2) < 8 := hW.st hk hn (by omega) (by unfold sPl; omega)
    refine lv_aload_n hx hb dX6_asks_227 rfl (lv_at hl 4 rfl) ?_
    refine lv_iload_n hx hb dX6_asks_228 rfl (lv_at hl 6 rfl) ?_
    refine lv_iload hx hb dX6_asks_229 (lv_at hl 2 rfl) ?_
    refine g_calli (g_runV (i := 111) (As := [.int (iZ ((k : Nat) : Int)), .int (iZ (((fa (σ 114) k 0) : Nat) : Int))]) (rest := []) hx hb hml hown hts hK hst hB (mX6_like l θ hθ σ z w hA ho k (fa (σ 114) k 0) (hk) (l0)) mv_X6_like kw_817 cf6 (by decide) rfl rfl hl.1 rfl (Nat.le_of_ble_eq_true rfl) ⟨by decide, by decide⟩ ⟨Nat.le_refl _, Nat.le_refl _⟩ dX6_asks_231) hB (fun q_70 σ1 z_69 H locs hq_70 hp1 hB => ?_)
    obtain ⟨hp1, hf1, e2_⟩ := hp1
    rw [e2_] at hB
    clear e2_
    have hR := hB.1.2
    rcases hp1 with ⟨w1, e1, hq1, hA1⟩ | ⟨e1, hq1⟩
    · subst hq1
      have ho1 := mLike_ok ho (hk) (l0) e1
      refine z_if_eq (tgt := 271) hx hb dX6_asks_234 (by decide) ⟨by decide, by decide⟩ (fun c_71 => ?_) (fun c_71 => ?_)
      · exact absurd c_71 (by decide)
      · refine lv_aload_n hx hb dX6_asks_237 rfl (lv_at hl 4 rfl) ?_
        refine lv_iload hx hb dX6_asks_238 (lv_at hl 1 rfl) ?_
        refine lv_bipush (v := iZ 10) hx hb dX6_asks_240 (by decide) ?_
        refine lv_iload hx hb dX6_asks_242 (lv_at hl 2 rfl) ?_
        refine z_imul hx hb dX6_asks_244 ?_
        refine lv_iconst (v := iZ 1) hx hb dX6_asks_245 rfl ?_
        refine z_iadd hx hb dX6_asks_246 ?_
        refine g_calli (g_runV (i := 111) (As := [.int (iZ (((fa (σ 114) k 1) : Nat) : Int)), .int (iZ ((10 * (((fa (σ 114) k 0) : Nat) : Int)) + 1))]) (rest := []) hx hb hml hown hts hK hst hB (mX6_settle l θ hθ σ1 z w1 hA1 ho1 (fa (σ 114) k 1) (l1) (10 * (((fa (σ 114) k 0) : Nat) : Int) + 1) (by omega)) mv_X6_settle kw_805 cf6 (by decide) rfl rfl hl.1 rfl (Nat.le_of_ble_eq_true rfl) ⟨by decide, by decide⟩ ⟨Nat.le_refl _, Nat.le_refl _⟩ dX6_asks_247) hB (fun q_73 σ2 z_72 H locs hq_73 hp2 hB => ?_)
        obtain ⟨hp2, hf2, e2_⟩ := hp2
        rw [e2_] at hB
        clear e2_
        have hR := hB.1.2
        rcases hp2 with ⟨w2, e2, hq2, hA2⟩ | ⟨e2, hq2⟩
        · subst hq2
          have ho2 := mSet_ok ho1 (l1) (by omega) e2
          refine z_if_eq (tgt := 271) hx hb dX6_asks_250 (by decide) ⟨by decide, by decide⟩ (fun c_74 => ?_) (fun c_74 => ?_)
          · exact absurd c_74 (by decide)
          · refine lv_aload_n hx hb dX6_asks_253 rfl (lv_at hl 4 rfl) ?_
            refine lv_iload hx hb dX6_asks_254 (lv_at hl 0 rfl) ?_
            refine lv_bipush (v := iZ 10) hx hb dX6_asks_256 (by decide) ?_
            refine lv_iload hx hb dX6_asks_258 (lv_at hl 2 rfl) ?_
            refine z_imul hx hb dX6_asks_260 ?_
            refine g_calli (g_runV (i := 111) (As := [.int (iZ (((fa (σ 114) k 2) : Nat) : Int)), .int (iZ (10 * (((fa (σ 114) k 0) : Nat) : Int)))]) (rest := []) hx hb hml hown hts hK hst hB (mX6_settle l θ hθ σ2 z w2 hA2 ho2 (fa (σ 114) k 2) (l2) (10 * (((fa (σ 114) k 0) : Nat) : Int)) (by omega)) mv_X6_settle kw_805 cf6 (by decide) rfl rfl hl.1 rfl (Nat.le_of_ble_eq_true rfl) ⟨by decide, by decide⟩ ⟨Nat.le_refl _, Nat.le_refl _⟩ dX6_asks_261) hB (fun q_76 σ3 z_75 H locs hq_76 hp3 hB => ?_)
            obtain ⟨hp3, hf3, e2_⟩ := hp3
            rw [e2_] at hB
            clear e2_
            have hR := hB.1.2
            rcases hp3 with ⟨w3, e3, hq3, hA3⟩ | ⟨e3, hq3⟩
            · subst hq3
              have ho3 := mSet_ok ho2 (l2) (by omega) e3
              refine z_if_eq (tgt := 271) hx hb dX6_asks_264 (by decide) ⟨by decide, by decide⟩ (fun c_77 => ?_) (fun c_77 => ?_)
              · exact absurd c_77 (by decide)
              · refine lv_iconst (v := iZ 1) hx hb dX6_asks_267 rfl ?_
                refine lv_goto (tgt := 272) hx hb dX6_asks_268 (by decide) ?_
                exact g_zret hx hb hr hlk hB dX6_asks_272 (by decide) (by first | exact ⟨Or.inl ⟨w3, by simp [mAsk, mThen, hkk, e1, e2, e3], rfl, hA3⟩, (hf1.tr hf2).tr hf3, rfl⟩ | exact ⟨Or.inr ⟨by simp [mAsk, mThen, hkk, e1, e2, e3], rfl⟩, (hf1.tr hf2).tr hf3, rfl⟩)
            · subst hq3
              refine z_if_eq (tgt := 271) hx hb dX6_asks_264 (by decide) ⟨by decide, by decide⟩ (fun c_78 => ?_) (fun c_78 => ?_)
              · refine lv_iconst (v := iZ 0) hx hb dX6_asks_271 rfl ?_
                exact g_zret hx hb hr hlk hB dX6_asks_272 (by decide) (by first | exact ⟨Or.inl ⟨w3, by simp [mAsk, mThen, hkk, e1, e2, e3], rfl, hA3⟩, (hf1.tr hf2).tr hf3, rfl⟩ | exact ⟨Or.inr ⟨by simp [mAsk, mThen, hkk, e1, e2, e3], rfl⟩, (hf1.tr hf2).tr hf3, rfl⟩)
              · exact absurd (by decide) c_78
        · subst hq2
          refine z_if_eq (tgt := 271) hx hb dX6_asks_250 (by decide) ⟨by decide, by decide⟩ (fun c_79 => ?_) (fun c_79 => ?_)
          · refine lv_iconst (v := iZ 0) hx hb dX6_asks_271 rfl ?_
            exact g_zret hx hb hr hlk hB dX6_asks_272 (by decide) (by first | exact ⟨Or.inl ⟨w2, by simp [mAsk, mThen, hkk, e1, e2], rfl, hA2⟩, hf1.tr hf2, rfl⟩ | exact ⟨Or.inr ⟨by simp [mAsk, mThen, hkk, e1, e2], rfl⟩, hf1.tr hf2, rfl⟩)
          · exact absurd (by decide) c_79
    · subst hq1
      refine z_if_eq (tgt := 271) hx hb dX6_asks_234 (by decide) ⟨by decide, by decide⟩ (fun c_80 => ?_) (fun c_80 => ?_)
      · refine lv_iconst (v := iZ 0) hx hb dX6_asks_271 rfl ?_
        exact g_zret hx hb hr hlk hB dX6_asks_272 (by decide) (by first | exact ⟨Or.inl ⟨w1, by simp [mAsk, mThen, hkk, e1], rfl, hA1⟩, hf1, rfl⟩ | exact ⟨Or.inr ⟨by simp [mAsk, mThen, hkk, e1], rfl⟩, hf1, rfl⟩)
      · exact absurd (by decide) c_80
