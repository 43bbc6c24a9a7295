set_option maxHeartbeats 4000000 in
set_option maxRecDepth 100000 in
theorem mX2_likenAll (l : Launch) (θ : gT) (hθ : gOK θ) (σ : gS) (z : gZ) (w : mC) (hA : cA σ w) (N : Nat) (hG : cW (fp σ 3) N) (k : Nat) (hk : k < N) : GI l θ yX2_likenAll cX2_likenAll 4 (some .boolean) 2 48 [.ref (tad θ 13), .ref (tad θ 3), .int (iZ ((k : Nat) : Int))] σ z (fun q σ' z' => oC (cAll (fp σ 3) k 3 w) q σ' ∧ fr wGB σ σ' ∧ z' = z) := by
  refine g_enter (ret := (some .boolean)) (by decide +kernel) (Nat.le_of_ble_eq_true rfl) ?_
  intro p e s m args below meth c ls F hB hl
  obtain ⟨hx, hb, hr, hml, hown, hts, hlk, hK, hst⟩ := F
  have hR := hB.1.2
  have hl : lv_has ls 4 [(0, .ref (tad θ 13)), (1, .ref (tad θ 3)), (2, .int (iZ ((k : Nat) : Int)))] := hl
  have hN8 := hG.2.1
  have hKk := (hG.2.2 k hk).1
  refine lv_iconst (v := iZ 0) hx hb dX2_likenAll_0 rfl ?_
  refine lv_istore_n (lv' := [(3, .int (iZ 0)), (0, .ref (tad θ 13)), (1, .ref (tad θ 3)), (2, .int (iZ ((k : Nat) : Int)))]) hx hb dX2_likenAll_1 rfl hl (by decide) rfl (fun ls hl => ?_)
  have loop2 : ∀ (n2 : Nat) (i : Nat) (w1 : mC) (σ1 : gS) (H : Heap) (locs : List Loc) (ls : Array Slot), 3 - i < n2 → (i ≤ 3) → (cAll (fp σ 3) k i w = some w1) → (cA σ1 w1) → (fr wGB σ σ1) →  gB θ σ1 z s.heap H locs → lv_has ls 4 [(3, .int (iZ ((i : Nat) : Int))), (0, .ref (tad θ 13)), (1, .ref (tad θ 3)), (2, .int (iZ ((k : Nat) : Int)))] → W p l e (gRm 2 48) s m args below meth c H locs 0 0 (MQ below (gQi θ (fun q σ' z' => oC (cAll (fp σ 3) k 3 w) q σ' ∧ fr wGB σ σ' ∧ z' = z)) args s 0 0 (tA θ)) (F0 m 2 ls []) := by
    intro n2
    induction n2 with
    | zero => intro i w1 σ1 H locs ls hmu; exact absurd hmu (Nat.not_lt_zero _)
    | succ n2 ih2 =>
      intro i w1 σ1 H locs ls hmu hi e1 hA1 hf1 hB hl
      have hR := hB.1.2
      have hG1 := gb_fp3 hf1
      refine lv_iload_n hx hb dX2_likenAll_2 rfl (lv_at hl 0 rfl) ?_
      refine lv_iconst (v := iZ 3) hx hb dX2_likenAll_3 rfl ?_
      refine z_icmp_ge (tgt := 41) hx hb dX2_likenAll_4 (by decide) ⟨by omega, by omega⟩ ⟨by decide, by decide⟩ (fun c_1 => ?_) (fun c_1 => ?_)
      · refine lv_iconst (v := iZ 1) hx hb dX2_likenAll_41 rfl ?_
        exact g_zret hx hb hr hlk hB dX2_likenAll_42 (by decide) (⟨Or.inl ⟨w1, by rw [(show i = 3 by omega)] at e1; exact e1, rfl, hA1⟩, hf1, rfl⟩)
      · refine lv_aload_n hx hb dX2_likenAll_7 rfl (lv_at hl 2 rfl) ?_
        refine lv_iload_n hx hb dX2_likenAll_8 rfl (lv_at hl 3 rfl) ?_
        refine g_calli (g_runV (i := 3) (As := [.int (iZ ((k : Nat) : Int))]) (rest := []) hx hb hml hown hts hK hst hB (mX1_kindOf l θ hθ σ1 z 3 isF_3 k (by omega)) mv_X1_kindOf kw_383 cf1 (by decide) rfl rfl hl.1 rfl (Nat.le_of_ble_eq_true rfl) ⟨by decide, by decide⟩ ⟨Nat.le_refl _, Nat.le_refl _⟩ dX2_likenAll_9) hB (fun q_4 σ_2 z_3 H locs hq_4 pq_4 hB => ?_)
        obtain ⟨pq_4, e1_, e2_⟩ := pq_4
        rw [e1_, e2_] at hB
        clear e1_ e2_
        subst pq_4
        refine z_top (b := (fp σ 3 (1 + k))) (by rw [hG1]) ?_
        refine lv_iload_n hx hb dX2_likenAll_12 rfl (lv_at hl 0 rfl) ?_
        refine g_calli (g_runSN (As := [.int (iZ (fp σ 3 (1 + k))), .int (iZ ((i : Nat) : Int))]) (rest := []) hx hb hml hown hts hK hst hB (mX5_namesStream l θ hθ σ1 z (fp σ 3 (1 + k)) (by omega) i (by omega)) ms_X5_namesStream hst.2.2.2.2.1 rfl hl.1 rfl (Nat.le_of_ble_eq_true rfl) ⟨by decide, by decide⟩ ⟨Nat.le_refl _, Nat.le_refl _⟩ dX2_likenAll_13) hB (fun qn σ_5 z_6 H locs hqn hpn hB => ?_)
        obtain ⟨hpn, e1_, e2_⟩ := hpn
        rw [e1_, e2_] at hB
        clear e1_ e2_
        rcases hpn with ⟨hqn, hsp⟩ | ⟨hqn, hsp⟩
        · subst hqn
          have hnm := nmS_t (by omega) hsp
          have hlt := hG.st hk (by omega) hsp
          refine z_if_eq (tgt := 35) hx hb dX2_likenAll_16 (by decide) ⟨by decide, by decide⟩ (fun c_7 => ?_) (fun c_7 => ?_)
          · exact absurd c_7 (by decide)
          · refine lv_aload_n hx hb dX2_likenAll_19 rfl (lv_at hl 1 rfl) ?_
            refine lv_iload_n hx hb dX2_likenAll_20 rfl (lv_at hl 3 rfl) ?_
            refine lv_aload_n hx hb dX2_likenAll_21 rfl (lv_at hl 2 rfl) ?_
            refine lv_iload_n hx hb dX2_likenAll_22 rfl (lv_at hl 3 rfl) ?_
            refine lv_iload_n hx hb dX2_likenAll_23 rfl (lv_at hl 0 rfl) ?_
            refine g_calli (g_runV (i := 3) (As := [.int (iZ ((k : Nat) : Int)), .int (iZ ((i : Nat) : Int))]) (rest := [.int (iZ ((k : Nat) : Int)), .ref (tad θ 13)]) hx hb hml hown hts hK hst hB (mX1_streamPart l θ hθ σ1 z 3 isF_3 k (by omega) i (by omega)) mv_X1_streamPart kw_379 cf1 (by decide) rfl rfl hl.1 rfl (Nat.le_of_ble_eq_true rfl) ⟨by decide, by decide⟩ ⟨Nat.le_refl _, Nat.le_refl _⟩ dX2_likenAll_24) hB (fun q_10 σ_8 z_9 H locs hq_10 pq_10 hB => ?_)
            obtain ⟨pq_10, e1_, e2_⟩ := pq_10
            rw [e1_, e2_] at hB
            clear e1_ e2_
            subst pq_10
            refine z_top (b := (((fa (fp σ 3) k i) : Nat) : Int)) (by rw [hG1]; exact hG.sp hk (by omega) (by omega)) ?_
            refine g_calli (g_runV (i := 13) (As := [.int (iZ ((k : Nat) : Int)), .int (iZ (((fa (fp σ 3) k i) : Nat) : Int))]) (rest := []) hx hb hml hown hts hK hst hB (mX2_liken l θ hθ σ1 z w1 hA1 k (fa (fp σ 3) k i) (by omega) (by omega)) mv_X2_liken kw_388 cf2 (by decide) rfl rfl hl.1 rfl (Nat.le_of_ble_eq_true rfl) ⟨by decide, by decide⟩ ⟨Nat.le_refl _, Nat.le_refl _⟩ dX2_likenAll_27) hB (fun q_12 σ2 z_11 H locs hq_12 hp2 hB => ?_)
            obtain ⟨hp2, hf2, e2_⟩ := hp2
            rw [e2_] at hB
            clear e2_
            have hR := hB.1.2
            rcases hp2 with ⟨w2, e2, hq2, hA2⟩ | ⟨e2, hq2⟩
            · subst hq2
              refine z_if_ne (tgt := 35) hx hb dX2_likenAll_30 (by decide) ⟨by decide, by decide⟩ (fun c_13 => ?_) (fun c_13 => ?_)
              · refine z_iinc (k := 0) (lv' := [(3, .int (iZ (((i : Nat) : Int) + 1))), (0, .ref (tad θ 13)), (1, .ref (tad θ 3)), (2, .int (iZ ((k : Nat) : Int)))]) hx hb dX2_likenAll_35 hl rfl (by decide) rfl (fun ls hl => ?_)
                have hl : lv_has ls 4 [(3, .int (iZ (((i + 1) : Nat) : Int))), (0, .ref (tad θ 13)), (1, .ref (tad θ 3)), (2, .int (iZ ((k : Nat) : Int)))] := by have e9 : (((i : Nat) : Int) + 1) = (((i + 1) : Nat) : Int) := (by omega); rw [e9] at hl; exact hl
                refine lv_goto (tgt := 2) hx hb dX2_likenAll_38 (by decide) ?_
                exact ih2 (i + 1) w2 σ2 _ _ _ (by omega) (by omega) (by rw [cAll, e1]; show (if _ then _ else _) = _; rw [if_pos hnm, e2]) hA2 (hf1.tr hf2) hB (lv_sub hl [0, 1, 2, 3] rfl)
              · exact absurd c_13 (by decide)
            · subst hq2
              refine z_if_ne (tgt := 35) hx hb dX2_likenAll_30 (by decide) ⟨by decide, by decide⟩ (fun c_14 => ?_) (fun c_14 => ?_)
              · exact absurd (by decide) c_14
              · refine lv_iconst (v := iZ 0) hx hb dX2_likenAll_33 rfl ?_
                exact g_zret hx hb hr hlk hB dX2_likenAll_34 (by decide) (⟨Or.inr ⟨cAll_none (i := i + 1) (by rw [cAll, e1]; show (if _ then _ else _) = _; rw [if_pos hnm, e2]) (by omega), rfl⟩, hf1.tr hf2, rfl⟩)
        · subst hqn
          have hnm := nmS_f (by omega) hsp
          refine z_if_eq (tgt := 35) hx hb dX2_likenAll_16 (by decide) ⟨by decide, by decide⟩ (fun c_15 => ?_) (fun c_15 => ?_)
          · refine z_iinc (k := 0) (lv' := [(3, .int (iZ (((i : Nat) : Int) + 1))), (0, .ref (tad θ 13)), (1, .ref (tad θ 3)), (2, .int (iZ ((k : Nat) : Int)))]) hx hb dX2_likenAll_35 hl rfl (by decide) rfl (fun ls hl => ?_)
            have hl : lv_has ls 4 [(3, .int (iZ (((i + 1) : Nat) : Int))), (0, .ref (tad θ 13)), (1, .ref (tad θ 3)), (2, .int (iZ ((k : Nat) : Int)))] := by have e9 : (((i : Nat) : Int) + 1) = (((i + 1) : Nat) : Int) := (by omega); rw [e9] at hl; exact hl
            refine lv_goto (tgt := 2) hx hb dX2_likenAll_38 (by decide) ?_
            exact ih2 (i + 1) w1 σ1 _ _ _ (by omega) (by omega) (by rw [cAll, e1]; show (if _ then _ else _) = _; rw [if_neg (by rw [hnm]; exact Bool.false_ne_true)]) hA1 hf1 hB (lv_sub hl [0, 1, 2, 3] rfl)
          · exact absurd (by decide) c_15
  exact loop2 _ 0 w σ _ _ _ (Nat.lt_succ_self _) (by omega) rfl hA fr.rf hB (lv_sub hl [0, 1, 2, 3] rfl)
set_option maxHeartbeats 4000000 in
set_option maxRecDepth 100000 in
theorem mX2_meet (l : Launch) (θ : gT) (hθ : gOK θ) (σ : gS) (z : gZ) (w : mC) (hA : cA σ w) (N : Nat) (hG : cW (fp σ 3) N) (k : Nat) (hk : k < N) : GI l θ yX2_meet cX2_meet 5 (some .boolean) 3 71 [.ref (tad θ 13), .ref (tad θ 3), .int (iZ ((k : Nat) : Int))] σ z (fun q σ' z' => oC (cAsk (fp σ 3) k w) q σ' ∧ fr wGB σ σ' ∧ z' = z) := by
  refine g_enter (ret := (some .boolean)) (by decide +kernel) (Nat.le_of_ble_eq_true rfl) ?_
  intro p e s m args below meth c ls F hB hl
  obtain ⟨hx, hb, hr, hml, hown, hts, hlk, hK, hst⟩ := F
  have hR := hB.1.2
  have hl : lv_has ls 5 [(0, .ref (tad θ 13)), (1, .ref (tad θ 3)), (2, .int (iZ ((k : Nat) : Int)))] := hl
  have hN8 := hG.2.1
  have hKk := (hG.2.2 k hk).1
  have h90 := hG.l9 hk (i := 0) (by omega)
  have h91 := hG.l9 hk (i := 1) (by omega)
  refine lv_aload_n hx hb dX2_meet_0 rfl (lv_at hl 1 rfl) ?_
  refine lv_iload_n hx hb dX2_meet_1 rfl (lv_at hl 2 rfl) ?_
  refine lv_iconst (v := iZ 0) hx hb dX2_meet_2 rfl ?_
  refine g_calli (g_runV (i := 3) (As := [.int (iZ ((k : Nat) : Int)), .int (iZ 0)]) (rest := []) hx hb hml hown hts hK hst hB (mX1_streamPart l θ hθ σ z 3 isF_3 k (by omega) 0 (by omega)) mv_X1_streamPart kw_379 cf1 (by decide) rfl rfl hl.1 rfl (Nat.le_of_ble_eq_true rfl) ⟨by decide, by decide⟩ ⟨Nat.le_refl _, Nat.le_refl _⟩ dX2_meet_3) hB (fun q_3 σ_1 z_2 H locs hq_3 pq_3 hB => ?_)
  obtain ⟨pq_3, e1_, e2_⟩ := pq_3
  rw [e1_, e2_] at hB
  clear e1_ e2_
  subst pq_3
  refine z_top (b := (((sp0 (fa (fp σ 3) k 0)) : Nat) : Int)) (hG.spn hk (i := 0) (by omega)) ?_
  refine lv_istore_n (lv' := [(3, .int (iZ (((sp0 (fa (fp σ 3) k 0)) : Nat) : Int))), (0, .ref (tad θ 13)), (1, .ref (tad θ 3)), (2, .int (iZ ((k : Nat) : Int)))]) hx hb dX2_meet_6 rfl hl (by decide) rfl (fun ls hl => ?_)
  refine lv_aload_n hx hb dX2_meet_7 rfl (lv_at hl 2 rfl) ?_
  refine lv_iload_n hx hb dX2_meet_8 rfl (lv_at hl 3 rfl) ?_
  refine lv_iconst (v := iZ 1) hx hb dX2_meet_9 rfl ?_
  refine g_calli (g_runV (i := 3) (As := [.int (iZ ((k : Nat) : Int)), .int (iZ 1)]) (rest := []) hx hb hml hown hts hK hst hB (mX1_streamPart l θ hθ σ z 3 isF_3 k (by omega) 1 (by omega)) mv_X1_streamPart kw_379 cf1 (by decide) rfl rfl hl.1 rfl (Nat.le_of_ble_eq_true rfl) ⟨by decide, by decide⟩ ⟨Nat.le_refl _, Nat.le_refl _⟩ dX2_meet_10) hB (fun q_6 σ_4 z_5 H locs hq_6 pq_6 hB => ?_)
  obtain ⟨pq_6, e1_, e2_⟩ := pq_6
  rw [e1_, e2_] at hB
  clear e1_ e2_
  subst pq_6
  refine z_top (b := (((sp0 (fa (fp σ 3) k 1)) : Nat) : Int)) (hG.spn hk (i := 1) (by omega)) ?_
  refine lv_istore (lv' := [(4, .int (iZ (((sp0 (fa (fp σ 3) k 1)) : Nat) : Int))), (3, .int (iZ (((sp0 (fa (fp σ 3) k 0)) : Nat) : Int))), (0, .ref (tad θ 13)), (1, .ref (tad θ 3)), (2, .int (iZ ((k : Nat) : Int)))]) hx hb dX2_meet_13 hl (by decide) rfl (fun ls hl => ?_)
  refine lv_aload_n hx hb dX2_meet_15 rfl (lv_at hl 3 rfl) ?_
  refine lv_iload_n hx hb dX2_meet_16 rfl (lv_at hl 4 rfl) ?_
  refine g_calli (g_runV (i := 3) (As := [.int (iZ ((k : Nat) : Int))]) (rest := []) hx hb hml hown hts hK hst hB (mX1_kindOf l θ hθ σ z 3 isF_3 k (by omega)) mv_X1_kindOf kw_383 cf1 (by decide) rfl rfl hl.1 rfl (Nat.le_of_ble_eq_true rfl) ⟨by decide, by decide⟩ ⟨Nat.le_refl _, Nat.le_refl _⟩ dX2_meet_17) hB (fun q_9 σ_7 z_8 H locs hq_9 pq_9 hB => ?_)
  obtain ⟨pq_9, e1_, e2_⟩ := pq_9
  rw [e1_, e2_] at hB
  clear e1_ e2_
  subst pq_9
  rcases (show ((fp σ 3 (1 + k)) ≠ 0 ∧ (fp σ 3 (1 + k)) ≠ 9 ∧ (fp σ 3 (1 + k)) ≠ 10 ∧ (fp σ 3 (1 + k)) ≠ 11) ∨ (fp σ 3 (1 + k)) = 0 ∨ (fp σ 3 (1 + k)) = 9 ∨ (fp σ 3 (1 + k)) = 10 ∨ (fp σ 3 (1 + k)) = 11 by omega) with c_10 | c_10 | c_10 | c_10 | c_10
  · refine z_look (off := 159) (tgt := 179) hx hb dX2_meet_20 (by decide) ⟨by omega, by omega⟩ (by simp [Op.lookupswitch.offset, c_10, Ne.symm c_10.1, Ne.symm c_10.2.1, Ne.symm c_10.2.2.1, Ne.symm c_10.2.2.2]) (by decide) ?_
    have hkk := c_10
    refine lv_aload_n hx hb dX2_meet_179 rfl (lv_at hl 2 rfl) ?_
    refine lv_aload_n hx hb dX2_meet_180 rfl (lv_at hl 3 rfl) ?_
    refine lv_iload_n hx hb dX2_meet_181 rfl (lv_at hl 4 rfl) ?_
    refine g_calli (g_runV (i := 13) (As := [.ref (tad θ 3), .int (iZ ((k : Nat) : Int))]) (rest := []) hx hb hml hown hts hK hst hB (mX2_likenAll l θ hθ σ z w hA N hG k hk) mv_X2_likenAll kw_392 cf2 (by decide) rfl rfl hl.1 rfl (Nat.le_of_ble_eq_true rfl) ⟨by decide, by decide⟩ ⟨Nat.le_refl _, Nat.le_refl _⟩ dX2_meet_182) hB (fun q_12 σ1 z_11 H locs hq_12 hp1 hB => ?_)
    obtain ⟨hp1, hf1, e2_⟩ := hp1
    rw [e2_] at hB
    clear e2_
    have hR := hB.1.2
    rcases hp1 with ⟨w1, e1, hq1, hA1⟩ | ⟨e1, hq1⟩
    · subst hq1
      exact g_zret hx hb hr hlk hB dX2_meet_185 (by decide) (⟨Or.inl ⟨w1, by simp [cAsk, mThen, hkk, e1], rfl, hA1⟩, hf1, rfl⟩)
    · subst hq1
      exact g_zret hx hb hr hlk hB dX2_meet_185 (by decide) (⟨Or.inr ⟨by simp [cAsk, mThen, hkk, e1], rfl⟩, hf1, rfl⟩)
  · refine z_look (off := 44) (tgt := 64) hx hb dX2_meet_20 (by decide) ⟨by omega, by omega⟩ (by rw [c_10]; decide) (by decide) ?_
    have hkk := c_10
    refine lv_aload_n hx hb dX2_meet_64 rfl (lv_at hl 2 rfl) ?_
    refine lv_iload_n hx hb dX2_meet_65 rfl (lv_at hl 4 rfl) ?_
    refine lv_bipush (v := iZ (-2)) hx hb dX2_meet_66 (by decide) ?_
    refine g_calli (g_runV (i := 13) (As := [.int (iZ ((k : Nat) : Int)), .int (iZ (-2))]) (rest := []) hx hb hml hown hts hK hst hB (mX2_bind l θ hθ σ z w hA k (by omega) (-2) ⟨by omega, by omega⟩) mv_X2_bind kw_384 cf2 (by decide) rfl rfl hl.1 rfl (Nat.le_of_ble_eq_true rfl) ⟨by decide, by decide⟩ ⟨Nat.le_refl _, Nat.le_refl _⟩ dX2_meet_68) hB (fun q_14 σ1 z_13 H locs hq_14 hp1 hB => ?_)
    obtain ⟨hp1, hf1, e2_⟩ := hp1
    rw [e2_] at hB
    clear e2_
    have hR := hB.1.2
    rcases hp1 with ⟨w1, e1, hq1, hA1⟩ | ⟨e1, hq1⟩
    · subst hq1
      exact g_zret hx hb hr hlk hB dX2_meet_71 (by decide) (⟨Or.inl ⟨w1, by simp [cAsk, mThen, hkk, e1], rfl, hA1⟩, hf1, rfl⟩)
    · subst hq1
      exact g_zret hx hb hr hlk hB dX2_meet_71 (by decide) (⟨Or.inr ⟨by simp [cAsk, mThen, hkk, e1], rfl⟩, hf1, rfl⟩)
  · refine z_look (off := 52) (tgt := 72) hx hb dX2_meet_20 (by decide) ⟨by omega, by omega⟩ (by rw [c_10]; decide) (by decide) ?_
    have hkk := c_10
    have l0 : (fa (fp σ 3) k 0) < N := hG.st hk (by omega) (by unfold sPl; omega)
    have l1 : (fa (fp σ 3) k 1) < N := hG.st hk (by omega) (by unfold sPl; omega)
    have hl : lv_has ls 5 [(4, .int (iZ (((fa (fp σ 3) k 1) : Nat) : Int))), (3, .int (iZ (((fa (fp σ 3) k 0) : Nat) : Int))), (0, .ref (tad θ 13)), (1, .ref (tad θ 3)), (2, .int (iZ ((k : Nat) : Int)))] := by rw [sp0_in (show (fa (fp σ 3) k 0) < 8 by omega), sp0_in (show (fa (fp σ 3) k 1) < 8 by omega)] at hl; exact hl
    refine lv_aload_n hx hb dX2_meet_72 rfl (lv_at hl 2 rfl) ?_
    refine lv_iload_n hx hb dX2_meet_73 rfl (lv_at hl 1 rfl) ?_
    refine lv_iload hx hb dX2_meet_74 (lv_at hl 0 rfl) ?_
    refine g_calli (g_runV (i := 13) (As := [.int (iZ (((fa (fp σ 3) k 0) : Nat) : Int)), .int (iZ (((fa (fp σ 3) k 1) : Nat) : Int))]) (rest := []) hx hb hml hown hts hK hst hB (mX2_liken l θ hθ σ z w hA (fa (fp σ 3) k 0) (fa (fp σ 3) k 1) (by omega) (by omega)) mv_X2_liken kw_388 cf2 (by decide) rfl rfl hl.1 rfl (Nat.le_of_ble_eq_true rfl) ⟨by decide, by decide⟩ ⟨Nat.le_refl _, Nat.le_refl _⟩ dX2_meet_76) hB (fun q_16 σ1 z_15 H locs hq_16 hp1 hB => ?_)
    obtain ⟨hp1, hf1, e2_⟩ := hp1
    rw [e2_] at hB
    clear e2_
    have hR := hB.1.2
    rcases hp1 with ⟨w1, e1, hq1, hA1⟩ | ⟨e1, hq1⟩
    · subst hq1
      refine z_if_eq (tgt := 101) hx hb dX2_meet_79 (by decide) ⟨by decide, by decide⟩ (fun c_17 => ?_) (fun c_17 => ?_)
      · exact absurd c_17 (by decide)
      · refine lv_aload_n hx hb dX2_meet_82 rfl (lv_at hl 2 rfl) ?_
        refine lv_iload_n hx hb dX2_meet_83 rfl (lv_at hl 4 rfl) ?_
        refine lv_bipush (v := iZ 10) hx hb dX2_meet_84 (by decide) ?_
        refine lv_iload hx hb dX2_meet_86 (lv_at hl 0 rfl) ?_
        refine z_imul hx hb dX2_meet_88 ?_
        refine lv_iconst (v := iZ 1) hx hb dX2_meet_89 rfl ?_
        refine z_iadd hx hb dX2_meet_90 ?_
        refine g_calli (g_runV (i := 13) (As := [.int (iZ ((k : Nat) : Int)), .int (iZ ((10 * (((fa (fp σ 3) k 1) : Nat) : Int)) + 1))]) (rest := []) hx hb hml hown hts hK hst hB (mX2_bind l θ hθ σ1 z w1 hA1 k (by omega) (10 * (((fa (fp σ 3) k 1) : Nat) : Int) + 1) ⟨by omega, by omega⟩) mv_X2_bind kw_384 cf2 (by decide) rfl rfl hl.1 rfl (Nat.le_of_ble_eq_true rfl) ⟨by decide, by decide⟩ ⟨Nat.le_refl _, Nat.le_refl _⟩ dX2_meet_91) hB (fun q_19 σ2 z_18 H locs hq_19 hp2 hB => ?_)
        obtain ⟨hp2, hf2, e2_⟩ := hp2
        rw [e2_] at hB
        clear e2_
        have hR := hB.1.2
        rcases hp2 with ⟨w2, e2, hq2, hA2⟩ | ⟨e2, hq2⟩
        · subst hq2
          refine z_if_eq (tgt := 101) hx hb dX2_meet_94 (by decide) ⟨by decide, by decide⟩ (fun c_20 => ?_) (fun c_20 => ?_)
          · exact absurd c_20 (by decide)
          · refine lv_iconst (v := iZ 1) hx hb dX2_meet_97 rfl ?_
            refine lv_goto (tgt := 102) hx hb dX2_meet_98 (by decide) ?_
            exact g_zret hx hb hr hlk hB dX2_meet_102 (by decide) (⟨Or.inl ⟨w2, by simp [cAsk, mThen, hkk, e1, e2], rfl, hA2⟩, hf1.tr hf2, rfl⟩)
        · subst hq2
          refine z_if_eq (tgt := 101) hx hb dX2_meet_94 (by decide) ⟨by decide, by decide⟩ (fun c_21 => ?_) (fun c_21 => ?_)
          · refine lv_iconst (v := iZ 0) hx hb dX2_meet_101 rfl ?_
            exact g_zret hx hb hr hlk hB dX2_meet_102 (by decide) (⟨Or.inr ⟨by simp [cAsk, mThen, hkk, e1, e2], rfl⟩, hf1.tr hf2, rfl⟩)
          · exact absurd (by decide) c_21
    · subst hq1
      refine z_if_eq (tgt := 101) hx hb dX2_meet_79 (by decide) ⟨by decide, by decide⟩ (fun c_22 => ?_) (fun c_22 => ?_)
      · refine lv_iconst (v := iZ 0) hx hb dX2_meet_101 rfl ?_
        exact g_zret hx hb hr hlk hB dX2_meet_102 (by decide) (⟨Or.inr ⟨by simp [cAsk, mThen, hkk, e1], rfl⟩, hf1, rfl⟩)
      · exact absurd (by decide) c_22
  · refine z_look (off := 83) (tgt := 103) hx hb dX2_meet_20 (by decide) ⟨by omega, by omega⟩ (by rw [c_10]; decide) (by decide) ?_
    have hkk := c_10
    have l0 : (fa (fp σ 3) k 0) < N := hG.st hk (by omega) (by unfold sPl; omega)
    have l1 : (fa (fp σ 3) k 1) < N := hG.st hk (by omega) (by unfold sPl; omega)
    have hl : lv_has ls 5 [(4, .int (iZ (((fa (fp σ 3) k 1) : Nat) : Int))), (3, .int (iZ (((fa (fp σ 3) k 0) : Nat) : Int))), (0, .ref (tad θ 13)), (1, .ref (tad θ 3)), (2, .int (iZ ((k : Nat) : Int)))] := by rw [sp0_in (show (fa (fp σ 3) k 0) < 8 by omega), sp0_in (show (fa (fp σ 3) k 1) < 8 by omega)] at hl; exact hl
    refine lv_aload_n hx hb dX2_meet_103 rfl (lv_at hl 2 rfl) ?_
    refine lv_iload_n hx hb dX2_meet_104 rfl (lv_at hl 1 rfl) ?_
    refine lv_iload hx hb dX2_meet_105 (lv_at hl 0 rfl) ?_
    refine g_calli (g_runV (i := 13) (As := [.int (iZ (((fa (fp σ 3) k 0) : Nat) : Int)), .int (iZ (((fa (fp σ 3) k 1) : Nat) : Int))]) (rest := []) hx hb hml hown hts hK hst hB (mX2_liken l θ hθ σ z w hA (fa (fp σ 3) k 0) (fa (fp σ 3) k 1) (by omega) (by omega)) mv_X2_liken kw_388 cf2 (by decide) rfl rfl hl.1 rfl (Nat.le_of_ble_eq_true rfl) ⟨by decide, by decide⟩ ⟨Nat.le_refl _, Nat.le_refl _⟩ dX2_meet_107) hB (fun q_24 σ1 z_23 H locs hq_24 hp1 hB => ?_)
    obtain ⟨hp1, hf1, e2_⟩ := hp1
    rw [e2_] at hB
    clear e2_
    have hR := hB.1.2
    rcases hp1 with ⟨w1, e1, hq1, hA1⟩ | ⟨e1, hq1⟩
    · subst hq1
      refine z_if_eq (tgt := 130) hx hb dX2_meet_110 (by decide) ⟨by decide, by decide⟩ (fun c_25 => ?_) (fun c_25 => ?_)
      · exact absurd c_25 (by decide)
      · refine lv_aload_n hx hb dX2_meet_113 rfl (lv_at hl 2 rfl) ?_
        refine lv_iload_n hx hb dX2_meet_114 rfl (lv_at hl 4 rfl) ?_
        refine lv_bipush (v := iZ 10) hx hb dX2_meet_115 (by decide) ?_
        refine lv_iload hx hb dX2_meet_117 (lv_at hl 0 rfl) ?_
        refine z_imul hx hb dX2_meet_119 ?_
        refine g_calli (g_runV (i := 13) (As := [.int (iZ ((k : Nat) : Int)), .int (iZ (10 * (((fa (fp σ 3) k 1) : Nat) : Int)))]) (rest := []) hx hb hml hown hts hK hst hB (mX2_bind l θ hθ σ1 z w1 hA1 k (by omega) (10 * (((fa (fp σ 3) k 1) : Nat) : Int)) ⟨by omega, by omega⟩) mv_X2_bind kw_384 cf2 (by decide) rfl rfl hl.1 rfl (Nat.le_of_ble_eq_true rfl) ⟨by decide, by decide⟩ ⟨Nat.le_refl _, Nat.le_refl _⟩ dX2_meet_120) hB (fun q_27 σ2 z_26 H locs hq_27 hp2 hB => ?_)
        obtain ⟨hp2, hf2, e2_⟩ := hp2
        rw [e2_] at hB
        clear e2_
        have hR := hB.1.2
        rcases hp2 with ⟨w2, e2, hq2, hA2⟩ | ⟨e2, hq2⟩
        · subst hq2
          refine z_if_eq (tgt := 130) hx hb dX2_meet_123 (by decide) ⟨by decide, by decide⟩ (fun c_28 => ?_) (fun c_28 => ?_)
          · exact absurd c_28 (by decide)
          · refine lv_iconst (v := iZ 1) hx hb dX2_meet_126 rfl ?_
            refine lv_goto (tgt := 131) hx hb dX2_meet_127 (by decide) ?_
            exact g_zret hx hb hr hlk hB dX2_meet_131 (by decide) (⟨Or.inl ⟨w2, by simp [cAsk, mThen, hkk, e1, e2], rfl, hA2⟩, hf1.tr hf2, rfl⟩)
        · subst hq2
          refine z_if_eq (tgt := 130) hx hb dX2_meet_123 (by decide) ⟨by decide, by decide⟩ (fun c_29 => ?_) (fun c_29 => ?_)
          · refine lv_iconst (v := iZ 0) hx hb dX2_meet_130 rfl ?_
            exact g_zret hx hb hr hlk hB dX2_meet_131 (by decide) (⟨Or.inr ⟨by simp [cAsk, mThen, hkk, e1, e2], rfl⟩, hf1.tr hf2, rfl⟩)
          · exact absurd (by decide) c_29
    · subst hq1
      refine z_if_eq (tgt := 130) hx hb dX2_meet_110 (by decide) ⟨by decide, by decide⟩ (fun c_30 => ?_) (fun c_30 => ?_)
      · refine lv_iconst (v := iZ 0) hx hb dX2_meet_130 rfl ?_
        exact g_zret hx hb hr hlk hB dX2_meet_131 (by decide) (⟨Or.inr ⟨by simp [cAsk, mThen, hkk, e1], rfl⟩, hf1, rfl⟩)
      · exact absurd (by decide) c_30
  · refine z_look (off := 112) (tgt := 132) hx hb dX2_meet_20 (by decide) ⟨by omega, by omega⟩ (by rw [c_10]; decide) (by decide) ?_
    have hkk := c_10
    have l0 : (fa (fp σ 3) k 0) < N := hG.st hk (by omega) (by unfold sPl; omega)
    have l1 : (fa (fp σ 3) k 1) < N := hG.st hk (by omega) (by unfold sPl; omega)
    have l2 : (fa (fp σ 3) k 2) < N := hG.st hk (by omega) (by unfold sPl; omega)
    have hl : lv_has ls 5 [(4, .int (iZ (((fa (fp σ 3) k 1) : Nat) : Int))), (3, .int (iZ (((fa (fp σ 3) k 0) : Nat) : Int))), (0, .ref (tad θ 13)), (1, .ref (tad θ 3)), (2, .int (iZ ((k : Nat) : Int)))] := by rw [sp0_in (show (fa (fp σ 3) k 0) < 8 by omega), sp0_in (show (fa (fp σ 3) k 1) < 8 by omega)] at hl; exact hl
    refine lv_aload_n hx hb dX2_meet_132 rfl (lv_at hl 2 rfl) ?_
    refine lv_iload_n hx hb dX2_meet_133 rfl (lv_at hl 4 rfl) ?_
    refine lv_iload_n hx hb dX2_meet_134 rfl (lv_at hl 1 rfl) ?_
    refine g_calli (g_runV (i := 13) (As := [.int (iZ ((k : Nat) : Int)), .int (iZ (((fa (fp σ 3) k 0) : Nat) : Int))]) (rest := []) hx hb hml hown hts hK hst hB (mX2_liken l θ hθ σ z w hA k (fa (fp σ 3) k 0) (by omega) (by omega)) mv_X2_liken kw_388 cf2 (by decide) rfl rfl hl.1 rfl (Nat.le_of_ble_eq_true rfl) ⟨by decide, by decide⟩ ⟨Nat.le_refl _, Nat.le_refl _⟩ dX2_meet_135) hB (fun q_32 σ1 z_31 H locs hq_32 hp1 hB => ?_)
    obtain ⟨hp1, hf1, e2_⟩ := hp1
    rw [e2_] at hB
    clear e2_
    have hR := hB.1.2
    rcases hp1 with ⟨w1, e1, hq1, hA1⟩ | ⟨e1, hq1⟩
    · subst hq1
      refine z_if_eq (tgt := 177) hx hb dX2_meet_138 (by decide) ⟨by decide, by decide⟩ (fun c_33 => ?_) (fun c_33 => ?_)
      · exact absurd c_33 (by decide)
      · refine lv_aload_n hx hb dX2_meet_141 rfl (lv_at hl 2 rfl) ?_
        refine lv_iload hx hb dX2_meet_142 (lv_at hl 0 rfl) ?_
        refine lv_bipush (v := iZ 10) hx hb dX2_meet_144 (by decide) ?_
        refine lv_iload_n hx hb dX2_meet_146 rfl (lv_at hl 1 rfl) ?_
        refine z_imul hx hb dX2_meet_147 ?_
        refine lv_iconst (v := iZ 1) hx hb dX2_meet_148 rfl ?_
        refine z_iadd hx hb dX2_meet_149 ?_
        refine g_calli (g_runV (i := 13) (As := [.int (iZ (((fa (fp σ 3) k 1) : Nat) : Int)), .int (iZ ((10 * (((fa (fp σ 3) k 0) : Nat) : Int)) + 1))]) (rest := []) hx hb hml hown hts hK hst hB (mX2_bind l θ hθ σ1 z w1 hA1 (fa (fp σ 3) k 1) (by omega) (10 * (((fa (fp σ 3) k 0) : Nat) : Int) + 1) ⟨by omega, by omega⟩) mv_X2_bind kw_384 cf2 (by decide) rfl rfl hl.1 rfl (Nat.le_of_ble_eq_true rfl) ⟨by decide, by decide⟩ ⟨Nat.le_refl _, Nat.le_refl _⟩ dX2_meet_150) hB (fun q_35 σ2 z_34 H locs hq_35 hp2 hB => ?_)
        obtain ⟨hp2, hf2, e2_⟩ := hp2
        rw [e2_] at hB
        clear e2_
        have hR := hB.1.2
        rcases hp2 with ⟨w2, e2, hq2, hA2⟩ | ⟨e2, hq2⟩
        · subst hq2
          refine z_if_eq (tgt := 177) hx hb dX2_meet_153 (by decide) ⟨by decide, by decide⟩ (fun c_36 => ?_) (fun c_36 => ?_)
          · exact absurd c_36 (by decide)
          · refine lv_aload_n hx hb dX2_meet_156 rfl (lv_at hl 2 rfl) ?_
            refine lv_aload_n hx hb dX2_meet_157 rfl (lv_at hl 3 rfl) ?_
            refine lv_iload_n hx hb dX2_meet_158 rfl (lv_at hl 4 rfl) ?_
            refine lv_iconst (v := iZ 2) hx hb dX2_meet_159 rfl ?_
            refine g_calli (g_runV (i := 3) (As := [.int (iZ ((k : Nat) : Int)), .int (iZ 2)]) (rest := [.ref (tad θ 13)]) hx hb hml hown hts hK hst hB (mX1_streamPart l θ hθ σ2 z 3 isF_3 k (by omega) 2 (by omega)) mv_X1_streamPart kw_379 cf1 (by decide) rfl rfl hl.1 rfl (Nat.le_of_ble_eq_true rfl) ⟨by decide, by decide⟩ ⟨Nat.le_refl _, Nat.le_refl _⟩ dX2_meet_160) hB (fun q_39 σ_37 z_38 H locs hq_39 pq_39 hB => ?_)
            obtain ⟨pq_39, e1_, e2_⟩ := pq_39
            rw [e1_, e2_] at hB
            clear e1_ e2_
            subst pq_39
            refine z_top (b := (((fa (fp σ 3) k 2) : Nat) : Int)) (by rw [gb_fp3 (hf1.tr hf2)]; exact hG.sp hk (i := 2) (by omega) (by omega)) ?_
            refine lv_bipush (v := iZ 10) hx hb dX2_meet_163 (by decide) ?_
            refine lv_iload_n hx hb dX2_meet_165 rfl (lv_at hl 1 rfl) ?_
            refine z_imul hx hb dX2_meet_166 ?_
            refine g_calli (g_runV (i := 13) (As := [.int (iZ (((fa (fp σ 3) k 2) : Nat) : Int)), .int (iZ (10 * (((fa (fp σ 3) k 0) : Nat) : Int)))]) (rest := []) hx hb hml hown hts hK hst hB (mX2_bind l θ hθ σ2 z w2 hA2 (fa (fp σ 3) k 2) (by omega) (10 * (((fa (fp σ 3) k 0) : Nat) : Int)) ⟨by omega, by omega⟩) mv_X2_bind kw_384 cf2 (by decide) rfl rfl hl.1 rfl (Nat.le_of_ble_eq_true rfl) ⟨by decide, by decide⟩ ⟨Nat.le_refl _, Nat.le_refl _⟩ dX2_meet_167) hB (fun q_41 σ3 z_40 H locs hq_41 hp3 hB => ?_)
            obtain ⟨hp3, hf3, e2_⟩ := hp3
            rw [e2_] at hB
            clear e2_
            have hR := hB.1.2
            rcases hp3 with ⟨w3, e3, hq3, hA3⟩ | ⟨e3, hq3⟩
            · subst hq3
              refine z_if_eq (tgt := 177) hx hb dX2_meet_170 (by decide) ⟨by decide, by decide⟩ (fun c_42 => ?_) (fun c_42 => ?_)
              · exact absurd c_42 (by decide)
              · refine lv_iconst (v := iZ 1) hx hb dX2_meet_173 rfl ?_
                refine lv_goto (tgt := 178) hx hb dX2_meet_174 (by decide) ?_
                exact g_zret hx hb hr hlk hB dX2_meet_178 (by decide) (⟨Or.inl ⟨w3, by simp [cAsk, mThen, hkk, e1, e2, e3], rfl, hA3⟩, (hf1.tr hf2).tr hf3, rfl⟩)
            · subst hq3
              refine z_if_eq (tgt := 177) hx hb dX2_meet_170 (by decide) ⟨by decide, by decide⟩ (fun c_43 => ?_) (fun c_43 => ?_)
              · refine lv_iconst (v := iZ 0) hx hb dX2_meet_177 rfl ?_
                exact g_zret hx hb hr hlk hB dX2_meet_178 (by decide) (⟨Or.inr ⟨by simp [cAsk, mThen, hkk, e1, e2, e3], rfl⟩, (hf1.tr hf2).tr hf3, rfl⟩)
              · exact absurd (by decide) c_43
        · subst hq2
          refine z_if_eq (tgt := 177) hx hb dX2_meet_153 (by decide) ⟨by decide, by decide⟩ (fun c_44 => ?_) (fun c_44 => ?_)
          · refine lv_iconst (v := iZ 0) hx hb dX2_meet_177 rfl ?_
            exact g_zret hx hb hr hlk hB dX2_meet_178 (by decide) (⟨Or.inr ⟨by simp [cAsk, mThen, hkk, e1, e2], rfl⟩, hf1.tr hf2, rfl⟩)
          · exact absurd (by decide) c_44
    · subst hq1
      refine z_if_eq (tgt := 177) hx hb dX2_meet_138 (by decide) ⟨by decide, by decide⟩ (fun c_45 => ?_) (fun c_45 => ?_)
      · refine lv_iconst (v := iZ 0) hx hb dX2_meet_177 rfl ?_
        exact g_zret hx hb hr hlk hB dX2_meet_178 (by decide) (⟨Or.inr ⟨by simp [cAsk, mThen, hkk, e1], rfl⟩, hf1, rfl⟩)
      · exact absurd (by decide) c_45
set_option maxHeartbeats 4000000 in
set_option maxRecDepth 100000 in
theorem mX2_haveEnds (l : Launch) (θ : gT) (hθ : gOK θ) (σ : gS) (z : gZ) (w : mC) (hA : cA σ w) (ho : cOK w) (N : Nat) (hc : σ 13 3 = (N : Int)) (hN8 : N ≤ 8) : GI l θ yX2_haveEnds cX2_haveEnds 4 (some .boolean) 1 21 [.ref (tad θ 13)] σ z (fun q σ' z' => ((q = 1 ∧ cEnd w N = true) ∨ (q = 0 ∧ cEnd w N = false)) ∧ σ' = σ ∧ z' = z) := by
  refine g_enter (ret := (some .boolean)) (by decide +kernel) (Nat.le_of_ble_eq_true rfl) ?_
  intro p e s m args below meth c ls F hB hl
  obtain ⟨hx, hb, hr, hml, hown, hts, hlk, hK, hst⟩ := F
  have hR := hB.1.2
  have hl : lv_has ls 4 [(0, .ref (tad θ 13))] := hl
  refine lv_iconst (v := iZ 0) hx hb dX2_haveEnds_0 rfl ?_
  refine lv_istore_n (lv' := [(1, .int (iZ 0)), (0, .ref (tad θ 13))]) hx hb dX2_haveEnds_1 rfl hl (by decide) rfl (fun ls hl => ?_)
  have loop2 : ∀ (n2 : Nat) (s1 : Nat) (H : Heap) (locs : List Loc) (ls : Array Slot), N - s1 < n2 → (s1 ≤ N) → (∀ j, j < s1 → w.2 (itr (cnx w) 8 (w.1 j)) < 0) →  gB θ σ z s.heap H locs → lv_has ls 4 [(1, .int (iZ ((s1 : Nat) : Int))), (0, .ref (tad θ 13))] → W p l e (gRm 1 21) s m args below meth c H locs 0 0 (MQ below (gQi θ (fun q σ' z' => ((q = 1 ∧ cEnd w N = true) ∨ (q = 0 ∧ cEnd w N = false)) ∧ σ' = σ ∧ z' = z)) args s 0 0 (tA θ)) (F0 m 2 ls []) := by
    intro n2
    induction n2 with
    | zero => intro s1 H locs ls hmu; exact absurd hmu (Nat.not_lt_zero _)
    | succ n2 ih2 =>
      intro s1 H locs ls hmu hs1 hall hB hl
      have hR := hB.1.2
      refine lv_iload_n hx hb dX2_haveEnds_2 rfl (lv_at hl 0 rfl) ?_
      refine lv_aload_n hx hb dX2_haveEnds_3 rfl (lv_at hl 1 rfl) ?_
      refine g_geti (k := 3) hx hb hts hown hK hB cf2 (by decide) rfl (by decide) kw_85 rfl dX2_haveEnds_4 ?_
      refine z_top (b := ((N : Nat) : Int)) (hc) ?_
      refine z_icmp_ge (tgt := 72) hx hb dX2_haveEnds_7 (by decide) ⟨by omega, by omega⟩ ⟨by omega, by omega⟩ (fun c_1 => ?_) (fun c_1 => ?_)
      · refine lv_iconst (v := iZ 1) hx hb dX2_haveEnds_72 rfl ?_
        exact g_zret hx hb hr hlk hB dX2_haveEnds_73 (by decide) (⟨Or.inl ⟨rfl, decide_eq_true (fun j hj => hall j (by omega))⟩, rfl, rfl⟩)
      · refine lv_aload_n hx hb dX2_haveEnds_10 rfl (lv_at hl 1 rfl) ?_
        refine g_getr (k := 4) (j := 14) hx hb hts hown hK hθ hB cf2 (by decide) rfl (by decide) kw_86 rfl rfl dX2_haveEnds_11 ?_
        refine lv_iload_n hx hb dX2_haveEnds_14 rfl (lv_at hl 0 rfl) ?_
        refine g_iald (k := s1) hx hb hK hB (by decide) rfl (by omega) (Nat.lt_of_lt_of_eq (by omega : s1 < 8) (Eq.symm rfl)) (by decide) dX2_haveEnds_15 ?_
        refine z_top (b := (((w.1 s1) : Nat) : Int)) ((hA s1 (by omega)).1.1) ?_
        refine lv_istore_n (lv' := [(2, .int (iZ (((w.1 s1) : Nat) : Int))), (1, .int (iZ ((s1 : Nat) : Int))), (0, .ref (tad θ 13))]) hx hb dX2_haveEnds_16 rfl hl (by decide) rfl (fun ls hl => ?_)
        refine lv_iconst (v := iZ 0) hx hb dX2_haveEnds_17 rfl ?_
        refine lv_istore_n (lv' := [(3, .int (iZ 0)), (2, .int (iZ (((w.1 s1) : Nat) : Int))), (1, .int (iZ ((s1 : Nat) : Int))), (0, .ref (tad θ 13))]) hx hb dX2_haveEnds_18 rfl hl (by decide) rfl (fun ls hl => ?_)
        have loop19 : ∀ (n19 : Nat) (r : Nat) (j : Nat) (H : Heap) (locs : List Loc) (ls : Array Slot), 8 - j < n19 → (r < 8) → (j ≤ 8) → (r = itr (cnx w) j (w.1 s1)) →  gB θ σ z s.heap H locs → lv_has ls 4 [(3, .int (iZ ((j : Nat) : Int))), (2, .int (iZ ((r : Nat) : Int))), (1, .int (iZ ((s1 : Nat) : Int))), (0, .ref (tad θ 13))] → W p l e (gRm 1 21) s m args below meth c H locs 0 0 (MQ below (gQi θ (fun q σ' z' => ((q = 1 ∧ cEnd w N = true) ∨ (q = 0 ∧ cEnd w N = false)) ∧ σ' = σ ∧ z' = z)) args s 0 0 (tA θ)) (F0 m 19 ls []) := by
          intro n19
          induction n19 with
          | zero => intro r j H locs ls hmu; exact absurd hmu (Nat.not_lt_zero _)
          | succ n19 ih19 =>
            intro r j H locs ls hmu hr8 hj hrj hB hl
            have hR := hB.1.2
            have hbr := (ho r hr8).2
            refine lv_iload_n hx hb dX2_haveEnds_19 rfl (lv_at hl 0 rfl) ?_
            refine lv_bipush (v := iZ 8) hx hb dX2_haveEnds_20 (by decide) ?_
            refine z_icmp_ge (tgt := 55) hx hb dX2_haveEnds_22 (by decide) ⟨by omega, by omega⟩ ⟨by decide, by decide⟩ (fun c_2 => ?_) (fun c_2 => ?_)
            · refine lv_aload_n hx hb dX2_haveEnds_55 rfl (lv_at hl 3 rfl) ?_
              refine g_getr (k := 5) (j := 15) hx hb hts hown hK hθ hB cf2 (by decide) rfl (by decide) kw_87 rfl rfl dX2_haveEnds_56 ?_
              refine lv_iload_n hx hb dX2_haveEnds_59 rfl (lv_at hl 1 rfl) ?_
              refine g_iald (k := r) hx hb hK hB (by decide) rfl (by omega) (Nat.lt_of_lt_of_eq (by omega : r < 8) (Eq.symm rfl)) (by decide) dX2_haveEnds_60 ?_
              refine z_top (b := (w.2 r)) ((hA r hr8).2) ?_
              refine z_if_lt (tgt := 66) hx hb dX2_haveEnds_61 (by decide) ⟨by omega, by omega⟩ (fun c_3 => ?_) (fun c_3 => ?_)
              · have hend : w.2 (itr (cnx w) 8 (w.1 s1)) < 0 := by rw [show 8 = j by omega, ← hrj]; omega
                refine z_iinc (k := 2) (lv' := [(1, .int (iZ (((s1 : Nat) : Int) + 1))), (3, .int (iZ ((j : Nat) : Int))), (2, .int (iZ ((r : Nat) : Int))), (0, .ref (tad θ 13))]) hx hb dX2_haveEnds_66 hl rfl (by decide) rfl (fun ls hl => ?_)
                have hl : lv_has ls 4 [(1, .int (iZ (((s1 + 1) : Nat) : Int))), (3, .int (iZ ((j : Nat) : Int))), (2, .int (iZ ((r : Nat) : Int))), (0, .ref (tad θ 13))] := by have e9 : (((s1 : Nat) : Int) + 1) = (((s1 + 1) : Nat) : Int) := (by omega); rw [e9] at hl; exact hl
                refine lv_goto (tgt := 2) hx hb dX2_haveEnds_69 (by decide) ?_
                exact ih2 (s1 + 1) _ _ _ (by omega) (by omega) (lt_s hall hend) hB (lv_sub hl [0, 3] rfl)
              · refine lv_iconst (v := iZ 0) hx hb dX2_haveEnds_64 rfl ?_
                exact g_zret hx hb hr hlk hB dX2_haveEnds_65 (by decide) (⟨Or.inr ⟨rfl, decide_eq_false (fun q => by have h9 := q s1 (by omega); rw [show 8 = j by omega, ← hrj] at h9; omega)⟩, rfl, rfl⟩)
            · refine lv_aload_n hx hb dX2_haveEnds_25 rfl (lv_at hl 3 rfl) ?_
              refine g_getr (k := 5) (j := 15) hx hb hts hown hK hθ hB cf2 (by decide) rfl (by decide) kw_87 rfl rfl dX2_haveEnds_26 ?_
              refine lv_iload_n hx hb dX2_haveEnds_29 rfl (lv_at hl 1 rfl) ?_
              refine g_iald (k := r) hx hb hK hB (by decide) rfl (by omega) (Nat.lt_of_lt_of_eq (by omega : r < 8) (Eq.symm rfl)) (by decide) dX2_haveEnds_30 ?_
              refine z_top (b := (w.2 r)) ((hA r hr8).2) ?_
              refine z_if_lt (tgt := 55) hx hb dX2_haveEnds_31 (by decide) ⟨by omega, by omega⟩ (fun c_4 => ?_) (fun c_4 => ?_)
              · refine lv_aload_n hx hb dX2_haveEnds_55 rfl (lv_at hl 3 rfl) ?_
                refine g_getr (k := 5) (j := 15) hx hb hts hown hK hθ hB cf2 (by decide) rfl (by decide) kw_87 rfl rfl dX2_haveEnds_56 ?_
                refine lv_iload_n hx hb dX2_haveEnds_59 rfl (lv_at hl 1 rfl) ?_
                refine g_iald (k := r) hx hb hK hB (by decide) rfl (by omega) (Nat.lt_of_lt_of_eq (by omega : r < 8) (Eq.symm rfl)) (by decide) dX2_haveEnds_60 ?_
                refine z_top (b := (w.2 r)) ((hA r hr8).2) ?_
                refine z_if_lt (tgt := 66) hx hb dX2_haveEnds_61 (by decide) ⟨by omega, by omega⟩ (fun c_5 => ?_) (fun c_5 => ?_)
                · have hend : w.2 (itr (cnx w) 8 (w.1 s1)) < 0 := by rw [itr_fix' (f := cnx w) (j := j) (k := 8) (s := w.1 s1) (by rw [← hrj]; exact cnx_end (by omega)) hj, ← hrj]; omega
                  refine z_iinc (k := 2) (lv' := [(1, .int (iZ (((s1 : Nat) : Int) + 1))), (3, .int (iZ ((j : Nat) : Int))), (2, .int (iZ ((r : Nat) : Int))), (0, .ref (tad θ 13))]) hx hb dX2_haveEnds_66 hl rfl (by decide) rfl (fun ls hl => ?_)
                  have hl : lv_has ls 4 [(1, .int (iZ (((s1 + 1) : Nat) : Int))), (3, .int (iZ ((j : Nat) : Int))), (2, .int (iZ ((r : Nat) : Int))), (0, .ref (tad θ 13))] := by have e9 : (((s1 : Nat) : Int) + 1) = (((s1 + 1) : Nat) : Int) := (by omega); rw [e9] at hl; exact hl
                  refine lv_goto (tgt := 2) hx hb dX2_haveEnds_69 (by decide) ?_
                  exact ih2 (s1 + 1) _ _ _ (by omega) (by omega) (lt_s hall hend) hB (lv_sub hl [0, 3] rfl)
                · exfalso; omega
              · refine lv_aload_n hx hb dX2_haveEnds_34 rfl (lv_at hl 3 rfl) ?_
                refine g_getr (k := 4) (j := 14) hx hb hts hown hK hθ hB cf2 (by decide) rfl (by decide) kw_86 rfl rfl dX2_haveEnds_35 ?_
                refine lv_aload_n hx hb dX2_haveEnds_38 rfl (lv_at hl 3 rfl) ?_
                refine g_getr (k := 5) (j := 15) hx hb hts hown hK hθ hB cf2 (by decide) rfl (by decide) kw_87 rfl rfl dX2_haveEnds_39 ?_
                refine lv_iload_n hx hb dX2_haveEnds_42 rfl (lv_at hl 1 rfl) ?_
                refine g_iald (k := r) hx hb hK hB (by decide) rfl (by omega) (Nat.lt_of_lt_of_eq (by omega : r < 8) (Eq.symm rfl)) (by decide) dX2_haveEnds_43 ?_
                refine z_top (b := (w.2 r)) ((hA r hr8).2) ?_
                refine g_calli (g_runSN (As := [.int (iZ (w.2 r))]) (rest := [.ref (tad θ 14)]) hx hb hml hown hts hK hst hB (mX5_streamOf l θ hθ σ z (w.2 r) (by omega) (show rg _ from ⟨by omega, by omega⟩)) ms_X5_streamOf hst.2.2.2.2.2.1 rfl hl.1 rfl (Nat.le_of_ble_eq_true rfl) ⟨by decide, by decide⟩ ⟨Nat.le_refl _, Nat.le_refl _⟩ dX2_haveEnds_44) hB (fun q_8 σ_6 z_7 H locs hq_8 pq_8 hB => ?_)
                obtain ⟨pq_8, e1_, e2_⟩ := pq_8
                rw [e1_, e2_] at hB
                clear e1_ e2_
                subst pq_8
                refine z_top (b := (w.2 r / 10)) (spZ_in (by omega)) ?_
                refine g_iald (k := (w.2 r / 10).toNat) hx hb hK hB (by decide) rfl (by omega) (Nat.lt_of_lt_of_eq (by omega : (w.2 r / 10).toNat < 8) (Eq.symm rfl)) (by decide) dX2_haveEnds_47 ?_
                refine z_top (b := (((cnx w r) : Nat) : Int)) (by rw [cnx_pos (by omega)]; exact (hA _ (by omega)).1.1) ?_
                refine lv_istore_n (lv' := [(2, .int (iZ (((cnx w r) : Nat) : Int))), (3, .int (iZ ((j : Nat) : Int))), (1, .int (iZ ((s1 : Nat) : Int))), (0, .ref (tad θ 13))]) hx hb dX2_haveEnds_48 rfl hl (by decide) rfl (fun ls hl => ?_)
                refine z_iinc (k := 1) (lv' := [(3, .int (iZ (((j : Nat) : Int) + 1))), (2, .int (iZ (((cnx w r) : Nat) : Int))), (1, .int (iZ ((s1 : Nat) : Int))), (0, .ref (tad θ 13))]) hx hb dX2_haveEnds_49 hl rfl (by decide) rfl (fun ls hl => ?_)
                have hl : lv_has ls 4 [(3, .int (iZ (((j + 1) : Nat) : Int))), (2, .int (iZ (((cnx w r) : Nat) : Int))), (1, .int (iZ ((s1 : Nat) : Int))), (0, .ref (tad θ 13))] := by have e9 : (((j : Nat) : Int) + 1) = (((j + 1) : Nat) : Int) := (by omega); rw [e9] at hl; exact hl
                refine lv_goto (tgt := 19) hx hb dX2_haveEnds_52 (by decide) ?_
                exact ih19 (cnx w r) (j + 1) _ _ _ (by omega) (cnx_lt ho hr8) (by omega) (by rw [hrj]; rfl) hB (lv_sub hl [0, 1, 2, 3] rfl)
        exact loop19 _ (w.1 s1) 0 _ _ _ (Nat.lt_succ_self _) (ho s1 (by omega)).1 (by omega) rfl hB (lv_sub hl [0, 1, 2, 3] rfl)
  exact loop2 _ 0 _ _ _ (Nat.lt_succ_self _) (by omega) (fun j h => absurd h (Nat.not_lt_zero _)) hB (lv_sub hl [0, 1] rfl)
set_option maxHeartbeats 4000000 in
set_option maxRecDepth 100000 in
theorem mX2_findClash (l : Launch) (θ : gT) (hθ : gOK θ) (σ : gS) (z : gZ) (N : Nat) (hG : cW (fp σ 3) N) (hc : σ 13 3 = (N : Int)) : GI l θ yX2_findClash cX2_findClash 3 (some .int) 4 95 [.ref (tad θ 13), .ref (tad θ 3)] σ z (fun q σ' z' => fcC (fp σ 3) N q σ' ∧ fr wGB σ σ' ∧ z' = z) := by
  refine g_enter (ret := (some .int)) (by decide +kernel) (Nat.le_of_ble_eq_true rfl) ?_
  intro p e s m args below meth c ls F hB hl
  obtain ⟨hx, hb, hr, hml, hown, hts, hlk, hK, hst⟩ := F
  have hR := hB.1.2
  have hl : lv_has ls 3 [(0, .ref (tad θ 13)), (1, .ref (tad θ 3))] := hl
  have hN8 := hG.2.1
  refine lv_iconst (v := iZ 0) hx hb dX2_findClash_0 rfl ?_
  refine lv_istore_n (lv' := [(2, .int (iZ 0)), (0, .ref (tad θ 13)), (1, .ref (tad θ 3))]) hx hb dX2_findClash_1 rfl hl (by decide) rfl (fun ls hl => ?_)
  have loop2 : ∀ (n2 : Nat) (i : Nat) (σ1 : gS) (H : Heap) (locs : List Loc) (ls : Array Slot), 8 - i < n2 → (i ≤ 8) → (∀ k, k < i → σ1 14 k = ((k : Nat) : Int) ∧ σ1 15 k = -1) → (fr wGB σ σ1) →  gB θ σ1 z s.heap H locs → lv_has ls 3 [(2, .int (iZ ((i : Nat) : Int))), (0, .ref (tad θ 13)), (1, .ref (tad θ 3))] → W p l e (gRm 4 95) s m args below meth c H locs 0 0 (MQ below (gQi θ (fun q σ' z' => fcC (fp σ 3) N q σ' ∧ fr wGB σ σ' ∧ z' = z)) args s 0 0 (tA θ)) (F0 m 2 ls []) := by
    intro n2
    induction n2 with
    | zero => intro i σ1 H locs ls hmu; exact absurd hmu (Nat.not_lt_zero _)
    | succ n2 ih2 =>
      intro i σ1 H locs ls hmu hi h0 hf hB hl
      have hR := hB.1.2
      refine lv_iload_n hx hb dX2_findClash_2 rfl (lv_at hl 0 rfl) ?_
      refine lv_bipush (v := iZ 8) hx hb dX2_findClash_3 (by decide) ?_
      refine z_icmp_ge (tgt := 28) hx hb dX2_findClash_5 (by decide) ⟨by omega, by omega⟩ ⟨by decide, by decide⟩ (fun c_1 => ?_) (fun c_1 => ?_)
      · refine lv_iconst (v := iZ 0) hx hb dX2_findClash_28 rfl ?_
        refine lv_istore_n (lv' := [(2, .int (iZ 0)), (0, .ref (tad θ 13)), (1, .ref (tad θ 3))]) hx hb dX2_findClash_29 rfl hl (by decide) rfl (fun ls hl => ?_)
        have loop30 : ∀ (n30 : Nat) (j : Nat) (w : mC) (σ4 : gS) (H : Heap) (locs : List Loc) (ls : Array Slot), N - j < n30 → (j ≤ N) → (cClk (fp σ 3) N j = some w) → (cA σ4 w) → (fr wGB σ σ4) →  gB θ σ4 z s.heap H locs → lv_has ls 3 [(2, .int (iZ ((j : Nat) : Int))), (0, .ref (tad θ 13)), (1, .ref (tad θ 3))] → W p l e (gRm 4 95) s m args below meth c H locs 0 0 (MQ below (gQi θ (fun q σ' z' => fcC (fp σ 3) N q σ' ∧ fr wGB σ σ' ∧ z' = z)) args s 0 0 (tA θ)) (F0 m 30 ls []) := by
          intro n30
          induction n30 with
          | zero => intro j w σ4 H locs ls hmu; exact absurd hmu (Nat.not_lt_zero _)
          | succ n30 ih30 =>
            intro j w σ4 H locs ls hmu hj e4 hA4 hf4 hB hl
            have hR := hB.1.2
            have hG4 := gb_fp3 hf4
            have hc4 : σ4 13 3 = (N : Int) := by rw [hf4 13 3 rfl]; exact hc
            have ho4 := cClk_ok hG (by omega) e4
            refine lv_iload_n hx hb dX2_findClash_30 rfl (lv_at hl 0 rfl) ?_
            refine lv_aload_n hx hb dX2_findClash_31 rfl (lv_at hl 1 rfl) ?_
            refine g_geti (k := 3) hx hb hts hown hK hB cf2 (by decide) rfl (by decide) kw_85 rfl dX2_findClash_32 ?_
            refine z_top (b := ((N : Nat) : Int)) (hc4) ?_
            refine z_icmp_ge (tgt := 62) hx hb dX2_findClash_35 (by decide) ⟨by omega, by omega⟩ ⟨by omega, by omega⟩ (fun c_2 => ?_) (fun c_2 => ?_)
            · refine lv_bipush (v := iZ (-9)) hx hb dX2_findClash_62 (by decide) ?_
              exact g_iret hx hb hr hlk hB dX2_findClash_64 ⟨by decide, by decide⟩ (⟨Or.inl ⟨rfl, w, by rw [show N = j by omega] at e4 ⊢; exact e4, hA4⟩, hf4, rfl⟩)
            · refine lv_aload_n hx hb dX2_findClash_38 rfl (lv_at hl 1 rfl) ?_
              refine lv_aload_n hx hb dX2_findClash_39 rfl (lv_at hl 2 rfl) ?_
              refine lv_iload_n hx hb dX2_findClash_40 rfl (lv_at hl 0 rfl) ?_
              refine g_calli (g_runV (i := 13) (As := [.ref (tad θ 3), .int (iZ ((j : Nat) : Int))]) (rest := []) hx hb hml hown hts hK hst hB (mX2_meet l θ hθ σ4 z w hA4 N (by rw [hG4]; exact hG) j (by omega)) mv_X2_meet kw_375 cf2 (by decide) rfl rfl hl.1 rfl (Nat.le_of_ble_eq_true rfl) ⟨by decide, by decide⟩ ⟨Nat.le_refl _, Nat.le_refl _⟩ dX2_findClash_41) hB (fun q_4 σ5 z_3 H locs hq_4 hp5 hB => ?_)
              obtain ⟨hp5, hf5, e2_⟩ := hp5
              rw [e2_] at hB
              clear e2_
              have hR := hB.1.2
              rw [hG4] at hp5
              rcases hp5 with ⟨w5, e5, hq5, hA5⟩ | ⟨e5, hq5⟩
              · subst hq5
                refine z_if_eq (tgt := 54) hx hb dX2_findClash_44 (by decide) ⟨by decide, by decide⟩ (fun c_5 => ?_) (fun c_5 => ?_)
                · exact absurd c_5 (by decide)
                · refine lv_aload_n hx hb dX2_findClash_47 rfl (lv_at hl 1 rfl) ?_
                  refine g_calli (g_runV (i := 13) (As := []) (rest := []) hx hb hml hown hts hK hst hB (mX2_haveEnds l θ hθ σ5 z w5 hA5 (cAsk_ok hG (by omega) ho4 e5) N (by rw [hf5 13 3 rfl]; exact hc4) hN8) mv_X2_haveEnds kw_397 cf2 (by decide) rfl rfl hl.1 rfl (Nat.le_of_ble_eq_true rfl) ⟨by decide, by decide⟩ ⟨Nat.le_refl _, Nat.le_refl _⟩ dX2_findClash_48) hB (fun qe σ_6 z_7 H locs hqe hpe hB => ?_)
                  obtain ⟨hpe, e1_, e2_⟩ := hpe
                  rw [e1_, e2_] at hB
                  clear e1_ e2_
                  rcases hpe with ⟨hqe, hen⟩ | ⟨hqe, hen⟩
                  · subst hqe
                    refine z_if_ne (tgt := 56) hx hb dX2_findClash_51 (by decide) ⟨by decide, by decide⟩ (fun c_8 => ?_) (fun c_8 => ?_)
                    · refine z_iinc (k := 0) (lv' := [(2, .int (iZ (((j : Nat) : Int) + 1))), (0, .ref (tad θ 13)), (1, .ref (tad θ 3))]) hx hb dX2_findClash_56 hl rfl (by decide) rfl (fun ls hl => ?_)
                      have hl : lv_has ls 3 [(2, .int (iZ (((j + 1) : Nat) : Int))), (0, .ref (tad θ 13)), (1, .ref (tad θ 3))] := by have e9 : (((j : Nat) : Int) + 1) = (((j + 1) : Nat) : Int) := (by omega); rw [e9] at hl; exact hl
                      refine lv_goto (tgt := 30) hx hb dX2_findClash_59 (by decide) ?_
                      exact ih30 (j + 1) w5 σ5 _ _ _ (by omega) (by omega) (by rw [cClk, e4, mThen_s, e5, mThen_s, if_pos hen]) hA5 (hf4.tr hf5) hB (lv_sub hl [0, 1, 2] rfl)
                    · exact absurd c_8 (by decide)
                  · subst hqe
                    refine z_if_ne (tgt := 56) hx hb dX2_findClash_51 (by decide) ⟨by decide, by decide⟩ (fun c_9 => ?_) (fun c_9 => ?_)
                    · exact absurd (by decide) c_9
                    · refine lv_iload_n hx hb dX2_findClash_54 rfl (lv_at hl 0 rfl) ?_
                      exact g_iret hx hb hr hlk hB dX2_findClash_55 ⟨by omega, by omega⟩ (⟨Or.inr ⟨j, by omega, rfl, ⟨w, e4⟩, by rw [cClk, e4, mThen_s, e5, mThen_s, if_neg (by rw [hen]; exact Bool.false_ne_true)]⟩, hf4.tr hf5, rfl⟩)
              · subst hq5
                refine z_if_eq (tgt := 54) hx hb dX2_findClash_44 (by decide) ⟨by decide, by decide⟩ (fun c_10 => ?_) (fun c_10 => ?_)
                · refine lv_iload_n hx hb dX2_findClash_54 rfl (lv_at hl 0 rfl) ?_
                  exact g_iret hx hb hr hlk hB dX2_findClash_55 ⟨by omega, by omega⟩ (⟨Or.inr ⟨j, by omega, rfl, ⟨w, e4⟩, by rw [cClk, e4, mThen_s, e5, mThen_n]⟩, hf4.tr hf5, rfl⟩)
                · exact absurd (by decide) c_10
        exact loop30 _ 0 ((fun s => s, fun _ => -1) : mC) σ1 _ _ _ (Nat.lt_succ_self _) (by omega) rfl (fun k hk => ⟨⟨(h0 k (by omega)).1, hk⟩, (h0 k (by omega)).2⟩) hf hB (lv_sub hl [0, 1, 2] rfl)
      · refine lv_aload_n hx hb dX2_findClash_8 rfl (lv_at hl 1 rfl) ?_
        refine g_getr (k := 4) (j := 14) hx hb hts hown hK hθ hB cf2 (by decide) rfl (by decide) kw_86 rfl rfl dX2_findClash_9 ?_
        refine lv_iload_n hx hb dX2_findClash_12 rfl (lv_at hl 0 rfl) ?_
        refine lv_iload_n hx hb dX2_findClash_13 rfl (lv_at hl 0 rfl) ?_
        refine g_iast (k := i) hx hb hK hθ hB (by decide) rfl (by omega) (Nat.lt_of_lt_of_eq (by omega : i < 8) (Eq.symm rfl)) (by decide) ⟨by omega, by omega⟩ dX2_findClash_14 (fun H locs hB => ?_)
        obtain ⟨σ2, hσ2⟩ : ∃ x_ : gS, x_ = up2 σ1 14 i ((i : Nat) : Int) := ⟨_, rfl⟩
        rw [← hσ2] at hB
        have hR := hB.1.2
        refine lv_aload_n hx hb dX2_findClash_15 rfl (lv_at hl 1 rfl) ?_
        refine g_getr (k := 5) (j := 15) hx hb hts hown hK hθ hB cf2 (by decide) rfl (by decide) kw_87 rfl rfl dX2_findClash_16 ?_
        refine lv_iload_n hx hb dX2_findClash_19 rfl (lv_at hl 0 rfl) ?_
        refine lv_iconst (v := iZ (-1)) hx hb dX2_findClash_20 rfl ?_
        refine g_iast (k := i) hx hb hK hθ hB (by decide) rfl (by omega) (Nat.lt_of_lt_of_eq (by omega : i < 8) (Eq.symm rfl)) (by decide) ⟨by decide, by decide⟩ dX2_findClash_21 (fun H locs hB => ?_)
        obtain ⟨σ3, hσ3⟩ : ∃ x_ : gS, x_ = up2 σ2 15 i (-1) := ⟨_, rfl⟩
        rw [← hσ3] at hB
        have hR := hB.1.2
        refine z_iinc (k := 0) (lv' := [(2, .int (iZ (((i : Nat) : Int) + 1))), (0, .ref (tad θ 13)), (1, .ref (tad θ 3))]) hx hb dX2_findClash_22 hl rfl (by decide) rfl (fun ls hl => ?_)
        have hl : lv_has ls 3 [(2, .int (iZ (((i + 1) : Nat) : Int))), (0, .ref (tad θ 13)), (1, .ref (tad θ 3))] := by have e9 : (((i : Nat) : Int) + 1) = (((i + 1) : Nat) : Int) := (by omega); rw [e9] at hl; exact hl
        refine lv_goto (tgt := 2) hx hb dX2_findClash_25 (by decide) ?_
        exact ih2 (i + 1) σ3 _ _ _ (by omega) (by omega) (lt_s (fun k h => by rw [hσ3, up2_c _ _ (by decide), up2_k _ _ (by omega), hσ2, up2_k _ _ (by omega), up2_c _ _ (by decide)]; exact h0 k h) ⟨by rw [hσ3, up2_c _ _ (by decide), hσ2, up2_eq], by rw [hσ3, up2_eq]⟩) (by rw [hσ3, hσ2]; exact (hf.tr (fr.up rfl)).tr (fr.up rfl)) hB (lv_sub hl [0, 1, 2] rfl)
  exact loop2 _ 0 σ _ _ _ (Nat.lt_succ_self _) (by omega) (fun k h => absurd h (Nat.not_lt_zero _)) fr.rf hB (lv_sub hl [0, 1, 2] rfl)
