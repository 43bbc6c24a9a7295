set_option maxHeartbeats 4000000 in
set_option maxRecDepth 100000 in
theorem mX6_isSound (l : Launch) (θ : gT) (hθ : gOK θ) (σ : gS) (z : gZ)  : GI l θ yX6_isSound cX6_isSound 1 (some .boolean) 0 0 [.ref (tad θ 111)] σ z (fun q σ' z' => ((q = 1 ∧ (σ 111 19 = -9 ∧ σ 111 20 = 0 ∧ σ 111 21 = -9)) ∨ (q = 0 ∧ ¬ (σ 111 19 = -9 ∧ σ 111 20 = 0 ∧ σ 111 21 = -9))) ∧ σ' = σ ∧ z' = z) := by
  refine g_enter (ret := (some .boolean)) (by decide +kernel) (Nat.le_of_ble_eq_true rfl) ?_
  intro p e s m args below meth c ls F hB hl
  obtain ⟨hx, hb, hr, hml, hown, hts, hlk, hK, hst⟩ := F
  have hR := hB.1.2
  have hl : lv_has ls 1 [(0, .ref (tad θ 111))] := hl
  refine lv_aload_n hx hb dX6_isSound_0 rfl (lv_at hl 0 rfl) ?_
  refine g_geti (k := 19) hx hb hts hown hK hB cf6 (by decide) rfl (by decide) kw_678 rfl dX6_isSound_1 ?_
  have hr_1 := hR 111 19
  refine lv_bipush (v := iZ (-9)) hx hb dX6_isSound_4 (by decide) ?_
  refine z_icmp_ne (tgt := 29) hx hb dX6_isSound_6 (by decide) ⟨by omega, by omega⟩ ⟨by decide, by decide⟩ (fun c_2 => ?_) (fun c_2 => ?_)
  · refine lv_iconst (v := iZ 0) hx hb dX6_isSound_29 rfl ?_
    exact g_zret hx hb hr hlk hB dX6_isSound_30 (by decide) (⟨by omega, rfl, rfl⟩)
  · refine lv_aload_n hx hb dX6_isSound_9 rfl (lv_at hl 0 rfl) ?_
    refine g_geti (k := 20) hx hb hts hown hK hB cf6 (by decide) rfl (by decide) kw_679 rfl dX6_isSound_10 ?_
    have hr_3 := hR 111 20
    refine z_if_ne (tgt := 29) hx hb dX6_isSound_13 (by decide) ⟨by omega, by omega⟩ (fun c_4 => ?_) (fun c_4 => ?_)
    · refine lv_iconst (v := iZ 0) hx hb dX6_isSound_29 rfl ?_
      exact g_zret hx hb hr hlk hB dX6_isSound_30 (by decide) (⟨by omega, rfl, rfl⟩)
    · refine lv_aload_n hx hb dX6_isSound_16 rfl (lv_at hl 0 rfl) ?_
      refine g_geti (k := 21) hx hb hts hown hK hB cf6 (by decide) rfl (by decide) kw_680 rfl dX6_isSound_17 ?_
      have hr_5 := hR 111 21
      refine lv_bipush (v := iZ (-9)) hx hb dX6_isSound_20 (by decide) ?_
      refine z_icmp_ne (tgt := 29) hx hb dX6_isSound_22 (by decide) ⟨by omega, by omega⟩ ⟨by decide, by decide⟩ (fun c_6 => ?_) (fun c_6 => ?_)
      · refine lv_iconst (v := iZ 0) hx hb dX6_isSound_29 rfl ?_
        exact g_zret hx hb hr hlk hB dX6_isSound_30 (by decide) (⟨by omega, rfl, rfl⟩)
      · refine lv_iconst (v := iZ 1) hx hb dX6_isSound_25 rfl ?_
        refine lv_goto (tgt := 30) hx hb dX6_isSound_26 (by decide) ?_
        exact g_zret hx hb hr hlk hB dX6_isSound_30 (by decide) (⟨by omega, rfl, rfl⟩)
set_option maxHeartbeats 4000000 in
set_option maxRecDepth 100000 in
theorem mX6_soundNow (l : Launch) (θ : gT) (hθ : gOK θ) (σ : gS) (z : gZ) (hW : Wf (σ 114)) (N : Nat) (hN : σ 114 0 = (N : Int)) : GI l θ yX6_soundNow cX6_soundNow 1 (some .boolean) 6 141 [.ref (tad θ 111)] σ z (fun q σ' z' => (mAn (σ 114) N σ' ∧ ((q = 1 ∧ (σ' 111 19 = -9 ∧ σ' 111 20 = 0 ∧ σ' 111 21 = -9)) ∨ (q = 0 ∧ ¬ (σ' 111 19 = -9 ∧ σ' 111 20 = 0 ∧ σ' 111 21 = -9)))) ∧ fr wAn σ σ' ∧ z' = z) := by
  refine g_enter (ret := (some .boolean)) (by decide +kernel) (Nat.le_of_ble_eq_true rfl) ?_
  intro p e s m args below meth c ls F hB hl
  obtain ⟨hx, hb, hr, hml, hown, hts, hlk, hK, hst⟩ := F
  have hR := hB.1.2
  have hl : lv_has ls 1 [(0, .ref (tad θ 111))] := hl
  refine lv_aload_n hx hb dX6_soundNow_0 rfl (lv_at hl 0 rfl) ?_
  refine lv_aload_n hx hb dX6_soundNow_1 rfl (lv_at hl 0 rfl) ?_
  refine g_getr (k := 5) (j := 114) hx hb hts hown hK hθ hB cf6 (by decide) rfl (by decide) kw_664 rfl rfl dX6_soundNow_2 ?_
  refine g_callv (g_runV (i := 111) (As := [.ref (tad θ 114)]) (rest := []) hx hb hml hown hts hK hst hB (mX6_find l θ hθ σ z hW N hN) mv_X6_find kw_793 cf6 (by decide) rfl rfl hl.1 rfl (Nat.le_of_ble_eq_true rfl) ⟨by decide, by decide⟩ ⟨Nat.le_refl _, Nat.le_refl _⟩ dX6_soundNow_5) hB (fun σ1 z_1 H locs hp1 hB => ?_)
  obtain ⟨hp1, hf1, e2_⟩ := hp1
  rw [e2_] at hB
  clear e2_
  have hR := hB.1.2
  refine lv_aload_n hx hb dX6_soundNow_8 rfl (lv_at hl 0 rfl) ?_
  refine g_calli (g_runV (i := 111) (As := []) (rest := []) hx hb hml hown hts hK hst hB (mX6_isSound l θ hθ σ1 z ) mv_X6_isSound kw_853 cf6 (by decide) rfl rfl hl.1 rfl (Nat.le_of_ble_eq_true rfl) ⟨by decide, by decide⟩ ⟨Nat.le_refl _, Nat.le_refl _⟩ dX6_soundNow_9) hB (fun qq σ_3 z_4 H locs hqq hpq hB => ?_)
  obtain ⟨hpq, e1_, e2_⟩ := hpq
  rw [e1_, e2_] at hB
  clear e1_ e2_
  exact g_zret hx hb hr hlk hB dX6_soundNow_12 (by omega) (⟨⟨hp1, hpq⟩, hf1, rfl⟩)
set_option maxHeartbeats 4000000 in
set_option maxRecDepth 100000 in
theorem mX6_goAfresh (l : Launch) (θ : gT) (hθ : gOK θ) (σ : gS) (z : gZ) (P : Nat) (hP : isP P) (hW : Wf (σ P)) : GV l θ yX6_goAfresh cX6_goAfresh 3 0 0 [.ref (tad θ P)] σ z (fun σ' z' => (σ' P = afM (σ P)) ∧ fr (wTk P) σ σ' ∧ z' = z) := by
  refine g_enter (ret := none) (by decide +kernel) (Nat.le_of_ble_eq_true rfl) ?_
  intro p e s m args below meth c ls F hB hl
  obtain ⟨hx, hb, hr, hml, hown, hts, hlk, hK, hst⟩ := F
  have hR := hB.1.2
  have hl : lv_has ls 3 [(0, .ref (tad θ P))] := hl
  refine lv_iconst (v := iZ 0) hx hb dX6_goAfresh_0 rfl ?_
  refine lv_istore_n (lv' := [(1, .int (iZ 0)), (0, .ref (tad θ P))]) hx hb dX6_goAfresh_1 rfl hl (by decide) rfl (fun ls hl => ?_)
  have loop2 : ∀ (n2 : Nat) (i : Nat) (σ1 : gS) (H : Heap) (locs : List Loc) (ls : Array Slot), 8 - i < n2 → (i ≤ 8) → (σ1 P = (af (σ P) i)) → (fr (wTk P) σ σ1) →  gB θ σ1 z s.heap H locs → lv_has ls 3 [(1, .int (iZ ((i : Nat) : Int))), (0, .ref (tad θ P))] → W p l e (gRm 0 0) s m args below meth c H locs 0 0 (MQ below (gQv θ (fun σ' z' => (σ' P = afM (σ P)) ∧ fr (wTk P) σ σ' ∧ z' = z)) args s 0 0 (tA θ)) (F0 m 2 ls []) := by
    intro n2
    induction n2 with
    | zero => intro i σ1 H locs ls hmu; exact absurd hmu (Nat.not_lt_zero _)
    | succ n2 ih2 =>
      intro i σ1 H locs ls hmu hi hg hf hB hl
      have hR := hB.1.2
      have hKi : σ1 P (1 + i) = σ P (1 + i) := by rw [hg, af_low _ (by omega)]
      refine lv_iload_n hx hb dX6_goAfresh_2 rfl (lv_at hl 0 rfl) ?_
      refine lv_bipush (v := iZ 8) hx hb dX6_goAfresh_3 (by decide) ?_
      refine z_icmp_ge (tgt := 63) hx hb dX6_goAfresh_5 (by decide) ⟨by omega, by omega⟩ ⟨by decide, by decide⟩ (fun c_1 => ?_) (fun c_1 => ?_)
      · refine lv_aload_n hx hb dX6_goAfresh_63 rfl (lv_at hl 1 rfl) ?_
        refine lv_bipush (v := iZ 49) hx hb dX6_goAfresh_64 (by decide) ?_
        refine lv_iconst (v := iZ 0) hx hb dX6_goAfresh_66 rfl ?_
        refine g_iast (k := 49) hx hb hK hθ hB hP.ltp hP.ckp (by omega) (Nat.lt_of_lt_of_eq (by omega : 49 < 50) (Eq.symm hP.cnp)) hP.bgp ⟨by decide, by decide⟩ dX6_goAfresh_67 (fun H locs hB => ?_)
        obtain ⟨σ4, hσ4⟩ : ∃ x_ : gS, x_ = up2 σ1 P 49 0 := ⟨_, rfl⟩
        rw [← hσ4] at hB
        have hR := hB.1.2
        exact g_vret hx hb hr hlk hB dX6_goAfresh_68 (⟨by rw [hσ4, up2_row_eq, hg, show i = 8 by omega]; rfl, by rw [hσ4]; exact hf.tr (fr.up (by simp [wTk])), rfl⟩)
      · have hFi : σ1 P (9 + 3 * i) = σ P (9 + 3 * i) := by rw [hg, af_low _ (by omega)]
        refine lv_aload_n hx hb dX6_goAfresh_8 rfl (lv_at hl 1 rfl) ?_
        refine lv_iconst (v := iZ 1) hx hb dX6_goAfresh_9 rfl ?_
        refine lv_iload_n hx hb dX6_goAfresh_10 rfl (lv_at hl 0 rfl) ?_
        refine z_iadd hx hb dX6_goAfresh_11 ?_
        refine g_iald (k := (1 + i)) hx hb hK hB hP.ltp hP.ckp (by omega) (Nat.lt_of_lt_of_eq (by omega : (1 + i) < 50) (Eq.symm hP.cnp)) hP.bgp dX6_goAfresh_12 ?_
        refine z_top (b := (σ P (1 + i))) (hKi) ?_
        have hK9 := (hW.2 i (by omega)).1
        refine lv_istore_n (lv' := [(2, .int (iZ (σ P (1 + i)))), (1, .int (iZ ((i : Nat) : Int))), (0, .ref (tad θ P))]) hx hb dX6_goAfresh_13 rfl hl (by decide) rfl (fun ls hl => ?_)
        refine lv_aload_n hx hb dX6_goAfresh_14 rfl (lv_at hl 2 rfl) ?_
        refine lv_bipush (v := iZ 33) hx hb dX6_goAfresh_15 (by decide) ?_
        refine lv_iload_n hx hb dX6_goAfresh_17 rfl (lv_at hl 1 rfl) ?_
        refine z_iadd hx hb dX6_goAfresh_18 ?_
        refine lv_iload_n hx hb dX6_goAfresh_19 rfl (lv_at hl 0 rfl) ?_
        refine lv_bipush (v := iZ 6) hx hb dX6_goAfresh_20 (by decide) ?_
        refine z_icmp_ne (tgt := 36) hx hb dX6_goAfresh_22 (by decide) ⟨by omega, by omega⟩ ⟨by decide, by decide⟩ (fun c_2 => ?_) (fun c_2 => ?_)
        · refine lv_iload_n hx hb dX6_goAfresh_36 rfl (lv_at hl 0 rfl) ?_
          refine lv_bipush (v := iZ 7) hx hb dX6_goAfresh_37 (by decide) ?_
          refine z_icmp_ne (tgt := 47) hx hb dX6_goAfresh_39 (by decide) ⟨by omega, by omega⟩ ⟨by decide, by decide⟩ (fun c_3 => ?_) (fun c_3 => ?_)
          · refine lv_iconst (v := iZ 0) hx hb dX6_goAfresh_47 rfl ?_
            refine g_iast (k := (33 + i)) hx hb hK hθ hB hP.ltp hP.ckp (by omega) (Nat.lt_of_lt_of_eq (by omega : (33 + i) < 50) (Eq.symm hP.cnp)) hP.bgp ⟨by decide, by decide⟩ dX6_goAfresh_48 (fun H locs hB => ?_)
            obtain ⟨σ2, hσ2⟩ : ∃ x_ : gS, x_ = up2 σ1 P (33 + i) 0 := ⟨_, rfl⟩
            rw [← hσ2] at hB
            have hR := hB.1.2
            refine lv_aload_n hx hb dX6_goAfresh_49 rfl (lv_at hl 2 rfl) ?_
            refine lv_bipush (v := iZ 41) hx hb dX6_goAfresh_50 (by decide) ?_
            refine lv_iload_n hx hb dX6_goAfresh_52 rfl (lv_at hl 1 rfl) ?_
            refine z_iadd hx hb dX6_goAfresh_53 ?_
            refine lv_bipush (v := iZ (-9)) hx hb dX6_goAfresh_54 (by decide) ?_
            refine g_iast (k := (41 + i)) hx hb hK hθ hB hP.ltp hP.ckp (by omega) (Nat.lt_of_lt_of_eq (by omega : (41 + i) < 50) (Eq.symm hP.cnp)) hP.bgp ⟨by decide, by decide⟩ dX6_goAfresh_56 (fun H locs hB => ?_)
            obtain ⟨σ3, hσ3⟩ : ∃ x_ : gS, x_ = up2 σ2 P (41 + i) (-9) := ⟨_, rfl⟩
            rw [← hσ3] at hB
            have hR := hB.1.2
            refine z_iinc (k := 1) (lv' := [(1, .int (iZ (((i : Nat) : Int) + 1))), (2, .int (iZ (σ P (1 + i)))), (0, .ref (tad θ P))]) hx hb dX6_goAfresh_57 hl rfl (by decide) rfl (fun ls hl => ?_)
            have hl : lv_has ls 3 [(1, .int (iZ (((i + 1) : Nat) : Int))), (2, .int (iZ (σ P (1 + i)))), (0, .ref (tad θ P))] := by have e9 : (((i : Nat) : Int) + 1) = (((i + 1) : Nat) : Int) := (by omega); rw [e9] at hl; exact hl
            refine lv_goto (tgt := 2) hx hb dX6_goAfresh_60 (by decide) ?_
            exact ih2 (i + 1) σ3 _ _ _ (by omega) (by omega) (by rw [hσ3, up2_row_eq, hσ2, up2_row_eq, hg, ← af_step, kf, if_neg (by omega), if_neg (by omega)]) (by rw [hσ3, hσ2]; exact (hf.tr (fr.up (by simp [wTk]))).tr (fr.up (by simp [wTk]))) hB (lv_sub hl [0, 2] rfl)
          · refine lv_bipush (v := iZ (-8)) hx hb dX6_goAfresh_42 (by decide) ?_
            refine lv_goto (tgt := 48) hx hb dX6_goAfresh_44 (by decide) ?_
            refine g_iast (k := (33 + i)) hx hb hK hθ hB hP.ltp hP.ckp (by omega) (Nat.lt_of_lt_of_eq (by omega : (33 + i) < 50) (Eq.symm hP.cnp)) hP.bgp ⟨by decide, by decide⟩ dX6_goAfresh_48 (fun H locs hB => ?_)
            obtain ⟨σ2, hσ2⟩ : ∃ x_ : gS, x_ = up2 σ1 P (33 + i) (-8) := ⟨_, rfl⟩
            rw [← hσ2] at hB
            have hR := hB.1.2
            refine lv_aload_n hx hb dX6_goAfresh_49 rfl (lv_at hl 2 rfl) ?_
            refine lv_bipush (v := iZ 41) hx hb dX6_goAfresh_50 (by decide) ?_
            refine lv_iload_n hx hb dX6_goAfresh_52 rfl (lv_at hl 1 rfl) ?_
            refine z_iadd hx hb dX6_goAfresh_53 ?_
            refine lv_bipush (v := iZ (-9)) hx hb dX6_goAfresh_54 (by decide) ?_
            refine g_iast (k := (41 + i)) hx hb hK hθ hB hP.ltp hP.ckp (by omega) (Nat.lt_of_lt_of_eq (by omega : (41 + i) < 50) (Eq.symm hP.cnp)) hP.bgp ⟨by decide, by decide⟩ dX6_goAfresh_56 (fun H locs hB => ?_)
            obtain ⟨σ3, hσ3⟩ : ∃ x_ : gS, x_ = up2 σ2 P (41 + i) (-9) := ⟨_, rfl⟩
            rw [← hσ3] at hB
            have hR := hB.1.2
            refine z_iinc (k := 1) (lv' := [(1, .int (iZ (((i : Nat) : Int) + 1))), (2, .int (iZ (σ P (1 + i)))), (0, .ref (tad θ P))]) hx hb dX6_goAfresh_57 hl rfl (by decide) rfl (fun ls hl => ?_)
            have hl : lv_has ls 3 [(1, .int (iZ (((i + 1) : Nat) : Int))), (2, .int (iZ (σ P (1 + i)))), (0, .ref (tad θ P))] := by have e9 : (((i : Nat) : Int) + 1) = (((i + 1) : Nat) : Int) := (by omega); rw [e9] at hl; exact hl
            refine lv_goto (tgt := 2) hx hb dX6_goAfresh_60 (by decide) ?_
            exact ih2 (i + 1) σ3 _ _ _ (by omega) (by omega) (by rw [hσ3, up2_row_eq, hσ2, up2_row_eq, hg, ← af_step, kf, if_neg (by omega), if_pos (by omega)]) (by rw [hσ3, hσ2]; exact (hf.tr (fr.up (by simp [wTk]))).tr (fr.up (by simp [wTk]))) hB (lv_sub hl [0, 2] rfl)
        · refine lv_aload_n hx hb dX6_goAfresh_25 rfl (lv_at hl 2 rfl) ?_
          refine lv_bipush (v := iZ 9) hx hb dX6_goAfresh_26 (by decide) ?_
          refine lv_iconst (v := iZ 3) hx hb dX6_goAfresh_28 rfl ?_
          refine lv_iload_n hx hb dX6_goAfresh_29 rfl (lv_at hl 1 rfl) ?_
          refine z_imul hx hb dX6_goAfresh_30 ?_
          refine z_iadd hx hb dX6_goAfresh_31 ?_
          refine g_iald (k := (9 + (3 * i))) hx hb hK hB hP.ltp hP.ckp (by omega) (Nat.lt_of_lt_of_eq (by omega : (9 + (3 * i)) < 50) (Eq.symm hP.cnp)) hP.bgp dX6_goAfresh_32 ?_
          refine z_top (b := (σ P (9 + 3 * i))) (hFi) ?_
          have hF9 := ((hW.2 i (by omega)).2 0 (by omega)).1
          rw [Nat.add_zero] at hF9
          refine lv_goto (tgt := 48) hx hb dX6_goAfresh_33 (by decide) ?_
          refine g_iast (k := (33 + i)) hx hb hK hθ hB hP.ltp hP.ckp (by omega) (Nat.lt_of_lt_of_eq (by omega : (33 + i) < 50) (Eq.symm hP.cnp)) hP.bgp ⟨by omega, by omega⟩ dX6_goAfresh_48 (fun H locs hB => ?_)
          obtain ⟨σ2, hσ2⟩ : ∃ x_ : gS, x_ = up2 σ1 P (33 + i) (σ P (9 + 3 * i)) := ⟨_, rfl⟩
          rw [← hσ2] at hB
          have hR := hB.1.2
          refine lv_aload_n hx hb dX6_goAfresh_49 rfl (lv_at hl 2 rfl) ?_
          refine lv_bipush (v := iZ 41) hx hb dX6_goAfresh_50 (by decide) ?_
          refine lv_iload_n hx hb dX6_goAfresh_52 rfl (lv_at hl 1 rfl) ?_
          refine z_iadd hx hb dX6_goAfresh_53 ?_
          refine lv_bipush (v := iZ (-9)) hx hb dX6_goAfresh_54 (by decide) ?_
          refine g_iast (k := (41 + i)) hx hb hK hθ hB hP.ltp hP.ckp (by omega) (Nat.lt_of_lt_of_eq (by omega : (41 + i) < 50) (Eq.symm hP.cnp)) hP.bgp ⟨by decide, by decide⟩ dX6_goAfresh_56 (fun H locs hB => ?_)
          obtain ⟨σ3, hσ3⟩ : ∃ x_ : gS, x_ = up2 σ2 P (41 + i) (-9) := ⟨_, rfl⟩
          rw [← hσ3] at hB
          have hR := hB.1.2
          refine z_iinc (k := 1) (lv' := [(1, .int (iZ (((i : Nat) : Int) + 1))), (2, .int (iZ (σ P (1 + i)))), (0, .ref (tad θ P))]) hx hb dX6_goAfresh_57 hl rfl (by decide) rfl (fun ls hl => ?_)
          have hl : lv_has ls 3 [(1, .int (iZ (((i + 1) : Nat) : Int))), (2, .int (iZ (σ P (1 + i)))), (0, .ref (tad θ P))] := by have e9 : (((i : Nat) : Int) + 1) = (((i + 1) : Nat) : Int) := (by omega); rw [e9] at hl; exact hl
          refine lv_goto (tgt := 2) hx hb dX6_goAfresh_60 (by decide) ?_
          exact ih2 (i + 1) σ3 _ _ _ (by omega) (by omega) (by rw [hσ3, up2_row_eq, hσ2, up2_row_eq, hg, ← af_step, kf, if_pos (by omega)]) (by rw [hσ3, hσ2]; exact (hf.tr (fr.up (by simp [wTk]))).tr (fr.up (by simp [wTk]))) hB (lv_sub hl [0, 2] rfl)
  exact loop2 _ 0 σ _ _ _ (Nat.lt_succ_self _) (by omega) (af_0 _).symm fr.rf hB (lv_sub hl [0, 1] rfl)
set_option maxHeartbeats 4000000 in
set_option maxRecDepth 100000 in
theorem mX6_isThere (l : Launch) (θ : gT) (hθ : gOK θ) (σ : gS) (z : gZ) (w : mC) (hA : mA σ w) (ho : mOK w) (P : Nat) (hP : isP P) (s0 : Nat) (hs : s0 < 8) : GI l θ yX6_isThere cX6_isThere 6 (some .boolean) 2 45 [.ref (tad θ 111), .ref (tad θ P), .int (iZ ((s0 : Nat) : Int))] σ z (fun q σ' z' => ((q = 1 ∧ thB w (σ P) s0 = true) ∨ (q = 0 ∧ thB w (σ P) s0 = false)) ∧ fr w127 σ σ' ∧ z' = z) := by
  refine g_enter (ret := (some .boolean)) (by decide +kernel) (Nat.le_of_ble_eq_true rfl) ?_
  intro p e s m args below meth c ls F hB hl
  obtain ⟨hx, hb, hr, hml, hown, hts, hlk, hK, hst⟩ := F
  have hR := hB.1.2
  have hl : lv_has ls 6 [(0, .ref (tad θ 111)), (1, .ref (tad θ P)), (2, .int (iZ ((s0 : Nat) : Int)))] := hl
  refine lv_iconst (v := iZ 1) hx hb dX6_isThere_0 rfl ?_
  refine lv_istore_n (lv' := [(3, .int (iZ 1)), (0, .ref (tad θ 111)), (1, .ref (tad θ P)), (2, .int (iZ ((s0 : Nat) : Int)))]) hx hb dX6_isThere_1 rfl hl (by decide) rfl (fun ls hl => ?_)
  refine lv_aload_n hx hb dX6_isThere_2 rfl (lv_at hl 1 rfl) ?_
  refine lv_iload_n hx hb dX6_isThere_3 rfl (lv_at hl 3 rfl) ?_
  refine g_calli (g_runV (i := 111) (As := [.int (iZ ((s0 : Nat) : Int))]) (rest := []) hx hb hml hown hts hK hst hB (mX6_clocks l θ hθ σ z w hA ho s0 hs) mv_X6_clocks kw_835 cf6 (by decide) rfl rfl hl.1 rfl (Nat.le_of_ble_eq_true rfl) ⟨by decide, by decide⟩ ⟨Nat.le_refl _, Nat.le_refl _⟩ dX6_isThere_4) hB (fun qc σ1 z_1 H locs hqc hpc hB => ?_)
  obtain ⟨hpc, hf1, e2_⟩ := hpc
  rw [e2_] at hB
  clear e2_
  have hR := hB.1.2
  obtain ⟨hqc, hch⟩ := hpc
  subst hqc
  have hg1 : σ1 P = σ P := hf1.row (fun k => by rcases hP with rfl | rfl <;> rfl)
  refine lv_iconst (v := iZ 1) hx hb dX6_isThere_7 rfl ?_
  refine z_isub hx hb dX6_isThere_8 ?_
  refine lv_istore (lv' := [(4, .int (iZ ((((dN w s0) : Nat) : Int) - 1))), (3, .int (iZ 1)), (0, .ref (tad θ 111)), (1, .ref (tad θ P)), (2, .int (iZ ((s0 : Nat) : Int)))]) hx hb dX6_isThere_9 hl (by decide) rfl (fun ls hl => ?_)
  have loop11 : ∀ (n11 : Nat) (i : Nat) (v : Int) (H : Heap) (locs : List Loc) (ls : Array Slot), i < n11 → (i ≤ dN w s0) → ((v = 1 ∧ ∀ d, i ≤ d → d < dN w s0 → σ1 P (41 + cd w s0 d) ≠ -9 ∧ (w.2 (xs w s0 d) % 10 = 1 ↔ σ1 P (41 + cd w s0 d) ≠ 0)) ∨ (v = 0 ∧ thB w (σ P) s0 = false)) →  gB θ σ1 z s.heap H locs → lv_has ls 6 [(4, .int (iZ (((i : Nat) : Int) - 1))), (3, .int (iZ v)), (0, .ref (tad θ 111)), (1, .ref (tad θ P)), (2, .int (iZ ((s0 : Nat) : Int)))] → W p l e (gRm 2 45) s m args below meth c H locs 0 0 (MQ below (gQi θ (fun q σ' z' => ((q = 1 ∧ thB w (σ P) s0 = true) ∨ (q = 0 ∧ thB w (σ P) s0 = false)) ∧ fr w127 σ σ' ∧ z' = z)) args s 0 0 (tA θ)) (F0 m 11 ls []) := by
    intro n11
    induction n11 with
    | zero => intro i v H locs ls hmu; exact absurd hmu (Nat.not_lt_zero _)
    | succ n11 ih11 =>
      intro i v H locs ls hmu hi hv hB hl
      have hR := hB.1.2
      have hvr : v = 0 ∨ v = 1 := by rcases hv with h | h <;> omega
      have hd8 := dN_le w s0
      refine lv_iload hx hb dX6_isThere_11 (lv_at hl 0 rfl) ?_
      refine z_if_lt (tgt := 88) hx hb dX6_isThere_13 (by decide) ⟨by omega, by omega⟩ (fun c_2 => ?_) (fun c_2 => ?_)
      · have hfin : (v = 1 ∧ thB w (σ P) s0 = true) ∨ (v = 0 ∧ thB w (σ P) s0 = false) := by
          rcases hv with ⟨h1, h2⟩ | h
          · exact Or.inl ⟨h1, by rw [← hg1]; exact thB_yes (fun d hd => h2 d (by omega) hd)⟩
          · exact Or.inr h
        refine lv_iload_n hx hb dX6_isThere_88 rfl (lv_at hl 1 rfl) ?_
        exact g_zret hx hb hr hlk hB dX6_isThere_89 (by omega) (⟨hfin, hf1, rfl⟩)
      · refine lv_iload_n hx hb dX6_isThere_16 rfl (lv_at hl 1 rfl) ?_
        refine z_if_eq (tgt := 88) hx hb dX6_isThere_17 (by decide) ⟨by omega, by omega⟩ (fun c_3 => ?_) (fun c_3 => ?_)
        · have hfin : (v = 1 ∧ thB w (σ P) s0 = true) ∨ (v = 0 ∧ thB w (σ P) s0 = false) := Or.inr (hv.resolve_left (fun h => by omega))
          refine lv_iload_n hx hb dX6_isThere_88 rfl (lv_at hl 1 rfl) ?_
          exact g_zret hx hb hr hlk hB dX6_isThere_89 (by omega) (⟨hfin, hf1, rfl⟩)
        · have hall := (hv.resolve_right (fun h => by omega)).2
          have ht1 := ho.2.1 _ (xs_lt ho hs (i - 1))
          have ht2 := dN_at (w := w) (s := s0) (j := i - 1) (by omega)
          have hcd := cd_lt ho hs (show i - 1 < dN w s0 by omega)
          have hcdv : ((cd w s0 (i - 1) : Nat) : Int) = (w.2 (xs w s0 (i - 1))) / 10 := by unfold cd; omega
          refine lv_aload_n hx hb dX6_isThere_20 rfl (lv_at hl 3 rfl) ?_
          refine lv_bipush (v := iZ 41) hx hb dX6_isThere_21 (by decide) ?_
          refine lv_aload_n hx hb dX6_isThere_23 rfl (lv_at hl 2 rfl) ?_
          refine g_getr (k := 24) (j := 127) hx hb hts hown hK hθ hB cf6 (by decide) rfl (by decide) kw_683 rfl rfl dX6_isThere_24 ?_
          refine lv_iload hx hb dX6_isThere_27 (lv_at hl 0 rfl) ?_
          refine g_iald (k := (i - 1)) hx hb hK hB (by decide) rfl (by omega) (Nat.lt_of_lt_of_eq (by omega : (i - 1) < 8) (Eq.symm rfl)) (by decide) dX6_isThere_29 ?_
          refine z_top (b := (w.2 (xs w s0 (i - 1)))) (hch (i - 1) (by omega)) ?_
          refine lv_bipush (v := iZ 10) hx hb dX6_isThere_30 (by decide) ?_
          refine z_idiv hx hb dX6_isThere_32 ⟨by omega, by omega⟩ (by omega) ⟨by decide, by decide⟩ (by decide) ?_
          refine z_top (b := (((cd w s0 (i - 1)) : Nat) : Int)) (by omega) ?_
          refine z_iadd hx hb dX6_isThere_33 ?_
          refine g_iald (k := (41 + (cd w s0 (i - 1)))) hx hb hK hB hP.ltp hP.ckp (by omega) (Nat.lt_of_lt_of_eq (by omega : (41 + (cd w s0 (i - 1))) < 50) (Eq.symm hP.cnp)) hP.bgp dX6_isThere_34 ?_
          have hr_4 := hR P (41 + (cd w s0 (i - 1)))
          refine lv_istore (lv' := [(5, .int (iZ (σ1 P (41 + (cd w s0 (i - 1)))))), (4, .int (iZ (((i : Nat) : Int) - 1))), (3, .int (iZ v)), (0, .ref (tad θ 111)), (1, .ref (tad θ P)), (2, .int (iZ ((s0 : Nat) : Int)))]) hx hb dX6_isThere_35 hl (by decide) rfl (fun ls hl => ?_)
          refine lv_iload hx hb dX6_isThere_37 (lv_at hl 0 rfl) ?_
          refine lv_bipush (v := iZ (-9)) hx hb dX6_isThere_39 (by decide) ?_
          refine z_icmp_eq (tgt := 80) hx hb dX6_isThere_41 (by decide) ⟨by omega, by omega⟩ ⟨by decide, by decide⟩ (fun c_5 => ?_) (fun c_5 => ?_)
          · refine lv_iconst (v := iZ 0) hx hb dX6_isThere_80 rfl ?_
            refine lv_istore_n (lv' := [(3, .int (iZ 0)), (5, .int (iZ (σ1 P (41 + (cd w s0 (i - 1)))))), (4, .int (iZ (((i : Nat) : Int) - 1))), (0, .ref (tad θ 111)), (1, .ref (tad θ P)), (2, .int (iZ ((s0 : Nat) : Int)))]) hx hb dX6_isThere_81 rfl hl (by decide) rfl (fun ls hl => ?_)
            refine z_iinc (k := 2) (lv' := [(4, .int (iZ ((((i : Nat) : Int) - 1) + (-1)))), (3, .int (iZ 0)), (5, .int (iZ (σ1 P (41 + (cd w s0 (i - 1)))))), (0, .ref (tad θ 111)), (1, .ref (tad θ P)), (2, .int (iZ ((s0 : Nat) : Int)))]) hx hb dX6_isThere_82 hl rfl (by decide) rfl (fun ls hl => ?_)
            have hl : lv_has ls 6 [(4, .int (iZ (((i - 1 : Nat) : Int) - 1))), (3, .int (iZ 0)), (5, .int (iZ (σ1 P (41 + (cd w s0 (i - 1)))))), (0, .ref (tad θ 111)), (1, .ref (tad θ P)), (2, .int (iZ ((s0 : Nat) : Int)))] := by have e9 : ((((i : Nat) : Int) - 1) + (-1)) = (((i - 1 : Nat) : Int) - 1) := (by omega); rw [e9] at hl; exact hl
            refine lv_goto (tgt := 11) hx hb dX6_isThere_85 (by decide) ?_
            exact ih11 (i - 1) 0 _ _ _ (by omega) (by omega) (Or.inr ⟨rfl, by rw [← hg1]; exact thB_no (d := i - 1) (by omega) (by omega)⟩) hB (lv_sub hl [0, 1, 3, 4, 5] rfl)
          · refine lv_aload_n hx hb dX6_isThere_44 rfl (lv_at hl 3 rfl) ?_
            refine g_getr (k := 24) (j := 127) hx hb hts hown hK hθ hB cf6 (by decide) rfl (by decide) kw_683 rfl rfl dX6_isThere_45 ?_
            refine lv_iload hx hb dX6_isThere_48 (lv_at hl 1 rfl) ?_
            refine g_iald (k := (i - 1)) hx hb hK hB (by decide) rfl (by omega) (Nat.lt_of_lt_of_eq (by omega : (i - 1) < 8) (Eq.symm rfl)) (by decide) dX6_isThere_50 ?_
            refine z_top (b := (w.2 (xs w s0 (i - 1)))) (hch (i - 1) (by omega)) ?_
            refine lv_bipush (v := iZ 10) hx hb dX6_isThere_51 (by decide) ?_
            refine z_irem hx hb dX6_isThere_53 ⟨by omega, by omega⟩ (by omega) ⟨by decide, by decide⟩ (by decide) ?_
            refine lv_iconst (v := iZ 1) hx hb dX6_isThere_54 rfl ?_
            refine z_icmp_ne (tgt := 62) hx hb dX6_isThere_55 (by decide) ⟨by omega, by omega⟩ ⟨by decide, by decide⟩ (fun c_6 => ?_) (fun c_6 => ?_)
            · refine lv_iconst (v := iZ 0) hx hb dX6_isThere_62 rfl ?_
              refine lv_iload hx hb dX6_isThere_63 (lv_at hl 0 rfl) ?_
              refine z_if_eq (tgt := 72) hx hb dX6_isThere_65 (by decide) ⟨by omega, by omega⟩ (fun c_7 => ?_) (fun c_7 => ?_)
              · refine lv_iconst (v := iZ 0) hx hb dX6_isThere_72 rfl ?_
                refine z_icmp_ne (tgt := 80) hx hb dX6_isThere_73 (by decide) ⟨by decide, by decide⟩ ⟨by decide, by decide⟩ (fun c_8 => ?_) (fun c_8 => ?_)
                · exact absurd (by decide) c_8
                · refine lv_iconst (v := iZ 1) hx hb dX6_isThere_76 rfl ?_
                  refine lv_goto (tgt := 81) hx hb dX6_isThere_77 (by decide) ?_
                  refine lv_istore_n (lv' := [(3, .int (iZ 1)), (5, .int (iZ (σ1 P (41 + (cd w s0 (i - 1)))))), (4, .int (iZ (((i : Nat) : Int) - 1))), (0, .ref (tad θ 111)), (1, .ref (tad θ P)), (2, .int (iZ ((s0 : Nat) : Int)))]) hx hb dX6_isThere_81 rfl hl (by decide) rfl (fun ls hl => ?_)
                  refine z_iinc (k := 2) (lv' := [(4, .int (iZ ((((i : Nat) : Int) - 1) + (-1)))), (3, .int (iZ 1)), (5, .int (iZ (σ1 P (41 + (cd w s0 (i - 1)))))), (0, .ref (tad θ 111)), (1, .ref (tad θ P)), (2, .int (iZ ((s0 : Nat) : Int)))]) hx hb dX6_isThere_82 hl rfl (by decide) rfl (fun ls hl => ?_)
                  have hl : lv_has ls 6 [(4, .int (iZ (((i - 1 : Nat) : Int) - 1))), (3, .int (iZ 1)), (5, .int (iZ (σ1 P (41 + (cd w s0 (i - 1)))))), (0, .ref (tad θ 111)), (1, .ref (tad θ P)), (2, .int (iZ ((s0 : Nat) : Int)))] := by have e9 : ((((i : Nat) : Int) - 1) + (-1)) = (((i - 1 : Nat) : Int) - 1) := (by omega); rw [e9] at hl; exact hl
                  refine lv_goto (tgt := 11) hx hb dX6_isThere_85 (by decide) ?_
                  exact ih11 (i - 1) 1 _ _ _ (by omega) (by omega) (Or.inl ⟨rfl, all_down hall ⟨by omega, by omega⟩⟩) hB (lv_sub hl [0, 1, 3, 4, 5] rfl)
              · refine lv_iconst (v := iZ 1) hx hb dX6_isThere_68 rfl ?_
                refine lv_goto (tgt := 73) hx hb dX6_isThere_69 (by decide) ?_
                refine z_icmp_ne (tgt := 80) hx hb dX6_isThere_73 (by decide) ⟨by decide, by decide⟩ ⟨by decide, by decide⟩ (fun c_9 => ?_) (fun c_9 => ?_)
                · refine lv_iconst (v := iZ 0) hx hb dX6_isThere_80 rfl ?_
                  refine lv_istore_n (lv' := [(3, .int (iZ 0)), (5, .int (iZ (σ1 P (41 + (cd w s0 (i - 1)))))), (4, .int (iZ (((i : Nat) : Int) - 1))), (0, .ref (tad θ 111)), (1, .ref (tad θ P)), (2, .int (iZ ((s0 : Nat) : Int)))]) hx hb dX6_isThere_81 rfl hl (by decide) rfl (fun ls hl => ?_)
                  refine z_iinc (k := 2) (lv' := [(4, .int (iZ ((((i : Nat) : Int) - 1) + (-1)))), (3, .int (iZ 0)), (5, .int (iZ (σ1 P (41 + (cd w s0 (i - 1)))))), (0, .ref (tad θ 111)), (1, .ref (tad θ P)), (2, .int (iZ ((s0 : Nat) : Int)))]) hx hb dX6_isThere_82 hl rfl (by decide) rfl (fun ls hl => ?_)
                  have hl : lv_has ls 6 [(4, .int (iZ (((i - 1 : Nat) : Int) - 1))), (3, .int (iZ 0)), (5, .int (iZ (σ1 P (41 + (cd w s0 (i - 1)))))), (0, .ref (tad θ 111)), (1, .ref (tad θ P)), (2, .int (iZ ((s0 : Nat) : Int)))] := by have e9 : ((((i : Nat) : Int) - 1) + (-1)) = (((i - 1 : Nat) : Int) - 1) := (by omega); rw [e9] at hl; exact hl
                  refine lv_goto (tgt := 11) hx hb dX6_isThere_85 (by decide) ?_
                  exact ih11 (i - 1) 0 _ _ _ (by omega) (by omega) (Or.inr ⟨rfl, by rw [← hg1]; exact thB_no (d := i - 1) (by omega) (by omega)⟩) hB (lv_sub hl [0, 1, 3, 4, 5] rfl)
                · exact absurd c_9 (by decide)
            · refine lv_iconst (v := iZ 1) hx hb dX6_isThere_58 rfl ?_
              refine lv_goto (tgt := 63) hx hb dX6_isThere_59 (by decide) ?_
              refine lv_iload hx hb dX6_isThere_63 (lv_at hl 0 rfl) ?_
              refine z_if_eq (tgt := 72) hx hb dX6_isThere_65 (by decide) ⟨by omega, by omega⟩ (fun c_10 => ?_) (fun c_10 => ?_)
              · refine lv_iconst (v := iZ 0) hx hb dX6_isThere_72 rfl ?_
                refine z_icmp_ne (tgt := 80) hx hb dX6_isThere_73 (by decide) ⟨by decide, by decide⟩ ⟨by decide, by decide⟩ (fun c_11 => ?_) (fun c_11 => ?_)
                · refine lv_iconst (v := iZ 0) hx hb dX6_isThere_80 rfl ?_
                  refine lv_istore_n (lv' := [(3, .int (iZ 0)), (5, .int (iZ (σ1 P (41 + (cd w s0 (i - 1)))))), (4, .int (iZ (((i : Nat) : Int) - 1))), (0, .ref (tad θ 111)), (1, .ref (tad θ P)), (2, .int (iZ ((s0 : Nat) : Int)))]) hx hb dX6_isThere_81 rfl hl (by decide) rfl (fun ls hl => ?_)
                  refine z_iinc (k := 2) (lv' := [(4, .int (iZ ((((i : Nat) : Int) - 1) + (-1)))), (3, .int (iZ 0)), (5, .int (iZ (σ1 P (41 + (cd w s0 (i - 1)))))), (0, .ref (tad θ 111)), (1, .ref (tad θ P)), (2, .int (iZ ((s0 : Nat) : Int)))]) hx hb dX6_isThere_82 hl rfl (by decide) rfl (fun ls hl => ?_)
                  have hl : lv_has ls 6 [(4, .int (iZ (((i - 1 : Nat) : Int) - 1))), (3, .int (iZ 0)), (5, .int (iZ (σ1 P (41 + (cd w s0 (i - 1)))))), (0, .ref (tad θ 111)), (1, .ref (tad θ P)), (2, .int (iZ ((s0 : Nat) : Int)))] := by have e9 : ((((i : Nat) : Int) - 1) + (-1)) = (((i - 1 : Nat) : Int) - 1) := (by omega); rw [e9] at hl; exact hl
                  refine lv_goto (tgt := 11) hx hb dX6_isThere_85 (by decide) ?_
                  exact ih11 (i - 1) 0 _ _ _ (by omega) (by omega) (Or.inr ⟨rfl, by rw [← hg1]; exact thB_no (d := i - 1) (by omega) (by omega)⟩) hB (lv_sub hl [0, 1, 3, 4, 5] rfl)
                · exact absurd c_11 (by decide)
              · refine lv_iconst (v := iZ 1) hx hb dX6_isThere_68 rfl ?_
                refine lv_goto (tgt := 73) hx hb dX6_isThere_69 (by decide) ?_
                refine z_icmp_ne (tgt := 80) hx hb dX6_isThere_73 (by decide) ⟨by decide, by decide⟩ ⟨by decide, by decide⟩ (fun c_12 => ?_) (fun c_12 => ?_)
                · exact absurd (by decide) c_12
                · refine lv_iconst (v := iZ 1) hx hb dX6_isThere_76 rfl ?_
                  refine lv_goto (tgt := 81) hx hb dX6_isThere_77 (by decide) ?_
                  refine lv_istore_n (lv' := [(3, .int (iZ 1)), (5, .int (iZ (σ1 P (41 + (cd w s0 (i - 1)))))), (4, .int (iZ (((i : Nat) : Int) - 1))), (0, .ref (tad θ 111)), (1, .ref (tad θ P)), (2, .int (iZ ((s0 : Nat) : Int)))]) hx hb dX6_isThere_81 rfl hl (by decide) rfl (fun ls hl => ?_)
                  refine z_iinc (k := 2) (lv' := [(4, .int (iZ ((((i : Nat) : Int) - 1) + (-1)))), (3, .int (iZ 1)), (5, .int (iZ (σ1 P (41 + (cd w s0 (i - 1)))))), (0, .ref (tad θ 111)), (1, .ref (tad θ P)), (2, .int (iZ ((s0 : Nat) : Int)))]) hx hb dX6_isThere_82 hl rfl (by decide) rfl (fun ls hl => ?_)
                  have hl : lv_has ls 6 [(4, .int (iZ (((i - 1 : Nat) : Int) - 1))), (3, .int (iZ 1)), (5, .int (iZ (σ1 P (41 + (cd w s0 (i - 1)))))), (0, .ref (tad θ 111)), (1, .ref (tad θ P)), (2, .int (iZ ((s0 : Nat) : Int)))] := by have e9 : ((((i : Nat) : Int) - 1) + (-1)) = (((i - 1 : Nat) : Int) - 1) := (by omega); rw [e9] at hl; exact hl
                  refine lv_goto (tgt := 11) hx hb dX6_isThere_85 (by decide) ?_
                  exact ih11 (i - 1) 1 _ _ _ (by omega) (by omega) (Or.inl ⟨rfl, all_down hall ⟨by omega, by omega⟩⟩) hB (lv_sub hl [0, 1, 3, 4, 5] rfl)
  exact loop11 _ (dN w s0) 1 _ _ _ (Nat.lt_succ_self _) (Nat.le_refl _) (Or.inl ⟨rfl, fun d h1 h2 => absurd h2 (by omega)⟩) hB (lv_sub hl [0, 1, 2, 3, 4] rfl)
set_option maxHeartbeats 4000000 in
set_option maxRecDepth 100000 in
theorem mX6_made (l : Launch) (θ : gT) (hθ : gOK θ) (σ : gS) (z : gZ) (K x y : Int) (hKr : rg K) (hxr : -9 ≤ x ∧ x ≤ 99) (hyr : -9 ≤ y ∧ y ≤ 99) : GI l θ yX6_made cX6_made 3 (some .int) 0 0 [.int (iZ K), .int (iZ x), .int (iZ y)] σ z (fun q σ' z' => (q = mkd K x y) ∧ σ' = σ ∧ z' = z) := by
  refine g_enter (ret := (some .int)) (by decide +kernel) (Nat.le_of_ble_eq_true rfl) ?_
  intro p e s m args below meth c ls F hB hl
  obtain ⟨hx, hb, hr, hml, hown, hts, hlk, hK, hst⟩ := F
  have hR := hB.1.2
  have hl : lv_has ls 3 [(0, .int (iZ K)), (1, .int (iZ x)), (2, .int (iZ y))] := hl
  refine lv_iload_n hx hb dX6_made_0 rfl (lv_at hl 1 rfl) ?_
  refine z_if_lt (tgt := 8) hx hb dX6_made_1 (by decide) ⟨by omega, by omega⟩ (fun c_1 => ?_) (fun c_1 => ?_)
  · refine lv_bipush (v := iZ (-8)) hx hb dX6_made_8 (by decide) ?_
    exact g_iret hx hb hr hlk hB dX6_made_10 ⟨by decide, by decide⟩ (⟨by unfold mkd; rw [if_pos (by omega)], rfl, rfl⟩)
  · refine lv_iload_n hx hb dX6_made_4 rfl (lv_at hl 2 rfl) ?_
    refine z_if_ge (tgt := 11) hx hb dX6_made_5 (by decide) ⟨by omega, by omega⟩ (fun c_2 => ?_) (fun c_2 => ?_)
    · refine lv_iload_n hx hb dX6_made_11 rfl (lv_at hl 0 rfl) ?_
      refine lv_iconst (v := iZ 2) hx hb dX6_made_12 rfl ?_
      refine z_icmp_ne (tgt := 25) hx hb dX6_made_13 (by decide) ⟨by omega, by omega⟩ ⟨by decide, by decide⟩ (fun c_3 => ?_) (fun c_3 => ?_)
      · refine lv_iload_n hx hb dX6_made_25 rfl (lv_at hl 0 rfl) ?_
        refine lv_iconst (v := iZ 3) hx hb dX6_made_26 rfl ?_
        refine z_icmp_ne (tgt := 42) hx hb dX6_made_27 (by decide) ⟨by omega, by omega⟩ ⟨by decide, by decide⟩ (fun c_4 => ?_) (fun c_4 => ?_)
        · refine lv_iload_n hx hb dX6_made_42 rfl (lv_at hl 1 rfl) ?_
          refine lv_iload_n hx hb dX6_made_43 rfl (lv_at hl 2 rfl) ?_
          refine z_icmp_ge (tgt := 51) hx hb dX6_made_44 (by decide) ⟨by omega, by omega⟩ ⟨by omega, by omega⟩ (fun c_5 => ?_) (fun c_5 => ?_)
          · refine lv_iconst (v := iZ 0) hx hb dX6_made_51 rfl ?_
            exact g_iret hx hb hr hlk hB dX6_made_52 ⟨by decide, by decide⟩ (⟨by unfold mkd; rw [if_neg (by omega), if_neg (by omega), if_neg (by omega), if_neg (by omega)], rfl, rfl⟩)
          · refine lv_iconst (v := iZ 1) hx hb dX6_made_47 rfl ?_
            refine lv_goto (tgt := 52) hx hb dX6_made_48 (by decide) ?_
            exact g_iret hx hb hr hlk hB dX6_made_52 ⟨by decide, by decide⟩ (⟨by unfold mkd; rw [if_neg (by omega), if_neg (by omega), if_neg (by omega), if_pos (by omega)], rfl, rfl⟩)
        · refine lv_iload_n hx hb dX6_made_30 rfl (lv_at hl 1 rfl) ?_
          refine lv_iload_n hx hb dX6_made_31 rfl (lv_at hl 2 rfl) ?_
          refine z_isub hx hb dX6_made_32 ?_
          refine lv_bipush (v := iZ 100) hx hb dX6_made_33 (by decide) ?_
          refine z_iadd hx hb dX6_made_35 ?_
          refine lv_bipush (v := iZ 100) hx hb dX6_made_36 (by decide) ?_
          refine z_irem hx hb dX6_made_38 ⟨by omega, by omega⟩ (by omega) ⟨by decide, by decide⟩ (by decide) ?_
          refine lv_goto (tgt := 52) hx hb dX6_made_39 (by decide) ?_
          exact g_iret hx hb hr hlk hB dX6_made_52 ⟨by omega, by omega⟩ (⟨by unfold mkd; rw [if_neg (by omega), if_neg (by omega), if_pos (by omega)], rfl, rfl⟩)
      · refine lv_iload_n hx hb dX6_made_16 rfl (lv_at hl 1 rfl) ?_
        refine lv_iload_n hx hb dX6_made_17 rfl (lv_at hl 2 rfl) ?_
        refine z_iadd hx hb dX6_made_18 ?_
        refine lv_bipush (v := iZ 100) hx hb dX6_made_19 (by decide) ?_
        refine z_irem hx hb dX6_made_21 ⟨by omega, by omega⟩ (by omega) ⟨by decide, by decide⟩ (by decide) ?_
        refine lv_goto (tgt := 52) hx hb dX6_made_22 (by decide) ?_
        exact g_iret hx hb hr hlk hB dX6_made_52 ⟨by omega, by omega⟩ (⟨by unfold mkd; rw [if_neg (by omega), if_pos (by omega)], rfl, rfl⟩)
    · refine lv_bipush (v := iZ (-8)) hx hb dX6_made_8 (by decide) ?_
      exact g_iret hx hb hr hlk hB dX6_made_10 ⟨by decide, by decide⟩ (⟨by unfold mkd; rw [if_pos (by omega)], rfl, rfl⟩)
set_option maxHeartbeats 4000000 in
set_option maxRecDepth 100000 in
theorem mX6_valueOf (l : Launch) (θ : gT) (hθ : gOK θ) (σ : gS) (z : gZ) (P : Nat) (hP : isP P) (hW : Wf (σ P)) (hV : Vb (σ P)) (s0 : Nat) (hs : s0 < 8) (hn : (s0 : Int) < σ P 0) (a0 b0 : Int) (ha : 0 ≤ a0 ∧ a0 ≤ 99) (hb0 : 0 ≤ b0 ∧ b0 ≤ 99) : GI l θ yX6_valueOf cX6_valueOf 10 (some .int) 2 44 [.ref (tad θ 111), .ref (tad θ P), .int (iZ ((s0 : Nat) : Int)), .int (iZ a0), .int (iZ b0)] σ z (fun q σ' z' => (q = vlM (σ P) s0 a0 b0) ∧ σ' = σ ∧ z' = z) := by
  refine g_enter (ret := (some .int)) (by decide +kernel) (Nat.le_of_ble_eq_true rfl) ?_
  intro p e s m args below meth c ls F hB hl
  obtain ⟨hx, hb, hr, hml, hown, hts, hlk, hK, hst⟩ := F
  have hR := hB.1.2
  have hl : lv_has ls 10 [(0, .ref (tad θ 111)), (1, .ref (tad θ P)), (2, .int (iZ ((s0 : Nat) : Int))), (3, .int (iZ a0)), (4, .int (iZ b0))] := hl
  have hKk := (hW.2 s0 hs).1
  have hF0 : σ P (9 + 3 * s0) = ((fa (σ P) s0 0 : Nat) : Int) := hW.fg (i := 0) hs (by omega)
  have hF9 := ((hW.2 s0 hs).2 0 (by omega)).1
  rw [Nat.add_zero] at hF9
  have hV0 := (hV s0 hs).1
  refine lv_aload_n hx hb dX6_valueOf_0 rfl (lv_at hl 1 rfl) ?_
  refine lv_iconst (v := iZ 1) hx hb dX6_valueOf_1 rfl ?_
  refine lv_iload_n hx hb dX6_valueOf_2 rfl (lv_at hl 2 rfl) ?_
  refine z_iadd hx hb dX6_valueOf_3 ?_
  refine g_iald (k := (1 + s0)) hx hb hK hB hP.ltp hP.ckp (by omega) (Nat.lt_of_lt_of_eq (by omega : (1 + s0) < 50) (Eq.symm hP.cnp)) hP.bgp dX6_valueOf_4 ?_
  have hr_1 := hR P (1 + s0)
  refine lv_istore (lv' := [(5, .int (iZ (σ P (1 + s0)))), (0, .ref (tad θ 111)), (1, .ref (tad θ P)), (2, .int (iZ ((s0 : Nat) : Int))), (3, .int (iZ a0)), (4, .int (iZ b0))]) hx hb dX6_valueOf_5 hl (by decide) rfl (fun ls hl => ?_)
  refine lv_aload_n hx hb dX6_valueOf_7 rfl (lv_at hl 2 rfl) ?_
  refine lv_bipush (v := iZ 9) hx hb dX6_valueOf_8 (by decide) ?_
  refine lv_iconst (v := iZ 3) hx hb dX6_valueOf_10 rfl ?_
  refine lv_iload_n hx hb dX6_valueOf_11 rfl (lv_at hl 3 rfl) ?_
  refine z_imul hx hb dX6_valueOf_12 ?_
  refine z_iadd hx hb dX6_valueOf_13 ?_
  refine g_iald (k := (9 + (3 * s0))) hx hb hK hB hP.ltp hP.ckp (by omega) (Nat.lt_of_lt_of_eq (by omega : (9 + (3 * s0)) < 50) (Eq.symm hP.cnp)) hP.bgp dX6_valueOf_14 ?_
  refine z_top (b := (((fa (σ P) s0 0) : Nat) : Int)) (hF0) ?_
  refine lv_istore (lv' := [(6, .int (iZ (((fa (σ P) s0 0) : Nat) : Int))), (5, .int (iZ (σ P (1 + s0)))), (0, .ref (tad θ 111)), (1, .ref (tad θ P)), (2, .int (iZ ((s0 : Nat) : Int))), (3, .int (iZ a0)), (4, .int (iZ b0))]) hx hb dX6_valueOf_15 hl (by decide) rfl (fun ls hl => ?_)
  refine lv_aload_n hx hb dX6_valueOf_17 rfl (lv_at hl 3 rfl) ?_
  refine lv_iload_n hx hb dX6_valueOf_18 rfl (lv_at hl 4 rfl) ?_
  refine lv_iconst (v := iZ 0) hx hb dX6_valueOf_19 rfl ?_
  refine z_top (b := ((0 : Nat) : Int)) (rfl) ?_
  refine g_calli (g_runS (As := [.ref (tad θ P), .int (iZ ((s0 : Nat) : Int)), .int (iZ ((0 : Nat) : Int))]) (rest := []) hx hb hml hown hts hK hst hB (mX6_streamOf l θ hθ σ z P hP s0 0 hs (by omega)) ms_X6_streamOf kw_832 rfl hl.1 rfl (Nat.le_of_ble_eq_true rfl) ⟨by decide, by decide⟩ ⟨Nat.le_refl _, Nat.le_refl _⟩ dX6_valueOf_20) hB (fun q0 σ_2 z_3 H locs hq0 hp0 hB => ?_)
  obtain ⟨hp0, e1_, e2_⟩ := hp0
  rw [e1_, e2_] at hB
  clear e1_ e2_
  have hs0 := sO_of hp0
  refine lv_bipush (v := iZ (-9)) hx hb dX6_valueOf_23 (by decide) ?_
  have jn39 : W p l e (gRm 2 44) s m args below meth c H locs 0 0 (MQ below (gQi θ (fun q σ' z' => (q = vlM (σ P) s0 a0 b0) ∧ σ' = σ ∧ z' = z)) args s 0 0 (tA θ)) (F0 m 39 ls [.int (iZ (xv (σ P) s0 0))]) := by
    have hx0 := xv_in hW hV hs hn (show 0 < 3 by omega)
    refine lv_istore (lv' := [(7, .int (iZ (xv (σ P) s0 0))), (6, .int (iZ (((fa (σ P) s0 0) : Nat) : Int))), (5, .int (iZ (σ P (1 + s0)))), (0, .ref (tad θ 111)), (1, .ref (tad θ P)), (2, .int (iZ ((s0 : Nat) : Int))), (3, .int (iZ a0)), (4, .int (iZ b0))]) hx hb dX6_valueOf_39 hl (by decide) rfl (fun ls hl => ?_)
    refine lv_aload_n hx hb dX6_valueOf_41 rfl (lv_at hl 4 rfl) ?_
    refine lv_iload_n hx hb dX6_valueOf_42 rfl (lv_at hl 5 rfl) ?_
    refine lv_iconst (v := iZ 1) hx hb dX6_valueOf_43 rfl ?_
    refine z_top (b := ((1 : Nat) : Int)) (rfl) ?_
    refine g_calli (g_runS (As := [.ref (tad θ P), .int (iZ ((s0 : Nat) : Int)), .int (iZ ((1 : Nat) : Int))]) (rest := []) hx hb hml hown hts hK hst hB (mX6_streamOf l θ hθ σ z P hP s0 1 hs (by omega)) ms_X6_streamOf kw_832 rfl hl.1 rfl (Nat.le_of_ble_eq_true rfl) ⟨by decide, by decide⟩ ⟨Nat.le_refl _, Nat.le_refl _⟩ dX6_valueOf_44) hB (fun q1 σ_5 z_6 H locs hq1 hp1 hB => ?_)
    obtain ⟨hp1, e1_, e2_⟩ := hp1
    rw [e1_, e2_] at hB
    clear e1_ e2_
    have hs1 := sO_of hp1
    refine lv_bipush (v := iZ (-9)) hx hb dX6_valueOf_47 (by decide) ?_
    have jn71 : W p l e (gRm 2 44) s m args below meth c H locs 0 0 (MQ below (gQi θ (fun q σ' z' => (q = vlM (σ P) s0 a0 b0) ∧ σ' = σ ∧ z' = z)) args s 0 0 (tA θ)) (F0 m 71 ls [.int (iZ (xv (σ P) s0 1))]) := by
      have hx1 := xv_in hW hV hs hn (show 1 < 3 by omega)
      refine lv_istore (lv' := [(8, .int (iZ (xv (σ P) s0 1))), (7, .int (iZ (xv (σ P) s0 0))), (6, .int (iZ (((fa (σ P) s0 0) : Nat) : Int))), (5, .int (iZ (σ P (1 + s0)))), (0, .ref (tad θ 111)), (1, .ref (tad θ P)), (2, .int (iZ ((s0 : Nat) : Int))), (3, .int (iZ a0)), (4, .int (iZ b0))]) hx hb dX6_valueOf_71 hl (by decide) rfl (fun ls hl => ?_)
      refine lv_aload_n hx hb dX6_valueOf_73 rfl (lv_at hl 5 rfl) ?_
      refine lv_iload_n hx hb dX6_valueOf_74 rfl (lv_at hl 6 rfl) ?_
      refine lv_iconst (v := iZ 2) hx hb dX6_valueOf_75 rfl ?_
      refine z_top (b := ((2 : Nat) : Int)) (rfl) ?_
      refine g_calli (g_runS (As := [.ref (tad θ P), .int (iZ ((s0 : Nat) : Int)), .int (iZ ((2 : Nat) : Int))]) (rest := []) hx hb hml hown hts hK hst hB (mX6_streamOf l θ hθ σ z P hP s0 2 hs (by omega)) ms_X6_streamOf kw_832 rfl hl.1 rfl (Nat.le_of_ble_eq_true rfl) ⟨by decide, by decide⟩ ⟨Nat.le_refl _, Nat.le_refl _⟩ dX6_valueOf_76) hB (fun q2 σ_8 z_9 H locs hq2 hp2 hB => ?_)
      obtain ⟨hp2, e1_, e2_⟩ := hp2
      rw [e1_, e2_] at hB
      clear e1_ e2_
      have hs2 := sO_of hp2
      refine lv_bipush (v := iZ (-9)) hx hb dX6_valueOf_79 (by decide) ?_
      have jn103 : W p l e (gRm 2 44) s m args below meth c H locs 0 0 (MQ below (gQi θ (fun q σ' z' => (q = vlM (σ P) s0 a0 b0) ∧ σ' = σ ∧ z' = z)) args s 0 0 (tA θ)) (F0 m 103 ls [.int (iZ (xv (σ P) s0 2))]) := by
        have hx2 := xv_in hW hV hs hn (show 2 < 3 by omega)
        refine lv_istore (lv' := [(9, .int (iZ (xv (σ P) s0 2))), (8, .int (iZ (xv (σ P) s0 1))), (7, .int (iZ (xv (σ P) s0 0))), (6, .int (iZ (((fa (σ P) s0 0) : Nat) : Int))), (5, .int (iZ (σ P (1 + s0)))), (0, .ref (tad θ 111)), (1, .ref (tad θ P)), (2, .int (iZ ((s0 : Nat) : Int))), (3, .int (iZ a0)), (4, .int (iZ b0))]) hx hb dX6_valueOf_103 hl (by decide) rfl (fun ls hl => ?_)
        refine lv_iload hx hb dX6_valueOf_105 (lv_at hl 4 rfl) ?_
        rcases (show ((σ P (1 + s0)) < 0 ∨ 11 < (σ P (1 + s0))) ∨ (σ P (1 + s0)) = 0 ∨ (σ P (1 + s0)) = 1 ∨ (σ P (1 + s0)) = 2 ∨ (σ P (1 + s0)) = 3 ∨ (σ P (1 + s0)) = 4 ∨ (σ P (1 + s0)) = 5 ∨ (σ P (1 + s0)) = 6 ∨ (σ P (1 + s0)) = 7 ∨ (σ P (1 + s0)) = 8 ∨ (σ P (1 + s0)) = 9 ∨ (σ P (1 + s0)) = 10 ∨ (σ P (1 + s0)) = 11 by omega) with c_11 | c_11 | c_11 | c_11 | c_11 | c_11 | c_11 | c_11 | c_11 | c_11 | c_11 | c_11 | c_11
        · (exfalso; omega)
        · refine z_tabIn (v := 0) (off := 61) (tgt := 168) hx hb dX6_valueOf_107 c_11 ⟨by decide, by decide⟩ (by decide) (by decide) rfl (by decide) ?_
          have hxk := c_11
          refine lv_iload hx hb dX6_valueOf_168 (lv_at hl 3 rfl) ?_
          refine z_if_ne (tgt := 177) hx hb dX6_valueOf_170 (by decide) ⟨by omega, by omega⟩ (fun c_12 => ?_) (fun c_12 => ?_)
          · refine lv_iload hx hb dX6_valueOf_177 (lv_at hl 9 rfl) ?_
            exact g_iret hx hb hr hlk hB dX6_valueOf_179 ⟨by omega, by omega⟩ (⟨by unfold vlM; rw [if_pos (by omega), if_neg (by omega)], rfl, rfl⟩)
          · refine lv_iload_n hx hb dX6_valueOf_173 rfl (lv_at hl 8 rfl) ?_
            refine lv_goto (tgt := 179) hx hb dX6_valueOf_174 (by decide) ?_
            exact g_iret hx hb hr hlk hB dX6_valueOf_179 ⟨by omega, by omega⟩ (⟨by unfold vlM; rw [if_pos (by omega), if_pos (by omega)], rfl, rfl⟩)
        · refine z_tabIn (v := 1) (off := 73) (tgt := 180) hx hb dX6_valueOf_107 c_11 ⟨by decide, by decide⟩ (by decide) (by decide) rfl (by decide) ?_
          have hxk := c_11
          refine lv_iload hx hb dX6_valueOf_180 (lv_at hl 3 rfl) ?_
          refine z_top (b := (σ P (9 + 3 * s0))) (hF0.symm) ?_
          exact g_iret hx hb hr hlk hB dX6_valueOf_182 ⟨by omega, by omega⟩ (⟨by unfold vlM; rw [if_neg (by omega), if_pos (by omega)], rfl, rfl⟩)
        · refine z_tabIn (v := 2) (off := 139) (tgt := 246) hx hb dX6_valueOf_107 c_11 ⟨by decide, by decide⟩ (by decide) (by decide) rfl (by decide) ?_
          have hxk := c_11
          refine lv_iload hx hb dX6_valueOf_246 (lv_at hl 4 rfl) ?_
          refine lv_iload hx hb dX6_valueOf_248 (lv_at hl 2 rfl) ?_
          refine lv_iload hx hb dX6_valueOf_250 (lv_at hl 1 rfl) ?_
          refine g_calli (g_runS (As := [.int (iZ (σ P (1 + s0))), .int (iZ (xv (σ P) s0 0)), .int (iZ (xv (σ P) s0 1))]) (rest := []) hx hb hml hown hts hK hst hB (mX6_made l θ hθ σ z (σ P (1 + s0)) (xv (σ P) s0 0) (xv (σ P) s0 1) ⟨by omega, by omega⟩ ⟨by omega, by omega⟩ ⟨by omega, by omega⟩) ms_X6_made kw_905 rfl hl.1 rfl (Nat.le_of_ble_eq_true rfl) ⟨by decide, by decide⟩ ⟨Nat.le_refl _, Nat.le_refl _⟩ dX6_valueOf_252) hB (fun q_15 σ_13 z_14 H locs hq_15 pq_15 hB => ?_)
          obtain ⟨pq_15, e1_, e2_⟩ := pq_15
          rw [e1_, e2_] at hB
          clear e1_ e2_
          subst pq_15
          exact g_iret hx hb hr hlk hB dX6_valueOf_255 ⟨by omega, by omega⟩ (⟨by unfold vlM; rw [if_neg (by omega), if_neg (by omega), if_neg (by omega), if_neg (by omega), if_neg (by omega), if_neg (by omega), if_neg (by omega)], rfl, rfl⟩)
        · refine z_tabIn (v := 3) (off := 139) (tgt := 246) hx hb dX6_valueOf_107 c_11 ⟨by decide, by decide⟩ (by decide) (by decide) rfl (by decide) ?_
          have hxk := c_11
          refine lv_iload hx hb dX6_valueOf_246 (lv_at hl 4 rfl) ?_
          refine lv_iload hx hb dX6_valueOf_248 (lv_at hl 2 rfl) ?_
          refine lv_iload hx hb dX6_valueOf_250 (lv_at hl 1 rfl) ?_
          refine g_calli (g_runS (As := [.int (iZ (σ P (1 + s0))), .int (iZ (xv (σ P) s0 0)), .int (iZ (xv (σ P) s0 1))]) (rest := []) hx hb hml hown hts hK hst hB (mX6_made l θ hθ σ z (σ P (1 + s0)) (xv (σ P) s0 0) (xv (σ P) s0 1) ⟨by omega, by omega⟩ ⟨by omega, by omega⟩ ⟨by omega, by omega⟩) ms_X6_made kw_905 rfl hl.1 rfl (Nat.le_of_ble_eq_true rfl) ⟨by decide, by decide⟩ ⟨Nat.le_refl _, Nat.le_refl _⟩ dX6_valueOf_252) hB (fun q_18 σ_16 z_17 H locs hq_18 pq_18 hB => ?_)
          obtain ⟨pq_18, e1_, e2_⟩ := pq_18
          rw [e1_, e2_] at hB
          clear e1_ e2_
          subst pq_18
          exact g_iret hx hb hr hlk hB dX6_valueOf_255 ⟨by omega, by omega⟩ (⟨by unfold vlM; rw [if_neg (by omega), if_neg (by omega), if_neg (by omega), if_neg (by omega), if_neg (by omega), if_neg (by omega), if_neg (by omega)], rfl, rfl⟩)
        · refine z_tabIn (v := 4) (off := 139) (tgt := 246) hx hb dX6_valueOf_107 c_11 ⟨by decide, by decide⟩ (by decide) (by decide) rfl (by decide) ?_
          have hxk := c_11
          refine lv_iload hx hb dX6_valueOf_246 (lv_at hl 4 rfl) ?_
          refine lv_iload hx hb dX6_valueOf_248 (lv_at hl 2 rfl) ?_
          refine lv_iload hx hb dX6_valueOf_250 (lv_at hl 1 rfl) ?_
          refine g_calli (g_runS (As := [.int (iZ (σ P (1 + s0))), .int (iZ (xv (σ P) s0 0)), .int (iZ (xv (σ P) s0 1))]) (rest := []) hx hb hml hown hts hK hst hB (mX6_made l θ hθ σ z (σ P (1 + s0)) (xv (σ P) s0 0) (xv (σ P) s0 1) ⟨by omega, by omega⟩ ⟨by omega, by omega⟩ ⟨by omega, by omega⟩) ms_X6_made kw_905 rfl hl.1 rfl (Nat.le_of_ble_eq_true rfl) ⟨by decide, by decide⟩ ⟨Nat.le_refl _, Nat.le_refl _⟩ dX6_valueOf_252) hB (fun q_21 σ_19 z_20 H locs hq_21 pq_21 hB => ?_)
          obtain ⟨pq_21, e1_, e2_⟩ := pq_21
          rw [e1_, e2_] at hB
          clear e1_ e2_
          subst pq_21
          exact g_iret hx hb hr hlk hB dX6_valueOf_255 ⟨by omega, by omega⟩ (⟨by unfold vlM; rw [if_neg (by omega), if_neg (by omega), if_neg (by omega), if_neg (by omega), if_neg (by omega), if_neg (by omega), if_neg (by omega)], rfl, rfl⟩)
        · refine z_tabIn (v := 5) (off := 76) (tgt := 183) hx hb dX6_valueOf_107 c_11 ⟨by decide, by decide⟩ (by decide) (by decide) rfl (by decide) ?_
          have hxk := c_11
          refine lv_iload hx hb dX6_valueOf_183 (lv_at hl 2 rfl) ?_
          refine z_if_ge (tgt := 193) hx hb dX6_valueOf_185 (by decide) ⟨by omega, by omega⟩ (fun c_22 => ?_) (fun c_22 => ?_)
          · refine lv_iload hx hb dX6_valueOf_193 (lv_at hl 2 rfl) ?_
            refine z_if_eq (tgt := 203) hx hb dX6_valueOf_195 (by decide) ⟨by omega, by omega⟩ (fun c_23 => ?_) (fun c_23 => ?_)
            · refine lv_iload hx hb dX6_valueOf_203 (lv_at hl 0 rfl) ?_
              exact g_iret hx hb hr hlk hB dX6_valueOf_205 ⟨by omega, by omega⟩ (⟨by unfold vlM; rw [if_neg (by omega), if_neg (by omega), if_pos (by omega), if_neg (by omega), if_pos (by omega)], rfl, rfl⟩)
            · refine lv_iload hx hb dX6_valueOf_198 (lv_at hl 1 rfl) ?_
              refine lv_goto (tgt := 205) hx hb dX6_valueOf_200 (by decide) ?_
              exact g_iret hx hb hr hlk hB dX6_valueOf_205 ⟨by omega, by omega⟩ (⟨by unfold vlM; rw [if_neg (by omega), if_neg (by omega), if_pos (by omega), if_neg (by omega), if_neg (by omega)], rfl, rfl⟩)
          · refine lv_bipush (v := iZ (-8)) hx hb dX6_valueOf_188 (by decide) ?_
            refine lv_goto (tgt := 205) hx hb dX6_valueOf_190 (by decide) ?_
            exact g_iret hx hb hr hlk hB dX6_valueOf_205 ⟨by decide, by decide⟩ (⟨by unfold vlM; rw [if_neg (by omega), if_neg (by omega), if_pos (by omega), if_pos (by omega)], rfl, rfl⟩)
        · refine z_tabIn (v := 6) (off := 99) (tgt := 206) hx hb dX6_valueOf_107 c_11 ⟨by decide, by decide⟩ (by decide) (by decide) rfl (by decide) ?_
          have hxk := c_11
          refine lv_aload_n hx hb dX6_valueOf_206 rfl (lv_at hl 6 rfl) ?_
          refine lv_bipush (v := iZ 33) hx hb dX6_valueOf_207 (by decide) ?_
          refine lv_iload_n hx hb dX6_valueOf_209 rfl (lv_at hl 7 rfl) ?_
          refine z_iadd hx hb dX6_valueOf_210 ?_
          refine g_iald (k := (33 + s0)) hx hb hK hB hP.ltp hP.ckp (by omega) (Nat.lt_of_lt_of_eq (by omega : (33 + s0) < 50) (Eq.symm hP.cnp)) hP.bgp dX6_valueOf_211 ?_
          have hr_24 := hR P (33 + s0)
          exact g_iret hx hb hr hlk hB dX6_valueOf_212 ⟨by omega, by omega⟩ (⟨by unfold vlM; rw [if_neg (by omega), if_neg (by omega), if_neg (by omega), if_pos (by omega)], rfl, rfl⟩)
        · refine z_tabIn (v := 7) (off := 99) (tgt := 206) hx hb dX6_valueOf_107 c_11 ⟨by decide, by decide⟩ (by decide) (by decide) rfl (by decide) ?_
          have hxk := c_11
          refine lv_aload_n hx hb dX6_valueOf_206 rfl (lv_at hl 6 rfl) ?_
          refine lv_bipush (v := iZ 33) hx hb dX6_valueOf_207 (by decide) ?_
          refine lv_iload_n hx hb dX6_valueOf_209 rfl (lv_at hl 7 rfl) ?_
          refine z_iadd hx hb dX6_valueOf_210 ?_
          refine g_iald (k := (33 + s0)) hx hb hK hB hP.ltp hP.ckp (by omega) (Nat.lt_of_lt_of_eq (by omega : (33 + s0) < 50) (Eq.symm hP.cnp)) hP.bgp dX6_valueOf_211 ?_
          have hr_25 := hR P (33 + s0)
          exact g_iret hx hb hr hlk hB dX6_valueOf_212 ⟨by omega, by omega⟩ (⟨by unfold vlM; rw [if_neg (by omega), if_neg (by omega), if_neg (by omega), if_pos (by omega)], rfl, rfl⟩)
        · refine z_tabIn (v := 8) (off := 106) (tgt := 213) hx hb dX6_valueOf_107 c_11 ⟨by decide, by decide⟩ (by decide) (by decide) rfl (by decide) ?_
          have hxk := c_11
          refine lv_aload_n hx hb dX6_valueOf_213 rfl (lv_at hl 6 rfl) ?_
          refine lv_bipush (v := iZ 33) hx hb dX6_valueOf_214 (by decide) ?_
          refine lv_iload_n hx hb dX6_valueOf_216 rfl (lv_at hl 7 rfl) ?_
          refine z_iadd hx hb dX6_valueOf_217 ?_
          refine g_iald (k := (33 + s0)) hx hb hK hB hP.ltp hP.ckp (by omega) (Nat.lt_of_lt_of_eq (by omega : (33 + s0) < 50) (Eq.symm hP.cnp)) hP.bgp dX6_valueOf_218 ?_
          have hr_26 := hR P (33 + s0)
          refine z_if_ne (tgt := 227) hx hb dX6_valueOf_219 (by decide) ⟨by omega, by omega⟩ (fun c_27 => ?_) (fun c_27 => ?_)
          · refine lv_iload hx hb dX6_valueOf_227 (lv_at hl 1 rfl) ?_
            exact g_iret hx hb hr hlk hB dX6_valueOf_229 ⟨by omega, by omega⟩ (⟨by unfold vlM; rw [if_neg (by omega), if_neg (by omega), if_neg (by omega), if_neg (by omega), if_pos (by omega), if_neg (by omega)], rfl, rfl⟩)
          · refine lv_iload hx hb dX6_valueOf_222 (lv_at hl 2 rfl) ?_
            refine lv_goto (tgt := 229) hx hb dX6_valueOf_224 (by decide) ?_
            exact g_iret hx hb hr hlk hB dX6_valueOf_229 ⟨by omega, by omega⟩ (⟨by unfold vlM; rw [if_neg (by omega), if_neg (by omega), if_neg (by omega), if_neg (by omega), if_pos (by omega), if_pos (by omega)], rfl, rfl⟩)
        · refine z_tabIn (v := 9) (off := 123) (tgt := 230) hx hb dX6_valueOf_107 c_11 ⟨by decide, by decide⟩ (by decide) (by decide) rfl (by decide) ?_
          have hxk := c_11
          refine lv_iload hx hb dX6_valueOf_230 (lv_at hl 2 rfl) ?_
          exact g_iret hx hb hr hlk hB dX6_valueOf_232 ⟨by omega, by omega⟩ (⟨by unfold vlM; rw [if_neg (by omega), if_neg (by omega), if_neg (by omega), if_neg (by omega), if_neg (by omega), if_pos (by omega)], rfl, rfl⟩)
        · refine z_tabIn (v := 10) (off := 123) (tgt := 230) hx hb dX6_valueOf_107 c_11 ⟨by decide, by decide⟩ (by decide) (by decide) rfl (by decide) ?_
          have hxk := c_11
          refine lv_iload hx hb dX6_valueOf_230 (lv_at hl 2 rfl) ?_
          exact g_iret hx hb hr hlk hB dX6_valueOf_232 ⟨by omega, by omega⟩ (⟨by unfold vlM; rw [if_neg (by omega), if_neg (by omega), if_neg (by omega), if_neg (by omega), if_neg (by omega), if_pos (by omega)], rfl, rfl⟩)
        · refine z_tabIn (v := 11) (off := 126) (tgt := 233) hx hb dX6_valueOf_107 c_11 ⟨by decide, by decide⟩ (by decide) (by decide) rfl (by decide) ?_
          have hxk := c_11
          refine lv_iload hx hb dX6_valueOf_233 (lv_at hl 2 rfl) ?_
          refine z_if_eq (tgt := 243) hx hb dX6_valueOf_235 (by decide) ⟨by omega, by omega⟩ (fun c_28 => ?_) (fun c_28 => ?_)
          · refine lv_iload hx hb dX6_valueOf_243 (lv_at hl 0 rfl) ?_
            exact g_iret hx hb hr hlk hB dX6_valueOf_245 ⟨by omega, by omega⟩ (⟨by unfold vlM; rw [if_neg (by omega), if_neg (by omega), if_neg (by omega), if_neg (by omega), if_neg (by omega), if_neg (by omega), if_pos (by omega), if_pos (by omega)], rfl, rfl⟩)
          · refine lv_iload hx hb dX6_valueOf_238 (lv_at hl 1 rfl) ?_
            refine lv_goto (tgt := 245) hx hb dX6_valueOf_240 (by decide) ?_
            exact g_iret hx hb hr hlk hB dX6_valueOf_245 ⟨by omega, by omega⟩ (⟨by unfold vlM; rw [if_neg (by omega), if_neg (by omega), if_neg (by omega), if_neg (by omega), if_neg (by omega), if_neg (by omega), if_pos (by omega), if_neg (by omega)], rfl, rfl⟩)
      refine z_icmp_ne (tgt := 88) hx hb dX6_valueOf_81 (by decide) ⟨by omega, by omega⟩ ⟨by decide, by decide⟩ (fun c_10 => ?_) (fun c_10 => ?_)
      · have hfa2 := sO_fa hW hs hn (i := 2) (by omega) (by rw [← hs2]; omega)
        refine lv_aload_n hx hb dX6_valueOf_88 rfl (lv_at hl 5 rfl) ?_
        refine lv_bipush (v := iZ 41) hx hb dX6_valueOf_89 (by decide) ?_
        refine lv_aload_n hx hb dX6_valueOf_91 rfl (lv_at hl 5 rfl) ?_
        refine lv_bipush (v := iZ 9) hx hb dX6_valueOf_92 (by decide) ?_
        refine lv_iconst (v := iZ 3) hx hb dX6_valueOf_94 rfl ?_
        refine lv_iload_n hx hb dX6_valueOf_95 rfl (lv_at hl 6 rfl) ?_
        refine z_imul hx hb dX6_valueOf_96 ?_
        refine z_iadd hx hb dX6_valueOf_97 ?_
        refine lv_iconst (v := iZ 2) hx hb dX6_valueOf_98 rfl ?_
        refine z_iadd hx hb dX6_valueOf_99 ?_
        refine g_iald (k := ((9 + (3 * s0)) + 2)) hx hb hK hB hP.ltp hP.ckp (by omega) (Nat.lt_of_lt_of_eq (by omega : ((9 + (3 * s0)) + 2) < 50) (Eq.symm hP.cnp)) hP.bgp dX6_valueOf_100 ?_
        refine z_top (b := (((fa (σ P) s0 2) : Nat) : Int)) (hW.fg (i := 2) hs (by omega)) ?_
        refine z_iadd hx hb dX6_valueOf_101 ?_
        refine g_iald (k := (41 + (fa (σ P) s0 2))) hx hb hK hB hP.ltp hP.ckp (by omega) (Nat.lt_of_lt_of_eq (by omega : (41 + (fa (σ P) s0 2)) < 50) (Eq.symm hP.cnp)) hP.bgp dX6_valueOf_102 ?_
        have hr_29 := hR P (41 + (fa (σ P) s0 2))
        refine z_top (b := (xv (σ P) s0 2)) (by rw [xv, if_neg (by rw [← hs2]; omega)]) ?_
        exact jn103
      · refine lv_iconst (v := iZ 0) hx hb dX6_valueOf_84 rfl ?_
        refine lv_goto (tgt := 103) hx hb dX6_valueOf_85 (by decide) ?_
        refine z_top (b := (xv (σ P) s0 2)) (by rw [xv, if_pos (by rw [← hs2]; omega)]) ?_
        exact jn103
    refine z_icmp_ne (tgt := 56) hx hb dX6_valueOf_49 (by decide) ⟨by omega, by omega⟩ ⟨by decide, by decide⟩ (fun c_7 => ?_) (fun c_7 => ?_)
    · have hfa1 := sO_fa hW hs hn (i := 1) (by omega) (by rw [← hs1]; omega)
      refine lv_aload_n hx hb dX6_valueOf_56 rfl (lv_at hl 4 rfl) ?_
      refine lv_bipush (v := iZ 41) hx hb dX6_valueOf_57 (by decide) ?_
      refine lv_aload_n hx hb dX6_valueOf_59 rfl (lv_at hl 4 rfl) ?_
      refine lv_bipush (v := iZ 9) hx hb dX6_valueOf_60 (by decide) ?_
      refine lv_iconst (v := iZ 3) hx hb dX6_valueOf_62 rfl ?_
      refine lv_iload_n hx hb dX6_valueOf_63 rfl (lv_at hl 5 rfl) ?_
      refine z_imul hx hb dX6_valueOf_64 ?_
      refine z_iadd hx hb dX6_valueOf_65 ?_
      refine lv_iconst (v := iZ 1) hx hb dX6_valueOf_66 rfl ?_
      refine z_iadd hx hb dX6_valueOf_67 ?_
      refine g_iald (k := ((9 + (3 * s0)) + 1)) hx hb hK hB hP.ltp hP.ckp (by omega) (Nat.lt_of_lt_of_eq (by omega : ((9 + (3 * s0)) + 1) < 50) (Eq.symm hP.cnp)) hP.bgp dX6_valueOf_68 ?_
      refine z_top (b := (((fa (σ P) s0 1) : Nat) : Int)) (hW.fg (i := 1) hs (by omega)) ?_
      refine z_iadd hx hb dX6_valueOf_69 ?_
      refine g_iald (k := (41 + (fa (σ P) s0 1))) hx hb hK hB hP.ltp hP.ckp (by omega) (Nat.lt_of_lt_of_eq (by omega : (41 + (fa (σ P) s0 1)) < 50) (Eq.symm hP.cnp)) hP.bgp dX6_valueOf_70 ?_
      have hr_30 := hR P (41 + (fa (σ P) s0 1))
      refine z_top (b := (xv (σ P) s0 1)) (by rw [xv, if_neg (by rw [← hs1]; omega)]) ?_
      exact jn71
    · refine lv_iconst (v := iZ 0) hx hb dX6_valueOf_52 rfl ?_
      refine lv_goto (tgt := 71) hx hb dX6_valueOf_53 (by decide) ?_
      refine z_top (b := (xv (σ P) s0 1)) (by rw [xv, if_pos (by rw [← hs1]; omega)]) ?_
      exact jn71
  refine z_icmp_ne (tgt := 32) hx hb dX6_valueOf_25 (by decide) ⟨by omega, by omega⟩ ⟨by decide, by decide⟩ (fun c_4 => ?_) (fun c_4 => ?_)
  · have hfa0 := sO_fa hW hs hn (i := 0) (by omega) (by rw [← hs0]; omega)
    refine lv_aload_n hx hb dX6_valueOf_32 rfl (lv_at hl 3 rfl) ?_
    refine lv_bipush (v := iZ 41) hx hb dX6_valueOf_33 (by decide) ?_
    refine lv_iload hx hb dX6_valueOf_35 (lv_at hl 0 rfl) ?_
    refine z_iadd hx hb dX6_valueOf_37 ?_
    refine g_iald (k := (41 + (fa (σ P) s0 0))) hx hb hK hB hP.ltp hP.ckp (by omega) (Nat.lt_of_lt_of_eq (by omega : (41 + (fa (σ P) s0 0)) < 50) (Eq.symm hP.cnp)) hP.bgp dX6_valueOf_38 ?_
    have hr_31 := hR P (41 + (fa (σ P) s0 0))
    refine z_top (b := (xv (σ P) s0 0)) (by rw [xv, if_neg (by rw [← hs0]; omega)]) ?_
    exact jn39
  · refine lv_iconst (v := iZ 0) hx hb dX6_valueOf_28 rfl ?_
    refine lv_goto (tgt := 39) hx hb dX6_valueOf_29 (by decide) ?_
    refine z_top (b := (xv (σ P) s0 0)) (by rw [xv, if_pos (by rw [← hs0]; omega)]) ?_
    exact jn39
