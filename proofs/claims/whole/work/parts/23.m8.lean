set_option maxHeartbeats 4000000 in
set_option maxRecDepth 100000 in
theorem mX6_keepOn (l : Launch) (θ : gT) (hθ : gOK θ) (σ : gS) (z : gZ) (P : Nat) (hP : isP P) (hW : Wf (σ P)) (N : Nat) (hN : σ P 0 = (N : Int)) : GV l θ yX6_keepOn cX6_keepOn 4 0 0 [.ref (tad θ 111), .ref (tad θ P)] σ z (fun σ' z' => (σ' P = kpM (σ P) N) ∧ fr (wTk P) σ σ' ∧ z' = z) := by
  refine g_enter (ret := none) (by decide +kernel) (Nat.le_of_ble_eq_true rfl) ?_
  intro p e s m args below meth c ls F hB hl
  obtain ⟨hx, hb, hr, hml, hown, hts, hlk, hK, hst⟩ := F
  have hR := hB.1.2
  have hl : lv_has ls 4 [(0, .ref (tad θ 111)), (1, .ref (tad θ P))] := hl
  have hN8 : N ≤ 8 := by have := hW.1; omega
  refine lv_iconst (v := iZ 0) hx hb dX6_keepOn_0 rfl ?_
  refine lv_istore_n (lv' := [(2, .int (iZ 0)), (0, .ref (tad θ 111)), (1, .ref (tad θ P))]) hx hb dX6_keepOn_1 rfl hl (by decide) rfl (fun ls hl => ?_)
  have loop2 : ∀ (n2 : Nat) (i : Nat) (σ1 : gS) (H : Heap) (locs : List Loc) (ls : Array Slot), N - i < n2 → (i ≤ N) → (σ1 P = kpM (σ P) i) → (fr (wTk P) σ σ1) →  gB θ σ1 z s.heap H locs → lv_has ls 4 [(2, .int (iZ ((i : Nat) : Int))), (0, .ref (tad θ 111)), (1, .ref (tad θ P))] → W p l e (gRm 0 0) s m args below meth c H locs 0 0 (MQ below (gQv θ (fun σ' z' => (σ' P = kpM (σ P) N) ∧ fr (wTk P) σ σ' ∧ z' = z)) args s 0 0 (tA θ)) (F0 m 2 ls []) := by
    intro n2
    induction n2 with
    | zero => intro i σ1 H locs ls hmu; exact absurd hmu (Nat.not_lt_zero _)
    | succ n2 ih2 =>
      intro i σ1 H locs ls hmu hi hg hf hB hl
      have hR := hB.1.2
      have hW1 : Wf (σ1 P) := hW.cong (fun k hk => by rw [hg]; exact kpM_out _ i (by omega) (by omega))
      have hn1 : σ1 P 0 = (N : Int) := by rw [hg, kpM_out _ i (by omega) (by omega)]; exact hN
      refine lv_iload_n hx hb dX6_keepOn_2 rfl (lv_at hl 0 rfl) ?_
      refine lv_aload_n hx hb dX6_keepOn_3 rfl (lv_at hl 2 rfl) ?_
      refine lv_iconst (v := iZ 0) hx hb dX6_keepOn_4 rfl ?_
      refine g_iald (k := 0) hx hb hK hB hP.ltp hP.ckp (by omega) (Nat.lt_of_lt_of_eq (by omega : 0 < 50) (Eq.symm hP.cnp)) hP.bgp dX6_keepOn_5 ?_
      refine z_top (b := ((N : Nat) : Int)) (hn1) ?_
      refine z_icmp_ge (tgt := 95) hx hb dX6_keepOn_6 (by decide) ⟨by omega, by omega⟩ ⟨by omega, by omega⟩ (fun c_1 => ?_) (fun c_1 => ?_)
      · exact g_vret hx hb hr hlk hB dX6_keepOn_95 (⟨by rw [hg, show i = N by omega], hf, rfl⟩)
      · refine lv_aload_n hx hb dX6_keepOn_9 rfl (lv_at hl 2 rfl) ?_
        refine lv_iconst (v := iZ 1) hx hb dX6_keepOn_10 rfl ?_
        refine lv_iload_n hx hb dX6_keepOn_11 rfl (lv_at hl 0 rfl) ?_
        refine z_iadd hx hb dX6_keepOn_12 ?_
        refine g_iald (k := (1 + i)) hx hb hK hB hP.ltp hP.ckp (by omega) (Nat.lt_of_lt_of_eq (by omega : (1 + i) < 50) (Eq.symm hP.cnp)) hP.bgp dX6_keepOn_13 ?_
        have hr_2 := hR P (1 + i)
        refine lv_istore_n (lv' := [(3, .int (iZ (σ1 P (1 + i)))), (2, .int (iZ ((i : Nat) : Int))), (0, .ref (tad θ 111)), (1, .ref (tad θ P))]) hx hb dX6_keepOn_14 rfl hl (by decide) rfl (fun ls hl => ?_)
        refine lv_aload_n hx hb dX6_keepOn_15 rfl (lv_at hl 3 rfl) ?_
        refine lv_bipush (v := iZ 41) hx hb dX6_keepOn_16 (by decide) ?_
        refine lv_iload_n hx hb dX6_keepOn_18 rfl (lv_at hl 1 rfl) ?_
        refine z_iadd hx hb dX6_keepOn_19 ?_
        refine g_iald (k := (41 + i)) hx hb hK hB hP.ltp hP.ckp (by omega) (Nat.lt_of_lt_of_eq (by omega : (41 + i) < 50) (Eq.symm hP.cnp)) hP.bgp dX6_keepOn_20 ?_
        have hr_3 := hR P (41 + i)
        refine lv_bipush (v := iZ (-9)) hx hb dX6_keepOn_21 (by decide) ?_
        refine z_icmp_eq (tgt := 89) hx hb dX6_keepOn_23 (by decide) ⟨by omega, by omega⟩ ⟨by decide, by decide⟩ (fun c_4 => ?_) (fun c_4 => ?_)
        · refine z_iinc (k := 1) (lv' := [(2, .int (iZ (((i : Nat) : Int) + 1))), (3, .int (iZ (σ1 P (1 + i)))), (0, .ref (tad θ 111)), (1, .ref (tad θ P))]) hx hb dX6_keepOn_89 hl rfl (by decide) rfl (fun ls hl => ?_)
          have hl : lv_has ls 4 [(2, .int (iZ (((i + 1) : Nat) : Int))), (3, .int (iZ (σ1 P (1 + i)))), (0, .ref (tad θ 111)), (1, .ref (tad θ P))] := by have e9 : (((i : Nat) : Int) + 1) = (((i + 1) : Nat) : Int) := (by omega); rw [e9] at hl; exact hl
          refine lv_goto (tgt := 2) hx hb dX6_keepOn_92 (by decide) ?_
          exact ih2 (i + 1) σ1 _ _ _ (by omega) (by omega) (by rw [kpM, ← hg, if_pos (by omega)]) hf hB (lv_sub hl [0, 2, 3] rfl)
        · refine lv_aload_n hx hb dX6_keepOn_26 rfl (lv_at hl 3 rfl) ?_
          refine lv_bipush (v := iZ 33) hx hb dX6_keepOn_27 (by decide) ?_
          refine lv_iload_n hx hb dX6_keepOn_29 rfl (lv_at hl 1 rfl) ?_
          refine z_iadd hx hb dX6_keepOn_30 ?_
          refine lv_iload_n hx hb dX6_keepOn_31 rfl (lv_at hl 0 rfl) ?_
          refine lv_bipush (v := iZ 6) hx hb dX6_keepOn_32 (by decide) ?_
          refine z_icmp_ne (tgt := 55) hx hb dX6_keepOn_34 (by decide) ⟨by omega, by omega⟩ ⟨by decide, by decide⟩ (fun c_5 => ?_) (fun c_5 => ?_)
          · refine lv_iload_n hx hb dX6_keepOn_55 rfl (lv_at hl 0 rfl) ?_
            refine lv_bipush (v := iZ 7) hx hb dX6_keepOn_56 (by decide) ?_
            refine z_icmp_ne (tgt := 77) hx hb dX6_keepOn_58 (by decide) ⟨by omega, by omega⟩ ⟨by decide, by decide⟩ (fun c_6 => ?_) (fun c_6 => ?_)
            · refine lv_iload_n hx hb dX6_keepOn_77 rfl (lv_at hl 0 rfl) ?_
              refine lv_bipush (v := iZ 8) hx hb dX6_keepOn_78 (by decide) ?_
              refine z_icmp_ne (tgt := 87) hx hb dX6_keepOn_80 (by decide) ⟨by omega, by omega⟩ ⟨by decide, by decide⟩ (fun c_7 => ?_) (fun c_7 => ?_)
              · refine lv_iconst (v := iZ 0) hx hb dX6_keepOn_87 rfl ?_
                refine g_iast (k := (33 + i)) hx hb hK hθ hB hP.ltp hP.ckp (by omega) (Nat.lt_of_lt_of_eq (by omega : (33 + i) < 50) (Eq.symm hP.cnp)) hP.bgp ⟨by decide, by decide⟩ dX6_keepOn_88 (fun H locs hB => ?_)
                obtain ⟨σ2, hσ2⟩ : ∃ x_ : gS, x_ = up2 σ1 P (33 + i) 0 := ⟨_, rfl⟩
                rw [← hσ2] at hB
                have hR := hB.1.2
                refine z_iinc (k := 1) (lv' := [(2, .int (iZ (((i : Nat) : Int) + 1))), (3, .int (iZ (σ1 P (1 + i)))), (0, .ref (tad θ 111)), (1, .ref (tad θ P))]) hx hb dX6_keepOn_89 hl rfl (by decide) rfl (fun ls hl => ?_)
                have hl : lv_has ls 4 [(2, .int (iZ (((i + 1) : Nat) : Int))), (3, .int (iZ (σ1 P (1 + i)))), (0, .ref (tad θ 111)), (1, .ref (tad θ P))] := by have e9 : (((i : Nat) : Int) + 1) = (((i + 1) : Nat) : Int) := (by omega); rw [e9] at hl; exact hl
                refine lv_goto (tgt := 2) hx hb dX6_keepOn_92 (by decide) ?_
                exact ih2 (i + 1) σ2 _ _ _ (by omega) (by omega) (by rw [hσ2, up2_row_eq, kpM, ← hg, if_neg (by omega), kv, if_neg (by omega), if_neg (by omega), if_neg (by omega)]) (by rw [hσ2]; exact hf.tr (fr.up (by simp [wTk]))) hB (lv_sub hl [0, 2, 3] rfl)
              · refine lv_iconst (v := iZ 1) hx hb dX6_keepOn_83 rfl ?_
                refine lv_goto (tgt := 88) hx hb dX6_keepOn_84 (by decide) ?_
                refine g_iast (k := (33 + i)) hx hb hK hθ hB hP.ltp hP.ckp (by omega) (Nat.lt_of_lt_of_eq (by omega : (33 + i) < 50) (Eq.symm hP.cnp)) hP.bgp ⟨by decide, by decide⟩ dX6_keepOn_88 (fun H locs hB => ?_)
                obtain ⟨σ2, hσ2⟩ : ∃ x_ : gS, x_ = up2 σ1 P (33 + i) 1 := ⟨_, rfl⟩
                rw [← hσ2] at hB
                have hR := hB.1.2
                refine z_iinc (k := 1) (lv' := [(2, .int (iZ (((i : Nat) : Int) + 1))), (3, .int (iZ (σ1 P (1 + i)))), (0, .ref (tad θ 111)), (1, .ref (tad θ P))]) hx hb dX6_keepOn_89 hl rfl (by decide) rfl (fun ls hl => ?_)
                have hl : lv_has ls 4 [(2, .int (iZ (((i + 1) : Nat) : Int))), (3, .int (iZ (σ1 P (1 + i)))), (0, .ref (tad θ 111)), (1, .ref (tad θ P))] := by have e9 : (((i : Nat) : Int) + 1) = (((i + 1) : Nat) : Int) := (by omega); rw [e9] at hl; exact hl
                refine lv_goto (tgt := 2) hx hb dX6_keepOn_92 (by decide) ?_
                exact ih2 (i + 1) σ2 _ _ _ (by omega) (by omega) (by rw [hσ2, up2_row_eq, kpM, ← hg, if_neg (by omega), kv, if_neg (by omega), if_neg (by omega), if_pos (by omega)]) (by rw [hσ2]; exact hf.tr (fr.up (by simp [wTk]))) hB (lv_sub hl [0, 2, 3] rfl)
            · have hfa : fa (σ1 P) i 0 < 8 := hW1.st (by omega) (by omega) (by omega) (by unfold sPl; omega)
              refine lv_aload_n hx hb dX6_keepOn_61 rfl (lv_at hl 3 rfl) ?_
              refine lv_bipush (v := iZ 41) hx hb dX6_keepOn_62 (by decide) ?_
              refine lv_aload_n hx hb dX6_keepOn_64 rfl (lv_at hl 3 rfl) ?_
              refine lv_bipush (v := iZ 9) hx hb dX6_keepOn_65 (by decide) ?_
              refine lv_iconst (v := iZ 3) hx hb dX6_keepOn_67 rfl ?_
              refine lv_iload_n hx hb dX6_keepOn_68 rfl (lv_at hl 1 rfl) ?_
              refine z_imul hx hb dX6_keepOn_69 ?_
              refine z_iadd hx hb dX6_keepOn_70 ?_
              refine g_iald (k := (9 + (3 * i))) hx hb hK hB hP.ltp hP.ckp (by omega) (Nat.lt_of_lt_of_eq (by omega : (9 + (3 * i)) < 50) (Eq.symm hP.cnp)) hP.bgp dX6_keepOn_71 ?_
              refine z_top (b := (((fa (σ1 P) i 0) : Nat) : Int)) (hW1.fg (i := 0) (by omega) (by omega)) ?_
              refine z_iadd hx hb dX6_keepOn_72 ?_
              refine g_iald (k := (41 + (fa (σ1 P) i 0))) hx hb hK hB hP.ltp hP.ckp (by omega) (Nat.lt_of_lt_of_eq (by omega : (41 + (fa (σ1 P) i 0)) < 50) (Eq.symm hP.cnp)) hP.bgp dX6_keepOn_73 ?_
              have hr_8 := hR P (41 + (fa (σ1 P) i 0))
              refine lv_goto (tgt := 88) hx hb dX6_keepOn_74 (by decide) ?_
              refine g_iast (k := (33 + i)) hx hb hK hθ hB hP.ltp hP.ckp (by omega) (Nat.lt_of_lt_of_eq (by omega : (33 + i) < 50) (Eq.symm hP.cnp)) hP.bgp ⟨by omega, by omega⟩ dX6_keepOn_88 (fun H locs hB => ?_)
              obtain ⟨σ2, hσ2⟩ : ∃ x_ : gS, x_ = up2 σ1 P (33 + i) (σ1 P (41 + (fa (σ1 P) i 0))) := ⟨_, rfl⟩
              rw [← hσ2] at hB
              have hR := hB.1.2
              refine z_iinc (k := 1) (lv' := [(2, .int (iZ (((i : Nat) : Int) + 1))), (3, .int (iZ (σ1 P (1 + i)))), (0, .ref (tad θ 111)), (1, .ref (tad θ P))]) hx hb dX6_keepOn_89 hl rfl (by decide) rfl (fun ls hl => ?_)
              have hl : lv_has ls 4 [(2, .int (iZ (((i + 1) : Nat) : Int))), (3, .int (iZ (σ1 P (1 + i)))), (0, .ref (tad θ 111)), (1, .ref (tad θ P))] := by have e9 : (((i : Nat) : Int) + 1) = (((i + 1) : Nat) : Int) := (by omega); rw [e9] at hl; exact hl
              refine lv_goto (tgt := 2) hx hb dX6_keepOn_92 (by decide) ?_
              exact ih2 (i + 1) σ2 _ _ _ (by omega) (by omega) (by rw [hσ2, up2_row_eq, kpM, ← hg, if_neg (by omega), kv, if_neg (by omega), if_pos (by omega)]) (by rw [hσ2]; exact hf.tr (fr.up (by simp [wTk]))) hB (lv_sub hl [0, 2, 3] rfl)
          · have hfa : fa (σ1 P) i 1 < 8 := hW1.st (by omega) (by omega) (by omega) (by unfold sPl; omega)
            refine lv_aload_n hx hb dX6_keepOn_37 rfl (lv_at hl 3 rfl) ?_
            refine lv_bipush (v := iZ 41) hx hb dX6_keepOn_38 (by decide) ?_
            refine lv_aload_n hx hb dX6_keepOn_40 rfl (lv_at hl 3 rfl) ?_
            refine lv_bipush (v := iZ 9) hx hb dX6_keepOn_41 (by decide) ?_
            refine lv_iconst (v := iZ 3) hx hb dX6_keepOn_43 rfl ?_
            refine lv_iload_n hx hb dX6_keepOn_44 rfl (lv_at hl 1 rfl) ?_
            refine z_imul hx hb dX6_keepOn_45 ?_
            refine z_iadd hx hb dX6_keepOn_46 ?_
            refine lv_iconst (v := iZ 1) hx hb dX6_keepOn_47 rfl ?_
            refine z_iadd hx hb dX6_keepOn_48 ?_
            refine g_iald (k := ((9 + (3 * i)) + 1)) hx hb hK hB hP.ltp hP.ckp (by omega) (Nat.lt_of_lt_of_eq (by omega : ((9 + (3 * i)) + 1) < 50) (Eq.symm hP.cnp)) hP.bgp dX6_keepOn_49 ?_
            refine z_top (b := (((fa (σ1 P) i 1) : Nat) : Int)) (hW1.fg (i := 1) (by omega) (by omega)) ?_
            refine z_iadd hx hb dX6_keepOn_50 ?_
            refine g_iald (k := (41 + (fa (σ1 P) i 1))) hx hb hK hB hP.ltp hP.ckp (by omega) (Nat.lt_of_lt_of_eq (by omega : (41 + (fa (σ1 P) i 1)) < 50) (Eq.symm hP.cnp)) hP.bgp dX6_keepOn_51 ?_
            have hr_9 := hR P (41 + (fa (σ1 P) i 1))
            refine lv_goto (tgt := 88) hx hb dX6_keepOn_52 (by decide) ?_
            refine g_iast (k := (33 + i)) hx hb hK hθ hB hP.ltp hP.ckp (by omega) (Nat.lt_of_lt_of_eq (by omega : (33 + i) < 50) (Eq.symm hP.cnp)) hP.bgp ⟨by omega, by omega⟩ dX6_keepOn_88 (fun H locs hB => ?_)
            obtain ⟨σ2, hσ2⟩ : ∃ x_ : gS, x_ = up2 σ1 P (33 + i) (σ1 P (41 + (fa (σ1 P) i 1))) := ⟨_, rfl⟩
            rw [← hσ2] at hB
            have hR := hB.1.2
            refine z_iinc (k := 1) (lv' := [(2, .int (iZ (((i : Nat) : Int) + 1))), (3, .int (iZ (σ1 P (1 + i)))), (0, .ref (tad θ 111)), (1, .ref (tad θ P))]) hx hb dX6_keepOn_89 hl rfl (by decide) rfl (fun ls hl => ?_)
            have hl : lv_has ls 4 [(2, .int (iZ (((i + 1) : Nat) : Int))), (3, .int (iZ (σ1 P (1 + i)))), (0, .ref (tad θ 111)), (1, .ref (tad θ P))] := by have e9 : (((i : Nat) : Int) + 1) = (((i + 1) : Nat) : Int) := (by omega); rw [e9] at hl; exact hl
            refine lv_goto (tgt := 2) hx hb dX6_keepOn_92 (by decide) ?_
            exact ih2 (i + 1) σ2 _ _ _ (by omega) (by omega) (by rw [hσ2, up2_row_eq, kpM, ← hg, if_neg (by omega), kv, if_pos (by omega)]) (by rw [hσ2]; exact hf.tr (fr.up (by simp [wTk]))) hB (lv_sub hl [0, 2, 3] rfl)
  exact loop2 _ 0 σ _ _ _ (Nat.lt_succ_self _) (by omega) rfl fr.rf hB (lv_sub hl [0, 1, 2] rfl)
set_option maxHeartbeats 4000000 in
set_option maxRecDepth 100000 in
theorem mX6_goTick (l : Launch) (θ : gT) (hθ : gOK θ) (σ : gS) (z : gZ) (w : mC) (hA : mA σ w) (ho : mOK w) (P : Nat) (hP : isP P) (hW : Wf (σ P)) (N : Nat) (hN : σ P 0 = (N : Int)) (hV : Vb (σ P)) (T : Nat → Nat) (hT : ∀ j, j < N → T j < N ∧ σ 125 (T j) = ((j : Nat) : Int) ∧ ∀ s, s < 8 → σ 125 s = ((j : Nat) : Int) → s = T j) (a0 b0 : Int) (ha : 0 ≤ a0 ∧ a0 ≤ 99) (hb0 : 0 ≤ b0 ∧ b0 ≤ 99) : GI l θ yX6_goTick cX6_goTick 8 (some .int) 3 73 [.ref (tad θ 111), .ref (tad θ P), .int (iZ a0), .int (iZ b0)] σ z (fun q σ' z' => (σ' P = tkM (σ P) w T N a0 b0 ∧ q = ((mN (σ P) w T a0 b0 N : Nat) : Int)) ∧ fr (wTk P) σ σ' ∧ z' = z) := by
  refine g_enter (ret := (some .int)) (by decide +kernel) (Nat.le_of_ble_eq_true rfl) ?_
  intro p e s m args below meth c ls F hB hl
  obtain ⟨hx, hb, hr, hml, hown, hts, hlk, hK, hst⟩ := F
  have hR := hB.1.2
  have hl : lv_has ls 8 [(0, .ref (tad θ 111)), (1, .ref (tad θ P)), (2, .int (iZ a0)), (3, .int (iZ b0))] := hl
  have hN8 : N ≤ 8 := by have := hW.1; omega
  have hTl : ∀ j, j ≤ N → ∀ i, i < j → T i < 8 ∧ (T i : Int) < σ P 0 := fun j hj i hi => by have := (hT i (by omega)).1; omega
  refine lv_iconst (v := iZ 0) hx hb dX6_goTick_0 rfl ?_
  refine lv_istore (lv' := [(4, .int (iZ 0)), (0, .ref (tad θ 111)), (1, .ref (tad θ P)), (2, .int (iZ a0)), (3, .int (iZ b0))]) hx hb dX6_goTick_1 hl (by decide) rfl (fun ls hl => ?_)
  refine lv_iconst (v := iZ 0) hx hb dX6_goTick_3 rfl ?_
  refine lv_istore (lv' := [(5, .int (iZ 0)), (4, .int (iZ 0)), (0, .ref (tad θ 111)), (1, .ref (tad θ P)), (2, .int (iZ a0)), (3, .int (iZ b0))]) hx hb dX6_goTick_4 hl (by decide) rfl (fun ls hl => ?_)
  have loop6 : ∀ (n6 : Nat) (i : Nat) (σ1 : gS) (H : Heap) (locs : List Loc) (ls : Array Slot), 8 - i < n6 → (i ≤ 8) → (σ1 P = rs (σ P) i) → (fr (wTk P) σ σ1) →  gB θ σ1 z s.heap H locs → lv_has ls 8 [(5, .int (iZ ((i : Nat) : Int))), (4, .int (iZ 0)), (0, .ref (tad θ 111)), (1, .ref (tad θ P)), (2, .int (iZ a0)), (3, .int (iZ b0))] → W p l e (gRm 3 73) s m args below meth c H locs 0 0 (MQ below (gQi θ (fun q σ' z' => (σ' P = tkM (σ P) w T N a0 b0 ∧ q = ((mN (σ P) w T a0 b0 N : Nat) : Int)) ∧ fr (wTk P) σ σ' ∧ z' = z)) args s 0 0 (tA θ)) (F0 m 6 ls []) := by
    intro n6
    induction n6 with
    | zero => intro i σ1 H locs ls hmu; exact absurd hmu (Nat.not_lt_zero _)
    | succ n6 ih6 =>
      intro i σ1 H locs ls hmu hi hg hf hB hl
      have hR := hB.1.2
      refine lv_iload hx hb dX6_goTick_6 (lv_at hl 0 rfl) ?_
      refine lv_bipush (v := iZ 8) hx hb dX6_goTick_8 (by decide) ?_
      refine z_icmp_ge (tgt := 28) hx hb dX6_goTick_10 (by decide) ⟨by omega, by omega⟩ ⟨by decide, by decide⟩ (fun c_1 => ?_) (fun c_1 => ?_)
      · refine lv_iconst (v := iZ 0) hx hb dX6_goTick_28 rfl ?_
        refine lv_istore (lv' := [(5, .int (iZ 0)), (4, .int (iZ 0)), (0, .ref (tad θ 111)), (1, .ref (tad θ P)), (2, .int (iZ a0)), (3, .int (iZ b0))]) hx hb dX6_goTick_29 hl (by decide) rfl (fun ls hl => ?_)
        have loop31 : ∀ (n31 : Nat) (j : Nat) (σ3 : gS) (H : Heap) (locs : List Loc) (ls : Array Slot), N - j < n31 → (j ≤ N) → (σ3 P = (mV (σ P) w T a0 b0 j)) → (fr (wTk P) σ σ3) →  gB θ σ3 z s.heap H locs → lv_has ls 8 [(5, .int (iZ ((j : Nat) : Int))), (4, .int (iZ (((mN (σ P) w T a0 b0 j) : Nat) : Int))), (0, .ref (tad θ 111)), (1, .ref (tad θ P)), (2, .int (iZ a0)), (3, .int (iZ b0))] → W p l e (gRm 3 73) s m args below meth c H locs 0 0 (MQ below (gQi θ (fun q σ' z' => (σ' P = tkM (σ P) w T N a0 b0 ∧ q = ((mN (σ P) w T a0 b0 N : Nat) : Int)) ∧ fr (wTk P) σ σ' ∧ z' = z)) args s 0 0 (tA θ)) (F0 m 31 ls []) := by
          intro n31
          induction n31 with
          | zero => intro j σ3 H locs ls hmu; exact absurd hmu (Nat.not_lt_zero _)
          | succ n31 ih31 =>
            intro j σ3 H locs ls hmu hj hg hf hB hl
            have hR := hB.1.2
            have hn3 : σ3 P 0 = (N : Int) := by rw [hg, mV_low _ _ _ _ _ (by omega) j (fun i hi => (hTl j hj i hi).1)]; exact hN
            have hW3 : Wf (σ3 P) := by rw [hg]; exact mV_wf hW w a0 b0 (fun i hi => (hTl j hj i hi).1)
            have hV3 : Vb (σ3 P) := by rw [hg]; exact mV_vb hW hV w ha hb0 (hTl j hj)
            have hmn := mN_le (σ P) w T a0 b0 j
            refine lv_iload hx hb dX6_goTick_31 (lv_at hl 0 rfl) ?_
            refine lv_aload_n hx hb dX6_goTick_33 rfl (lv_at hl 3 rfl) ?_
            refine lv_iconst (v := iZ 0) hx hb dX6_goTick_34 rfl ?_
            refine g_iald (k := 0) hx hb hK hB hP.ltp hP.ckp (by omega) (Nat.lt_of_lt_of_eq (by omega : 0 < 50) (Eq.symm hP.cnp)) hP.bgp dX6_goTick_35 ?_
            refine z_top (b := ((N : Nat) : Int)) (hn3) ?_
            refine z_icmp_ge (tgt := 116) hx hb dX6_goTick_36 (by decide) ⟨by omega, by omega⟩ ⟨by omega, by omega⟩ (fun c_2 => ?_) (fun c_2 => ?_)
            · refine lv_aload_n hx hb dX6_goTick_116 rfl (lv_at hl 2 rfl) ?_
              refine lv_aload_n hx hb dX6_goTick_117 rfl (lv_at hl 3 rfl) ?_
              refine g_callv (g_runV (i := 111) (As := [.ref (tad θ P)]) (rest := []) hx hb hml hown hts hK hst hB (mX6_keepOn l θ hθ σ3 z P hP hW3 N hn3) mv_X6_keepOn kw_908 cf6 (by decide) rfl rfl hl.1 rfl (Nat.le_of_ble_eq_true rfl) ⟨by decide, by decide⟩ ⟨Nat.le_refl _, Nat.le_refl _⟩ dX6_goTick_118) hB (fun σ6 z_3 H locs hp6 hB => ?_)
              obtain ⟨hp6, hf6, e2_⟩ := hp6
              rw [e2_] at hB
              clear e2_
              have hR := hB.1.2
              refine lv_aload_n hx hb dX6_goTick_121 rfl (lv_at hl 3 rfl) ?_
              refine lv_bipush (v := iZ 49) hx hb dX6_goTick_122 (by decide) ?_
              refine lv_dup2_11 hx hb dX6_goTick_124 rfl rfl ?_
              refine g_iald (k := 49) hx hb hK hB hP.ltp hP.ckp (by omega) (Nat.lt_of_lt_of_eq (by omega : 49 < 50) (Eq.symm hP.cnp)) hP.bgp dX6_goTick_125 ?_
              have hr_5 := hR P 49
              refine lv_iconst (v := iZ 1) hx hb dX6_goTick_126 rfl ?_
              refine z_iadd hx hb dX6_goTick_127 ?_
              refine z_wr ?_
              have hw_6 := rg_wr ((σ6 P 49) + 1)
              refine g_iast (k := 49) hx hb hK hθ hB hP.ltp hP.ckp (by omega) (Nat.lt_of_lt_of_eq (by omega : 49 < 50) (Eq.symm hP.cnp)) hP.bgp ⟨by omega, by omega⟩ dX6_goTick_128 (fun H locs hB => ?_)
              obtain ⟨σ7, hσ7⟩ : ∃ x_ : gS, x_ = up2 σ6 P 49 (wr ((σ6 P 49) + 1)) := ⟨_, rfl⟩
              rw [← hσ7] at hB
              have hR := hB.1.2
              refine lv_iload hx hb dX6_goTick_129 (lv_at hl 1 rfl) ?_
              exact g_iret hx hb hr hlk hB dX6_goTick_131 ⟨by omega, by omega⟩ (⟨⟨by rw [hσ7, up2_row_eq, hp6, hg, show j = N by omega]; rfl, by rw [show j = N by omega]⟩, by rw [hσ7]; exact (hf.tr hf6).tr (fr.up (by simp [wTk])), rfl⟩)
            · refine lv_iconst (v := iZ 0) hx hb dX6_goTick_39 rfl ?_
              refine lv_istore (lv' := [(6, .int (iZ 0)), (5, .int (iZ ((j : Nat) : Int))), (4, .int (iZ (((mN (σ P) w T a0 b0 j) : Nat) : Int))), (0, .ref (tad θ 111)), (1, .ref (tad θ P)), (2, .int (iZ a0)), (3, .int (iZ b0))]) hx hb dX6_goTick_40 hl (by decide) rfl (fun ls hl => ?_)
              have loop42 : ∀ (n42 : Nat) (s1 : Nat) (H : Heap) (locs : List Loc) (ls : Array Slot), T j - s1 < n42 → (s1 ≤ T j) →  gB θ σ3 z s.heap H locs → lv_has ls 8 [(6, .int (iZ ((s1 : Nat) : Int))), (5, .int (iZ ((j : Nat) : Int))), (4, .int (iZ (((mN (σ P) w T a0 b0 j) : Nat) : Int))), (0, .ref (tad θ 111)), (1, .ref (tad θ P)), (2, .int (iZ a0)), (3, .int (iZ b0))] → W p l e (gRm 3 73) s m args below meth c H locs 0 0 (MQ below (gQi θ (fun q σ' z' => (σ' P = tkM (σ P) w T N a0 b0 ∧ q = ((mN (σ P) w T a0 b0 N : Nat) : Int)) ∧ fr (wTk P) σ σ' ∧ z' = z)) args s 0 0 (tA θ)) (F0 m 42 ls []) := by
                intro n42
                induction n42 with
                | zero => intro s1 H locs ls hmu; exact absurd hmu (Nat.not_lt_zero _)
                | succ n42 ih42 =>
                  intro s1 H locs ls hmu hs1 hB hl
                  have hR := hB.1.2
                  have hTj := hT j (by omega)
                  have ho3 : σ3 125 = σ 125 := hf.row (fun k => by rcases hP with rfl | rfl <;> rfl)
                  refine lv_aload_n hx hb dX6_goTick_42 rfl (lv_at hl 3 rfl) ?_
                  refine g_getr (k := 22) (j := 125) hx hb hts hown hK hθ hB cf6 (by decide) rfl (by decide) kw_681 rfl rfl dX6_goTick_43 ?_
                  refine lv_iload hx hb dX6_goTick_46 (lv_at hl 0 rfl) ?_
                  refine g_iald (k := s1) hx hb hK hB (by decide) rfl (by omega) (Nat.lt_of_lt_of_eq (by omega : s1 < 8) (Eq.symm rfl)) (by decide) dX6_goTick_48 ?_
                  refine z_top (b := (σ 125 s1)) (by rw [ho3]) ?_
                  have hr125 := hR 125 s1
                  rw [ho3] at hr125
                  refine lv_iload hx hb dX6_goTick_49 (lv_at hl 1 rfl) ?_
                  refine z_icmp_eq (tgt := 60) hx hb dX6_goTick_51 (by decide) ⟨by omega, by omega⟩ ⟨by omega, by omega⟩ (fun c_7 => ?_) (fun c_7 => ?_)
                  · have hsT : s1 = T j := hTj.2.2 s1 (by omega) c_7
                    refine lv_aload_n hx hb dX6_goTick_60 rfl (lv_at hl 3 rfl) ?_
                    refine lv_aload_n hx hb dX6_goTick_61 rfl (lv_at hl 4 rfl) ?_
                    refine lv_iload hx hb dX6_goTick_62 (lv_at hl 0 rfl) ?_
                    refine g_calli (g_runV (i := 111) (As := [.ref (tad θ P), .int (iZ ((s1 : Nat) : Int))]) (rest := []) hx hb hml hown hts hK hst hB (mX6_isThere l θ hθ σ3 z w (hA.keep (hf.row (fun k => by rcases hP with rfl | rfl <;> rfl)) (hf.row (fun k => by rcases hP with rfl | rfl <;> rfl))) ho P hP s1 (by omega)) mv_X6_isThere kw_897 cf6 (by decide) rfl rfl hl.1 rfl (Nat.le_of_ble_eq_true rfl) ⟨by decide, by decide⟩ ⟨Nat.le_refl _, Nat.le_refl _⟩ dX6_goTick_64) hB (fun q4 σ4 z_8 H locs hq4 hp4 hB => ?_)
                    obtain ⟨hp4, hf4, e2_⟩ := hp4
                    rw [e2_] at hB
                    clear e2_
                    have hR := hB.1.2
                    have hg4 : σ4 P = σ3 P := hf4.row (fun k => by rcases hP with rfl | rfl <;> rfl)
                    rw [hsT] at hp4
                    rcases hp4 with ⟨hq4b, hth⟩ | ⟨hq4b, hth⟩
                    · subst hq4b
                      refine lv_istore (lv' := [(7, .int (iZ 1)), (6, .int (iZ ((s1 : Nat) : Int))), (5, .int (iZ ((j : Nat) : Int))), (4, .int (iZ (((mN (σ P) w T a0 b0 j) : Nat) : Int))), (0, .ref (tad θ 111)), (1, .ref (tad θ P)), (2, .int (iZ a0)), (3, .int (iZ b0))]) hx hb dX6_goTick_67 hl (by decide) rfl (fun ls hl => ?_)
                      refine lv_aload_n hx hb dX6_goTick_69 rfl (lv_at hl 5 rfl) ?_
                      refine lv_bipush (v := iZ 41) hx hb dX6_goTick_70 (by decide) ?_
                      refine lv_iload hx hb dX6_goTick_72 (lv_at hl 1 rfl) ?_
                      refine z_iadd hx hb dX6_goTick_74 ?_
                      refine lv_iload hx hb dX6_goTick_75 (lv_at hl 0 rfl) ?_
                      refine z_if_eq (tgt := 92) hx hb dX6_goTick_77 (by decide) ⟨by decide, by decide⟩ (fun c_9 => ?_) (fun c_9 => ?_)
                      · exact absurd c_9 (by decide)
                      · refine lv_aload_n hx hb dX6_goTick_80 rfl (lv_at hl 4 rfl) ?_
                        refine lv_aload_n hx hb dX6_goTick_81 rfl (lv_at hl 5 rfl) ?_
                        refine lv_iload hx hb dX6_goTick_82 (lv_at hl 1 rfl) ?_
                        refine lv_iload_n hx hb dX6_goTick_84 rfl (lv_at hl 6 rfl) ?_
                        refine lv_iload_n hx hb dX6_goTick_85 rfl (lv_at hl 7 rfl) ?_
                        refine g_calli (g_runV (i := 111) (As := [.ref (tad θ P), .int (iZ ((s1 : Nat) : Int)), .int (iZ a0), .int (iZ b0)]) (rest := [.int (iZ (41 + ((s1 : Nat) : Int))), .ref (tad θ P)]) hx hb hml hown hts hK hst hB (mX6_valueOf l θ hθ σ4 z P hP (by rw [hg4]; exact hW3) (by rw [hg4]; exact hV3) s1 (by omega) (by rw [hg4]; omega) a0 b0 ha hb0) mv_X6_valueOf kw_901 cf6 (by decide) rfl rfl hl.1 rfl (Nat.le_of_ble_eq_true rfl) ⟨by decide, by decide⟩ ⟨Nat.le_refl _, Nat.le_refl _⟩ dX6_goTick_86) hB (fun q_12 σ_10 z_11 H locs hq_12 pq_12 hB => ?_)
                        obtain ⟨pq_12, e1_, e2_⟩ := pq_12
                        rw [e1_, e2_] at hB
                        clear e1_ e2_
                        subst pq_12
                        refine z_top (b := (vlM (σ3 P) (T j) a0 b0)) (by rw [hg4, hsT]) ?_
                        have hvin := vlM_in hW3 hV3 (show T j < 8 by omega) (by rw [hn3]; omega) ha hb0
                        refine lv_goto (tgt := 94) hx hb dX6_goTick_89 (by decide) ?_
                        refine g_iast (k := (41 + s1)) hx hb hK hθ hB hP.ltp hP.ckp (by omega) (Nat.lt_of_lt_of_eq (by omega : (41 + s1) < 50) (Eq.symm hP.cnp)) hP.bgp ⟨by omega, by omega⟩ dX6_goTick_94 (fun H locs hB => ?_)
                        obtain ⟨σ5, hσ5⟩ : ∃ x_ : gS, x_ = up2 σ4 P (41 + s1) (vlM (σ3 P) (T j) a0 b0) := ⟨_, rfl⟩
                        rw [← hσ5] at hB
                        have hR := hB.1.2
                        refine lv_iload hx hb dX6_goTick_95 (lv_at hl 3 rfl) ?_
                        refine lv_iload hx hb dX6_goTick_97 (lv_at hl 0 rfl) ?_
                        refine z_if_eq (tgt := 106) hx hb dX6_goTick_99 (by decide) ⟨by decide, by decide⟩ (fun c_13 => ?_) (fun c_13 => ?_)
                        · exact absurd c_13 (by decide)
                        · refine lv_iconst (v := iZ 1) hx hb dX6_goTick_102 rfl ?_
                          refine lv_goto (tgt := 107) hx hb dX6_goTick_103 (by decide) ?_
                          refine z_iadd hx hb dX6_goTick_107 ?_
                          refine z_top (b := (((mN (σ P) w T a0 b0 (j + 1)) : Nat) : Int)) (by rw [mN, ← hg, if_pos hth]; omega) ?_
                          refine lv_istore (lv' := [(4, .int (iZ (((mN (σ P) w T a0 b0 (j + 1)) : Nat) : Int))), (7, .int (iZ 1)), (6, .int (iZ ((s1 : Nat) : Int))), (5, .int (iZ ((j : Nat) : Int))), (0, .ref (tad θ 111)), (1, .ref (tad θ P)), (2, .int (iZ a0)), (3, .int (iZ b0))]) hx hb dX6_goTick_108 hl (by decide) rfl (fun ls hl => ?_)
                          refine z_iinc (k := 3) (lv' := [(5, .int (iZ (((j : Nat) : Int) + 1))), (4, .int (iZ (((mN (σ P) w T a0 b0 (j + 1)) : Nat) : Int))), (7, .int (iZ 1)), (6, .int (iZ ((s1 : Nat) : Int))), (0, .ref (tad θ 111)), (1, .ref (tad θ P)), (2, .int (iZ a0)), (3, .int (iZ b0))]) hx hb dX6_goTick_110 hl rfl (by decide) rfl (fun ls hl => ?_)
                          have hl : lv_has ls 8 [(5, .int (iZ (((j + 1) : Nat) : Int))), (4, .int (iZ (((mN (σ P) w T a0 b0 (j + 1)) : Nat) : Int))), (7, .int (iZ 1)), (6, .int (iZ ((s1 : Nat) : Int))), (0, .ref (tad θ 111)), (1, .ref (tad θ P)), (2, .int (iZ a0)), (3, .int (iZ b0))] := by have e9 : (((j : Nat) : Int) + 1) = (((j + 1) : Nat) : Int) := (by omega); rw [e9] at hl; exact hl
                          refine lv_goto (tgt := 31) hx hb dX6_goTick_113 (by decide) ?_
                          exact ih31 (j + 1) σ5 _ _ _ (by omega) (by omega) (by rw [hσ5, up2_row_eq, hg4, hsT, mV, ← hg, if_pos hth]) (by rw [hσ5]; exact (hf.tr (hf4.mono (fun i k h => by simp [w127] at h; simp [wTk]; omega))).tr (fr.up (by simp [wTk]))) hB (lv_sub hl [0, 1, 4, 5, 6, 7] rfl)
                    · subst hq4b
                      refine lv_istore (lv' := [(7, .int (iZ 0)), (6, .int (iZ ((s1 : Nat) : Int))), (5, .int (iZ ((j : Nat) : Int))), (4, .int (iZ (((mN (σ P) w T a0 b0 j) : Nat) : Int))), (0, .ref (tad θ 111)), (1, .ref (tad θ P)), (2, .int (iZ a0)), (3, .int (iZ b0))]) hx hb dX6_goTick_67 hl (by decide) rfl (fun ls hl => ?_)
                      refine lv_aload_n hx hb dX6_goTick_69 rfl (lv_at hl 5 rfl) ?_
                      refine lv_bipush (v := iZ 41) hx hb dX6_goTick_70 (by decide) ?_
                      refine lv_iload hx hb dX6_goTick_72 (lv_at hl 1 rfl) ?_
                      refine z_iadd hx hb dX6_goTick_74 ?_
                      refine lv_iload hx hb dX6_goTick_75 (lv_at hl 0 rfl) ?_
                      refine z_if_eq (tgt := 92) hx hb dX6_goTick_77 (by decide) ⟨by decide, by decide⟩ (fun c_14 => ?_) (fun c_14 => ?_)
                      · refine lv_bipush (v := iZ (-9)) hx hb dX6_goTick_92 (by decide) ?_
                        refine g_iast (k := (41 + s1)) hx hb hK hθ hB hP.ltp hP.ckp (by omega) (Nat.lt_of_lt_of_eq (by omega : (41 + s1) < 50) (Eq.symm hP.cnp)) hP.bgp ⟨by decide, by decide⟩ dX6_goTick_94 (fun H locs hB => ?_)
                        obtain ⟨σ5, hσ5⟩ : ∃ x_ : gS, x_ = up2 σ4 P (41 + s1) (-9) := ⟨_, rfl⟩
                        rw [← hσ5] at hB
                        have hR := hB.1.2
                        refine lv_iload hx hb dX6_goTick_95 (lv_at hl 3 rfl) ?_
                        refine lv_iload hx hb dX6_goTick_97 (lv_at hl 0 rfl) ?_
                        refine z_if_eq (tgt := 106) hx hb dX6_goTick_99 (by decide) ⟨by decide, by decide⟩ (fun c_15 => ?_) (fun c_15 => ?_)
                        · refine lv_iconst (v := iZ 0) hx hb dX6_goTick_106 rfl ?_
                          refine z_iadd hx hb dX6_goTick_107 ?_
                          refine z_top (b := (((mN (σ P) w T a0 b0 (j + 1)) : Nat) : Int)) (by rw [mN, ← hg, if_neg (by rw [hth]; exact Bool.false_ne_true)]; omega) ?_
                          refine lv_istore (lv' := [(4, .int (iZ (((mN (σ P) w T a0 b0 (j + 1)) : Nat) : Int))), (7, .int (iZ 0)), (6, .int (iZ ((s1 : Nat) : Int))), (5, .int (iZ ((j : Nat) : Int))), (0, .ref (tad θ 111)), (1, .ref (tad θ P)), (2, .int (iZ a0)), (3, .int (iZ b0))]) hx hb dX6_goTick_108 hl (by decide) rfl (fun ls hl => ?_)
                          refine z_iinc (k := 3) (lv' := [(5, .int (iZ (((j : Nat) : Int) + 1))), (4, .int (iZ (((mN (σ P) w T a0 b0 (j + 1)) : Nat) : Int))), (7, .int (iZ 0)), (6, .int (iZ ((s1 : Nat) : Int))), (0, .ref (tad θ 111)), (1, .ref (tad θ P)), (2, .int (iZ a0)), (3, .int (iZ b0))]) hx hb dX6_goTick_110 hl rfl (by decide) rfl (fun ls hl => ?_)
                          have hl : lv_has ls 8 [(5, .int (iZ (((j + 1) : Nat) : Int))), (4, .int (iZ (((mN (σ P) w T a0 b0 (j + 1)) : Nat) : Int))), (7, .int (iZ 0)), (6, .int (iZ ((s1 : Nat) : Int))), (0, .ref (tad θ 111)), (1, .ref (tad θ P)), (2, .int (iZ a0)), (3, .int (iZ b0))] := by have e9 : (((j : Nat) : Int) + 1) = (((j + 1) : Nat) : Int) := (by omega); rw [e9] at hl; exact hl
                          refine lv_goto (tgt := 31) hx hb dX6_goTick_113 (by decide) ?_
                          exact ih31 (j + 1) σ5 _ _ _ (by omega) (by omega) (by rw [hσ5, up2_row_eq, hg4, hsT, mV, ← hg, if_neg (by rw [hth]; exact Bool.false_ne_true)]) (by rw [hσ5]; exact (hf.tr (hf4.mono (fun i k h => by simp [w127] at h; simp [wTk]; omega))).tr (fr.up (by simp [wTk]))) hB (lv_sub hl [0, 1, 4, 5, 6, 7] rfl)
                        · exact absurd (by decide) c_15
                      · exact absurd (by decide) c_14
                  · have hlt : s1 < T j := by
                      rcases Nat.lt_or_ge s1 (T j) with q | q
                      · exact q
                      · exfalso; apply c_7; rw [show s1 = T j by omega]; exact hTj.2.1
                    refine z_iinc (k := 0) (lv' := [(6, .int (iZ (((s1 : Nat) : Int) + 1))), (5, .int (iZ ((j : Nat) : Int))), (4, .int (iZ (((mN (σ P) w T a0 b0 j) : Nat) : Int))), (0, .ref (tad θ 111)), (1, .ref (tad θ P)), (2, .int (iZ a0)), (3, .int (iZ b0))]) hx hb dX6_goTick_54 hl rfl (by decide) rfl (fun ls hl => ?_)
                    have hl : lv_has ls 8 [(6, .int (iZ (((s1 + 1) : Nat) : Int))), (5, .int (iZ ((j : Nat) : Int))), (4, .int (iZ (((mN (σ P) w T a0 b0 j) : Nat) : Int))), (0, .ref (tad θ 111)), (1, .ref (tad θ P)), (2, .int (iZ a0)), (3, .int (iZ b0))] := by have e9 : (((s1 : Nat) : Int) + 1) = (((s1 + 1) : Nat) : Int) := (by omega); rw [e9] at hl; exact hl
                    refine lv_goto (tgt := 42) hx hb dX6_goTick_57 (by decide) ?_
                    exact ih42 (s1 + 1) _ _ _ (by omega) (by omega) hB (lv_sub hl [0, 1, 2, 3, 4, 5, 6] rfl)
              exact loop42 _ 0 _ _ _ (Nat.lt_succ_self _) (by omega) hB (lv_sub hl [0, 1, 2, 3, 4, 5, 6] rfl)
        exact loop31 _ 0 σ1 _ _ _ (Nat.lt_succ_self _) (by omega) (by rw [hg, show i = 8 by omega]; rfl) hf hB (lv_sub hl [0, 1, 2, 3, 4, 5] rfl)
      · refine lv_aload_n hx hb dX6_goTick_13 rfl (lv_at hl 3 rfl) ?_
        refine lv_bipush (v := iZ 41) hx hb dX6_goTick_14 (by decide) ?_
        refine lv_iload hx hb dX6_goTick_16 (lv_at hl 0 rfl) ?_
        refine z_iadd hx hb dX6_goTick_18 ?_
        refine lv_bipush (v := iZ (-9)) hx hb dX6_goTick_19 (by decide) ?_
        refine g_iast (k := (41 + i)) hx hb hK hθ hB hP.ltp hP.ckp (by omega) (Nat.lt_of_lt_of_eq (by omega : (41 + i) < 50) (Eq.symm hP.cnp)) hP.bgp ⟨by decide, by decide⟩ dX6_goTick_21 (fun H locs hB => ?_)
        obtain ⟨σ2, hσ2⟩ : ∃ x_ : gS, x_ = up2 σ1 P (41 + i) (-9) := ⟨_, rfl⟩
        rw [← hσ2] at hB
        have hR := hB.1.2
        refine z_iinc (k := 0) (lv' := [(5, .int (iZ (((i : Nat) : Int) + 1))), (4, .int (iZ 0)), (0, .ref (tad θ 111)), (1, .ref (tad θ P)), (2, .int (iZ a0)), (3, .int (iZ b0))]) hx hb dX6_goTick_22 hl rfl (by decide) rfl (fun ls hl => ?_)
        have hl : lv_has ls 8 [(5, .int (iZ (((i + 1) : Nat) : Int))), (4, .int (iZ 0)), (0, .ref (tad θ 111)), (1, .ref (tad θ P)), (2, .int (iZ a0)), (3, .int (iZ b0))] := by have e9 : (((i : Nat) : Int) + 1) = (((i + 1) : Nat) : Int) := (by omega); rw [e9] at hl; exact hl
        refine lv_goto (tgt := 6) hx hb dX6_goTick_25 (by decide) ?_
        exact ih6 (i + 1) σ2 _ _ _ (by omega) (by omega) (by rw [hσ2, up2_row_eq, hg, rs_step]) (by rw [hσ2]; exact hf.tr (fr.up (by simp [wTk]))) hB (lv_sub hl [0, 1, 2, 3, 4, 5] rfl)
  exact loop6 _ 0 σ _ _ _ (Nat.lt_succ_self _) (by omega) (rs_0 _).symm fr.rf hB (lv_sub hl [0, 1, 2, 3, 4, 5] rfl)
