set_option maxHeartbeats 4000000 in
set_option maxRecDepth 100000 in
theorem mX6_note (l : Launch) (θ : gT) (hθ : gOK θ) (σ : gS) (z : gZ) (D : Nat) (hD : σ 111 8 = (D : Int)) (hD14 : D ≤ 14) : GV l θ yX6_note cX6_note 2 0 0 [.ref (tad θ 111)] σ z (fun σ' z' => (∃ D' : Nat, σ' 111 8 = (D' : Int) ∧ D' ≤ 14 ∧ 0 < D' ∧ noteR D D' σ σ' ∧ noteP D' σ σ') ∧ fr wNo σ σ' ∧ z' = z) := by
  refine g_enter (ret := none) (by decide +kernel) (Nat.le_of_ble_eq_true rfl) ?_
  intro p e s m args below meth c ls F hB hl
  obtain ⟨hx, hb, hr, hml, hown, hts, hlk, hK, hst⟩ := F
  have hR := hB.1.2
  have hl : lv_has ls 2 [(0, .ref (tad θ 111))] := hl
  refine lv_aload_n hx hb dX6_note_0 rfl (lv_at hl 0 rfl) ?_
  refine g_geti (k := 8) hx hb hts hown hK hB cf6 (by decide) rfl (by decide) kw_667 rfl dX6_note_1 ?_
  refine z_top (b := ((D : Nat) : Int)) (hD) ?_
  refine lv_bipush (v := iZ 14) hx hb dX6_note_4 (by decide) ?_
  refine z_icmp_ne (tgt := 49) hx hb dX6_note_6 (by decide) ⟨by omega, by omega⟩ ⟨by decide, by decide⟩ (fun c_1 => ?_) (fun c_1 => ?_)
  · refine lv_iconst (v := iZ 0) hx hb dX6_note_49 rfl ?_
    refine lv_istore_n (lv' := [(1, .int (iZ 0)), (0, .ref (tad θ 111))]) hx hb dX6_note_50 rfl hl (by decide) rfl (fun ls hl => ?_)
    have loop51 : ∀ (n51 : Nat) (j : Nat) (σ4 : gS) (H : Heap) (locs : List Loc) (ls : Array Slot), 50 - j < n51 → (j ≤ 50) → (σ4 111 8 = (((if D = 14 then 13 else D) : Nat) : Int)) → (∀ k, k < j → σ4 116 (50 * (if D = 14 then 13 else D) + k) = σ 114 k) → (∀ x, x < 50 * (if D = 14 then 13 else D) → σ4 116 x = if D = 14 then σ 116 (x + 50) else σ 116 x) → (fr wNo σ σ4) →  gB θ σ4 z s.heap H locs → lv_has ls 2 [(1, .int (iZ ((j : Nat) : Int))), (0, .ref (tad θ 111))] → W p l e (gRm 0 0) s m args below meth c H locs 0 0 (MQ below (gQv θ (fun σ' z' => (∃ D' : Nat, σ' 111 8 = (D' : Int) ∧ D' ≤ 14 ∧ 0 < D' ∧ noteR D D' σ σ' ∧ noteP D' σ σ') ∧ fr wNo σ σ' ∧ z' = z)) args s 0 0 (tA θ)) (F0 m 51 ls []) := by
      intro n51
      induction n51 with
      | zero => intro j σ4 H locs ls hmu; exact absurd hmu (Nat.not_lt_zero _)
      | succ n51 ih51 =>
        intro j σ4 H locs ls hmu hj h8 hn ho hf hB hl
        have hR := hB.1.2
        have hE13 : (if D = 14 then 13 else D) ≤ 13 := by split <;> omega
        obtain ⟨E0, hE0⟩ : ∃ E0 : Nat, E0 = (if D = 14 then 13 else D) := ⟨_, rfl⟩
        rw [← hE0] at h8 hn ho hE13
        refine lv_iload_n hx hb dX6_note_51 rfl (lv_at hl 0 rfl) ?_
        refine lv_bipush (v := iZ 50) hx hb dX6_note_52 (by decide) ?_
        refine z_icmp_ge (tgt := 83) hx hb dX6_note_54 (by decide) ⟨by omega, by omega⟩ ⟨by decide, by decide⟩ (fun c_2 => ?_) (fun c_2 => ?_)
        · refine lv_aload_n hx hb dX6_note_83 rfl (lv_at hl 1 rfl) ?_
          refine lv_dup hx hb dX6_note_84 rfl ?_
          refine g_geti (k := 8) hx hb hts hown hK hB cf6 (by decide) rfl (by decide) kw_667 rfl dX6_note_85 ?_
          refine z_top (b := ((E0 : Nat) : Int)) (h8) ?_
          refine lv_iconst (v := iZ 1) hx hb dX6_note_88 rfl ?_
          refine z_iadd hx hb dX6_note_89 ?_
          refine g_putI (k := 8) hx hb hts hown hK hθ hB cf6 tyX6 tyX6_ok (by decide) rfl (by decide) kw_667 rfl rfl rfl ⟨by omega, by omega⟩ dX6_note_90 (fun H locs hB => ?_)
          obtain ⟨σ6, hσ6⟩ : ∃ x_ : gS, x_ = up2 σ4 111 8 (((E0 : Nat) : Int) + 1) := ⟨_, rfl⟩
          rw [← hσ6] at hB
          have hR := hB.1.2
          have hnr : noteR D (E0 + 1) σ σ6 := by
            rcases Nat.lt_or_ge D 14 with q | q
            · rw [if_neg (by omega)] at hE0
              exact Or.inl ⟨q, by omega, fun x hx => by rw [hσ6, up2_c _ _ (by decide), ho x (by omega), if_neg (by omega)]⟩
            · rw [if_pos (by omega)] at hE0
              exact Or.inr ⟨by omega, by omega, fun x hx => by rw [hσ6, up2_c _ _ (by decide), ho x (by omega), if_pos (by omega)]⟩
          exact g_vret hx hb hr hlk hB dX6_note_93 (⟨⟨E0 + 1, by rw [hσ6, up2_eq]; omega, by omega, by omega, hnr, fun k hk => by rw [hσ6, up2_c _ _ (by decide), show E0 + 1 - 1 = E0 by omega]; exact hn k (by omega)⟩, by rw [hσ6]; exact hf.tr (fr.up rfl), rfl⟩)
        · refine lv_aload_n hx hb dX6_note_57 rfl (lv_at hl 1 rfl) ?_
          refine g_getr (k := 7) (j := 116) hx hb hts hown hK hθ hB cf6 (by decide) rfl (by decide) kw_666 rfl rfl dX6_note_58 ?_
          refine lv_bipush (v := iZ 50) hx hb dX6_note_61 (by decide) ?_
          refine lv_aload_n hx hb dX6_note_63 rfl (lv_at hl 1 rfl) ?_
          refine g_geti (k := 8) hx hb hts hown hK hB cf6 (by decide) rfl (by decide) kw_667 rfl dX6_note_64 ?_
          refine z_top (b := ((E0 : Nat) : Int)) (h8) ?_
          refine z_imul hx hb dX6_note_67 ?_
          refine lv_iload_n hx hb dX6_note_68 rfl (lv_at hl 0 rfl) ?_
          refine z_iadd hx hb dX6_note_69 ?_
          refine lv_aload_n hx hb dX6_note_70 rfl (lv_at hl 1 rfl) ?_
          refine g_getr (k := 5) (j := 114) hx hb hts hown hK hθ hB cf6 (by decide) rfl (by decide) kw_664 rfl rfl dX6_note_71 ?_
          refine lv_iload_n hx hb dX6_note_74 rfl (lv_at hl 0 rfl) ?_
          refine g_iald (k := j) hx hb hK hB (by decide) rfl (by omega) (Nat.lt_of_lt_of_eq (by omega : j < 50) (Eq.symm rfl)) (by decide) dX6_note_75 ?_
          refine z_top (b := (σ4 114 j)) (rfl) ?_
          have hrp := hR 114 j
          have hpg : σ4 114 j = σ 114 j := by rw [hf.row (fun k => rfl)]
          refine g_iast (k := ((50 * E0) + j)) hx hb hK hθ hB (by decide) rfl (by omega) (Nat.lt_of_lt_of_eq (by omega : ((50 * E0) + j) < 700) (Eq.symm rfl)) (by decide) ⟨by omega, by omega⟩ dX6_note_76 (fun H locs hB => ?_)
          obtain ⟨σ5, hσ5⟩ : ∃ x_ : gS, x_ = up2 σ4 116 ((50 * E0) + j) (σ4 114 j) := ⟨_, rfl⟩
          rw [← hσ5] at hB
          have hR := hB.1.2
          refine z_iinc (k := 0) (lv' := [(1, .int (iZ (((j : Nat) : Int) + 1))), (0, .ref (tad θ 111))]) hx hb dX6_note_77 hl rfl (by decide) rfl (fun ls hl => ?_)
          have hl : lv_has ls 2 [(1, .int (iZ (((j + 1) : Nat) : Int))), (0, .ref (tad θ 111))] := by have e9 : (((j : Nat) : Int) + 1) = (((j + 1) : Nat) : Int) := (by omega); rw [e9] at hl; exact hl
          refine lv_goto (tgt := 51) hx hb dX6_note_80 (by decide) ?_
          exact ih51 (j + 1) σ5 _ _ _ (by omega) (by omega) (by rw [hσ5, up2_c _ _ (by decide), ← hE0]; exact h8) (by rw [← hE0]; exact lt_s (fun k h => by rw [hσ5, up2_k _ _ (by omega)]; exact hn k h) (by rw [hσ5, up2_eq, hpg])) (by rw [← hE0]; exact fun x h => by rw [hσ5, up2_k _ _ (by omega)]; exact ho x h) (by rw [hσ5]; exact hf.tr (fr.up rfl)) hB (lv_sub hl [0, 1] rfl)
    exact loop51 _ 0 σ _ _ _ (Nat.lt_succ_self _) (by omega) (by rw [hD, if_neg (by omega)]) (fun k h => absurd h (Nat.not_lt_zero _)) (fun x h => by rw [if_neg (by omega)]) fr.rf hB (lv_sub hl [0, 1] rfl)
  · refine lv_iconst (v := iZ 0) hx hb dX6_note_9 rfl ?_
    refine lv_istore_n (lv' := [(1, .int (iZ 0)), (0, .ref (tad θ 111))]) hx hb dX6_note_10 rfl hl (by decide) rfl (fun ls hl => ?_)
    have loop11 : ∀ (n11 : Nat) (i : Nat) (σ1 : gS) (H : Heap) (locs : List Loc) (ls : Array Slot), 650 - i < n11 → (i ≤ 650) → (∀ x, x < i → σ1 116 x = σ 116 (x + 50)) → (∀ x, i ≤ x → σ1 116 x = σ 116 x) → (σ1 111 8 = σ 111 8) → (fr wNo σ σ1) →  gB θ σ1 z s.heap H locs → lv_has ls 2 [(1, .int (iZ ((i : Nat) : Int))), (0, .ref (tad θ 111))] → W p l e (gRm 0 0) s m args below meth c H locs 0 0 (MQ below (gQv θ (fun σ' z' => (∃ D' : Nat, σ' 111 8 = (D' : Int) ∧ D' ≤ 14 ∧ 0 < D' ∧ noteR D D' σ σ' ∧ noteP D' σ σ') ∧ fr wNo σ σ' ∧ z' = z)) args s 0 0 (tA θ)) (F0 m 11 ls []) := by
      intro n11
      induction n11 with
      | zero => intro i σ1 H locs ls hmu; exact absurd hmu (Nat.not_lt_zero _)
      | succ n11 ih11 =>
        intro i σ1 H locs ls hmu hi hb1 hb2 h8f hf hB hl
        have hR := hB.1.2
        refine lv_iload_n hx hb dX6_note_11 rfl (lv_at hl 0 rfl) ?_
        refine lv_sipush (v := iZ 650) hx hb dX6_note_12 (by decide) ?_
        refine z_icmp_ge (tgt := 39) hx hb dX6_note_15 (by decide) ⟨by omega, by omega⟩ ⟨by decide, by decide⟩ (fun c_3 => ?_) (fun c_3 => ?_)
        · refine lv_aload_n hx hb dX6_note_39 rfl (lv_at hl 1 rfl) ?_
          refine lv_dup hx hb dX6_note_40 rfl ?_
          have h8D : σ1 111 8 = (D : Int) := by rw [h8f]; exact hD
          refine g_geti (k := 8) hx hb hts hown hK hB cf6 (by decide) rfl (by decide) kw_667 rfl dX6_note_41 ?_
          refine z_top (b := ((D : Nat) : Int)) (h8D) ?_
          refine lv_iconst (v := iZ 1) hx hb dX6_note_44 rfl ?_
          refine z_isub hx hb dX6_note_45 ?_
          refine g_putI (k := 8) hx hb hts hown hK hθ hB cf6 tyX6 tyX6_ok (by decide) rfl (by decide) kw_667 rfl rfl rfl ⟨by omega, by omega⟩ dX6_note_46 (fun H locs hB => ?_)
          obtain ⟨σ3, hσ3⟩ : ∃ x_ : gS, x_ = up2 σ1 111 8 (((D : Nat) : Int) - 1) := ⟨_, rfl⟩
          rw [← hσ3] at hB
          have hR := hB.1.2
          refine lv_iconst (v := iZ 0) hx hb dX6_note_49 rfl ?_
          refine lv_istore_n (lv' := [(1, .int (iZ 0)), (0, .ref (tad θ 111))]) hx hb dX6_note_50 rfl hl (by decide) rfl (fun ls hl => ?_)
          have loop51 : ∀ (n51 : Nat) (j : Nat) (σ4 : gS) (H : Heap) (locs : List Loc) (ls : Array Slot), 50 - j < n51 → (j ≤ 50) → (σ4 111 8 = (((if D = 14 then 13 else D) : Nat) : Int)) → (∀ k, k < j → σ4 116 (50 * (if D = 14 then 13 else D) + k) = σ 114 k) → (∀ x, x < 50 * (if D = 14 then 13 else D) → σ4 116 x = if D = 14 then σ 116 (x + 50) else σ 116 x) → (fr wNo σ σ4) →  gB θ σ4 z s.heap H locs → lv_has ls 2 [(1, .int (iZ ((j : Nat) : Int))), (0, .ref (tad θ 111))] → W p l e (gRm 0 0) s m args below meth c H locs 0 0 (MQ below (gQv θ (fun σ' z' => (∃ D' : Nat, σ' 111 8 = (D' : Int) ∧ D' ≤ 14 ∧ 0 < D' ∧ noteR D D' σ σ' ∧ noteP D' σ σ') ∧ fr wNo σ σ' ∧ z' = z)) args s 0 0 (tA θ)) (F0 m 51 ls []) := by
            intro n51
            induction n51 with
            | zero => intro j σ4 H locs ls hmu; exact absurd hmu (Nat.not_lt_zero _)
            | succ n51 ih51 =>
              intro j σ4 H locs ls hmu hj h8 hn ho hf hB hl
              have hR := hB.1.2
              have hE13 : (if D = 14 then 13 else D) ≤ 13 := by split <;> omega
              obtain ⟨E0, hE0⟩ : ∃ E0 : Nat, E0 = (if D = 14 then 13 else D) := ⟨_, rfl⟩
              rw [← hE0] at h8 hn ho hE13
              refine lv_iload_n hx hb dX6_note_51 rfl (lv_at hl 0 rfl) ?_
              refine lv_bipush (v := iZ 50) hx hb dX6_note_52 (by decide) ?_
              refine z_icmp_ge (tgt := 83) hx hb dX6_note_54 (by decide) ⟨by omega, by omega⟩ ⟨by decide, by decide⟩ (fun c_4 => ?_) (fun c_4 => ?_)
              · refine lv_aload_n hx hb dX6_note_83 rfl (lv_at hl 1 rfl) ?_
                refine lv_dup hx hb dX6_note_84 rfl ?_
                refine g_geti (k := 8) hx hb hts hown hK hB cf6 (by decide) rfl (by decide) kw_667 rfl dX6_note_85 ?_
                refine z_top (b := ((E0 : Nat) : Int)) (h8) ?_
                refine lv_iconst (v := iZ 1) hx hb dX6_note_88 rfl ?_
                refine z_iadd hx hb dX6_note_89 ?_
                refine g_putI (k := 8) hx hb hts hown hK hθ hB cf6 tyX6 tyX6_ok (by decide) rfl (by decide) kw_667 rfl rfl rfl ⟨by omega, by omega⟩ dX6_note_90 (fun H locs hB => ?_)
                obtain ⟨σ6, hσ6⟩ : ∃ x_ : gS, x_ = up2 σ4 111 8 (((E0 : Nat) : Int) + 1) := ⟨_, rfl⟩
                rw [← hσ6] at hB
                have hR := hB.1.2
                have hnr : noteR D (E0 + 1) σ σ6 := by
                  rcases Nat.lt_or_ge D 14 with q | q
                  · rw [if_neg (by omega)] at hE0
                    exact Or.inl ⟨q, by omega, fun x hx => by rw [hσ6, up2_c _ _ (by decide), ho x (by omega), if_neg (by omega)]⟩
                  · rw [if_pos (by omega)] at hE0
                    exact Or.inr ⟨by omega, by omega, fun x hx => by rw [hσ6, up2_c _ _ (by decide), ho x (by omega), if_pos (by omega)]⟩
                exact g_vret hx hb hr hlk hB dX6_note_93 (⟨⟨E0 + 1, by rw [hσ6, up2_eq]; omega, by omega, by omega, hnr, fun k hk => by rw [hσ6, up2_c _ _ (by decide), show E0 + 1 - 1 = E0 by omega]; exact hn k (by omega)⟩, by rw [hσ6]; exact hf.tr (fr.up rfl), rfl⟩)
              · refine lv_aload_n hx hb dX6_note_57 rfl (lv_at hl 1 rfl) ?_
                refine g_getr (k := 7) (j := 116) hx hb hts hown hK hθ hB cf6 (by decide) rfl (by decide) kw_666 rfl rfl dX6_note_58 ?_
                refine lv_bipush (v := iZ 50) hx hb dX6_note_61 (by decide) ?_
                refine lv_aload_n hx hb dX6_note_63 rfl (lv_at hl 1 rfl) ?_
                refine g_geti (k := 8) hx hb hts hown hK hB cf6 (by decide) rfl (by decide) kw_667 rfl dX6_note_64 ?_
                refine z_top (b := ((E0 : Nat) : Int)) (h8) ?_
                refine z_imul hx hb dX6_note_67 ?_
                refine lv_iload_n hx hb dX6_note_68 rfl (lv_at hl 0 rfl) ?_
                refine z_iadd hx hb dX6_note_69 ?_
                refine lv_aload_n hx hb dX6_note_70 rfl (lv_at hl 1 rfl) ?_
                refine g_getr (k := 5) (j := 114) hx hb hts hown hK hθ hB cf6 (by decide) rfl (by decide) kw_664 rfl rfl dX6_note_71 ?_
                refine lv_iload_n hx hb dX6_note_74 rfl (lv_at hl 0 rfl) ?_
                refine g_iald (k := j) hx hb hK hB (by decide) rfl (by omega) (Nat.lt_of_lt_of_eq (by omega : j < 50) (Eq.symm rfl)) (by decide) dX6_note_75 ?_
                refine z_top (b := (σ4 114 j)) (rfl) ?_
                have hrp := hR 114 j
                have hpg : σ4 114 j = σ 114 j := by rw [hf.row (fun k => rfl)]
                refine g_iast (k := ((50 * E0) + j)) hx hb hK hθ hB (by decide) rfl (by omega) (Nat.lt_of_lt_of_eq (by omega : ((50 * E0) + j) < 700) (Eq.symm rfl)) (by decide) ⟨by omega, by omega⟩ dX6_note_76 (fun H locs hB => ?_)
                obtain ⟨σ5, hσ5⟩ : ∃ x_ : gS, x_ = up2 σ4 116 ((50 * E0) + j) (σ4 114 j) := ⟨_, rfl⟩
                rw [← hσ5] at hB
                have hR := hB.1.2
                refine z_iinc (k := 0) (lv' := [(1, .int (iZ (((j : Nat) : Int) + 1))), (0, .ref (tad θ 111))]) hx hb dX6_note_77 hl rfl (by decide) rfl (fun ls hl => ?_)
                have hl : lv_has ls 2 [(1, .int (iZ (((j + 1) : Nat) : Int))), (0, .ref (tad θ 111))] := by have e9 : (((j : Nat) : Int) + 1) = (((j + 1) : Nat) : Int) := (by omega); rw [e9] at hl; exact hl
                refine lv_goto (tgt := 51) hx hb dX6_note_80 (by decide) ?_
                exact ih51 (j + 1) σ5 _ _ _ (by omega) (by omega) (by rw [hσ5, up2_c _ _ (by decide), ← hE0]; exact h8) (by rw [← hE0]; exact lt_s (fun k h => by rw [hσ5, up2_k _ _ (by omega)]; exact hn k h) (by rw [hσ5, up2_eq, hpg])) (by rw [← hE0]; exact fun x h => by rw [hσ5, up2_k _ _ (by omega)]; exact ho x h) (by rw [hσ5]; exact hf.tr (fr.up rfl)) hB (lv_sub hl [0, 1] rfl)
          exact loop51 _ 0 σ3 _ _ _ (Nat.lt_succ_self _) (by omega) (by rw [hσ3, up2_eq, if_pos (by omega)]; omega) (fun k h => absurd h (Nat.not_lt_zero _)) (fun x h => by rw [if_pos (by omega)] at h ⊢; rw [hσ3, up2_c _ _ (by decide)]; exact hb1 x (by omega)) (by rw [hσ3]; exact hf.tr (fr.up rfl)) hB (lv_sub hl [0, 1] rfl)
        · refine lv_aload_n hx hb dX6_note_18 rfl (lv_at hl 1 rfl) ?_
          refine g_getr (k := 7) (j := 116) hx hb hts hown hK hθ hB cf6 (by decide) rfl (by decide) kw_666 rfl rfl dX6_note_19 ?_
          refine lv_iload_n hx hb dX6_note_22 rfl (lv_at hl 0 rfl) ?_
          refine lv_aload_n hx hb dX6_note_23 rfl (lv_at hl 1 rfl) ?_
          refine g_getr (k := 7) (j := 116) hx hb hts hown hK hθ hB cf6 (by decide) rfl (by decide) kw_666 rfl rfl dX6_note_24 ?_
          refine lv_iload_n hx hb dX6_note_27 rfl (lv_at hl 0 rfl) ?_
          refine lv_bipush (v := iZ 50) hx hb dX6_note_28 (by decide) ?_
          refine z_iadd hx hb dX6_note_30 ?_
          refine g_iald (k := (i + 50)) hx hb hK hB (by decide) rfl (by omega) (Nat.lt_of_lt_of_eq (by omega : (i + 50) < 700) (Eq.symm rfl)) (by decide) dX6_note_31 ?_
          refine z_top (b := (σ 116 (i + 50))) (hb2 (i + 50) (by omega)) ?_
          have hrb := hR 116 (i + 50)
          rw [hb2 (i + 50) (by omega)] at hrb
          refine g_iast (k := i) hx hb hK hθ hB (by decide) rfl (by omega) (Nat.lt_of_lt_of_eq (by omega : i < 700) (Eq.symm rfl)) (by decide) ⟨by omega, by omega⟩ dX6_note_32 (fun H locs hB => ?_)
          obtain ⟨σ2, hσ2⟩ : ∃ x_ : gS, x_ = up2 σ1 116 i (σ 116 (i + 50)) := ⟨_, rfl⟩
          rw [← hσ2] at hB
          have hR := hB.1.2
          refine z_iinc (k := 0) (lv' := [(1, .int (iZ (((i : Nat) : Int) + 1))), (0, .ref (tad θ 111))]) hx hb dX6_note_33 hl rfl (by decide) rfl (fun ls hl => ?_)
          have hl : lv_has ls 2 [(1, .int (iZ (((i + 1) : Nat) : Int))), (0, .ref (tad θ 111))] := by have e9 : (((i : Nat) : Int) + 1) = (((i + 1) : Nat) : Int) := (by omega); rw [e9] at hl; exact hl
          refine lv_goto (tgt := 11) hx hb dX6_note_36 (by decide) ?_
          exact ih11 (i + 1) σ2 _ _ _ (by omega) (by omega) (lt_s (fun x h => by rw [hσ2, up2_k _ _ (by omega)]; exact hb1 x h) (by rw [hσ2, up2_eq])) (fun x h => by rw [hσ2, up2_k _ _ (by omega)]; exact hb2 x (by omega)) (by rw [hσ2, up2_c _ _ (by decide)]; exact h8f) (by rw [hσ2]; exact hf.tr (fr.up rfl)) hB (lv_sub hl [0, 1] rfl)
    exact loop11 _ 0 σ _ _ _ (Nat.lt_succ_self _) (by omega) (fun x h => absurd h (Nat.not_lt_zero _)) (fun x h => rfl) rfl fr.rf hB (lv_sub hl [0, 1] rfl)
