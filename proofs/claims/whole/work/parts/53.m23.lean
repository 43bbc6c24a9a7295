theorem gb_14 (i k : Nat) (h : (fun i (_ : Nat) => i == 14) i k = true) : wGB i k = true := by simp at h; subst h; rfl
set_option maxHeartbeats 4000000 in
set_option maxRecDepth 100000 in
theorem mX2_bind (l : Launch) (θ : gT) (hθ : gOK θ) (σ : gS) (z : gZ) (w : mC) (hA : cA σ w) (s0 : Nat) (hs : s0 < 8) (v : Int) (hv : rg v) : GI l θ yX2_bind cX2_bind 4 (some .boolean) 0 0 [.ref (tad θ 13), .int (iZ ((s0 : Nat) : Int)), .int (iZ v)] σ z (fun q σ' z' => oC (cBd w s0 v) q σ' ∧ fr wGB σ σ' ∧ z' = z) := by
  refine g_enter (ret := (some .boolean)) (by decide +kernel) (Nat.le_of_ble_eq_true rfl) ?_
  intro p e s m args below meth c ls F hB hl
  obtain ⟨hx, hb, hr, hml, hown, hts, hlk, hK, hst⟩ := F
  have hR := hB.1.2
  have hl : lv_has ls 4 [(0, .ref (tad θ 13)), (1, .int (iZ ((s0 : Nat) : Int))), (2, .int (iZ v))] := hl
  have hx8 := (hA s0 hs).1.2
  have hr9 := hR 15 (w.1 s0)
  rw [(hA _ hx8).2] at hr9
  refine lv_aload_n hx hb dX2_bind_0 rfl (lv_at hl 0 rfl) ?_
  refine g_getr (k := 4) (j := 14) hx hb hts hown hK hθ hB cf2 (by decide) rfl (by decide) kw_86 rfl rfl dX2_bind_1 ?_
  refine lv_iload_n hx hb dX2_bind_4 rfl (lv_at hl 1 rfl) ?_
  refine g_iald (k := s0) hx hb hK hB (by decide) rfl (by omega) (Nat.lt_of_lt_of_eq (by omega : s0 < 8) (Eq.symm rfl)) (by decide) dX2_bind_5 ?_
  refine z_top (b := (((w.1 s0) : Nat) : Int)) ((hA s0 hs).1.1) ?_
  refine lv_istore_n (lv' := [(3, .int (iZ (((w.1 s0) : Nat) : Int))), (0, .ref (tad θ 13)), (1, .int (iZ ((s0 : Nat) : Int))), (2, .int (iZ v))]) hx hb dX2_bind_6 rfl hl (by decide) rfl (fun ls hl => ?_)
  refine lv_aload_n hx hb dX2_bind_7 rfl (lv_at hl 1 rfl) ?_
  refine g_getr (k := 5) (j := 15) hx hb hts hown hK hθ hB cf2 (by decide) rfl (by decide) kw_87 rfl rfl dX2_bind_8 ?_
  refine lv_iload_n hx hb dX2_bind_11 rfl (lv_at hl 0 rfl) ?_
  refine g_iald (k := (w.1 s0)) hx hb hK hB (by decide) rfl (by omega) (Nat.lt_of_lt_of_eq (by omega : (w.1 s0) < 8) (Eq.symm rfl)) (by decide) dX2_bind_12 ?_
  refine z_top (b := (w.2 (w.1 s0))) ((hA _ hx8).2) ?_
  refine lv_iconst (v := iZ (-1)) hx hb dX2_bind_13 rfl ?_
  refine z_icmp_ne (tgt := 24) hx hb dX2_bind_14 (by decide) ⟨by omega, by omega⟩ ⟨by decide, by decide⟩ (fun c_1 => ?_) (fun c_1 => ?_)
  · refine lv_aload_n hx hb dX2_bind_24 rfl (lv_at hl 1 rfl) ?_
    refine g_getr (k := 5) (j := 15) hx hb hts hown hK hθ hB cf2 (by decide) rfl (by decide) kw_87 rfl rfl dX2_bind_25 ?_
    refine lv_iload_n hx hb dX2_bind_28 rfl (lv_at hl 0 rfl) ?_
    refine g_iald (k := (w.1 s0)) hx hb hK hB (by decide) rfl (by omega) (Nat.lt_of_lt_of_eq (by omega : (w.1 s0) < 8) (Eq.symm rfl)) (by decide) dX2_bind_29 ?_
    refine z_top (b := (w.2 (w.1 s0))) ((hA _ hx8).2) ?_
    refine lv_iload_n hx hb dX2_bind_30 rfl (lv_at hl 3 rfl) ?_
    refine z_icmp_ne (tgt := 38) hx hb dX2_bind_31 (by decide) ⟨by omega, by omega⟩ ⟨by omega, by omega⟩ (fun c_2 => ?_) (fun c_2 => ?_)
    · refine lv_iconst (v := iZ 0) hx hb dX2_bind_38 rfl ?_
      exact g_zret hx hb hr hlk hB dX2_bind_39 (by decide) (⟨Or.inr ⟨by rw [cBd, if_neg (by omega), if_neg (by omega)], rfl⟩, fr.rf, rfl⟩)
    · refine lv_iconst (v := iZ 1) hx hb dX2_bind_34 rfl ?_
      refine lv_goto (tgt := 39) hx hb dX2_bind_35 (by decide) ?_
      exact g_zret hx hb hr hlk hB dX2_bind_39 (by decide) (⟨Or.inl ⟨w, by rw [cBd, if_neg (by omega), if_pos (by omega)], rfl, hA⟩, fr.rf, rfl⟩)
  · refine lv_aload_n hx hb dX2_bind_17 rfl (lv_at hl 1 rfl) ?_
    refine g_getr (k := 5) (j := 15) hx hb hts hown hK hθ hB cf2 (by decide) rfl (by decide) kw_87 rfl rfl dX2_bind_18 ?_
    refine lv_iload_n hx hb dX2_bind_21 rfl (lv_at hl 0 rfl) ?_
    refine lv_iload_n hx hb dX2_bind_22 rfl (lv_at hl 3 rfl) ?_
    refine g_iast (k := (w.1 s0)) hx hb hK hθ hB (by decide) rfl (by omega) (Nat.lt_of_lt_of_eq (by omega : (w.1 s0) < 8) (Eq.symm rfl)) (by decide) ⟨by omega, by omega⟩ dX2_bind_23 (fun H locs hB => ?_)
    obtain ⟨σ1, hσ1⟩ : ∃ x_ : gS, x_ = up2 σ 15 (w.1 s0) v := ⟨_, rfl⟩
    rw [← hσ1] at hB
    have hR := hB.1.2
    refine lv_aload_n hx hb dX2_bind_24 rfl (lv_at hl 1 rfl) ?_
    refine g_getr (k := 5) (j := 15) hx hb hts hown hK hθ hB cf2 (by decide) rfl (by decide) kw_87 rfl rfl dX2_bind_25 ?_
    refine lv_iload_n hx hb dX2_bind_28 rfl (lv_at hl 0 rfl) ?_
    refine g_iald (k := (w.1 s0)) hx hb hK hB (by decide) rfl (by omega) (Nat.lt_of_lt_of_eq (by omega : (w.1 s0) < 8) (Eq.symm rfl)) (by decide) dX2_bind_29 ?_
    refine z_top (b := v) (by rw [hσ1, up2_eq]) ?_
    refine lv_iload_n hx hb dX2_bind_30 rfl (lv_at hl 3 rfl) ?_
    refine z_icmp_ne (tgt := 38) hx hb dX2_bind_31 (by decide) ⟨by omega, by omega⟩ ⟨by omega, by omega⟩ (fun c_3 => ?_) (fun c_3 => ?_)
    · exfalso; omega
    · refine lv_iconst (v := iZ 1) hx hb dX2_bind_34 rfl ?_
      refine lv_goto (tgt := 39) hx hb dX2_bind_35 (by decide) ?_
      exact g_zret hx hb hr hlk hB dX2_bind_39 (by decide) (⟨Or.inl ⟨(w.1, upn w.2 (w.1 s0) v), by rw [cBd, if_pos (by omega)], rfl, by rw [hσ1]; exact cA_set hA _ v⟩, by rw [hσ1]; exact fr.up rfl, rfl⟩)
set_option maxHeartbeats 4000000 in
set_option maxRecDepth 100000 in
theorem mX2_liken (l : Launch) (θ : gT) (hθ : gOK θ) (σ : gS) (z : gZ) (w : mC) (hA : cA σ w) (s0 t0 : Nat) (hs : s0 < 8) (ht : t0 < 8) : GI l θ yX2_liken cX2_liken 6 (some .boolean) 1 23 [.ref (tad θ 13), .int (iZ ((s0 : Nat) : Int)), .int (iZ ((t0 : Nat) : Int))] σ z (fun q σ' z' => oC (cLk w s0 t0) q σ' ∧ fr wGB σ σ' ∧ z' = z) := by
  refine g_enter (ret := (some .boolean)) (by decide +kernel) (Nat.le_of_ble_eq_true rfl) ?_
  intro p e s m args below meth c ls F hB hl
  obtain ⟨hx, hb, hr, hml, hown, hts, hlk, hK, hst⟩ := F
  have hR := hB.1.2
  have hl : lv_has ls 6 [(0, .ref (tad θ 13)), (1, .int (iZ ((s0 : Nat) : Int))), (2, .int (iZ ((t0 : Nat) : Int)))] := hl
  have hx8 := (hA s0 hs).1.2
  have hy8 := (hA t0 ht).1.2
  have hr9 := hR 15 (w.1 t0)
  rw [(hA _ hy8).2] at hr9
  refine lv_aload_n hx hb dX2_liken_0 rfl (lv_at hl 0 rfl) ?_
  refine g_getr (k := 4) (j := 14) hx hb hts hown hK hθ hB cf2 (by decide) rfl (by decide) kw_86 rfl rfl dX2_liken_1 ?_
  refine lv_iload_n hx hb dX2_liken_4 rfl (lv_at hl 1 rfl) ?_
  refine g_iald (k := s0) hx hb hK hB (by decide) rfl (by omega) (Nat.lt_of_lt_of_eq (by omega : s0 < 8) (Eq.symm rfl)) (by decide) dX2_liken_5 ?_
  refine z_top (b := (((w.1 s0) : Nat) : Int)) ((hA s0 hs).1.1) ?_
  refine lv_istore_n (lv' := [(3, .int (iZ (((w.1 s0) : Nat) : Int))), (0, .ref (tad θ 13)), (1, .int (iZ ((s0 : Nat) : Int))), (2, .int (iZ ((t0 : Nat) : Int)))]) hx hb dX2_liken_6 rfl hl (by decide) rfl (fun ls hl => ?_)
  refine lv_aload_n hx hb dX2_liken_7 rfl (lv_at hl 1 rfl) ?_
  refine g_getr (k := 4) (j := 14) hx hb hts hown hK hθ hB cf2 (by decide) rfl (by decide) kw_86 rfl rfl dX2_liken_8 ?_
  refine lv_iload_n hx hb dX2_liken_11 rfl (lv_at hl 3 rfl) ?_
  refine g_iald (k := t0) hx hb hK hB (by decide) rfl (by omega) (Nat.lt_of_lt_of_eq (by omega : t0 < 8) (Eq.symm rfl)) (by decide) dX2_liken_12 ?_
  refine z_top (b := (((w.1 t0) : Nat) : Int)) ((hA t0 ht).1.1) ?_
  refine lv_istore (lv' := [(4, .int (iZ (((w.1 t0) : Nat) : Int))), (3, .int (iZ (((w.1 s0) : Nat) : Int))), (0, .ref (tad θ 13)), (1, .int (iZ ((s0 : Nat) : Int))), (2, .int (iZ ((t0 : Nat) : Int)))]) hx hb dX2_liken_13 hl (by decide) rfl (fun ls hl => ?_)
  refine lv_iload_n hx hb dX2_liken_15 rfl (lv_at hl 1 rfl) ?_
  refine lv_iload hx hb dX2_liken_16 (lv_at hl 0 rfl) ?_
  refine z_icmp_ne (tgt := 23) hx hb dX2_liken_18 (by decide) ⟨by omega, by omega⟩ ⟨by omega, by omega⟩ (fun c_1 => ?_) (fun c_1 => ?_)
  · refine lv_aload_n hx hb dX2_liken_23 rfl (lv_at hl 2 rfl) ?_
    refine g_getr (k := 5) (j := 15) hx hb hts hown hK hθ hB cf2 (by decide) rfl (by decide) kw_87 rfl rfl dX2_liken_24 ?_
    refine lv_iload hx hb dX2_liken_27 (lv_at hl 0 rfl) ?_
    refine g_iald (k := (w.1 t0)) hx hb hK hB (by decide) rfl (by omega) (Nat.lt_of_lt_of_eq (by omega : (w.1 t0) < 8) (Eq.symm rfl)) (by decide) dX2_liken_29 ?_
    refine z_top (b := (w.2 (w.1 t0))) ((hA _ hy8).2) ?_
    refine lv_iconst (v := iZ (-1)) hx hb dX2_liken_30 rfl ?_
    refine z_icmp_eq (tgt := 51) hx hb dX2_liken_31 (by decide) ⟨by omega, by omega⟩ ⟨by decide, by decide⟩ (fun c_2 => ?_) (fun c_2 => ?_)
    · refine lv_iconst (v := iZ 0) hx hb dX2_liken_51 rfl ?_
      refine lv_istore (lv' := [(5, .int (iZ 0)), (4, .int (iZ (((w.1 t0) : Nat) : Int))), (3, .int (iZ (((w.1 s0) : Nat) : Int))), (0, .ref (tad θ 13)), (1, .int (iZ ((s0 : Nat) : Int))), (2, .int (iZ ((t0 : Nat) : Int)))]) hx hb dX2_liken_52 hl (by decide) rfl (fun ls hl => ?_)
      have loop54 : ∀ (n54 : Nat) (i : Nat) (σ2 : gS) (H : Heap) (locs : List Loc) (ls : Array Slot), 8 - i < n54 → (i ≤ 8) → (∀ k, k < i → σ2 14 k = ((if w.1 k = w.1 t0 then w.1 s0 else w.1 k : Nat) : Int)) → (∀ k, i ≤ k → k < 8 → σ2 14 k = ((w.1 k : Nat) : Int)) → (fr (fun i _ => i == 14) σ σ2) →  gB θ σ2 z s.heap H locs → lv_has ls 6 [(5, .int (iZ ((i : Nat) : Int))), (4, .int (iZ (((w.1 t0) : Nat) : Int))), (3, .int (iZ (((w.1 s0) : Nat) : Int))), (0, .ref (tad θ 13)), (1, .int (iZ ((s0 : Nat) : Int))), (2, .int (iZ ((t0 : Nat) : Int)))] → W p l e (gRm 1 23) s m args below meth c H locs 0 0 (MQ below (gQi θ (fun q σ' z' => oC (cLk w s0 t0) q σ' ∧ fr wGB σ σ' ∧ z' = z)) args s 0 0 (tA θ)) (F0 m 54 ls []) := by
        intro n54
        induction n54 with
        | zero => intro i σ2 H locs ls hmu; exact absurd hmu (Nat.not_lt_zero _)
        | succ n54 ih54 =>
          intro i σ2 H locs ls hmu hi h1 h2 hf2 hB hl
          have hR := hB.1.2
          refine lv_iload hx hb dX2_liken_54 (lv_at hl 0 rfl) ?_
          refine lv_bipush (v := iZ 8) hx hb dX2_liken_56 (by decide) ?_
          refine z_icmp_ge (tgt := 87) hx hb dX2_liken_58 (by decide) ⟨by omega, by omega⟩ ⟨by decide, by decide⟩ (fun c_3 => ?_) (fun c_3 => ?_)
          · refine lv_iconst (v := iZ 1) hx hb dX2_liken_87 rfl ?_
            exact g_zret hx hb hr hlk hB dX2_liken_88 (by decide) (⟨Or.inl ⟨cMg w (w.1 s0) (w.1 t0), by rw [cLk, if_neg (by omega), if_pos (by omega)], rfl, fun k hk => ⟨⟨by rw [h1 k (by omega)]; rfl, by show (if w.1 k = w.1 t0 then w.1 s0 else w.1 k) < 8; split; exact hx8; exact (hA k hk).1.2⟩, by rw [hf2 15 k rfl]; exact (hA k hk).2⟩⟩, hf2.mono gb_14, rfl⟩)
          · refine lv_aload_n hx hb dX2_liken_61 rfl (lv_at hl 3 rfl) ?_
            refine g_getr (k := 4) (j := 14) hx hb hts hown hK hθ hB cf2 (by decide) rfl (by decide) kw_86 rfl rfl dX2_liken_62 ?_
            refine lv_iload hx hb dX2_liken_65 (lv_at hl 0 rfl) ?_
            refine g_iald (k := i) hx hb hK hB (by decide) rfl (by omega) (Nat.lt_of_lt_of_eq (by omega : i < 8) (Eq.symm rfl)) (by decide) dX2_liken_67 ?_
            refine z_top (b := (((w.1 i) : Nat) : Int)) (h2 i (Nat.le_refl _) (by omega)) ?_
            have hi8 := (hA i (by omega)).1.2
            refine lv_iload hx hb dX2_liken_68 (lv_at hl 1 rfl) ?_
            refine z_icmp_ne (tgt := 81) hx hb dX2_liken_70 (by decide) ⟨by omega, by omega⟩ ⟨by omega, by omega⟩ (fun c_4 => ?_) (fun c_4 => ?_)
            · have hc : ¬ w.1 i = w.1 t0 := by omega
              refine z_iinc (k := 0) (lv' := [(5, .int (iZ (((i : Nat) : Int) + 1))), (4, .int (iZ (((w.1 t0) : Nat) : Int))), (3, .int (iZ (((w.1 s0) : Nat) : Int))), (0, .ref (tad θ 13)), (1, .int (iZ ((s0 : Nat) : Int))), (2, .int (iZ ((t0 : Nat) : Int)))]) hx hb dX2_liken_81 hl rfl (by decide) rfl (fun ls hl => ?_)
              have hl : lv_has ls 6 [(5, .int (iZ (((i + 1) : Nat) : Int))), (4, .int (iZ (((w.1 t0) : Nat) : Int))), (3, .int (iZ (((w.1 s0) : Nat) : Int))), (0, .ref (tad θ 13)), (1, .int (iZ ((s0 : Nat) : Int))), (2, .int (iZ ((t0 : Nat) : Int)))] := by have e9 : (((i : Nat) : Int) + 1) = (((i + 1) : Nat) : Int) := (by omega); rw [e9] at hl; exact hl
              refine lv_goto (tgt := 54) hx hb dX2_liken_84 (by decide) ?_
              exact ih54 (i + 1) σ2 _ _ _ (by omega) (by omega) (lt_s h1 (by rw [h2 i (Nat.le_refl _) (by omega), if_neg hc])) (fun k h h8 => h2 k (by omega) h8) hf2 hB (lv_sub hl [0, 1, 2, 3, 4, 5] rfl)
            · have hc : w.1 i = w.1 t0 := by omega
              refine lv_aload_n hx hb dX2_liken_73 rfl (lv_at hl 3 rfl) ?_
              refine g_getr (k := 4) (j := 14) hx hb hts hown hK hθ hB cf2 (by decide) rfl (by decide) kw_86 rfl rfl dX2_liken_74 ?_
              refine lv_iload hx hb dX2_liken_77 (lv_at hl 0 rfl) ?_
              refine lv_iload_n hx hb dX2_liken_79 rfl (lv_at hl 2 rfl) ?_
              refine g_iast (k := i) hx hb hK hθ hB (by decide) rfl (by omega) (Nat.lt_of_lt_of_eq (by omega : i < 8) (Eq.symm rfl)) (by decide) ⟨by omega, by omega⟩ dX2_liken_80 (fun H locs hB => ?_)
              obtain ⟨σ3, hσ3⟩ : ∃ x_ : gS, x_ = up2 σ2 14 i (((w.1 s0) : Nat) : Int) := ⟨_, rfl⟩
              rw [← hσ3] at hB
              have hR := hB.1.2
              refine z_iinc (k := 0) (lv' := [(5, .int (iZ (((i : Nat) : Int) + 1))), (4, .int (iZ (((w.1 t0) : Nat) : Int))), (3, .int (iZ (((w.1 s0) : Nat) : Int))), (0, .ref (tad θ 13)), (1, .int (iZ ((s0 : Nat) : Int))), (2, .int (iZ ((t0 : Nat) : Int)))]) hx hb dX2_liken_81 hl rfl (by decide) rfl (fun ls hl => ?_)
              have hl : lv_has ls 6 [(5, .int (iZ (((i + 1) : Nat) : Int))), (4, .int (iZ (((w.1 t0) : Nat) : Int))), (3, .int (iZ (((w.1 s0) : Nat) : Int))), (0, .ref (tad θ 13)), (1, .int (iZ ((s0 : Nat) : Int))), (2, .int (iZ ((t0 : Nat) : Int)))] := by have e9 : (((i : Nat) : Int) + 1) = (((i + 1) : Nat) : Int) := (by omega); rw [e9] at hl; exact hl
              refine lv_goto (tgt := 54) hx hb dX2_liken_84 (by decide) ?_
              exact ih54 (i + 1) σ3 _ _ _ (by omega) (by omega) (lt_s (fun k h => by rw [hσ3, up2_k _ _ (by omega)]; exact h1 k h) (by rw [hσ3, up2_eq, if_pos hc])) (fun k h h8 => by rw [hσ3, up2_k _ _ (by omega)]; exact h2 k (by omega) h8) (by rw [hσ3]; exact hf2.tr (fr.up rfl)) hB (lv_sub hl [0, 1, 2, 3, 4, 5] rfl)
      exact loop54 _ 0 σ _ _ _ (Nat.lt_succ_self _) (by omega) (fun k h => absurd h (Nat.not_lt_zero _)) (fun k _ h => (hA k h).1.1) fr.rf hB (lv_sub hl [0, 1, 2, 3, 4, 5] rfl)
    · refine lv_aload_n hx hb dX2_liken_34 rfl (lv_at hl 2 rfl) ?_
      refine lv_iload_n hx hb dX2_liken_35 rfl (lv_at hl 3 rfl) ?_
      refine lv_aload_n hx hb dX2_liken_36 rfl (lv_at hl 2 rfl) ?_
      refine g_getr (k := 5) (j := 15) hx hb hts hown hK hθ hB cf2 (by decide) rfl (by decide) kw_87 rfl rfl dX2_liken_37 ?_
      refine lv_iload hx hb dX2_liken_40 (lv_at hl 0 rfl) ?_
      refine g_iald (k := (w.1 t0)) hx hb hK hB (by decide) rfl (by omega) (Nat.lt_of_lt_of_eq (by omega : (w.1 t0) < 8) (Eq.symm rfl)) (by decide) dX2_liken_42 ?_
      refine z_top (b := (w.2 (w.1 t0))) ((hA _ hy8).2) ?_
      refine g_calli (g_runV (i := 13) (As := [.int (iZ ((s0 : Nat) : Int)), .int (iZ (w.2 (w.1 t0)))]) (rest := []) hx hb hml hown hts hK hst hB (mX2_bind l θ hθ σ z w hA s0 (hs) (w.2 (w.1 t0)) hr9) mv_X2_bind kw_384 cf2 (by decide) rfl rfl hl.1 rfl (Nat.le_of_ble_eq_true rfl) ⟨by decide, by decide⟩ ⟨Nat.le_refl _, Nat.le_refl _⟩ dX2_liken_43) hB (fun q_6 σ1 z_5 H locs hq_6 hp1 hB => ?_)
      obtain ⟨hp1, hf1, e2_⟩ := hp1
      rw [e2_] at hB
      clear e2_
      have hR := hB.1.2
      rcases hp1 with ⟨w1, e1, hq1, hA1⟩ | ⟨e1, hq1⟩
      · subst hq1
        refine z_if_ne (tgt := 51) hx hb dX2_liken_46 (by decide) ⟨by decide, by decide⟩ (fun c_7 => ?_) (fun c_7 => ?_)
        · refine lv_iconst (v := iZ 0) hx hb dX2_liken_51 rfl ?_
          refine lv_istore (lv' := [(5, .int (iZ 0)), (4, .int (iZ (((w.1 t0) : Nat) : Int))), (3, .int (iZ (((w.1 s0) : Nat) : Int))), (0, .ref (tad θ 13)), (1, .int (iZ ((s0 : Nat) : Int))), (2, .int (iZ ((t0 : Nat) : Int)))]) hx hb dX2_liken_52 hl (by decide) rfl (fun ls hl => ?_)
          have loop54 : ∀ (n54 : Nat) (i : Nat) (σ2 : gS) (H : Heap) (locs : List Loc) (ls : Array Slot), 8 - i < n54 → (i ≤ 8) → (∀ k, k < i → σ2 14 k = ((if w.1 k = w.1 t0 then w.1 s0 else w.1 k : Nat) : Int)) → (∀ k, i ≤ k → k < 8 → σ2 14 k = ((w.1 k : Nat) : Int)) → (fr (fun i _ => i == 14) σ1 σ2) →  gB θ σ2 z s.heap H locs → lv_has ls 6 [(5, .int (iZ ((i : Nat) : Int))), (4, .int (iZ (((w.1 t0) : Nat) : Int))), (3, .int (iZ (((w.1 s0) : Nat) : Int))), (0, .ref (tad θ 13)), (1, .int (iZ ((s0 : Nat) : Int))), (2, .int (iZ ((t0 : Nat) : Int)))] → W p l e (gRm 1 23) s m args below meth c H locs 0 0 (MQ below (gQi θ (fun q σ' z' => oC (cLk w s0 t0) q σ' ∧ fr wGB σ σ' ∧ z' = z)) args s 0 0 (tA θ)) (F0 m 54 ls []) := by
            intro n54
            induction n54 with
            | zero => intro i σ2 H locs ls hmu; exact absurd hmu (Nat.not_lt_zero _)
            | succ n54 ih54 =>
              intro i σ2 H locs ls hmu hi h1 h2 hf2 hB hl
              have hR := hB.1.2
              refine lv_iload hx hb dX2_liken_54 (lv_at hl 0 rfl) ?_
              refine lv_bipush (v := iZ 8) hx hb dX2_liken_56 (by decide) ?_
              refine z_icmp_ge (tgt := 87) hx hb dX2_liken_58 (by decide) ⟨by omega, by omega⟩ ⟨by decide, by decide⟩ (fun c_8 => ?_) (fun c_8 => ?_)
              · refine lv_iconst (v := iZ 1) hx hb dX2_liken_87 rfl ?_
                exact g_zret hx hb hr hlk hB dX2_liken_88 (by decide) (⟨Or.inl ⟨cMg w1 (w.1 s0) (w.1 t0), by rw [cLk, if_neg (by omega), if_neg (by omega), e1]; rfl, rfl, fun k hk => ⟨⟨by rw [h1 k (by omega)]; show _ = (((if w1.1 k = w.1 t0 then w.1 s0 else w1.1 k : Nat)) : Int); rw [cBd_fst e1], by show (if w1.1 k = w.1 t0 then w.1 s0 else w1.1 k) < 8; split; exact hx8; exact (hA1 k hk).1.2⟩, by rw [hf2 15 k rfl]; exact (hA1 k hk).2⟩⟩, hf1.tr (hf2.mono gb_14), rfl⟩)
              · refine lv_aload_n hx hb dX2_liken_61 rfl (lv_at hl 3 rfl) ?_
                refine g_getr (k := 4) (j := 14) hx hb hts hown hK hθ hB cf2 (by decide) rfl (by decide) kw_86 rfl rfl dX2_liken_62 ?_
                refine lv_iload hx hb dX2_liken_65 (lv_at hl 0 rfl) ?_
                refine g_iald (k := i) hx hb hK hB (by decide) rfl (by omega) (Nat.lt_of_lt_of_eq (by omega : i < 8) (Eq.symm rfl)) (by decide) dX2_liken_67 ?_
                refine z_top (b := (((w.1 i) : Nat) : Int)) (h2 i (Nat.le_refl _) (by omega)) ?_
                have hi8 := (hA i (by omega)).1.2
                refine lv_iload hx hb dX2_liken_68 (lv_at hl 1 rfl) ?_
                refine z_icmp_ne (tgt := 81) hx hb dX2_liken_70 (by decide) ⟨by omega, by omega⟩ ⟨by omega, by omega⟩ (fun c_9 => ?_) (fun c_9 => ?_)
                · have hc : ¬ w.1 i = w.1 t0 := by omega
                  refine z_iinc (k := 0) (lv' := [(5, .int (iZ (((i : Nat) : Int) + 1))), (4, .int (iZ (((w.1 t0) : Nat) : Int))), (3, .int (iZ (((w.1 s0) : Nat) : Int))), (0, .ref (tad θ 13)), (1, .int (iZ ((s0 : Nat) : Int))), (2, .int (iZ ((t0 : Nat) : Int)))]) hx hb dX2_liken_81 hl rfl (by decide) rfl (fun ls hl => ?_)
                  have hl : lv_has ls 6 [(5, .int (iZ (((i + 1) : Nat) : Int))), (4, .int (iZ (((w.1 t0) : Nat) : Int))), (3, .int (iZ (((w.1 s0) : Nat) : Int))), (0, .ref (tad θ 13)), (1, .int (iZ ((s0 : Nat) : Int))), (2, .int (iZ ((t0 : Nat) : Int)))] := by have e9 : (((i : Nat) : Int) + 1) = (((i + 1) : Nat) : Int) := (by omega); rw [e9] at hl; exact hl
                  refine lv_goto (tgt := 54) hx hb dX2_liken_84 (by decide) ?_
                  exact ih54 (i + 1) σ2 _ _ _ (by omega) (by omega) (lt_s h1 (by rw [h2 i (Nat.le_refl _) (by omega), if_neg hc])) (fun k h h8 => h2 k (by omega) h8) hf2 hB (lv_sub hl [0, 1, 2, 3, 4, 5] rfl)
                · have hc : w.1 i = w.1 t0 := by omega
                  refine lv_aload_n hx hb dX2_liken_73 rfl (lv_at hl 3 rfl) ?_
                  refine g_getr (k := 4) (j := 14) hx hb hts hown hK hθ hB cf2 (by decide) rfl (by decide) kw_86 rfl rfl dX2_liken_74 ?_
                  refine lv_iload hx hb dX2_liken_77 (lv_at hl 0 rfl) ?_
                  refine lv_iload_n hx hb dX2_liken_79 rfl (lv_at hl 2 rfl) ?_
                  refine g_iast (k := i) hx hb hK hθ hB (by decide) rfl (by omega) (Nat.lt_of_lt_of_eq (by omega : i < 8) (Eq.symm rfl)) (by decide) ⟨by omega, by omega⟩ dX2_liken_80 (fun H locs hB => ?_)
                  obtain ⟨σ3, hσ3⟩ : ∃ x_ : gS, x_ = up2 σ2 14 i (((w.1 s0) : Nat) : Int) := ⟨_, rfl⟩
                  rw [← hσ3] at hB
                  have hR := hB.1.2
                  refine z_iinc (k := 0) (lv' := [(5, .int (iZ (((i : Nat) : Int) + 1))), (4, .int (iZ (((w.1 t0) : Nat) : Int))), (3, .int (iZ (((w.1 s0) : Nat) : Int))), (0, .ref (tad θ 13)), (1, .int (iZ ((s0 : Nat) : Int))), (2, .int (iZ ((t0 : Nat) : Int)))]) hx hb dX2_liken_81 hl rfl (by decide) rfl (fun ls hl => ?_)
                  have hl : lv_has ls 6 [(5, .int (iZ (((i + 1) : Nat) : Int))), (4, .int (iZ (((w.1 t0) : Nat) : Int))), (3, .int (iZ (((w.1 s0) : Nat) : Int))), (0, .ref (tad θ 13)), (1, .int (iZ ((s0 : Nat) : Int))), (2, .int (iZ ((t0 : Nat) : Int)))] := by have e9 : (((i : Nat) : Int) + 1) = (((i + 1) : Nat) : Int) := (by omega); rw [e9] at hl; exact hl
                  refine lv_goto (tgt := 54) hx hb dX2_liken_84 (by decide) ?_
                  exact ih54 (i + 1) σ3 _ _ _ (by omega) (by omega) (lt_s (fun k h => by rw [hσ3, up2_k _ _ (by omega)]; exact h1 k h) (by rw [hσ3, up2_eq, if_pos hc])) (fun k h h8 => by rw [hσ3, up2_k _ _ (by omega)]; exact h2 k (by omega) h8) (by rw [hσ3]; exact hf2.tr (fr.up rfl)) hB (lv_sub hl [0, 1, 2, 3, 4, 5] rfl)
          exact loop54 _ 0 σ1 _ _ _ (Nat.lt_succ_self _) (by omega) (fun k h => absurd h (Nat.not_lt_zero _)) (fun k _ h => by rw [(hA1 k h).1.1, cBd_fst e1]) fr.rf hB (lv_sub hl [0, 1, 2, 3, 4, 5] rfl)
        · exact absurd c_7 (by decide)
      · subst hq1
        refine z_if_ne (tgt := 51) hx hb dX2_liken_46 (by decide) ⟨by decide, by decide⟩ (fun c_10 => ?_) (fun c_10 => ?_)
        · exact absurd (by decide) c_10
        · refine lv_iconst (v := iZ 0) hx hb dX2_liken_49 rfl ?_
          exact g_zret hx hb hr hlk hB dX2_liken_50 (by decide) (⟨Or.inr ⟨by rw [cLk, if_neg (by omega), if_neg (by omega), e1]; rfl, rfl⟩, hf1, rfl⟩)
  · refine lv_iconst (v := iZ 1) hx hb dX2_liken_21 rfl ?_
    exact g_zret hx hb hr hlk hB dX2_liken_22 (by decide) (⟨Or.inl ⟨w, by rw [cLk, if_pos (by omega)], rfl, hA⟩, fr.rf, rfl⟩)
