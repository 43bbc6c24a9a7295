theorem oc_18 (i k : Nat) (h : (fun i (_ : Nat) => i == 18) i k = true) : wOC i k = true := by simp at h; subst h; rfl
theorem oc_19 (i k : Nat) (h : (fun i (_ : Nat) => i == 19) i k = true) : wOC i k = true := by simp at h; subst h; rfl
set_option maxHeartbeats 4000000 in
set_option maxRecDepth 100000 in
theorem mX2_putInOrder (l : Launch) (θ : gT) (hθ : gOK θ) (σ : gS) (z : gZ) (N : Nat) (hG : cW (fp σ 3) N) (S : Nat → Int) (hS : sOK S N) (h16 : ∀ k, k < N → σ 16 k = S k) (hc : σ 13 3 = (N : Int)) : GV l θ yX2_putInOrder cX2_putInOrder 5 4 93 [.ref (tad θ 13), .ref (tad θ 3)] σ z (fun σ' z' => (σ' 13 1 = (((2 ^ N - 1) &&& ((oS (wtC (fp σ 3) S) N N).1 ^^^ 255) : Nat) : Int) ∧ (∀ k, k < 8 → σ' 18 k = (oS (wtC (fp σ 3) S) N N).2 k) ∧ ∀ i, i < N → σ' 19 i = nO (fsR (rdy (wtC (fp σ 3) S) (oS (wtC (fp σ 3) S) N i).1) N)) ∧ fr wOC σ σ' ∧ z' = z) := by
  refine g_enter (ret := none) (by decide +kernel) (Nat.le_of_ble_eq_true rfl) ?_
  intro p e s m args below meth c ls F hB hl
  obtain ⟨hx, hb, hr, hml, hown, hts, hlk, hK, hst⟩ := F
  have hR := hB.1.2
  have hl : lv_has ls 5 [(0, .ref (tad θ 13)), (1, .ref (tad θ 3))] := hl
  have hN8 := hG.2.1
  have hpw := pow_N hN8
  refine lv_aload_n hx hb dX2_putInOrder_0 rfl (lv_at hl 0 rfl) ?_
  refine g_getr (k := 8) (j := 18) hx hb hts hown hK hθ hB cf2 (by decide) rfl (by decide) kw_93 rfl rfl dX2_putInOrder_1 ?_
  refine lv_bipush (v := iZ (-9)) hx hb dX2_putInOrder_4 (by decide) ?_
  refine g_callv (g_runS (As := [.ref (tad θ 18), .int (iZ (-9))]) (rest := []) hx hb hml hown hts hK hst hB (mJ7_fill_53178 l θ hθ σ z 18 8 (by decide) rfl rfl (-9) ⟨by decide, by decide⟩) ms_J7_fill_53178 kw_412 rfl hl.1 rfl (Nat.le_of_ble_eq_true rfl) ⟨by decide, by decide⟩ ⟨Nat.le_refl _, Nat.le_refl _⟩ dX2_putInOrder_6) hB (fun σ1 z_1 H locs hp1 hB => ?_)
  obtain ⟨hp1, hf1, e2_⟩ := hp1
  rw [e2_] at hB
  clear e2_
  have hR := hB.1.2
  refine lv_aload_n hx hb dX2_putInOrder_9 rfl (lv_at hl 0 rfl) ?_
  refine g_getr (k := 9) (j := 19) hx hb hts hown hK hθ hB cf2 (by decide) rfl (by decide) kw_95 rfl rfl dX2_putInOrder_10 ?_
  refine lv_bipush (v := iZ (-9)) hx hb dX2_putInOrder_13 (by decide) ?_
  refine g_callv (g_runS (As := [.ref (tad θ 19), .int (iZ (-9))]) (rest := []) hx hb hml hown hts hK hst hB (mJ7_fill_53178 l θ hθ σ1 z 19 8 (by decide) rfl rfl (-9) ⟨by decide, by decide⟩) ms_J7_fill_53178 kw_412 rfl hl.1 rfl (Nat.le_of_ble_eq_true rfl) ⟨by decide, by decide⟩ ⟨Nat.le_refl _, Nat.le_refl _⟩ dX2_putInOrder_15) hB (fun σ2 z_3 H locs hp2 hB => ?_)
  obtain ⟨hp2, hf2, e2_⟩ := hp2
  rw [e2_] at hB
  clear e2_
  have hR := hB.1.2
  refine lv_iconst (v := iZ 0) hx hb dX2_putInOrder_18 rfl ?_
  refine lv_istore_n (lv' := [(2, .int (iZ 0)), (0, .ref (tad θ 13)), (1, .ref (tad θ 3))]) hx hb dX2_putInOrder_19 rfl hl (by decide) rfl (fun ls hl => ?_)
  refine lv_iconst (v := iZ 0) hx hb dX2_putInOrder_20 rfl ?_
  refine lv_istore_n (lv' := [(3, .int (iZ 0)), (2, .int (iZ 0)), (0, .ref (tad θ 13)), (1, .ref (tad θ 3))]) hx hb dX2_putInOrder_21 rfl hl (by decide) rfl (fun ls hl => ?_)
  have loop22 : ∀ (n22 : Nat) (j : Nat) (d : Nat) (σ3 : gS) (H : Heap) (locs : List Loc) (ls : Array Slot), N - j < n22 → (j ≤ N) → (d = (oS (wtC (fp σ 3) S) N j).1) → (∀ k, k < 8 → σ3 18 k = (oS (wtC (fp σ 3) S) N j).2 k) → (∀ i, i < j → σ3 19 i = nO (fsR (rdy (wtC (fp σ 3) S) (oS (wtC (fp σ 3) S) N i).1) N)) → (∀ i, j ≤ i → i < 8 → σ3 19 i = -9) → (fr wOC σ σ3) →  gB θ σ3 z s.heap H locs → lv_has ls 5 [(3, .int (iZ ((j : Nat) : Int))), (2, .int (iZ ((d : Nat) : Int))), (0, .ref (tad θ 13)), (1, .ref (tad θ 3))] → W p l e (gRm 4 93) s m args below meth c H locs 0 0 (MQ below (gQv θ (fun σ' z' => (σ' 13 1 = (((2 ^ N - 1) &&& ((oS (wtC (fp σ 3) S) N N).1 ^^^ 255) : Nat) : Int) ∧ (∀ k, k < 8 → σ' 18 k = (oS (wtC (fp σ 3) S) N N).2 k) ∧ ∀ i, i < N → σ' 19 i = nO (fsR (rdy (wtC (fp σ 3) S) (oS (wtC (fp σ 3) S) N i).1) N)) ∧ fr wOC σ σ' ∧ z' = z)) args s 0 0 (tA θ)) (F0 m 22 ls []) := by
    intro n22
    induction n22 with
    | zero => intro j d σ3 H locs ls hmu; exact absurd hmu (Nat.not_lt_zero _)
    | succ n22 ih22 =>
      intro j d σ3 H locs ls hmu hj hdd ho8 ht8 ht9 hf hB hl
      have hR := hB.1.2
      have hG3 := oc_fp3 hf
      have hd8 : d < 256 := by rw [hdd]; exact oS_lt hN8 j
      have hc3 : σ3 13 3 = (N : Int) := by rw [hf 13 3 rfl]; exact hc
      refine lv_iload_n hx hb dX2_putInOrder_22 rfl (lv_at hl 0 rfl) ?_
      refine lv_aload_n hx hb dX2_putInOrder_23 rfl (lv_at hl 2 rfl) ?_
      refine g_geti (k := 3) hx hb hts hown hK hB cf2 (by decide) rfl (by decide) kw_85 rfl dX2_putInOrder_24 ?_
      refine z_top (b := ((N : Nat) : Int)) (hc3) ?_
      refine z_icmp_ge (tgt := 74) hx hb dX2_putInOrder_27 (by decide) ⟨by omega, by omega⟩ ⟨by omega, by omega⟩ (fun c_5 => ?_) (fun c_5 => ?_)
      · refine lv_aload_n hx hb dX2_putInOrder_74 rfl (lv_at hl 2 rfl) ?_
        refine lv_iconst (v := iZ 1) hx hb dX2_putInOrder_75 rfl ?_
        refine lv_aload_n hx hb dX2_putInOrder_76 rfl (lv_at hl 2 rfl) ?_
        refine g_geti (k := 3) hx hb hts hown hK hB cf2 (by decide) rfl (by decide) kw_85 rfl dX2_putInOrder_77 ?_
        refine z_top (b := ((N : Nat) : Int)) (hc3) ?_
        refine z_ishl1 (j := N) hx hb (by omega) dX2_putInOrder_80 ?_
        refine lv_iconst (v := iZ 1) hx hb dX2_putInOrder_81 rfl ?_
        refine z_isub hx hb dX2_putInOrder_82 ?_
        refine z_top (b := (((2 ^ N - 1) : Nat) : Int)) (by omega) ?_
        refine lv_iload_n hx hb dX2_putInOrder_83 rfl (lv_at hl 1 rfl) ?_
        refine lv_iconst (v := iZ (-1)) hx hb dX2_putInOrder_84 rfl ?_
        refine lv_ixor hx hb dX2_putInOrder_85 ?_
        refine z_iandnot (a := (2 ^ N - 1)) (b := d) hx hb (by omega) dX2_putInOrder_86 ?_
        refine g_putI (k := 1) hx hb hts hown hK hθ hB cf2 tyX2 tyX2_ok (by decide) rfl (by decide) kw_81 rfl rfl rfl ⟨by omega, by have := Nat.and_le_left (n := 2 ^ N - 1) (m := d ^^^ 255); omega⟩ dX2_putInOrder_87 (fun H locs hB => ?_)
        obtain ⟨σ6, hσ6⟩ : ∃ x_ : gS, x_ = up2 σ3 13 1 ((((2 ^ N - 1) &&& (d ^^^ 255)) : Nat) : Int) := ⟨_, rfl⟩
        rw [← hσ6] at hB
        have hR := hB.1.2
        exact g_vret hx hb hr hlk hB dX2_putInOrder_90 (⟨⟨by rw [hσ6, up2_eq, hdd, show j = N by omega], fun k hk => by rw [hσ6, up2_c _ _ (by decide), ho8 k hk, show j = N by omega], fun i hi => by rw [hσ6, up2_c _ _ (by decide)]; exact ht8 i (by omega)⟩, by rw [hσ6]; exact hf.tr (fr.up rfl), rfl⟩)
      · refine lv_aload_n hx hb dX2_putInOrder_30 rfl (lv_at hl 2 rfl) ?_
        refine lv_aload_n hx hb dX2_putInOrder_31 rfl (lv_at hl 3 rfl) ?_
        refine lv_iload_n hx hb dX2_putInOrder_32 rfl (lv_at hl 1 rfl) ?_
        refine g_calli (g_runV (i := 13) (As := [.ref (tad θ 3), .int (iZ ((d : Nat) : Int))]) (rest := []) hx hb hml hown hts hK hst hB (mX2_leastReady l θ hθ σ3 z N (by rw [hG3]; exact hG) S hS (fun k hk => by rw [hf 16 k rfl]; exact h16 k hk) hc3 d hd8) mv_X2_leastReady kw_413 cf2 (by decide) rfl rfl hl.1 rfl (Nat.le_of_ble_eq_true rfl) ⟨by decide, by decide⟩ ⟨Nat.le_refl _, Nat.le_refl _⟩ dX2_putInOrder_33) hB (fun ql σ_6 z_7 H locs hql hpl hB => ?_)
        obtain ⟨hpl, e1_, e2_⟩ := hpl
        rw [e1_, e2_] at hB
        clear e1_ e2_
        rw [hG3] at hpl
        have hpl : (ql = -9 ∧ fsR (rdy (wtC (fp σ 3) S) d) N = none) ∨ (∃ k, k < N ∧ ql = ((k : Nat) : Int) ∧ fsR (rdy (wtC (fp σ 3) S) d) N = some k) := by rw [hpl]; exact nO_in
        rcases hpl with ⟨hql, hfn⟩ | ⟨k, hkN, hql, hfs⟩
        · subst hql
          refine lv_istore (lv' := [(4, .int (iZ (-9))), (3, .int (iZ ((j : Nat) : Int))), (2, .int (iZ ((d : Nat) : Int))), (0, .ref (tad θ 13)), (1, .ref (tad θ 3))]) hx hb dX2_putInOrder_36 hl (by decide) rfl (fun ls hl => ?_)
          refine lv_iload hx hb dX2_putInOrder_38 (lv_at hl 0 rfl) ?_
          refine lv_bipush (v := iZ (-9)) hx hb dX2_putInOrder_40 (by decide) ?_
          refine z_icmp_eq (tgt := 68) hx hb dX2_putInOrder_42 (by decide) ⟨by decide, by decide⟩ ⟨by decide, by decide⟩ (fun c_8 => ?_) (fun c_8 => ?_)
          · refine z_iinc (k := 1) (lv' := [(3, .int (iZ (((j : Nat) : Int) + 1))), (4, .int (iZ (-9))), (2, .int (iZ ((d : Nat) : Int))), (0, .ref (tad θ 13)), (1, .ref (tad θ 3))]) hx hb dX2_putInOrder_68 hl rfl (by decide) rfl (fun ls hl => ?_)
            have hl : lv_has ls 5 [(3, .int (iZ (((j + 1) : Nat) : Int))), (4, .int (iZ (-9))), (2, .int (iZ ((d : Nat) : Int))), (0, .ref (tad θ 13)), (1, .ref (tad θ 3))] := by have e9 : (((j : Nat) : Int) + 1) = (((j + 1) : Nat) : Int) := (by omega); rw [e9] at hl; exact hl
            refine lv_goto (tgt := 22) hx hb dX2_putInOrder_71 (by decide) ?_
            exact ih22 (j + 1) d σ3 _ _ _ (by omega) (by omega) (by rw [(show oS (wtC (fp σ 3) S) N (j + 1) = oS (wtC (fp σ 3) S) N j from oS_stop (by rw [← hdd]; exact hfn) 1)]; exact hdd) (by rw [(show oS (wtC (fp σ 3) S) N (j + 1) = oS (wtC (fp σ 3) S) N j from oS_stop (by rw [← hdd]; exact hfn) 1)]; exact ho8) (lt_s ht8 (by rw [← hdd, hfn]; exact ht9 j (Nat.le_refl _) (by omega))) (fun i h1 h2 => ht9 i (by omega) h2) hf hB (lv_sub hl [0, 2, 3, 4] rfl)
          · exact absurd (by decide) c_8
        · subst hql
          refine lv_istore (lv' := [(4, .int (iZ ((k : Nat) : Int))), (3, .int (iZ ((j : Nat) : Int))), (2, .int (iZ ((d : Nat) : Int))), (0, .ref (tad θ 13)), (1, .ref (tad θ 3))]) hx hb dX2_putInOrder_36 hl (by decide) rfl (fun ls hl => ?_)
          refine lv_iload hx hb dX2_putInOrder_38 (lv_at hl 0 rfl) ?_
          refine lv_bipush (v := iZ (-9)) hx hb dX2_putInOrder_40 (by decide) ?_
          refine z_icmp_eq (tgt := 68) hx hb dX2_putInOrder_42 (by decide) ⟨by omega, by omega⟩ ⟨by decide, by decide⟩ (fun c_9 => ?_) (fun c_9 => ?_)
          · exfalso; omega
          · refine lv_aload_n hx hb dX2_putInOrder_45 rfl (lv_at hl 3 rfl) ?_
            refine g_getr (k := 8) (j := 18) hx hb hts hown hK hθ hB cf2 (by decide) rfl (by decide) kw_93 rfl rfl dX2_putInOrder_46 ?_
            refine lv_iload hx hb dX2_putInOrder_49 (lv_at hl 0 rfl) ?_
            refine lv_iload_n hx hb dX2_putInOrder_51 rfl (lv_at hl 1 rfl) ?_
            refine g_iast (k := k) hx hb hK hθ hB (by decide) rfl (by omega) (Nat.lt_of_lt_of_eq (by omega : k < 8) (Eq.symm rfl)) (by decide) ⟨by omega, by omega⟩ dX2_putInOrder_52 (fun H locs hB => ?_)
            obtain ⟨σ4, hσ4⟩ : ∃ x_ : gS, x_ = up2 σ3 18 k ((j : Nat) : Int) := ⟨_, rfl⟩
            rw [← hσ4] at hB
            have hR := hB.1.2
            refine lv_aload_n hx hb dX2_putInOrder_53 rfl (lv_at hl 3 rfl) ?_
            refine g_getr (k := 9) (j := 19) hx hb hts hown hK hθ hB cf2 (by decide) rfl (by decide) kw_95 rfl rfl dX2_putInOrder_54 ?_
            refine lv_iload_n hx hb dX2_putInOrder_57 rfl (lv_at hl 1 rfl) ?_
            refine lv_iload hx hb dX2_putInOrder_58 (lv_at hl 0 rfl) ?_
            refine g_iast (k := j) hx hb hK hθ hB (by decide) rfl (by omega) (Nat.lt_of_lt_of_eq (by omega : j < 8) (Eq.symm rfl)) (by decide) ⟨by omega, by omega⟩ dX2_putInOrder_60 (fun H locs hB => ?_)
            obtain ⟨σ5, hσ5⟩ : ∃ x_ : gS, x_ = up2 σ4 19 j ((k : Nat) : Int) := ⟨_, rfl⟩
            rw [← hσ5] at hB
            have hR := hB.1.2
            refine lv_iload_n hx hb dX2_putInOrder_61 rfl (lv_at hl 2 rfl) ?_
            refine lv_iconst (v := iZ 1) hx hb dX2_putInOrder_62 rfl ?_
            refine lv_iload hx hb dX2_putInOrder_63 (lv_at hl 0 rfl) ?_
            refine z_ishl1 (j := k) hx hb (by omega) dX2_putInOrder_65 ?_
            refine z_ior (a := d) (b := (2 ^ k)) hx hb dX2_putInOrder_66 ?_
            refine lv_istore_n (lv' := [(2, .int (iZ (((d ||| (2 ^ k)) : Nat) : Int))), (4, .int (iZ ((k : Nat) : Int))), (3, .int (iZ ((j : Nat) : Int))), (0, .ref (tad θ 13)), (1, .ref (tad θ 3))]) hx hb dX2_putInOrder_67 rfl hl (by decide) rfl (fun ls hl => ?_)
            refine z_iinc (k := 2) (lv' := [(3, .int (iZ (((j : Nat) : Int) + 1))), (2, .int (iZ (((d ||| (2 ^ k)) : Nat) : Int))), (4, .int (iZ ((k : Nat) : Int))), (0, .ref (tad θ 13)), (1, .ref (tad θ 3))]) hx hb dX2_putInOrder_68 hl rfl (by decide) rfl (fun ls hl => ?_)
            have hl : lv_has ls 5 [(3, .int (iZ (((j + 1) : Nat) : Int))), (2, .int (iZ (((d ||| (2 ^ k)) : Nat) : Int))), (4, .int (iZ ((k : Nat) : Int))), (0, .ref (tad θ 13)), (1, .ref (tad θ 3))] := by have e9 : (((j : Nat) : Int) + 1) = (((j + 1) : Nat) : Int) := (by omega); rw [e9] at hl; exact hl
            refine lv_goto (tgt := 22) hx hb dX2_putInOrder_71 (by decide) ?_
            exact ih22 (j + 1) (d ||| (2 ^ k)) σ5 _ _ _ (by omega) (by omega) (by rw [oS_succ (by rw [← hdd]; exact hfs), ← hdd]) (fun i hi => by rw [oS_succ (by rw [← hdd]; exact hfs), hσ5, up2_c _ _ (by decide), hσ4]; exact up_upn ho8 k _ i hi) (lt_s (fun i hi => by rw [hσ5, up2_k _ _ (by omega), hσ4, up2_c _ _ (by decide)]; exact ht8 i hi) (by rw [hσ5, up2_eq, ← hdd, hfs]; rfl)) (fun i h1 h2 => by rw [hσ5, up2_k _ _ (by omega), hσ4, up2_c _ _ (by decide)]; exact ht9 i (by omega) h2) (by rw [hσ5, hσ4]; exact (hf.tr (fr.up rfl)).tr (fr.up rfl)) hB (lv_sub hl [0, 1, 3, 4] rfl)
  exact loop22 _ 0 0 σ2 _ _ _ (Nat.lt_succ_self _) (by omega) rfl (fun k hk => by rw [hf2 18 k rfl]; exact hp1 k hk) (fun i h => absurd h (Nat.not_lt_zero _)) (fun i _ h => hp2 i h) ((hf1.mono oc_18).tr (hf2.mono oc_19)) hB (lv_sub hl [0, 1, 2, 3] rfl)
set_option maxHeartbeats 4000000 in
set_option maxRecDepth 100000 in
theorem mX2_highest (l : Launch) (θ : gT) (hθ : gOK θ) (σ : gS) (z : gZ) (N : Nat) (hG : cW (fp σ 3) N) (L : Nat → Int) (h20 : ∀ k, k < 8 → σ 20 k = L k) (k : Nat) (hk : k < N) : GI l θ yX2_highest cX2_highest 5 (some .int) 2 45 [.ref (tad θ 13), .ref (tad θ 3), .int (iZ ((k : Nat) : Int))] σ z (fun q σ' z' => (q = hgC (fp σ 3) L k 3) ∧ σ' = σ ∧ z' = z) := by
  refine g_enter (ret := (some .int)) (by decide +kernel) (Nat.le_of_ble_eq_true rfl) ?_
  intro p e s m args below meth c ls F hB hl
  obtain ⟨hx, hb, hr, hml, hown, hts, hlk, hK, hst⟩ := F
  have hR := hB.1.2
  have hl : lv_has ls 5 [(0, .ref (tad θ 13)), (1, .ref (tad θ 3)), (2, .int (iZ ((k : Nat) : Int)))] := hl
  have hN8 := hG.2.1
  have hKk := (hG.2.2 k hk).1
  refine lv_iconst (v := iZ 0) hx hb dX2_highest_0 rfl ?_
  refine z_top (b := (hgC (fp σ 3) L k 0)) (rfl) ?_
  refine lv_istore_n (lv' := [(3, .int (iZ (hgC (fp σ 3) L k 0))), (0, .ref (tad θ 13)), (1, .ref (tad θ 3)), (2, .int (iZ ((k : Nat) : Int)))]) hx hb dX2_highest_1 rfl hl (by decide) rfl (fun ls hl => ?_)
  refine lv_iconst (v := iZ 0) hx hb dX2_highest_2 rfl ?_
  refine lv_istore (lv' := [(4, .int (iZ 0)), (3, .int (iZ (hgC (fp σ 3) L k 0))), (0, .ref (tad θ 13)), (1, .ref (tad θ 3)), (2, .int (iZ ((k : Nat) : Int)))]) hx hb dX2_highest_3 hl (by decide) rfl (fun ls hl => ?_)
  have loop5 : ∀ (n5 : Nat) (i : Nat) (H : Heap) (locs : List Loc) (ls : Array Slot), 3 - i < n5 → (i ≤ 3) → (rg (hgC (fp σ 3) L k i)) →  gB θ σ z s.heap H locs → lv_has ls 5 [(4, .int (iZ ((i : Nat) : Int))), (3, .int (iZ (hgC (fp σ 3) L k i))), (0, .ref (tad θ 13)), (1, .ref (tad θ 3)), (2, .int (iZ ((k : Nat) : Int)))] → W p l e (gRm 2 45) s m args below meth c H locs 0 0 (MQ below (gQi θ (fun q σ' z' => (q = hgC (fp σ 3) L k 3) ∧ σ' = σ ∧ z' = z)) args s 0 0 (tA θ)) (F0 m 5 ls []) := by
    intro n5
    induction n5 with
    | zero => intro i H locs ls hmu; exact absurd hmu (Nat.not_lt_zero _)
    | succ n5 ih5 =>
      intro i H locs ls hmu hi hrh hB hl
      have hR := hB.1.2
      refine lv_iload hx hb dX2_highest_5 (lv_at hl 0 rfl) ?_
      refine lv_iconst (v := iZ 3) hx hb dX2_highest_7 rfl ?_
      refine z_icmp_ge (tgt := 47) hx hb dX2_highest_8 (by decide) ⟨by omega, by omega⟩ ⟨by decide, by decide⟩ (fun c_1 => ?_) (fun c_1 => ?_)
      · refine lv_iload_n hx hb dX2_highest_47 rfl (lv_at hl 1 rfl) ?_
        exact g_iret hx hb hr hlk hB dX2_highest_48 hrh (⟨by rw [show i = 3 by omega], rfl, rfl⟩)
      · refine lv_aload_n hx hb dX2_highest_11 rfl (lv_at hl 3 rfl) ?_
        refine lv_iload_n hx hb dX2_highest_12 rfl (lv_at hl 4 rfl) ?_
        refine g_calli (g_runV (i := 3) (As := [.int (iZ ((k : Nat) : Int))]) (rest := []) hx hb hml hown hts hK hst hB (mX1_kindOf l θ hθ σ z 3 isF_3 k (by omega)) mv_X1_kindOf kw_383 cf1 (by decide) rfl rfl hl.1 rfl (Nat.le_of_ble_eq_true rfl) ⟨by decide, by decide⟩ ⟨Nat.le_refl _, Nat.le_refl _⟩ dX2_highest_13) hB (fun q_4 σ_2 z_3 H locs hq_4 pq_4 hB => ?_)
        obtain ⟨pq_4, e1_, e2_⟩ := pq_4
        rw [e1_, e2_] at hB
        clear e1_ e2_
        subst pq_4
        refine lv_iload hx hb dX2_highest_16 (lv_at hl 0 rfl) ?_
        refine g_calli (g_runSN (As := [.int (iZ (fp σ 3 (1 + k))), .int (iZ ((i : Nat) : Int))]) (rest := []) hx hb hml hown hts hK hst hB (mX5_namesStream l θ hθ σ z (fp σ 3 (1 + k)) (by omega) i (by omega)) ms_X5_namesStream hst.2.2.2.2.1 rfl hl.1 rfl (Nat.le_of_ble_eq_true rfl) ⟨by decide, by decide⟩ ⟨Nat.le_refl _, Nat.le_refl _⟩ dX2_highest_18) hB (fun qn σ_5 z_6 H locs hqn hpn hB => ?_)
        obtain ⟨hpn, e1_, e2_⟩ := hpn
        rw [e1_, e2_] at hB
        clear e1_ e2_
        rcases hpn with ⟨hqn, hsp⟩ | ⟨hqn, hsp⟩
        · subst hqn
          have hnm := nmS_t (by omega) hsp
          have hlt := hG.st hk (by omega) hsp
          refine z_if_eq (tgt := 41) hx hb dX2_highest_21 (by decide) ⟨by decide, by decide⟩ (fun c_7 => ?_) (fun c_7 => ?_)
          · exact absurd c_7 (by decide)
          · refine lv_iload_n hx hb dX2_highest_24 rfl (lv_at hl 1 rfl) ?_
            refine lv_aload_n hx hb dX2_highest_25 rfl (lv_at hl 2 rfl) ?_
            refine g_getr (k := 10) (j := 20) hx hb hts hown hK hθ hB cf2 (by decide) rfl (by decide) kw_97 rfl rfl dX2_highest_26 ?_
            refine lv_aload_n hx hb dX2_highest_29 rfl (lv_at hl 3 rfl) ?_
            refine lv_iload_n hx hb dX2_highest_30 rfl (lv_at hl 4 rfl) ?_
            refine lv_iload hx hb dX2_highest_31 (lv_at hl 0 rfl) ?_
            refine g_calli (g_runV (i := 3) (As := [.int (iZ ((k : Nat) : Int)), .int (iZ ((i : Nat) : Int))]) (rest := [.ref (tad θ 20), .int (iZ (hgC (fp σ 3) L k i))]) hx hb hml hown hts hK hst hB (mX1_streamPart l θ hθ σ z 3 isF_3 k (by omega) i (by omega)) mv_X1_streamPart kw_379 cf1 (by decide) rfl rfl hl.1 rfl (Nat.le_of_ble_eq_true rfl) ⟨by decide, by decide⟩ ⟨Nat.le_refl _, Nat.le_refl _⟩ dX2_highest_33) hB (fun q_10 σ_8 z_9 H locs hq_10 pq_10 hB => ?_)
            obtain ⟨pq_10, e1_, e2_⟩ := pq_10
            rw [e1_, e2_] at hB
            clear e1_ e2_
            subst pq_10
            refine z_top (b := (((fa (fp σ 3) k i) : Nat) : Int)) (hG.sp hk (by omega) (by omega)) ?_
            refine g_iald (k := (fa (fp σ 3) k i)) hx hb hK hB (by decide) rfl (by omega) (Nat.lt_of_lt_of_eq (by omega : (fa (fp σ 3) k i) < 8) (Eq.symm rfl)) (by decide) dX2_highest_36 ?_
            refine z_top (b := (L (fa (fp σ 3) k i))) (h20 _ (by omega)) ?_
            have hrl := hR 20 (fa (fp σ 3) k i)
            rw [h20 _ (by omega)] at hrl
            refine g_max hx hb hml hl.1 hown kw_433 hts (Nat.le_of_ble_eq_true rfl) ⟨by decide, by decide⟩ ⟨Nat.zero_le _, Nat.zero_le _⟩ ⟨by omega, by omega⟩ ⟨by omega, by omega⟩ dX2_highest_37 (fun q_11 hq_11 => ?_)
            refine z_top (b := (hgC (fp σ 3) L k (i + 1))) (by rw [hgC, if_pos hnm]; split <;> omega) ?_
            refine lv_istore_n (lv' := [(3, .int (iZ (hgC (fp σ 3) L k (i + 1)))), (4, .int (iZ ((i : Nat) : Int))), (0, .ref (tad θ 13)), (1, .ref (tad θ 3)), (2, .int (iZ ((k : Nat) : Int)))]) hx hb dX2_highest_40 rfl hl (by decide) rfl (fun ls hl => ?_)
            refine z_iinc (k := 1) (lv' := [(4, .int (iZ (((i : Nat) : Int) + 1))), (3, .int (iZ (hgC (fp σ 3) L k (i + 1)))), (0, .ref (tad θ 13)), (1, .ref (tad θ 3)), (2, .int (iZ ((k : Nat) : Int)))]) hx hb dX2_highest_41 hl rfl (by decide) rfl (fun ls hl => ?_)
            have hl : lv_has ls 5 [(4, .int (iZ (((i + 1) : Nat) : Int))), (3, .int (iZ (hgC (fp σ 3) L k (i + 1)))), (0, .ref (tad θ 13)), (1, .ref (tad θ 3)), (2, .int (iZ ((k : Nat) : Int)))] := by have e9 : (((i : Nat) : Int) + 1) = (((i + 1) : Nat) : Int) := (by omega); rw [e9] at hl; exact hl
            refine lv_goto (tgt := 5) hx hb dX2_highest_44 (by decide) ?_
            exact ih5 (i + 1) _ _ _ (by omega) (by omega) (by rw [hgC, if_pos hnm]; split; exact hrl; exact hrh) hB (lv_sub hl [0, 1, 2, 3, 4] rfl)
        · subst hqn
          have hnm := nmS_f (by omega) hsp
          have hwn : hgC (fp σ 3) L k (i + 1) = hgC (fp σ 3) L k i := by rw [hgC, if_neg (by rw [hnm]; exact Bool.false_ne_true)]
          refine z_if_eq (tgt := 41) hx hb dX2_highest_21 (by decide) ⟨by decide, by decide⟩ (fun c_12 => ?_) (fun c_12 => ?_)
          · have hl : lv_has ls 5 [(4, .int (iZ ((i : Nat) : Int))), (3, .int (iZ (hgC (fp σ 3) L k (i + 1)))), (0, .ref (tad θ 13)), (1, .ref (tad θ 3)), (2, .int (iZ ((k : Nat) : Int)))] := by rw [← hwn] at hl; exact hl
            refine z_iinc (k := 0) (lv' := [(4, .int (iZ (((i : Nat) : Int) + 1))), (3, .int (iZ (hgC (fp σ 3) L k (i + 1)))), (0, .ref (tad θ 13)), (1, .ref (tad θ 3)), (2, .int (iZ ((k : Nat) : Int)))]) hx hb dX2_highest_41 hl rfl (by decide) rfl (fun ls hl => ?_)
            have hl : lv_has ls 5 [(4, .int (iZ (((i + 1) : Nat) : Int))), (3, .int (iZ (hgC (fp σ 3) L k (i + 1)))), (0, .ref (tad θ 13)), (1, .ref (tad θ 3)), (2, .int (iZ ((k : Nat) : Int)))] := by have e9 : (((i : Nat) : Int) + 1) = (((i + 1) : Nat) : Int) := (by omega); rw [e9] at hl; exact hl
            refine lv_goto (tgt := 5) hx hb dX2_highest_44 (by decide) ?_
            exact ih5 (i + 1) _ _ _ (by omega) (by omega) (by rw [hwn]; exact hrh) hB (lv_sub hl [0, 1, 2, 3, 4] rfl)
          · exact absurd (by decide) c_12
  exact loop5 _ 0 _ _ _ (Nat.lt_succ_self _) (by omega) (show rg 0 from ⟨by decide, by decide⟩) hB (lv_sub hl [0, 1, 2, 3, 4] rfl)
set_option maxHeartbeats 4000000 in
set_option maxRecDepth 100000 in
theorem mX2_levelByParts (l : Launch) (θ : gT) (hθ : gOK θ) (σ : gS) (z : gZ) (N : Nat) (hG : cW (fp σ 3) N) (L : Nat → Int) (h20 : ∀ k, k < 8 → σ 20 k = L k) (k : Nat) (hk : k < N) : GI l θ yX2_levelByParts cX2_levelByParts 3 (some .int) 3 69 [.ref (tad θ 13), .ref (tad θ 3), .int (iZ ((k : Nat) : Int))] σ z (fun q σ' z' => (q = lvC (fp σ 3) L k) ∧ σ' = σ ∧ z' = z) := by
  refine g_enter (ret := (some .int)) (by decide +kernel) (Nat.le_of_ble_eq_true rfl) ?_
  intro p e s m args below meth c ls F hB hl
  obtain ⟨hx, hb, hr, hml, hown, hts, hlk, hK, hst⟩ := F
  have hR := hB.1.2
  have hl : lv_has ls 3 [(0, .ref (tad θ 13)), (1, .ref (tad θ 3)), (2, .int (iZ ((k : Nat) : Int)))] := hl
  have hN8 := hG.2.1
  have hKk := (hG.2.2 k hk).1
  refine lv_aload_n hx hb dX2_levelByParts_0 rfl (lv_at hl 1 rfl) ?_
  refine lv_iload_n hx hb dX2_levelByParts_1 rfl (lv_at hl 2 rfl) ?_
  refine g_calli (g_runV (i := 3) (As := [.int (iZ ((k : Nat) : Int))]) (rest := []) hx hb hml hown hts hK hst hB (mX1_kindOf l θ hθ σ z 3 isF_3 k (by omega)) mv_X1_kindOf kw_383 cf1 (by decide) rfl rfl hl.1 rfl (Nat.le_of_ble_eq_true rfl) ⟨by decide, by decide⟩ ⟨Nat.le_refl _, Nat.le_refl _⟩ dX2_levelByParts_2) hB (fun q_3 σ_1 z_2 H locs hq_3 pq_3 hB => ?_)
  obtain ⟨pq_3, e1_, e2_⟩ := pq_3
  rw [e1_, e2_] at hB
  clear e1_ e2_
  subst pq_3
  rcases (show ((fp σ 3 (1 + k)) < 2 ∨ 10 < (fp σ 3 (1 + k))) ∨ (fp σ 3 (1 + k)) = 2 ∨ (fp σ 3 (1 + k)) = 3 ∨ (fp σ 3 (1 + k)) = 4 ∨ (fp σ 3 (1 + k)) = 5 ∨ (fp σ 3 (1 + k)) = 6 ∨ (fp σ 3 (1 + k)) = 7 ∨ (fp σ 3 (1 + k)) = 8 ∨ (fp σ 3 (1 + k)) = 9 ∨ (fp σ 3 (1 + k)) = 10 by omega) with c_4 | c_4 | c_4 | c_4 | c_4 | c_4 | c_4 | c_4 | c_4 | c_4
  · refine z_tabOut (tgt := 77) hx hb dX2_levelByParts_5 ⟨by omega, by omega⟩ c_4 (by decide) ?_
    have hxk := c_4
    refine lv_iconst (v := iZ 0) hx hb dX2_levelByParts_77 rfl ?_
    exact g_iret hx hb hr hlk hB dX2_levelByParts_78 ⟨by decide, by decide⟩ (⟨by rw [lvC, if_neg (by omega), if_neg (by omega), if_neg (by omega)], rfl, rfl⟩)
  · refine z_tabIn (v := 2) (off := 53) (tgt := 58) hx hb dX2_levelByParts_5 c_4 ⟨by decide, by decide⟩ (by decide) (by decide) rfl (by decide) ?_
    have hxk := c_4
    refine lv_aload_n hx hb dX2_levelByParts_58 rfl (lv_at hl 0 rfl) ?_
    refine lv_aload_n hx hb dX2_levelByParts_59 rfl (lv_at hl 1 rfl) ?_
    refine lv_iload_n hx hb dX2_levelByParts_60 rfl (lv_at hl 2 rfl) ?_
    refine g_calli (g_runV (i := 13) (As := [.ref (tad θ 3), .int (iZ ((k : Nat) : Int))]) (rest := []) hx hb hml hown hts hK hst hB (mX2_highest l θ hθ σ z N hG L h20 k hk) mv_X2_highest kw_429 cf2 (by decide) rfl rfl hl.1 rfl (Nat.le_of_ble_eq_true rfl) ⟨by decide, by decide⟩ ⟨Nat.le_refl _, Nat.le_refl _⟩ dX2_levelByParts_61) hB (fun q_7 σ_5 z_6 H locs hq_7 pq_7 hB => ?_)
    obtain ⟨pq_7, e1_, e2_⟩ := pq_7
    rw [e1_, e2_] at hB
    clear e1_ e2_
    subst pq_7
    exact g_iret hx hb hr hlk hB dX2_levelByParts_64 ⟨by omega, by omega⟩ (⟨by rw [lvC, if_neg (by omega), if_pos (by omega)], rfl, rfl⟩)
  · refine z_tabIn (v := 3) (off := 53) (tgt := 58) hx hb dX2_levelByParts_5 c_4 ⟨by decide, by decide⟩ (by decide) (by decide) rfl (by decide) ?_
    have hxk := c_4
    refine lv_aload_n hx hb dX2_levelByParts_58 rfl (lv_at hl 0 rfl) ?_
    refine lv_aload_n hx hb dX2_levelByParts_59 rfl (lv_at hl 1 rfl) ?_
    refine lv_iload_n hx hb dX2_levelByParts_60 rfl (lv_at hl 2 rfl) ?_
    refine g_calli (g_runV (i := 13) (As := [.ref (tad θ 3), .int (iZ ((k : Nat) : Int))]) (rest := []) hx hb hml hown hts hK hst hB (mX2_highest l θ hθ σ z N hG L h20 k hk) mv_X2_highest kw_429 cf2 (by decide) rfl rfl hl.1 rfl (Nat.le_of_ble_eq_true rfl) ⟨by decide, by decide⟩ ⟨Nat.le_refl _, Nat.le_refl _⟩ dX2_levelByParts_61) hB (fun q_10 σ_8 z_9 H locs hq_10 pq_10 hB => ?_)
    obtain ⟨pq_10, e1_, e2_⟩ := pq_10
    rw [e1_, e2_] at hB
    clear e1_ e2_
    subst pq_10
    exact g_iret hx hb hr hlk hB dX2_levelByParts_64 ⟨by omega, by omega⟩ (⟨by rw [lvC, if_neg (by omega), if_pos (by omega)], rfl, rfl⟩)
  · refine z_tabIn (v := 4) (off := 53) (tgt := 58) hx hb dX2_levelByParts_5 c_4 ⟨by decide, by decide⟩ (by decide) (by decide) rfl (by decide) ?_
    have hxk := c_4
    refine lv_aload_n hx hb dX2_levelByParts_58 rfl (lv_at hl 0 rfl) ?_
    refine lv_aload_n hx hb dX2_levelByParts_59 rfl (lv_at hl 1 rfl) ?_
    refine lv_iload_n hx hb dX2_levelByParts_60 rfl (lv_at hl 2 rfl) ?_
    refine g_calli (g_runV (i := 13) (As := [.ref (tad θ 3), .int (iZ ((k : Nat) : Int))]) (rest := []) hx hb hml hown hts hK hst hB (mX2_highest l θ hθ σ z N hG L h20 k hk) mv_X2_highest kw_429 cf2 (by decide) rfl rfl hl.1 rfl (Nat.le_of_ble_eq_true rfl) ⟨by decide, by decide⟩ ⟨Nat.le_refl _, Nat.le_refl _⟩ dX2_levelByParts_61) hB (fun q_13 σ_11 z_12 H locs hq_13 pq_13 hB => ?_)
    obtain ⟨pq_13, e1_, e2_⟩ := pq_13
    rw [e1_, e2_] at hB
    clear e1_ e2_
    subst pq_13
    exact g_iret hx hb hr hlk hB dX2_levelByParts_64 ⟨by omega, by omega⟩ (⟨by rw [lvC, if_neg (by omega), if_pos (by omega)], rfl, rfl⟩)
  · refine z_tabIn (v := 5) (off := 53) (tgt := 58) hx hb dX2_levelByParts_5 c_4 ⟨by decide, by decide⟩ (by decide) (by decide) rfl (by decide) ?_
    have hxk := c_4
    refine lv_aload_n hx hb dX2_levelByParts_58 rfl (lv_at hl 0 rfl) ?_
    refine lv_aload_n hx hb dX2_levelByParts_59 rfl (lv_at hl 1 rfl) ?_
    refine lv_iload_n hx hb dX2_levelByParts_60 rfl (lv_at hl 2 rfl) ?_
    refine g_calli (g_runV (i := 13) (As := [.ref (tad θ 3), .int (iZ ((k : Nat) : Int))]) (rest := []) hx hb hml hown hts hK hst hB (mX2_highest l θ hθ σ z N hG L h20 k hk) mv_X2_highest kw_429 cf2 (by decide) rfl rfl hl.1 rfl (Nat.le_of_ble_eq_true rfl) ⟨by decide, by decide⟩ ⟨Nat.le_refl _, Nat.le_refl _⟩ dX2_levelByParts_61) hB (fun q_16 σ_14 z_15 H locs hq_16 pq_16 hB => ?_)
    obtain ⟨pq_16, e1_, e2_⟩ := pq_16
    rw [e1_, e2_] at hB
    clear e1_ e2_
    subst pq_16
    exact g_iret hx hb hr hlk hB dX2_levelByParts_64 ⟨by omega, by omega⟩ (⟨by rw [lvC, if_neg (by omega), if_pos (by omega)], rfl, rfl⟩)
  · refine z_tabIn (v := 6) (off := 72) (tgt := 77) hx hb dX2_levelByParts_5 c_4 ⟨by decide, by decide⟩ (by decide) (by decide) rfl (by decide) ?_
    have hxk := c_4
    refine lv_iconst (v := iZ 0) hx hb dX2_levelByParts_77 rfl ?_
    exact g_iret hx hb hr hlk hB dX2_levelByParts_78 ⟨by decide, by decide⟩ (⟨by rw [lvC, if_neg (by omega), if_neg (by omega), if_neg (by omega)], rfl, rfl⟩)
  · refine z_tabIn (v := 7) (off := 51) (tgt := 56) hx hb dX2_levelByParts_5 c_4 ⟨by decide, by decide⟩ (by decide) (by decide) rfl (by decide) ?_
    have hxk := c_4
    refine lv_iconst (v := iZ 1) hx hb dX2_levelByParts_56 rfl ?_
    exact g_iret hx hb hr hlk hB dX2_levelByParts_57 ⟨by decide, by decide⟩ (⟨by rw [lvC, if_pos hxk], rfl, rfl⟩)
  · refine z_tabIn (v := 8) (off := 72) (tgt := 77) hx hb dX2_levelByParts_5 c_4 ⟨by decide, by decide⟩ (by decide) (by decide) rfl (by decide) ?_
    have hxk := c_4
    refine lv_iconst (v := iZ 0) hx hb dX2_levelByParts_77 rfl ?_
    exact g_iret hx hb hr hlk hB dX2_levelByParts_78 ⟨by decide, by decide⟩ (⟨by rw [lvC, if_neg (by omega), if_neg (by omega), if_neg (by omega)], rfl, rfl⟩)
  · refine z_tabIn (v := 9) (off := 60) (tgt := 65) hx hb dX2_levelByParts_5 c_4 ⟨by decide, by decide⟩ (by decide) (by decide) rfl (by decide) ?_
    have hxk := c_4
    have l0 : (fa (fp σ 3) k 0) < N := hG.st hk (by omega) (by unfold sPl; omega)
    refine lv_aload_n hx hb dX2_levelByParts_65 rfl (lv_at hl 0 rfl) ?_
    refine g_getr (k := 10) (j := 20) hx hb hts hown hK hθ hB cf2 (by decide) rfl (by decide) kw_97 rfl rfl dX2_levelByParts_66 ?_
    refine lv_aload_n hx hb dX2_levelByParts_69 rfl (lv_at hl 1 rfl) ?_
    refine lv_iload_n hx hb dX2_levelByParts_70 rfl (lv_at hl 2 rfl) ?_
    refine lv_iconst (v := iZ 0) hx hb dX2_levelByParts_71 rfl ?_
    refine g_calli (g_runV (i := 3) (As := [.int (iZ ((k : Nat) : Int)), .int (iZ 0)]) (rest := [.ref (tad θ 20)]) hx hb hml hown hts hK hst hB (mX1_streamPart l θ hθ σ z 3 isF_3 k (by omega) 0 (by omega)) mv_X1_streamPart kw_379 cf1 (by decide) rfl rfl hl.1 rfl (Nat.le_of_ble_eq_true rfl) ⟨by decide, by decide⟩ ⟨Nat.le_refl _, Nat.le_refl _⟩ dX2_levelByParts_72) hB (fun q_19 σ_17 z_18 H locs hq_19 pq_19 hB => ?_)
    obtain ⟨pq_19, e1_, e2_⟩ := pq_19
    rw [e1_, e2_] at hB
    clear e1_ e2_
    subst pq_19
    refine z_top (b := (((fa (fp σ 3) k 0) : Nat) : Int)) (hG.sp hk (i := 0) (by omega) (by omega)) ?_
    refine g_iald (k := (fa (fp σ 3) k 0)) hx hb hK hB (by decide) rfl (by omega) (Nat.lt_of_lt_of_eq (by omega : (fa (fp σ 3) k 0) < 8) (Eq.symm rfl)) (by decide) dX2_levelByParts_75 ?_
    refine z_top (b := (L (fa (fp σ 3) k 0))) (h20 _ (by omega)) ?_
    have hrl := hR 20 (fa (fp σ 3) k 0)
    rw [h20 _ (by omega)] at hrl
    exact g_iret hx hb hr hlk hB dX2_levelByParts_76 ⟨by omega, by omega⟩ (⟨by rw [lvC, if_neg (by omega), if_neg (by omega), if_pos (by omega)], rfl, rfl⟩)
  · refine z_tabIn (v := 10) (off := 60) (tgt := 65) hx hb dX2_levelByParts_5 c_4 ⟨by decide, by decide⟩ (by decide) (by decide) rfl (by decide) ?_
    have hxk := c_4
    have l0 : (fa (fp σ 3) k 0) < N := hG.st hk (by omega) (by unfold sPl; omega)
    refine lv_aload_n hx hb dX2_levelByParts_65 rfl (lv_at hl 0 rfl) ?_
    refine g_getr (k := 10) (j := 20) hx hb hts hown hK hθ hB cf2 (by decide) rfl (by decide) kw_97 rfl rfl dX2_levelByParts_66 ?_
    refine lv_aload_n hx hb dX2_levelByParts_69 rfl (lv_at hl 1 rfl) ?_
    refine lv_iload_n hx hb dX2_levelByParts_70 rfl (lv_at hl 2 rfl) ?_
    refine lv_iconst (v := iZ 0) hx hb dX2_levelByParts_71 rfl ?_
    refine g_calli (g_runV (i := 3) (As := [.int (iZ ((k : Nat) : Int)), .int (iZ 0)]) (rest := [.ref (tad θ 20)]) hx hb hml hown hts hK hst hB (mX1_streamPart l θ hθ σ z 3 isF_3 k (by omega) 0 (by omega)) mv_X1_streamPart kw_379 cf1 (by decide) rfl rfl hl.1 rfl (Nat.le_of_ble_eq_true rfl) ⟨by decide, by decide⟩ ⟨Nat.le_refl _, Nat.le_refl _⟩ dX2_levelByParts_72) hB (fun q_22 σ_20 z_21 H locs hq_22 pq_22 hB => ?_)
    obtain ⟨pq_22, e1_, e2_⟩ := pq_22
    rw [e1_, e2_] at hB
    clear e1_ e2_
    subst pq_22
    refine z_top (b := (((fa (fp σ 3) k 0) : Nat) : Int)) (hG.sp hk (i := 0) (by omega) (by omega)) ?_
    refine g_iald (k := (fa (fp σ 3) k 0)) hx hb hK hB (by decide) rfl (by omega) (Nat.lt_of_lt_of_eq (by omega : (fa (fp σ 3) k 0) < 8) (Eq.symm rfl)) (by decide) dX2_levelByParts_75 ?_
    refine z_top (b := (L (fa (fp σ 3) k 0))) (h20 _ (by omega)) ?_
    have hrl := hR 20 (fa (fp σ 3) k 0)
    rw [h20 _ (by omega)] at hrl
    exact g_iret hx hb hr hlk hB dX2_levelByParts_76 ⟨by omega, by omega⟩ (⟨by rw [lvC, if_neg (by omega), if_neg (by omega), if_pos (by omega)], rfl, rfl⟩)
set_option maxHeartbeats 4000000 in
set_option maxRecDepth 100000 in
theorem mX2_isRaw (l : Launch) (θ : gT) (hθ : gOK θ) (σ : gS) (z : gZ) (N : Nat) (hG : cW (fp σ 3) N) (L : Nat → Int) (h20 : ∀ k, k < 8 → σ 20 k = L k) (k : Nat) (hk : k < N) : GI l θ yX2_isRaw cX2_isRaw 3 (some .boolean) 3 69 [.ref (tad θ 13), .ref (tad θ 3), .int (iZ ((k : Nat) : Int))] σ z (fun q σ' z' => ((q = 1 ∧ rwC (fp σ 3) L k = true) ∨ (q = 0 ∧ rwC (fp σ 3) L k = false)) ∧ σ' = σ ∧ z' = z) := by
  refine g_enter (ret := (some .boolean)) (by decide +kernel) (Nat.le_of_ble_eq_true rfl) ?_
  intro p e s m args below meth c ls F hB hl
  obtain ⟨hx, hb, hr, hml, hown, hts, hlk, hK, hst⟩ := F
  have hR := hB.1.2
  have hl : lv_has ls 3 [(0, .ref (tad θ 13)), (1, .ref (tad θ 3)), (2, .int (iZ ((k : Nat) : Int)))] := hl
  have hN8 := hG.2.1
  have hKk := (hG.2.2 k hk).1
  refine lv_aload_n hx hb dX2_isRaw_0 rfl (lv_at hl 1 rfl) ?_
  refine lv_iload_n hx hb dX2_isRaw_1 rfl (lv_at hl 2 rfl) ?_
  refine g_calli (g_runV (i := 3) (As := [.int (iZ ((k : Nat) : Int))]) (rest := []) hx hb hml hown hts hK hst hB (mX1_kindOf l θ hθ σ z 3 isF_3 k (by omega)) mv_X1_kindOf kw_383 cf1 (by decide) rfl rfl hl.1 rfl (Nat.le_of_ble_eq_true rfl) ⟨by decide, by decide⟩ ⟨Nat.le_refl _, Nat.le_refl _⟩ dX2_isRaw_2) hB (fun q_3 σ_1 z_2 H locs hq_3 pq_3 hB => ?_)
  obtain ⟨pq_3, e1_, e2_⟩ := pq_3
  rw [e1_, e2_] at hB
  clear e1_ e2_
  subst pq_3
  rcases (show ((fp σ 3 (1 + k)) < 6 ∨ 11 < (fp σ 3 (1 + k))) ∨ (fp σ 3 (1 + k)) = 6 ∨ (fp σ 3 (1 + k)) = 7 ∨ (fp σ 3 (1 + k)) = 8 ∨ (fp σ 3 (1 + k)) = 9 ∨ (fp σ 3 (1 + k)) = 10 ∨ (fp σ 3 (1 + k)) = 11 by omega) with c_4 | c_4 | c_4 | c_4 | c_4 | c_4 | c_4
  · refine z_tabOut (tgt := 102) hx hb dX2_isRaw_5 ⟨by omega, by omega⟩ c_4 (by decide) ?_
    have hxk := c_4
    refine lv_iconst (v := iZ 0) hx hb dX2_isRaw_102 rfl ?_
    exact g_zret hx hb hr hlk hB dX2_isRaw_103 (by decide) (⟨Or.inr ⟨rfl, decide_eq_false (by omega)⟩, rfl, rfl⟩)
  · refine z_tabIn (v := 6) (off := 60) (tgt := 65) hx hb dX2_isRaw_5 c_4 ⟨by decide, by decide⟩ (by decide) (by decide) rfl (by decide) ?_
    have hxk := c_4
    have l1 : (fa (fp σ 3) k 1) < N := hG.st hk (by omega) (by unfold sPl; omega)
    refine lv_aload_n hx hb dX2_isRaw_65 rfl (lv_at hl 0 rfl) ?_
    refine g_getr (k := 10) (j := 20) hx hb hts hown hK hθ hB cf2 (by decide) rfl (by decide) kw_97 rfl rfl dX2_isRaw_66 ?_
    refine lv_aload_n hx hb dX2_isRaw_69 rfl (lv_at hl 1 rfl) ?_
    refine lv_iload_n hx hb dX2_isRaw_70 rfl (lv_at hl 2 rfl) ?_
    refine lv_iconst (v := iZ 1) hx hb dX2_isRaw_71 rfl ?_
    refine g_calli (g_runV (i := 3) (As := [.int (iZ ((k : Nat) : Int)), .int (iZ 1)]) (rest := [.ref (tad θ 20)]) hx hb hml hown hts hK hst hB (mX1_streamPart l θ hθ σ z 3 isF_3 k (by omega) 1 (by omega)) mv_X1_streamPart kw_379 cf1 (by decide) rfl rfl hl.1 rfl (Nat.le_of_ble_eq_true rfl) ⟨by decide, by decide⟩ ⟨Nat.le_refl _, Nat.le_refl _⟩ dX2_isRaw_72) hB (fun q_7 σ_5 z_6 H locs hq_7 pq_7 hB => ?_)
    obtain ⟨pq_7, e1_, e2_⟩ := pq_7
    rw [e1_, e2_] at hB
    clear e1_ e2_
    subst pq_7
    refine z_top (b := (((fa (fp σ 3) k 1) : Nat) : Int)) (hG.sp hk (i := 1) (by omega) (by omega)) ?_
    refine g_iald (k := (fa (fp σ 3) k 1)) hx hb hK hB (by decide) rfl (by omega) (Nat.lt_of_lt_of_eq (by omega : (fa (fp σ 3) k 1) < 8) (Eq.symm rfl)) (by decide) dX2_isRaw_75 ?_
    refine z_top (b := (L (fa (fp σ 3) k 1))) (h20 _ (by omega)) ?_
    have hrl := hR 20 (fa (fp σ 3) k 1)
    rw [h20 _ (by omega)] at hrl
    refine lv_iconst (v := iZ 1) hx hb dX2_isRaw_76 rfl ?_
    refine z_icmp_ne (tgt := 84) hx hb dX2_isRaw_77 (by decide) ⟨by omega, by omega⟩ ⟨by decide, by decide⟩ (fun c_8 => ?_) (fun c_8 => ?_)
    · refine lv_iconst (v := iZ 0) hx hb dX2_isRaw_84 rfl ?_
      exact g_zret hx hb hr hlk hB dX2_isRaw_85 (by decide) (⟨Or.inr ⟨rfl, decide_eq_false (by omega)⟩, rfl, rfl⟩)
    · refine lv_iconst (v := iZ 1) hx hb dX2_isRaw_80 rfl ?_
      refine lv_goto (tgt := 85) hx hb dX2_isRaw_81 (by decide) ?_
      exact g_zret hx hb hr hlk hB dX2_isRaw_85 (by decide) (⟨Or.inl ⟨rfl, decide_eq_true (by omega)⟩, rfl, rfl⟩)
  · refine z_tabIn (v := 7) (off := 39) (tgt := 44) hx hb dX2_isRaw_5 c_4 ⟨by decide, by decide⟩ (by decide) (by decide) rfl (by decide) ?_
    have hxk := c_4
    have l0 : (fa (fp σ 3) k 0) < N := hG.st hk (by omega) (by unfold sPl; omega)
    refine lv_aload_n hx hb dX2_isRaw_44 rfl (lv_at hl 0 rfl) ?_
    refine g_getr (k := 10) (j := 20) hx hb hts hown hK hθ hB cf2 (by decide) rfl (by decide) kw_97 rfl rfl dX2_isRaw_45 ?_
    refine lv_aload_n hx hb dX2_isRaw_48 rfl (lv_at hl 1 rfl) ?_
    refine lv_iload_n hx hb dX2_isRaw_49 rfl (lv_at hl 2 rfl) ?_
    refine lv_iconst (v := iZ 0) hx hb dX2_isRaw_50 rfl ?_
    refine g_calli (g_runV (i := 3) (As := [.int (iZ ((k : Nat) : Int)), .int (iZ 0)]) (rest := [.ref (tad θ 20)]) hx hb hml hown hts hK hst hB (mX1_streamPart l θ hθ σ z 3 isF_3 k (by omega) 0 (by omega)) mv_X1_streamPart kw_379 cf1 (by decide) rfl rfl hl.1 rfl (Nat.le_of_ble_eq_true rfl) ⟨by decide, by decide⟩ ⟨Nat.le_refl _, Nat.le_refl _⟩ dX2_isRaw_51) hB (fun q_11 σ_9 z_10 H locs hq_11 pq_11 hB => ?_)
    obtain ⟨pq_11, e1_, e2_⟩ := pq_11
    rw [e1_, e2_] at hB
    clear e1_ e2_
    subst pq_11
    refine z_top (b := (((fa (fp σ 3) k 0) : Nat) : Int)) (hG.sp hk (i := 0) (by omega) (by omega)) ?_
    refine g_iald (k := (fa (fp σ 3) k 0)) hx hb hK hB (by decide) rfl (by omega) (Nat.lt_of_lt_of_eq (by omega : (fa (fp σ 3) k 0) < 8) (Eq.symm rfl)) (by decide) dX2_isRaw_54 ?_
    refine z_top (b := (L (fa (fp σ 3) k 0))) (h20 _ (by omega)) ?_
    have hrl := hR 20 (fa (fp σ 3) k 0)
    rw [h20 _ (by omega)] at hrl
    refine lv_iconst (v := iZ 1) hx hb dX2_isRaw_55 rfl ?_
    refine z_icmp_ne (tgt := 63) hx hb dX2_isRaw_56 (by decide) ⟨by omega, by omega⟩ ⟨by decide, by decide⟩ (fun c_12 => ?_) (fun c_12 => ?_)
    · refine lv_iconst (v := iZ 0) hx hb dX2_isRaw_63 rfl ?_
      exact g_zret hx hb hr hlk hB dX2_isRaw_64 (by decide) (⟨Or.inr ⟨rfl, decide_eq_false (by omega)⟩, rfl, rfl⟩)
    · refine lv_iconst (v := iZ 1) hx hb dX2_isRaw_59 rfl ?_
      refine lv_goto (tgt := 64) hx hb dX2_isRaw_60 (by decide) ?_
      exact g_zret hx hb hr hlk hB dX2_isRaw_64 (by decide) (⟨Or.inl ⟨rfl, decide_eq_true (by omega)⟩, rfl, rfl⟩)
  · refine z_tabIn (v := 8) (off := 39) (tgt := 44) hx hb dX2_isRaw_5 c_4 ⟨by decide, by decide⟩ (by decide) (by decide) rfl (by decide) ?_
    have hxk := c_4
    have l0 : (fa (fp σ 3) k 0) < N := hG.st hk (by omega) (by unfold sPl; omega)
    refine lv_aload_n hx hb dX2_isRaw_44 rfl (lv_at hl 0 rfl) ?_
    refine g_getr (k := 10) (j := 20) hx hb hts hown hK hθ hB cf2 (by decide) rfl (by decide) kw_97 rfl rfl dX2_isRaw_45 ?_
    refine lv_aload_n hx hb dX2_isRaw_48 rfl (lv_at hl 1 rfl) ?_
    refine lv_iload_n hx hb dX2_isRaw_49 rfl (lv_at hl 2 rfl) ?_
    refine lv_iconst (v := iZ 0) hx hb dX2_isRaw_50 rfl ?_
    refine g_calli (g_runV (i := 3) (As := [.int (iZ ((k : Nat) : Int)), .int (iZ 0)]) (rest := [.ref (tad θ 20)]) hx hb hml hown hts hK hst hB (mX1_streamPart l θ hθ σ z 3 isF_3 k (by omega) 0 (by omega)) mv_X1_streamPart kw_379 cf1 (by decide) rfl rfl hl.1 rfl (Nat.le_of_ble_eq_true rfl) ⟨by decide, by decide⟩ ⟨Nat.le_refl _, Nat.le_refl _⟩ dX2_isRaw_51) hB (fun q_15 σ_13 z_14 H locs hq_15 pq_15 hB => ?_)
    obtain ⟨pq_15, e1_, e2_⟩ := pq_15
    rw [e1_, e2_] at hB
    clear e1_ e2_
    subst pq_15
    refine z_top (b := (((fa (fp σ 3) k 0) : Nat) : Int)) (hG.sp hk (i := 0) (by omega) (by omega)) ?_
    refine g_iald (k := (fa (fp σ 3) k 0)) hx hb hK hB (by decide) rfl (by omega) (Nat.lt_of_lt_of_eq (by omega : (fa (fp σ 3) k 0) < 8) (Eq.symm rfl)) (by decide) dX2_isRaw_54 ?_
    refine z_top (b := (L (fa (fp σ 3) k 0))) (h20 _ (by omega)) ?_
    have hrl := hR 20 (fa (fp σ 3) k 0)
    rw [h20 _ (by omega)] at hrl
    refine lv_iconst (v := iZ 1) hx hb dX2_isRaw_55 rfl ?_
    refine z_icmp_ne (tgt := 63) hx hb dX2_isRaw_56 (by decide) ⟨by omega, by omega⟩ ⟨by decide, by decide⟩ (fun c_16 => ?_) (fun c_16 => ?_)
    · refine lv_iconst (v := iZ 0) hx hb dX2_isRaw_63 rfl ?_
      exact g_zret hx hb hr hlk hB dX2_isRaw_64 (by decide) (⟨Or.inr ⟨rfl, decide_eq_false (by omega)⟩, rfl, rfl⟩)
    · refine lv_iconst (v := iZ 1) hx hb dX2_isRaw_59 rfl ?_
      refine lv_goto (tgt := 64) hx hb dX2_isRaw_60 (by decide) ?_
      exact g_zret hx hb hr hlk hB dX2_isRaw_64 (by decide) (⟨Or.inl ⟨rfl, decide_eq_true (by omega)⟩, rfl, rfl⟩)
  · refine z_tabIn (v := 9) (off := 60) (tgt := 65) hx hb dX2_isRaw_5 c_4 ⟨by decide, by decide⟩ (by decide) (by decide) rfl (by decide) ?_
    have hxk := c_4
    have l1 : (fa (fp σ 3) k 1) < N := hG.st hk (by omega) (by unfold sPl; omega)
    refine lv_aload_n hx hb dX2_isRaw_65 rfl (lv_at hl 0 rfl) ?_
    refine g_getr (k := 10) (j := 20) hx hb hts hown hK hθ hB cf2 (by decide) rfl (by decide) kw_97 rfl rfl dX2_isRaw_66 ?_
    refine lv_aload_n hx hb dX2_isRaw_69 rfl (lv_at hl 1 rfl) ?_
    refine lv_iload_n hx hb dX2_isRaw_70 rfl (lv_at hl 2 rfl) ?_
    refine lv_iconst (v := iZ 1) hx hb dX2_isRaw_71 rfl ?_
    refine g_calli (g_runV (i := 3) (As := [.int (iZ ((k : Nat) : Int)), .int (iZ 1)]) (rest := [.ref (tad θ 20)]) hx hb hml hown hts hK hst hB (mX1_streamPart l θ hθ σ z 3 isF_3 k (by omega) 1 (by omega)) mv_X1_streamPart kw_379 cf1 (by decide) rfl rfl hl.1 rfl (Nat.le_of_ble_eq_true rfl) ⟨by decide, by decide⟩ ⟨Nat.le_refl _, Nat.le_refl _⟩ dX2_isRaw_72) hB (fun q_19 σ_17 z_18 H locs hq_19 pq_19 hB => ?_)
    obtain ⟨pq_19, e1_, e2_⟩ := pq_19
    rw [e1_, e2_] at hB
    clear e1_ e2_
    subst pq_19
    refine z_top (b := (((fa (fp σ 3) k 1) : Nat) : Int)) (hG.sp hk (i := 1) (by omega) (by omega)) ?_
    refine g_iald (k := (fa (fp σ 3) k 1)) hx hb hK hB (by decide) rfl (by omega) (Nat.lt_of_lt_of_eq (by omega : (fa (fp σ 3) k 1) < 8) (Eq.symm rfl)) (by decide) dX2_isRaw_75 ?_
    refine z_top (b := (L (fa (fp σ 3) k 1))) (h20 _ (by omega)) ?_
    have hrl := hR 20 (fa (fp σ 3) k 1)
    rw [h20 _ (by omega)] at hrl
    refine lv_iconst (v := iZ 1) hx hb dX2_isRaw_76 rfl ?_
    refine z_icmp_ne (tgt := 84) hx hb dX2_isRaw_77 (by decide) ⟨by omega, by omega⟩ ⟨by decide, by decide⟩ (fun c_20 => ?_) (fun c_20 => ?_)
    · refine lv_iconst (v := iZ 0) hx hb dX2_isRaw_84 rfl ?_
      exact g_zret hx hb hr hlk hB dX2_isRaw_85 (by decide) (⟨Or.inr ⟨rfl, decide_eq_false (by omega)⟩, rfl, rfl⟩)
    · refine lv_iconst (v := iZ 1) hx hb dX2_isRaw_80 rfl ?_
      refine lv_goto (tgt := 85) hx hb dX2_isRaw_81 (by decide) ?_
      exact g_zret hx hb hr hlk hB dX2_isRaw_85 (by decide) (⟨Or.inl ⟨rfl, decide_eq_true (by omega)⟩, rfl, rfl⟩)
  · refine z_tabIn (v := 10) (off := 60) (tgt := 65) hx hb dX2_isRaw_5 c_4 ⟨by decide, by decide⟩ (by decide) (by decide) rfl (by decide) ?_
    have hxk := c_4
    have l1 : (fa (fp σ 3) k 1) < N := hG.st hk (by omega) (by unfold sPl; omega)
    refine lv_aload_n hx hb dX2_isRaw_65 rfl (lv_at hl 0 rfl) ?_
    refine g_getr (k := 10) (j := 20) hx hb hts hown hK hθ hB cf2 (by decide) rfl (by decide) kw_97 rfl rfl dX2_isRaw_66 ?_
    refine lv_aload_n hx hb dX2_isRaw_69 rfl (lv_at hl 1 rfl) ?_
    refine lv_iload_n hx hb dX2_isRaw_70 rfl (lv_at hl 2 rfl) ?_
    refine lv_iconst (v := iZ 1) hx hb dX2_isRaw_71 rfl ?_
    refine g_calli (g_runV (i := 3) (As := [.int (iZ ((k : Nat) : Int)), .int (iZ 1)]) (rest := [.ref (tad θ 20)]) hx hb hml hown hts hK hst hB (mX1_streamPart l θ hθ σ z 3 isF_3 k (by omega) 1 (by omega)) mv_X1_streamPart kw_379 cf1 (by decide) rfl rfl hl.1 rfl (Nat.le_of_ble_eq_true rfl) ⟨by decide, by decide⟩ ⟨Nat.le_refl _, Nat.le_refl _⟩ dX2_isRaw_72) hB (fun q_23 σ_21 z_22 H locs hq_23 pq_23 hB => ?_)
    obtain ⟨pq_23, e1_, e2_⟩ := pq_23
    rw [e1_, e2_] at hB
    clear e1_ e2_
    subst pq_23
    refine z_top (b := (((fa (fp σ 3) k 1) : Nat) : Int)) (hG.sp hk (i := 1) (by omega) (by omega)) ?_
    refine g_iald (k := (fa (fp σ 3) k 1)) hx hb hK hB (by decide) rfl (by omega) (Nat.lt_of_lt_of_eq (by omega : (fa (fp σ 3) k 1) < 8) (Eq.symm rfl)) (by decide) dX2_isRaw_75 ?_
    refine z_top (b := (L (fa (fp σ 3) k 1))) (h20 _ (by omega)) ?_
    have hrl := hR 20 (fa (fp σ 3) k 1)
    rw [h20 _ (by omega)] at hrl
    refine lv_iconst (v := iZ 1) hx hb dX2_isRaw_76 rfl ?_
    refine z_icmp_ne (tgt := 84) hx hb dX2_isRaw_77 (by decide) ⟨by omega, by omega⟩ ⟨by decide, by decide⟩ (fun c_24 => ?_) (fun c_24 => ?_)
    · refine lv_iconst (v := iZ 0) hx hb dX2_isRaw_84 rfl ?_
      exact g_zret hx hb hr hlk hB dX2_isRaw_85 (by decide) (⟨Or.inr ⟨rfl, decide_eq_false (by omega)⟩, rfl, rfl⟩)
    · refine lv_iconst (v := iZ 1) hx hb dX2_isRaw_80 rfl ?_
      refine lv_goto (tgt := 85) hx hb dX2_isRaw_81 (by decide) ?_
      exact g_zret hx hb hr hlk hB dX2_isRaw_85 (by decide) (⟨Or.inl ⟨rfl, decide_eq_true (by omega)⟩, rfl, rfl⟩)
  · refine z_tabIn (v := 11) (off := 81) (tgt := 86) hx hb dX2_isRaw_5 c_4 ⟨by decide, by decide⟩ (by decide) (by decide) rfl (by decide) ?_
    have hxk := c_4
    refine lv_aload_n hx hb dX2_isRaw_86 rfl (lv_at hl 0 rfl) ?_
    refine lv_aload_n hx hb dX2_isRaw_87 rfl (lv_at hl 1 rfl) ?_
    refine lv_iload_n hx hb dX2_isRaw_88 rfl (lv_at hl 2 rfl) ?_
    refine g_calli (g_runV (i := 13) (As := [.ref (tad θ 3), .int (iZ ((k : Nat) : Int))]) (rest := []) hx hb hml hown hts hK hst hB (mX2_highest l θ hθ σ z N hG L h20 k hk) mv_X2_highest kw_429 cf2 (by decide) rfl rfl hl.1 rfl (Nat.le_of_ble_eq_true rfl) ⟨by decide, by decide⟩ ⟨Nat.le_refl _, Nat.le_refl _⟩ dX2_isRaw_89) hB (fun q_27 σ_25 z_26 H locs hq_27 pq_27 hB => ?_)
    obtain ⟨pq_27, e1_, e2_⟩ := pq_27
    rw [e1_, e2_] at hB
    clear e1_ e2_
    subst pq_27
    refine lv_iconst (v := iZ 1) hx hb dX2_isRaw_92 rfl ?_
    refine z_icmp_ne (tgt := 100) hx hb dX2_isRaw_93 (by decide) ⟨by omega, by omega⟩ ⟨by decide, by decide⟩ (fun c_28 => ?_) (fun c_28 => ?_)
    · refine lv_iconst (v := iZ 0) hx hb dX2_isRaw_100 rfl ?_
      exact g_zret hx hb hr hlk hB dX2_isRaw_101 (by decide) (⟨Or.inr ⟨rfl, decide_eq_false (by omega)⟩, rfl, rfl⟩)
    · refine lv_iconst (v := iZ 1) hx hb dX2_isRaw_96 rfl ?_
      refine lv_goto (tgt := 101) hx hb dX2_isRaw_97 (by decide) ?_
      exact g_zret hx hb hr hlk hB dX2_isRaw_101 (by decide) (⟨Or.inl ⟨rfl, decide_eq_true (by omega)⟩, rfl, rfl⟩)
set_option maxHeartbeats 4000000 in
set_option maxRecDepth 100000 in
theorem mX2_findRaw (l : Launch) (θ : gT) (hθ : gOK θ) (σ : gS) (z : gZ) (N : Nat) (hG : cW (fp σ 3) N) (L : Nat → Int) (h20 : ∀ k, k < 8 → σ 20 k = L k) (hc : σ 13 3 = (N : Int)) : GI l θ yX2_findRaw cX2_findRaw 3 (some .int) 4 91 [.ref (tad θ 13), .ref (tad θ 3)] σ z (fun q σ' z' => (q = nO (fsR (rwC (fp σ 3) L) N)) ∧ σ' = σ ∧ z' = z) := by
  refine g_enter (ret := (some .int)) (by decide +kernel) (Nat.le_of_ble_eq_true rfl) ?_
  intro p e s m args below meth c ls F hB hl
  obtain ⟨hx, hb, hr, hml, hown, hts, hlk, hK, hst⟩ := F
  have hR := hB.1.2
  have hl : lv_has ls 3 [(0, .ref (tad θ 13)), (1, .ref (tad θ 3))] := hl
  have hN8 := hG.2.1
  refine lv_iconst (v := iZ 0) hx hb dX2_findRaw_0 rfl ?_
  refine lv_istore_n (lv' := [(2, .int (iZ 0)), (0, .ref (tad θ 13)), (1, .ref (tad θ 3))]) hx hb dX2_findRaw_1 rfl hl (by decide) rfl (fun ls hl => ?_)
  have loop2 : ∀ (n2 : Nat) (i : Nat) (H : Heap) (locs : List Loc) (ls : Array Slot), N - i < n2 → (i ≤ N) → (∀ j, j < i → rwC (fp σ 3) L j = false) →  gB θ σ z s.heap H locs → lv_has ls 3 [(2, .int (iZ ((i : Nat) : Int))), (0, .ref (tad θ 13)), (1, .ref (tad θ 3))] → W p l e (gRm 4 91) s m args below meth c H locs 0 0 (MQ below (gQi θ (fun q σ' z' => (q = nO (fsR (rwC (fp σ 3) L) N)) ∧ σ' = σ ∧ z' = z)) args s 0 0 (tA θ)) (F0 m 2 ls []) := by
    intro n2
    induction n2 with
    | zero => intro i H locs ls hmu; exact absurd hmu (Nat.not_lt_zero _)
    | succ n2 ih2 =>
      intro i H locs ls hmu hi hno hB hl
      have hR := hB.1.2
      refine lv_iload_n hx hb dX2_findRaw_2 rfl (lv_at hl 0 rfl) ?_
      refine lv_aload_n hx hb dX2_findRaw_3 rfl (lv_at hl 1 rfl) ?_
      refine g_geti (k := 3) hx hb hts hown hK hB cf2 (by decide) rfl (by decide) kw_85 rfl dX2_findRaw_4 ?_
      refine z_top (b := ((N : Nat) : Int)) (hc) ?_
      refine z_icmp_ge (tgt := 27) hx hb dX2_findRaw_7 (by decide) ⟨by omega, by omega⟩ ⟨by omega, by omega⟩ (fun c_1 => ?_) (fun c_1 => ?_)
      · refine lv_bipush (v := iZ (-9)) hx hb dX2_findRaw_27 (by decide) ?_
        exact g_iret hx hb hr hlk hB dX2_findRaw_29 ⟨by decide, by decide⟩ (⟨by rw [fsR_none.mpr (fun j hj => hno j (by omega))]; rfl, rfl, rfl⟩)
      · refine lv_aload_n hx hb dX2_findRaw_10 rfl (lv_at hl 1 rfl) ?_
        refine lv_aload_n hx hb dX2_findRaw_11 rfl (lv_at hl 2 rfl) ?_
        refine lv_iload_n hx hb dX2_findRaw_12 rfl (lv_at hl 0 rfl) ?_
        refine g_calli (g_runV (i := 13) (As := [.ref (tad θ 3), .int (iZ ((i : Nat) : Int))]) (rest := []) hx hb hml hown hts hK hst hB (mX2_isRaw l θ hθ σ z N hG L h20 i (by omega)) mv_X2_isRaw kw_438 cf2 (by decide) rfl rfl hl.1 rfl (Nat.le_of_ble_eq_true rfl) ⟨by decide, by decide⟩ ⟨Nat.le_refl _, Nat.le_refl _⟩ dX2_findRaw_13) hB (fun qr σ_2 z_3 H locs hqr hpr hB => ?_)
        obtain ⟨hpr, e1_, e2_⟩ := hpr
        rw [e1_, e2_] at hB
        clear e1_ e2_
        rcases hpr with ⟨hqr, hrw⟩ | ⟨hqr, hrw⟩
        · subst hqr
          refine z_if_eq (tgt := 21) hx hb dX2_findRaw_16 (by decide) ⟨by decide, by decide⟩ (fun c_4 => ?_) (fun c_4 => ?_)
          · exact absurd c_4 (by decide)
          · refine lv_iload_n hx hb dX2_findRaw_19 rfl (lv_at hl 0 rfl) ?_
            exact g_iret hx hb hr hlk hB dX2_findRaw_20 ⟨by omega, by omega⟩ (⟨by rw [fsR_some.mpr ⟨by omega, hrw, hno⟩]; rfl, rfl, rfl⟩)
        · subst hqr
          refine z_if_eq (tgt := 21) hx hb dX2_findRaw_16 (by decide) ⟨by decide, by decide⟩ (fun c_5 => ?_) (fun c_5 => ?_)
          · refine z_iinc (k := 0) (lv' := [(2, .int (iZ (((i : Nat) : Int) + 1))), (0, .ref (tad θ 13)), (1, .ref (tad θ 3))]) hx hb dX2_findRaw_21 hl rfl (by decide) rfl (fun ls hl => ?_)
            have hl : lv_has ls 3 [(2, .int (iZ (((i + 1) : Nat) : Int))), (0, .ref (tad θ 13)), (1, .ref (tad θ 3))] := by have e9 : (((i : Nat) : Int) + 1) = (((i + 1) : Nat) : Int) := (by omega); rw [e9] at hl; exact hl
            refine lv_goto (tgt := 2) hx hb dX2_findRaw_24 (by decide) ?_
            exact ih2 (i + 1) _ _ _ (by omega) (by omega) (lt_s hno hrw) hB (lv_sub hl [0, 1, 2] rfl)
          · exact absurd (by decide) c_5
  exact loop2 _ 0 _ _ _ (Nat.lt_succ_self _) (by omega) (fun k h => absurd h (Nat.not_lt_zero _)) hB (lv_sub hl [0, 1, 2] rfl)
set_option maxHeartbeats 4000000 in
set_option maxRecDepth 100000 in
theorem mX2_findLevels (l : Launch) (θ : gT) (hθ : gOK θ) (σ : gS) (z : gZ) (N : Nat) (hG : cW (fp σ 3) N) (hc : σ 13 3 = (N : Int)) : GV l θ yX2_findLevels cX2_findLevels 4 4 91 [.ref (tad θ 13), .ref (tad θ 3)] σ z (fun σ' z' => (∀ k, k < 8 → σ' 20 k = lpC (fp σ 3) N 8 k) ∧ fr w20 σ σ' ∧ z' = z) := by
  refine g_enter (ret := none) (by decide +kernel) (Nat.le_of_ble_eq_true rfl) ?_
  intro p e s m args below meth c ls F hB hl
  obtain ⟨hx, hb, hr, hml, hown, hts, hlk, hK, hst⟩ := F
  have hR := hB.1.2
  have hl : lv_has ls 4 [(0, .ref (tad θ 13)), (1, .ref (tad θ 3))] := hl
  have hN8 := hG.2.1
  refine lv_aload_n hx hb dX2_findLevels_0 rfl (lv_at hl 0 rfl) ?_
  refine g_getr (k := 10) (j := 20) hx hb hts hown hK hθ hB cf2 (by decide) rfl (by decide) kw_97 rfl rfl dX2_findLevels_1 ?_
  refine lv_iconst (v := iZ 0) hx hb dX2_findLevels_4 rfl ?_
  refine g_callv (g_runS (As := [.ref (tad θ 20), .int (iZ 0)]) (rest := []) hx hb hml hown hts hK hst hB (mJ7_fill_53178 l θ hθ σ z 20 8 (by decide) rfl rfl 0 ⟨by decide, by decide⟩) ms_J7_fill_53178 kw_412 rfl hl.1 rfl (Nat.le_of_ble_eq_true rfl) ⟨by decide, by decide⟩ ⟨Nat.le_refl _, Nat.le_refl _⟩ dX2_findLevels_5) hB (fun σ1 z_1 H locs hp1 hB => ?_)
  obtain ⟨hp1, hf1, e2_⟩ := hp1
  rw [e2_] at hB
  clear e2_
  have hR := hB.1.2
  refine lv_iconst (v := iZ 0) hx hb dX2_findLevels_8 rfl ?_
  refine lv_istore_n (lv' := [(2, .int (iZ 0)), (0, .ref (tad θ 13)), (1, .ref (tad θ 3))]) hx hb dX2_findLevels_9 rfl hl (by decide) rfl (fun ls hl => ?_)
  have loop10 : ∀ (n10 : Nat) (t : Nat) (σ2 : gS) (H : Heap) (locs : List Loc) (ls : Array Slot), 8 - t < n10 → (t ≤ 8) → (∀ k, k < 8 → σ2 20 k = lpC (fp σ 3) N t k) → (fr w20 σ σ2) →  gB θ σ2 z s.heap H locs → lv_has ls 4 [(2, .int (iZ ((t : Nat) : Int))), (0, .ref (tad θ 13)), (1, .ref (tad θ 3))] → W p l e (gRm 4 91) s m args below meth c H locs 0 0 (MQ below (gQv θ (fun σ' z' => (∀ k, k < 8 → σ' 20 k = lpC (fp σ 3) N 8 k) ∧ fr w20 σ σ' ∧ z' = z)) args s 0 0 (tA θ)) (F0 m 10 ls []) := by
    intro n10
    induction n10 with
    | zero => intro t σ2 H locs ls hmu; exact absurd hmu (Nat.not_lt_zero _)
    | succ n10 ih10 =>
      intro t σ2 H locs ls hmu ht hL hf hB hl
      have hR := hB.1.2
      refine lv_iload_n hx hb dX2_findLevels_10 rfl (lv_at hl 0 rfl) ?_
      refine lv_bipush (v := iZ 8) hx hb dX2_findLevels_11 (by decide) ?_
      refine z_icmp_ge (tgt := 50) hx hb dX2_findLevels_13 (by decide) ⟨by omega, by omega⟩ ⟨by decide, by decide⟩ (fun c_3 => ?_) (fun c_3 => ?_)
      · exact g_vret hx hb hr hlk hB dX2_findLevels_50 (⟨fun k hk => by rw [hL k hk, show t = 8 by omega], hf, rfl⟩)
      · refine lv_iconst (v := iZ 0) hx hb dX2_findLevels_16 rfl ?_
        refine lv_istore_n (lv' := [(3, .int (iZ 0)), (2, .int (iZ ((t : Nat) : Int))), (0, .ref (tad θ 13)), (1, .ref (tad θ 3))]) hx hb dX2_findLevels_17 rfl hl (by decide) rfl (fun ls hl => ?_)
        have loop18 : ∀ (n18 : Nat) (j : Nat) (σ3 : gS) (H : Heap) (locs : List Loc) (ls : Array Slot), N - j < n18 → (j ≤ N) → (∀ k, k < 8 → σ3 20 k = lkC (fp σ 3) (lpC (fp σ 3) N t) j k) → (fr w20 σ σ3) →  gB θ σ3 z s.heap H locs → lv_has ls 4 [(3, .int (iZ ((j : Nat) : Int))), (2, .int (iZ ((t : Nat) : Int))), (0, .ref (tad θ 13)), (1, .ref (tad θ 3))] → W p l e (gRm 4 91) s m args below meth c H locs 0 0 (MQ below (gQv θ (fun σ' z' => (∀ k, k < 8 → σ' 20 k = lpC (fp σ 3) N 8 k) ∧ fr w20 σ σ' ∧ z' = z)) args s 0 0 (tA θ)) (F0 m 18 ls []) := by
          intro n18
          induction n18 with
          | zero => intro j σ3 H locs ls hmu; exact absurd hmu (Nat.not_lt_zero _)
          | succ n18 ih18 =>
            intro j σ3 H locs ls hmu hj hL3 hf3 hB hl
            have hR := hB.1.2
            have hG3 := l_fp3 hf3
            have hc3 : σ3 13 3 = (N : Int) := by rw [hf3 13 3 rfl]; exact hc
            refine lv_iload_n hx hb dX2_findLevels_18 rfl (lv_at hl 0 rfl) ?_
            refine lv_aload_n hx hb dX2_findLevels_19 rfl (lv_at hl 2 rfl) ?_
            refine g_geti (k := 3) hx hb hts hown hK hB cf2 (by decide) rfl (by decide) kw_85 rfl dX2_findLevels_20 ?_
            refine z_top (b := ((N : Nat) : Int)) (hc3) ?_
            refine z_icmp_ge (tgt := 44) hx hb dX2_findLevels_23 (by decide) ⟨by omega, by omega⟩ ⟨by omega, by omega⟩ (fun c_4 => ?_) (fun c_4 => ?_)
            · refine z_iinc (k := 1) (lv' := [(2, .int (iZ (((t : Nat) : Int) + 1))), (3, .int (iZ ((j : Nat) : Int))), (0, .ref (tad θ 13)), (1, .ref (tad θ 3))]) hx hb dX2_findLevels_44 hl rfl (by decide) rfl (fun ls hl => ?_)
              have hl : lv_has ls 4 [(2, .int (iZ (((t + 1) : Nat) : Int))), (3, .int (iZ ((j : Nat) : Int))), (0, .ref (tad θ 13)), (1, .ref (tad θ 3))] := by have e9 : (((t : Nat) : Int) + 1) = (((t + 1) : Nat) : Int) := (by omega); rw [e9] at hl; exact hl
              refine lv_goto (tgt := 10) hx hb dX2_findLevels_47 (by decide) ?_
              exact ih10 (t + 1) σ3 _ _ _ (by omega) (by omega) (fun k hk => by rw [hL3 k hk, show j = N by omega]; rfl) hf3 hB (lv_sub hl [0, 2, 3] rfl)
            · refine lv_aload_n hx hb dX2_findLevels_26 rfl (lv_at hl 2 rfl) ?_
              refine g_getr (k := 10) (j := 20) hx hb hts hown hK hθ hB cf2 (by decide) rfl (by decide) kw_97 rfl rfl dX2_findLevels_27 ?_
              refine lv_iload_n hx hb dX2_findLevels_30 rfl (lv_at hl 0 rfl) ?_
              refine lv_aload_n hx hb dX2_findLevels_31 rfl (lv_at hl 2 rfl) ?_
              refine lv_aload_n hx hb dX2_findLevels_32 rfl (lv_at hl 3 rfl) ?_
              refine lv_iload_n hx hb dX2_findLevels_33 rfl (lv_at hl 0 rfl) ?_
              refine g_calli (g_runV (i := 13) (As := [.ref (tad θ 3), .int (iZ ((j : Nat) : Int))]) (rest := [.int (iZ ((j : Nat) : Int)), .ref (tad θ 20)]) hx hb hml hown hts hK hst hB (mX2_levelByParts l θ hθ σ3 z N (by rw [hG3]; exact hG) (lkC (fp σ 3) (lpC (fp σ 3) N t) j) hL3 j (by omega)) mv_X2_levelByParts kw_425 cf2 (by decide) rfl rfl hl.1 rfl (Nat.le_of_ble_eq_true rfl) ⟨by decide, by decide⟩ ⟨Nat.le_refl _, Nat.le_refl _⟩ dX2_findLevels_34) hB (fun qv σ_5 z_6 H locs hqv pqv hB => ?_)
              obtain ⟨pqv, e1_, e2_⟩ := pqv
              rw [e1_, e2_] at hB
              clear e1_ e2_
              subst pqv
              refine z_top (b := (lvC (fp σ 3) (lkC (fp σ 3) (lpC (fp σ 3) N t) j) j)) (by rw [hG3]) ?_
              have hrlv : rg (lvC (fp σ 3) (lkC (fp σ 3) (lpC (fp σ 3) N t) j) j) := by have h9 := hqv; rw [hG3] at h9; exact h9
              refine g_iast (k := j) hx hb hK hθ hB (by decide) rfl (by omega) (Nat.lt_of_lt_of_eq (by omega : j < 8) (Eq.symm rfl)) (by decide) hrlv dX2_findLevels_37 (fun H locs hB => ?_)
              obtain ⟨σ4, hσ4⟩ : ∃ x_ : gS, x_ = up2 σ3 20 j (lvC (fp σ 3) (lkC (fp σ 3) (lpC (fp σ 3) N t) j) j) := ⟨_, rfl⟩
              rw [← hσ4] at hB
              have hR := hB.1.2
              refine z_iinc (k := 0) (lv' := [(3, .int (iZ (((j : Nat) : Int) + 1))), (2, .int (iZ ((t : Nat) : Int))), (0, .ref (tad θ 13)), (1, .ref (tad θ 3))]) hx hb dX2_findLevels_38 hl rfl (by decide) rfl (fun ls hl => ?_)
              have hl : lv_has ls 4 [(3, .int (iZ (((j + 1) : Nat) : Int))), (2, .int (iZ ((t : Nat) : Int))), (0, .ref (tad θ 13)), (1, .ref (tad θ 3))] := by have e9 : (((j : Nat) : Int) + 1) = (((j + 1) : Nat) : Int) := (by omega); rw [e9] at hl; exact hl
              refine lv_goto (tgt := 18) hx hb dX2_findLevels_41 (by decide) ?_
              exact ih18 (j + 1) σ4 _ _ _ (by omega) (by omega) (fun i hi => by rw [hσ4]; exact up_upn hL3 j _ i hi) (by rw [hσ4]; exact hf3.tr (fr.up rfl)) hB (lv_sub hl [0, 1, 2, 3] rfl)
        exact loop18 _ 0 σ2 _ _ _ (Nat.lt_succ_self _) (by omega) hL hf hB (lv_sub hl [0, 1, 2, 3] rfl)
  exact loop10 _ 0 σ1 _ _ _ (Nat.lt_succ_self _) (by omega) hp1 (hf1.mono (fun i k h => by simp at h; subst h; rfl)) hB (lv_sub hl [0, 1, 2] rfl)
