set_option maxHeartbeats 4000000 in
set_option maxRecDepth 100000 in
theorem mX6_explains (l : Launch) (θ : gT) (hθ : gOK θ) (σ : gS) (z : gZ) (w : mC) (N : Nat) (T : Nat → Nat) (hX : tCx σ w N T) (hpg : tOk (σ 114) N) (n : Nat) (hn : σ 111 11 = (n : Int)) (hse : seenOK σ n) (a0 b0 : Int) (ha : 0 ≤ a0 ∧ a0 ≤ 99) (hb0 : 0 ≤ b0 ∧ b0 ≤ 99) : GI l θ yX6_explains cX6_explains 6 (some .boolean) 4 100 [.ref (tad θ 111), .int (iZ a0), .int (iZ b0)] σ z (fun q σ' z' => ((q = 1 ∧ exP σ n (fun t => tkC (afM (cpr (σ 114) (σ 115) 50)) w T N a0 b0 t)) ∨ (q = 0 ∧ ¬ exP σ n (fun t => tkC (afM (cpr (σ 114) (σ 115) 50)) w T N a0 b0 t))) ∧ fr (wTk 115) σ σ' ∧ z' = z) := by
  refine g_enter (ret := (some .boolean)) (by decide +kernel) (Nat.le_of_ble_eq_true rfl) ?_
  intro p e s m args below meth c ls F hB hl
  obtain ⟨hx, hb, hr, hml, hown, hts, hlk, hK, hst⟩ := F
  have hR := hB.1.2
  have hl : lv_has ls 6 [(0, .ref (tad θ 111)), (1, .int (iZ a0)), (2, .int (iZ b0))] := hl
  have hN8 : N ≤ 8 := by have := hpg.1.1; have := hpg.2.2; omega
  have hB0 : tOk (cpr (σ 114) (σ 115) 50) N := hpg.cong (fun k hk => cpr_50 _ _ hk)
  have hn6 := hse.1
  refine lv_aload_n hx hb dX6_explains_0 rfl (lv_at hl 0 rfl) ?_
  refine g_callv (g_runV (i := 111) (As := []) (rest := []) hx hb hml hown hts hK hst hB (mX6_begin l θ hθ σ z ) mv_X6_begin kw_934 cf6 (by decide) rfl rfl hl.1 rfl (Nat.le_of_ble_eq_true rfl) ⟨by decide, by decide⟩ ⟨Nat.le_refl _, Nat.le_refl _⟩ dX6_explains_1) hB (fun σ1 z_1 H locs hp1 hB => ?_)
  obtain ⟨hp1, hf1, e2_⟩ := hp1
  rw [e2_] at hB
  clear e2_
  have hR := hB.1.2
  refine lv_aload_n hx hb dX6_explains_4 rfl (lv_at hl 0 rfl) ?_
  refine g_getr (k := 6) (j := 115) hx hb hts hown hK hθ hB cf6 (by decide) rfl (by decide) kw_665 rfl rfl dX6_explains_5 ?_
  refine g_callv (g_runS (As := [.ref (tad θ 115)]) (rest := []) hx hb hml hown hts hK hst hB (mX6_goAfresh l θ hθ σ1 z 115 (Or.inr rfl) (by rw [hp1]; exact hB0.1)) ms_X6_goAfresh kw_786 rfl hl.1 rfl (Nat.le_of_ble_eq_true rfl) ⟨by decide, by decide⟩ ⟨Nat.le_refl _, Nat.le_refl _⟩ dX6_explains_8) hB (fun σ2 z_3 H locs hp2 hB => ?_)
  obtain ⟨hp2, hf2, e2_⟩ := hp2
  rw [e2_] at hB
  clear e2_
  have hR := hB.1.2
  refine lv_iconst (v := iZ 1) hx hb dX6_explains_11 rfl ?_
  refine lv_istore_n (lv' := [(3, .int (iZ 1)), (0, .ref (tad θ 111)), (1, .int (iZ a0)), (2, .int (iZ b0))]) hx hb dX6_explains_12 rfl hl (by decide) rfl (fun ls hl => ?_)
  refine lv_iconst (v := iZ 1) hx hb dX6_explains_13 rfl ?_
  refine z_top (b := (((0 + 1) : Nat) : Int)) (rfl) ?_
  refine lv_istore (lv' := [(4, .int (iZ (((0 + 1) : Nat) : Int))), (3, .int (iZ 1)), (0, .ref (tad θ 111)), (1, .int (iZ a0)), (2, .int (iZ b0))]) hx hb dX6_explains_14 hl (by decide) rfl (fun ls hl => ?_)
  have loop16 : ∀ (n16 : Nat) (t : Nat) (v : Int) (σ3 : gS) (H : Heap) (locs : List Loc) (ls : Array Slot), 12 - t < n16 → (t ≤ 12) → (σ3 115 = (tkC (afM (cpr (σ 114) (σ 115) 50)) w T N a0 b0 t)) → ((v = 1 ∧ ∀ u, u < t → ∀ i, i < n → exC σ (fun t => tkC (afM (cpr (σ 114) (σ 115) 50)) w T N a0 b0 t) i u) ∨ (v = 0 ∧ ¬ exP σ n (fun t => tkC (afM (cpr (σ 114) (σ 115) 50)) w T N a0 b0 t))) → (fr (wTk 115) σ σ3) →  gB θ σ3 z s.heap H locs → lv_has ls 6 [(4, .int (iZ (((t + 1) : Nat) : Int))), (3, .int (iZ v)), (0, .ref (tad θ 111)), (1, .int (iZ a0)), (2, .int (iZ b0))] → W p l e (gRm 4 100) s m args below meth c H locs 0 0 (MQ below (gQi θ (fun q σ' z' => ((q = 1 ∧ exP σ n (fun t => tkC (afM (cpr (σ 114) (σ 115) 50)) w T N a0 b0 t)) ∨ (q = 0 ∧ ¬ exP σ n (fun t => tkC (afM (cpr (σ 114) (σ 115) 50)) w T N a0 b0 t))) ∧ fr (wTk 115) σ σ' ∧ z' = z)) args s 0 0 (tA θ)) (F0 m 16 ls []) := by
    intro n16
    induction n16 with
    | zero => intro t v σ3 H locs ls hmu; exact absurd hmu (Nat.not_lt_zero _)
    | succ n16 ih16 =>
      intro t v σ3 H locs ls hmu ht hg hv hf hB hl
      have hR := hB.1.2
      have hX3 : tCx σ3 w N T := hX.keep (hf.row (fun k => rfl)) (hf.row (fun k => rfl)) (hf.row (fun k => rfl))
      have hr3 : tOk (σ3 115) N := by rw [hg]; exact tkC_ok (w := w) (afM_ok hB0) hX.lt ha hb0 t
      have hvr : v = 0 ∨ v = 1 := by rcases hv with h | h <;> omega
      refine lv_iload hx hb dX6_explains_16 (lv_at hl 0 rfl) ?_
      refine lv_bipush (v := iZ 12) hx hb dX6_explains_18 (by decide) ?_
      refine z_icmp_gt (tgt := 129) hx hb dX6_explains_20 (by decide) ⟨by omega, by omega⟩ ⟨by decide, by decide⟩ (fun c_5 => ?_) (fun c_5 => ?_)
      · have hfin : (v = 1 ∧ exP σ n (fun t => tkC (afM (cpr (σ 114) (σ 115) 50)) w T N a0 b0 t)) ∨ (v = 0 ∧ ¬ exP σ n (fun t => tkC (afM (cpr (σ 114) (σ 115) 50)) w T N a0 b0 t)) := by
          rcases hv with ⟨h1, h2⟩ | h
          · exact Or.inl ⟨h1, fun u hu i hi => h2 u (by omega) i hi⟩
          · exact Or.inr h
        refine lv_iload_n hx hb dX6_explains_129 rfl (lv_at hl 1 rfl) ?_
        exact g_zret hx hb hr hlk hB dX6_explains_130 (by omega) (⟨hfin, hf, rfl⟩)
      · refine lv_aload_n hx hb dX6_explains_23 rfl (lv_at hl 2 rfl) ?_
        refine lv_aload_n hx hb dX6_explains_24 rfl (lv_at hl 2 rfl) ?_
        refine g_getr (k := 6) (j := 115) hx hb hts hown hK hθ hB cf6 (by decide) rfl (by decide) kw_665 rfl rfl dX6_explains_25 ?_
        refine lv_iload_n hx hb dX6_explains_28 rfl (lv_at hl 3 rfl) ?_
        refine lv_iload_n hx hb dX6_explains_29 rfl (lv_at hl 4 rfl) ?_
        refine g_calli (g_runV (i := 111) (As := [.ref (tad θ 115), .int (iZ a0), .int (iZ b0)]) (rest := []) hx hb hml hown hts hK hst hB (mX6_goTick l θ hθ σ3 z w (hX3).1 (hX3).2.1 115 (Or.inr rfl) (hr3).1 N (hr3).2.2 (hr3).2.1 T (hX3).2.2 a0 b0 (ha) (hb0)) mv_X6_goTick kw_893 cf6 (by decide) rfl rfl hl.1 rfl (Nat.le_of_ble_eq_true rfl) ⟨by decide, by decide⟩ ⟨Nat.le_refl _, Nat.le_refl _⟩ dX6_explains_30) hB (fun q_7 σ4 z_6 H locs hq_7 hp4 hB => ?_)
        obtain ⟨hp4, hf4, e2_⟩ := hp4
        rw [e2_] at hB
        clear e2_
        have hR := hB.1.2
        have hg4 : σ4 115 = (tkC (afM (cpr (σ 114) (σ 115) 50)) w T N a0 b0 (t + 1)) := by rw [hp4.1, hg]; rfl
        have hr4 : tOk (tkC (afM (cpr (σ 114) (σ 115) 50)) w T N a0 b0 (t + 1)) N := tkC_ok (w := w) (afM_ok hB0) hX.lt ha hb0 (t + 1)
        have hf04 : fr (wTk 115) σ σ4 := hf.tr hf4
        refine lv_pop hx hb dX6_explains_33 rfl ?_
        refine lv_iconst (v := iZ 0) hx hb dX6_explains_34 rfl ?_
        refine lv_istore (lv' := [(5, .int (iZ 0)), (4, .int (iZ (((t + 1) : Nat) : Int))), (3, .int (iZ v)), (0, .ref (tad θ 111)), (1, .int (iZ a0)), (2, .int (iZ b0))]) hx hb dX6_explains_35 hl (by decide) rfl (fun ls hl => ?_)
        have loop37 : ∀ (n37 : Nat) (i : Nat) (v2 : Int) (H : Heap) (locs : List Loc) (ls : Array Slot), n - i < n37 → (i ≤ n) → ((v2 = 1 ∧ (∀ u, u < t → ∀ i, i < n → exC σ (fun t => tkC (afM (cpr (σ 114) (σ 115) 50)) w T N a0 b0 t) i u) ∧ ∀ j, j < i → exC σ (fun t => tkC (afM (cpr (σ 114) (σ 115) 50)) w T N a0 b0 t) j t) ∨ (v2 = 0 ∧ ¬ exP σ n (fun t => tkC (afM (cpr (σ 114) (σ 115) 50)) w T N a0 b0 t))) →  gB θ σ4 z s.heap H locs → lv_has ls 6 [(5, .int (iZ ((i : Nat) : Int))), (4, .int (iZ (((t + 1) : Nat) : Int))), (3, .int (iZ v2)), (0, .ref (tad θ 111)), (1, .int (iZ a0)), (2, .int (iZ b0))] → W p l e (gRm 4 100) s m args below meth c H locs 0 0 (MQ below (gQi θ (fun q σ' z' => ((q = 1 ∧ exP σ n (fun t => tkC (afM (cpr (σ 114) (σ 115) 50)) w T N a0 b0 t)) ∨ (q = 0 ∧ ¬ exP σ n (fun t => tkC (afM (cpr (σ 114) (σ 115) 50)) w T N a0 b0 t))) ∧ fr (wTk 115) σ σ' ∧ z' = z)) args s 0 0 (tA θ)) (F0 m 37 ls []) := by
          intro n37
          induction n37 with
          | zero => intro i v2 H locs ls hmu; exact absurd hmu (Nat.not_lt_zero _)
          | succ n37 ih37 =>
            intro i v2 H locs ls hmu hi hv2 hB hl
            have hR := hB.1.2
            have hvr2 : v2 = 0 ∨ v2 = 1 := by rcases hv2 with h | h <;> omega
            refine lv_iload hx hb dX6_explains_37 (lv_at hl 0 rfl) ?_
            refine lv_aload_n hx hb dX6_explains_39 rfl (lv_at hl 3 rfl) ?_
            refine g_geti (k := 11) hx hb hts hown hK hB cf6 (by decide) rfl (by decide) kw_670 rfl dX6_explains_40 ?_
            refine z_top (b := ((n : Nat) : Int)) (by rw [hf04 111 11 rfl]; exact hn) ?_
            refine z_icmp_ge (tgt := 123) hx hb dX6_explains_43 (by decide) ⟨by omega, by omega⟩ ⟨by omega, by omega⟩ (fun c_8 => ?_) (fun c_8 => ?_)
            · refine z_iinc (k := 1) (lv' := [(4, .int (iZ ((((t + 1) : Nat) : Int) + 1))), (5, .int (iZ ((i : Nat) : Int))), (3, .int (iZ v2)), (0, .ref (tad θ 111)), (1, .int (iZ a0)), (2, .int (iZ b0))]) hx hb dX6_explains_123 hl rfl (by decide) rfl (fun ls hl => ?_)
              have hl : lv_has ls 6 [(4, .int (iZ ((((t + 1) + 1) : Nat) : Int))), (5, .int (iZ ((i : Nat) : Int))), (3, .int (iZ v2)), (0, .ref (tad θ 111)), (1, .int (iZ a0)), (2, .int (iZ b0))] := by have e9 : ((((t + 1) : Nat) : Int) + 1) = ((((t + 1) + 1) : Nat) : Int) := (by omega); rw [e9] at hl; exact hl
              refine lv_goto (tgt := 16) hx hb dX6_explains_126 (by decide) ?_
              have hv4 : (v2 = 1 ∧ ∀ u, u < t + 1 → ∀ i, i < n → exC σ (fun t => tkC (afM (cpr (σ 114) (σ 115) 50)) w T N a0 b0 t) i u) ∨ (v2 = 0 ∧ ¬ exP σ n (fun t => tkC (afM (cpr (σ 114) (σ 115) 50)) w T N a0 b0 t)) := by
                rcases hv2 with ⟨h1, h2, h3⟩ | h
                · exact Or.inl ⟨h1, lt_s h2 (fun i hi => h3 i (by omega))⟩
                · exact Or.inr h
              exact ih16 (t + 1) v2 σ4 _ _ _ (by omega) (by omega) hg4 hv4 (hf.tr hf4) hB (lv_sub hl [0, 2, 3, 4, 5] rfl)
            · refine lv_iload_n hx hb dX6_explains_46 rfl (lv_at hl 2 rfl) ?_
              refine z_if_eq (tgt := 115) hx hb dX6_explains_47 (by decide) ⟨by omega, by omega⟩ (fun c_9 => ?_) (fun c_9 => ?_)
              · refine lv_iconst (v := iZ 0) hx hb dX6_explains_115 rfl ?_
                refine lv_istore_n (lv' := [(3, .int (iZ 0)), (5, .int (iZ ((i : Nat) : Int))), (4, .int (iZ (((t + 1) : Nat) : Int))), (0, .ref (tad θ 111)), (1, .int (iZ a0)), (2, .int (iZ b0))]) hx hb dX6_explains_116 rfl hl (by decide) rfl (fun ls hl => ?_)
                refine z_iinc (k := 1) (lv' := [(5, .int (iZ (((i : Nat) : Int) + 1))), (3, .int (iZ 0)), (4, .int (iZ (((t + 1) : Nat) : Int))), (0, .ref (tad θ 111)), (1, .int (iZ a0)), (2, .int (iZ b0))]) hx hb dX6_explains_117 hl rfl (by decide) rfl (fun ls hl => ?_)
                have hl : lv_has ls 6 [(5, .int (iZ (((i + 1) : Nat) : Int))), (3, .int (iZ 0)), (4, .int (iZ (((t + 1) : Nat) : Int))), (0, .ref (tad θ 111)), (1, .int (iZ a0)), (2, .int (iZ b0))] := by have e9 : (((i : Nat) : Int) + 1) = (((i + 1) : Nat) : Int) := (by omega); rw [e9] at hl; exact hl
                refine lv_goto (tgt := 37) hx hb dX6_explains_120 (by decide) ?_
                exact ih37 (i + 1) 0 _ _ _ (by omega) (by omega) (Or.inr ⟨rfl, (hv2.resolve_left (fun h => by omega)).2⟩) hB (lv_sub hl [0, 2, 1, 3, 4, 5] rfl)
              · have hall := (hv2.resolve_right (fun h => by omega)).2
                refine lv_aload_n hx hb dX6_explains_50 rfl (lv_at hl 3 rfl) ?_
                refine g_getr (k := 12) (j := 119) hx hb hts hown hK hθ hB cf6 (by decide) rfl (by decide) kw_671 rfl rfl dX6_explains_51 ?_
                refine lv_iload hx hb dX6_explains_54 (lv_at hl 0 rfl) ?_
                refine g_iald (k := i) hx hb hK hB (by decide) rfl (by omega) (Nat.lt_of_lt_of_eq (by omega : i < 6) (Eq.symm rfl)) (by decide) dX6_explains_56 ?_
                refine z_top (b := (σ 119 i)) (by rw [hf04.row (fun k => rfl)]) ?_
                have hr9 := hR 119 i
                rw [hf04.row (fun k => rfl)] at hr9
                refine lv_iload hx hb dX6_explains_57 (lv_at hl 1 rfl) ?_
                refine z_icmp_ne (tgt := 111) hx hb dX6_explains_59 (by decide) ⟨by omega, by omega⟩ ⟨by omega, by omega⟩ (fun c_10 => ?_) (fun c_10 => ?_)
                · have hne : ¬ σ 119 i = ((t + 1 : Nat) : Int) := c_10
                  refine lv_iconst (v := iZ 1) hx hb dX6_explains_111 rfl ?_
                  refine lv_goto (tgt := 116) hx hb dX6_explains_112 (by decide) ?_
                  refine lv_istore_n (lv' := [(3, .int (iZ 1)), (5, .int (iZ ((i : Nat) : Int))), (4, .int (iZ (((t + 1) : Nat) : Int))), (0, .ref (tad θ 111)), (1, .int (iZ a0)), (2, .int (iZ b0))]) hx hb dX6_explains_116 rfl hl (by decide) rfl (fun ls hl => ?_)
                  refine z_iinc (k := 1) (lv' := [(5, .int (iZ (((i : Nat) : Int) + 1))), (3, .int (iZ 1)), (4, .int (iZ (((t + 1) : Nat) : Int))), (0, .ref (tad θ 111)), (1, .int (iZ a0)), (2, .int (iZ b0))]) hx hb dX6_explains_117 hl rfl (by decide) rfl (fun ls hl => ?_)
                  have hl : lv_has ls 6 [(5, .int (iZ (((i + 1) : Nat) : Int))), (3, .int (iZ 1)), (4, .int (iZ (((t + 1) : Nat) : Int))), (0, .ref (tad θ 111)), (1, .int (iZ a0)), (2, .int (iZ b0))] := by have e9 : (((i : Nat) : Int) + 1) = (((i + 1) : Nat) : Int) := (by omega); rw [e9] at hl; exact hl
                  refine lv_goto (tgt := 37) hx hb dX6_explains_120 (by decide) ?_
                  exact ih37 (i + 1) 1 _ _ _ (by omega) (by omega) (Or.inl ⟨rfl, hall.1, lt_s hall.2 (fun q => absurd q hne)⟩) hB (lv_sub hl [0, 2, 1, 3, 4, 5] rfl)
                · have hwh : σ 119 i = ((t + 1 : Nat) : Int) := c_10
                  have hwo := hse.2 i (by omega)
                  refine lv_aload_n hx hb dX6_explains_62 rfl (lv_at hl 3 rfl) ?_
                  refine g_getr (k := 6) (j := 115) hx hb hts hown hK hθ hB cf6 (by decide) rfl (by decide) kw_665 rfl rfl dX6_explains_63 ?_
                  refine lv_bipush (v := iZ 41) hx hb dX6_explains_66 (by decide) ?_
                  refine lv_aload_n hx hb dX6_explains_68 rfl (lv_at hl 3 rfl) ?_
                  refine g_getr (k := 13) (j := 120) hx hb hts hown hK hθ hB cf6 (by decide) rfl (by decide) kw_672 rfl rfl dX6_explains_69 ?_
                  refine lv_iload hx hb dX6_explains_72 (lv_at hl 0 rfl) ?_
                  refine g_iald (k := i) hx hb hK hB (by decide) rfl (by omega) (Nat.lt_of_lt_of_eq (by omega : i < 6) (Eq.symm rfl)) (by decide) dX6_explains_74 ?_
                  refine z_top (b := (((σ 120 i).toNat : Nat) : Int)) (by rw [hf04.row (fun k => rfl)]; omega) ?_
                  refine z_iadd hx hb dX6_explains_75 ?_
                  refine g_iald (k := (41 + (σ 120 i).toNat)) hx hb hK hB (by decide) rfl (by omega) (Nat.lt_of_lt_of_eq (by omega : (41 + (σ 120 i).toNat) < 50) (Eq.symm rfl)) (by decide) dX6_explains_76 ?_
                  refine z_top (b := ((tkC (afM (cpr (σ 114) (σ 115) 50)) w T N a0 b0 (t + 1)) (41 + (σ 120 i).toNat))) (by rw [hg4]) ?_
                  have hvb := (hr4.2.1 (σ 120 i).toNat (by omega)).2
                  refine lv_aload_n hx hb dX6_explains_77 rfl (lv_at hl 3 rfl) ?_
                  refine g_getr (k := 14) (j := 121) hx hb hts hown hK hθ hB cf6 (by decide) rfl (by decide) kw_673 rfl rfl dX6_explains_78 ?_
                  refine lv_iload hx hb dX6_explains_81 (lv_at hl 0 rfl) ?_
                  refine g_iald (k := i) hx hb hK hB (by decide) rfl (by omega) (Nat.lt_of_lt_of_eq (by omega : i < 6) (Eq.symm rfl)) (by decide) dX6_explains_83 ?_
                  refine z_top (b := (σ 121 i)) (by rw [hf04.row (fun k => rfl)]) ?_
                  have hr1 := hR 121 i
                  rw [hf04.row (fun k => rfl)] at hr1
                  refine z_icmp_ne (tgt := 91) hx hb dX6_explains_84 (by decide) ⟨by omega, by omega⟩ ⟨by omega, by omega⟩ (fun c_11 => ?_) (fun c_11 => ?_)
                  · refine lv_iconst (v := iZ 0) hx hb dX6_explains_91 rfl ?_
                    refine lv_aload_n hx hb dX6_explains_92 rfl (lv_at hl 3 rfl) ?_
                    refine g_getr (k := 15) (j := 122) hx hb hts hown hK hθ hB cf6 (by decide) rfl (by decide) kw_674 rfl rfl dX6_explains_93 ?_
                    refine lv_iload hx hb dX6_explains_96 (lv_at hl 0 rfl) ?_
                    refine g_iald (k := i) hx hb hK hB (by decide) rfl (by omega) (Nat.lt_of_lt_of_eq (by omega : i < 6) (Eq.symm rfl)) (by decide) dX6_explains_98 ?_
                    refine z_top (b := (σ 122 i)) (by rw [hf04.row (fun k => rfl)]) ?_
                    have hr2 := hR 122 i
                    rw [hf04.row (fun k => rfl)] at hr2
                    refine lv_iconst (v := iZ 1) hx hb dX6_explains_99 rfl ?_
                    refine z_icmp_ne (tgt := 107) hx hb dX6_explains_100 (by decide) ⟨by omega, by omega⟩ ⟨by decide, by decide⟩ (fun c_12 => ?_) (fun c_12 => ?_)
                    · refine lv_iconst (v := iZ 0) hx hb dX6_explains_107 rfl ?_
                      refine z_icmp_ne (tgt := 115) hx hb dX6_explains_108 (by decide) ⟨by decide, by decide⟩ ⟨by decide, by decide⟩ (fun c_13 => ?_) (fun c_13 => ?_)
                      · exact absurd (by decide) c_13
                      · refine lv_iconst (v := iZ 1) hx hb dX6_explains_111 rfl ?_
                        refine lv_goto (tgt := 116) hx hb dX6_explains_112 (by decide) ?_
                        refine lv_istore_n (lv' := [(3, .int (iZ 1)), (5, .int (iZ ((i : Nat) : Int))), (4, .int (iZ (((t + 1) : Nat) : Int))), (0, .ref (tad θ 111)), (1, .int (iZ a0)), (2, .int (iZ b0))]) hx hb dX6_explains_116 rfl hl (by decide) rfl (fun ls hl => ?_)
                        refine z_iinc (k := 1) (lv' := [(5, .int (iZ (((i : Nat) : Int) + 1))), (3, .int (iZ 1)), (4, .int (iZ (((t + 1) : Nat) : Int))), (0, .ref (tad θ 111)), (1, .int (iZ a0)), (2, .int (iZ b0))]) hx hb dX6_explains_117 hl rfl (by decide) rfl (fun ls hl => ?_)
                        have hl : lv_has ls 6 [(5, .int (iZ (((i + 1) : Nat) : Int))), (3, .int (iZ 1)), (4, .int (iZ (((t + 1) : Nat) : Int))), (0, .ref (tad θ 111)), (1, .int (iZ a0)), (2, .int (iZ b0))] := by have e9 : (((i : Nat) : Int) + 1) = (((i + 1) : Nat) : Int) := (by omega); rw [e9] at hl; exact hl
                        refine lv_goto (tgt := 37) hx hb dX6_explains_120 (by decide) ?_
                        exact ih37 (i + 1) 1 _ _ _ (by omega) (by omega) (Or.inl ⟨rfl, hall.1, lt_s hall.2 (fun _ => (show (tkC (afM (cpr (σ 114) (σ 115) 50)) w T N a0 b0 (t + 1)) (41 + (σ 120 i).toNat) = σ 121 i ↔ σ 122 i = 1 by omega))⟩) hB (lv_sub hl [0, 2, 1, 3, 4, 5] rfl)
                    · refine lv_iconst (v := iZ 1) hx hb dX6_explains_103 rfl ?_
                      refine lv_goto (tgt := 108) hx hb dX6_explains_104 (by decide) ?_
                      refine z_icmp_ne (tgt := 115) hx hb dX6_explains_108 (by decide) ⟨by decide, by decide⟩ ⟨by decide, by decide⟩ (fun c_14 => ?_) (fun c_14 => ?_)
                      · refine lv_iconst (v := iZ 0) hx hb dX6_explains_115 rfl ?_
                        refine lv_istore_n (lv' := [(3, .int (iZ 0)), (5, .int (iZ ((i : Nat) : Int))), (4, .int (iZ (((t + 1) : Nat) : Int))), (0, .ref (tad θ 111)), (1, .int (iZ a0)), (2, .int (iZ b0))]) hx hb dX6_explains_116 rfl hl (by decide) rfl (fun ls hl => ?_)
                        refine z_iinc (k := 1) (lv' := [(5, .int (iZ (((i : Nat) : Int) + 1))), (3, .int (iZ 0)), (4, .int (iZ (((t + 1) : Nat) : Int))), (0, .ref (tad θ 111)), (1, .int (iZ a0)), (2, .int (iZ b0))]) hx hb dX6_explains_117 hl rfl (by decide) rfl (fun ls hl => ?_)
                        have hl : lv_has ls 6 [(5, .int (iZ (((i + 1) : Nat) : Int))), (3, .int (iZ 0)), (4, .int (iZ (((t + 1) : Nat) : Int))), (0, .ref (tad θ 111)), (1, .int (iZ a0)), (2, .int (iZ b0))] := by have e9 : (((i : Nat) : Int) + 1) = (((i + 1) : Nat) : Int) := (by omega); rw [e9] at hl; exact hl
                        refine lv_goto (tgt := 37) hx hb dX6_explains_120 (by decide) ?_
                        exact ih37 (i + 1) 0 _ _ _ (by omega) (by omega) (Or.inr ⟨rfl, fun q => by have h9 := q t (by omega) i (by omega) hwh; have h8 : (tkC (afM (cpr (σ 114) (σ 115) 50)) w T N a0 b0 (t + 1)) (41 + (σ 120 i).toNat) = σ 121 i ↔ σ 122 i = 1 := h9; omega⟩) hB (lv_sub hl [0, 2, 1, 3, 4, 5] rfl)
                      · exact absurd c_14 (by decide)
                  · refine lv_iconst (v := iZ 1) hx hb dX6_explains_87 rfl ?_
                    refine lv_goto (tgt := 92) hx hb dX6_explains_88 (by decide) ?_
                    refine lv_aload_n hx hb dX6_explains_92 rfl (lv_at hl 3 rfl) ?_
                    refine g_getr (k := 15) (j := 122) hx hb hts hown hK hθ hB cf6 (by decide) rfl (by decide) kw_674 rfl rfl dX6_explains_93 ?_
                    refine lv_iload hx hb dX6_explains_96 (lv_at hl 0 rfl) ?_
                    refine g_iald (k := i) hx hb hK hB (by decide) rfl (by omega) (Nat.lt_of_lt_of_eq (by omega : i < 6) (Eq.symm rfl)) (by decide) dX6_explains_98 ?_
                    refine z_top (b := (σ 122 i)) (by rw [hf04.row (fun k => rfl)]) ?_
                    have hr2 := hR 122 i
                    rw [hf04.row (fun k => rfl)] at hr2
                    refine lv_iconst (v := iZ 1) hx hb dX6_explains_99 rfl ?_
                    refine z_icmp_ne (tgt := 107) hx hb dX6_explains_100 (by decide) ⟨by omega, by omega⟩ ⟨by decide, by decide⟩ (fun c_15 => ?_) (fun c_15 => ?_)
                    · refine lv_iconst (v := iZ 0) hx hb dX6_explains_107 rfl ?_
                      refine z_icmp_ne (tgt := 115) hx hb dX6_explains_108 (by decide) ⟨by decide, by decide⟩ ⟨by decide, by decide⟩ (fun c_16 => ?_) (fun c_16 => ?_)
                      · refine lv_iconst (v := iZ 0) hx hb dX6_explains_115 rfl ?_
                        refine lv_istore_n (lv' := [(3, .int (iZ 0)), (5, .int (iZ ((i : Nat) : Int))), (4, .int (iZ (((t + 1) : Nat) : Int))), (0, .ref (tad θ 111)), (1, .int (iZ a0)), (2, .int (iZ b0))]) hx hb dX6_explains_116 rfl hl (by decide) rfl (fun ls hl => ?_)
                        refine z_iinc (k := 1) (lv' := [(5, .int (iZ (((i : Nat) : Int) + 1))), (3, .int (iZ 0)), (4, .int (iZ (((t + 1) : Nat) : Int))), (0, .ref (tad θ 111)), (1, .int (iZ a0)), (2, .int (iZ b0))]) hx hb dX6_explains_117 hl rfl (by decide) rfl (fun ls hl => ?_)
                        have hl : lv_has ls 6 [(5, .int (iZ (((i + 1) : Nat) : Int))), (3, .int (iZ 0)), (4, .int (iZ (((t + 1) : Nat) : Int))), (0, .ref (tad θ 111)), (1, .int (iZ a0)), (2, .int (iZ b0))] := by have e9 : (((i : Nat) : Int) + 1) = (((i + 1) : Nat) : Int) := (by omega); rw [e9] at hl; exact hl
                        refine lv_goto (tgt := 37) hx hb dX6_explains_120 (by decide) ?_
                        exact ih37 (i + 1) 0 _ _ _ (by omega) (by omega) (Or.inr ⟨rfl, fun q => by have h9 := q t (by omega) i (by omega) hwh; have h8 : (tkC (afM (cpr (σ 114) (σ 115) 50)) w T N a0 b0 (t + 1)) (41 + (σ 120 i).toNat) = σ 121 i ↔ σ 122 i = 1 := h9; omega⟩) hB (lv_sub hl [0, 2, 1, 3, 4, 5] rfl)
                      · exact absurd c_16 (by decide)
                    · refine lv_iconst (v := iZ 1) hx hb dX6_explains_103 rfl ?_
                      refine lv_goto (tgt := 108) hx hb dX6_explains_104 (by decide) ?_
                      refine z_icmp_ne (tgt := 115) hx hb dX6_explains_108 (by decide) ⟨by decide, by decide⟩ ⟨by decide, by decide⟩ (fun c_17 => ?_) (fun c_17 => ?_)
                      · exact absurd (by decide) c_17
                      · refine lv_iconst (v := iZ 1) hx hb dX6_explains_111 rfl ?_
                        refine lv_goto (tgt := 116) hx hb dX6_explains_112 (by decide) ?_
                        refine lv_istore_n (lv' := [(3, .int (iZ 1)), (5, .int (iZ ((i : Nat) : Int))), (4, .int (iZ (((t + 1) : Nat) : Int))), (0, .ref (tad θ 111)), (1, .int (iZ a0)), (2, .int (iZ b0))]) hx hb dX6_explains_116 rfl hl (by decide) rfl (fun ls hl => ?_)
                        refine z_iinc (k := 1) (lv' := [(5, .int (iZ (((i : Nat) : Int) + 1))), (3, .int (iZ 1)), (4, .int (iZ (((t + 1) : Nat) : Int))), (0, .ref (tad θ 111)), (1, .int (iZ a0)), (2, .int (iZ b0))]) hx hb dX6_explains_117 hl rfl (by decide) rfl (fun ls hl => ?_)
                        have hl : lv_has ls 6 [(5, .int (iZ (((i + 1) : Nat) : Int))), (3, .int (iZ 1)), (4, .int (iZ (((t + 1) : Nat) : Int))), (0, .ref (tad θ 111)), (1, .int (iZ a0)), (2, .int (iZ b0))] := by have e9 : (((i : Nat) : Int) + 1) = (((i + 1) : Nat) : Int) := (by omega); rw [e9] at hl; exact hl
                        refine lv_goto (tgt := 37) hx hb dX6_explains_120 (by decide) ?_
                        exact ih37 (i + 1) 1 _ _ _ (by omega) (by omega) (Or.inl ⟨rfl, hall.1, lt_s hall.2 (fun _ => (show (tkC (afM (cpr (σ 114) (σ 115) 50)) w T N a0 b0 (t + 1)) (41 + (σ 120 i).toNat) = σ 121 i ↔ σ 122 i = 1 by omega))⟩) hB (lv_sub hl [0, 2, 1, 3, 4, 5] rfl)
        exact loop37 _ 0 v _ _ _ (Nat.lt_succ_self _) (by omega) (by rcases hv with ⟨h1, h2⟩ | h; exact Or.inl ⟨h1, h2, fun j h => absurd h (Nat.not_lt_zero _)⟩; exact Or.inr h) hB (lv_sub hl [0, 1, 2, 3, 4, 5] rfl)
  exact loop16 _ 0 1 σ2 _ _ _ (Nat.lt_succ_self _) (by omega) (by rw [hp2, hp1]; rfl) (Or.inl ⟨rfl, fun u h => absurd h (Nat.not_lt_zero _)⟩) ((hf1.mono tk_115).tr hf2) hB (lv_sub hl [0, 1, 2, 3, 4] rfl)
