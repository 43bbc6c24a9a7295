set_option maxHeartbeats 4000000 in
set_option maxRecDepth 100000 in
theorem mX6_areAlike (l : Launch) (θ : gT) (hθ : gOK θ) (σ : gS) (z : gZ) (t u : Nat) (ht : t ≤ 40) (hu : u ≤ 40) : GI l θ yX6_areAlike cX6_areAlike 5 (some .boolean) 0 0 [.ref (tad θ 111), .int (iZ ((t : Nat) : Int)), .int (iZ ((u : Nat) : Int))] σ z (fun q σ' z' => ((q = 1 ∧ alk (σ 128) t u) ∨ (q = 0 ∧ ¬ alk (σ 128) t u)) ∧ σ' = σ ∧ z' = z) := by
  refine g_enter (ret := (some .boolean)) (by decide +kernel) (Nat.le_of_ble_eq_true rfl) ?_
  intro p e s m args below meth c ls F hB hl
  obtain ⟨hx, hb, hr, hml, hown, hts, hlk, hK, hst⟩ := F
  have hR := hB.1.2
  have hl : lv_has ls 5 [(0, .ref (tad θ 111)), (1, .int (iZ ((t : Nat) : Int))), (2, .int (iZ ((u : Nat) : Int)))] := hl
  refine lv_iconst (v := iZ 1) hx hb dX6_areAlike_0 rfl ?_
  refine lv_istore_n (lv' := [(3, .int (iZ 1)), (0, .ref (tad θ 111)), (1, .int (iZ ((t : Nat) : Int))), (2, .int (iZ ((u : Nat) : Int)))]) hx hb dX6_areAlike_1 rfl hl (by decide) rfl (fun ls hl => ?_)
  refine lv_iconst (v := iZ 0) hx hb dX6_areAlike_2 rfl ?_
  refine lv_istore (lv' := [(4, .int (iZ 0)), (3, .int (iZ 1)), (0, .ref (tad θ 111)), (1, .int (iZ ((t : Nat) : Int))), (2, .int (iZ ((u : Nat) : Int)))]) hx hb dX6_areAlike_3 hl (by decide) rfl (fun ls hl => ?_)
  have loop5 : ∀ (n5 : Nat) (i : Nat) (v : Int) (H : Heap) (locs : List Loc) (ls : Array Slot), 8 - i < n5 → (i ≤ 8) → ((v = 1 ∧ ∀ s, s < i → σ 128 (8 * t + s) = σ 128 (8 * u + s)) ∨ (v = 0 ∧ ¬ alk (σ 128) t u)) →  gB θ σ z s.heap H locs → lv_has ls 5 [(4, .int (iZ ((i : Nat) : Int))), (3, .int (iZ v)), (0, .ref (tad θ 111)), (1, .int (iZ ((t : Nat) : Int))), (2, .int (iZ ((u : Nat) : Int)))] → W p l e (gRm 0 0) s m args below meth c H locs 0 0 (MQ below (gQi θ (fun q σ' z' => ((q = 1 ∧ alk (σ 128) t u) ∨ (q = 0 ∧ ¬ alk (σ 128) t u)) ∧ σ' = σ ∧ z' = z)) args s 0 0 (tA θ)) (F0 m 5 ls []) := by
    intro n5
    induction n5 with
    | zero => intro i v H locs ls hmu; exact absurd hmu (Nat.not_lt_zero _)
    | succ n5 ih5 =>
      intro i v H locs ls hmu hi hv hB hl
      have hR := hB.1.2
      have hvr : v = 0 ∨ v = 1 := by rcases hv with h | h <;> omega
      refine lv_iload hx hb dX6_areAlike_5 (lv_at hl 0 rfl) ?_
      refine lv_bipush (v := iZ 8) hx hb dX6_areAlike_7 (by decide) ?_
      refine z_icmp_ge (tgt := 55) hx hb dX6_areAlike_9 (by decide) ⟨by omega, by omega⟩ ⟨by decide, by decide⟩ (fun c_1 => ?_) (fun c_1 => ?_)
      · have hfin : (v = 1 ∧ alk (σ 128) t u) ∨ (v = 0 ∧ ¬ alk (σ 128) t u) := by
          rcases hv with ⟨h1, h2⟩ | h
          · exact Or.inl ⟨h1, fun s hs => h2 s (by omega)⟩
          · exact Or.inr h
        refine lv_iload_n hx hb dX6_areAlike_55 rfl (lv_at hl 1 rfl) ?_
        exact g_zret hx hb hr hlk hB dX6_areAlike_56 (by omega) (⟨hfin, rfl, rfl⟩)
      · refine lv_iload_n hx hb dX6_areAlike_12 rfl (lv_at hl 1 rfl) ?_
        refine z_if_eq (tgt := 47) hx hb dX6_areAlike_13 (by decide) ⟨by omega, by omega⟩ (fun c_2 => ?_) (fun c_2 => ?_)
        · refine lv_iconst (v := iZ 0) hx hb dX6_areAlike_47 rfl ?_
          refine lv_istore_n (lv' := [(3, .int (iZ 0)), (4, .int (iZ ((i : Nat) : Int))), (0, .ref (tad θ 111)), (1, .int (iZ ((t : Nat) : Int))), (2, .int (iZ ((u : Nat) : Int)))]) hx hb dX6_areAlike_48 rfl hl (by decide) rfl (fun ls hl => ?_)
          refine z_iinc (k := 1) (lv' := [(4, .int (iZ (((i : Nat) : Int) + 1))), (3, .int (iZ 0)), (0, .ref (tad θ 111)), (1, .int (iZ ((t : Nat) : Int))), (2, .int (iZ ((u : Nat) : Int)))]) hx hb dX6_areAlike_49 hl rfl (by decide) rfl (fun ls hl => ?_)
          have hl : lv_has ls 5 [(4, .int (iZ (((i + 1) : Nat) : Int))), (3, .int (iZ 0)), (0, .ref (tad θ 111)), (1, .int (iZ ((t : Nat) : Int))), (2, .int (iZ ((u : Nat) : Int)))] := by have e9 : (((i : Nat) : Int) + 1) = (((i + 1) : Nat) : Int) := (by omega); rw [e9] at hl; exact hl
          refine lv_goto (tgt := 5) hx hb dX6_areAlike_52 (by decide) ?_
          exact ih5 (i + 1) 0 _ _ _ (by omega) (by omega) (Or.inr ⟨rfl, (hv.resolve_left (fun h => by omega)).2⟩) hB (lv_sub hl [0, 1, 2, 3, 4] rfl)
        · refine lv_aload_n hx hb dX6_areAlike_16 rfl (lv_at hl 2 rfl) ?_
          refine g_getr (k := 25) (j := 128) hx hb hts hown hK hθ hB cf6 (by decide) rfl (by decide) kw_684 rfl rfl dX6_areAlike_17 ?_
          refine lv_bipush (v := iZ 8) hx hb dX6_areAlike_20 (by decide) ?_
          refine lv_iload_n hx hb dX6_areAlike_22 rfl (lv_at hl 3 rfl) ?_
          refine z_imul hx hb dX6_areAlike_23 ?_
          refine lv_iload hx hb dX6_areAlike_24 (lv_at hl 0 rfl) ?_
          refine z_iadd hx hb dX6_areAlike_26 ?_
          refine g_iald (k := ((8 * t) + i)) hx hb hK hB (by decide) rfl (by omega) (Nat.lt_of_lt_of_eq (by omega : ((8 * t) + i) < 328) (Eq.symm rfl)) (by decide) dX6_areAlike_27 ?_
          have hr_3 := hR 128 ((8 * t) + i)
          refine lv_aload_n hx hb dX6_areAlike_28 rfl (lv_at hl 2 rfl) ?_
          refine g_getr (k := 25) (j := 128) hx hb hts hown hK hθ hB cf6 (by decide) rfl (by decide) kw_684 rfl rfl dX6_areAlike_29 ?_
          refine lv_bipush (v := iZ 8) hx hb dX6_areAlike_32 (by decide) ?_
          refine lv_iload_n hx hb dX6_areAlike_34 rfl (lv_at hl 4 rfl) ?_
          refine z_imul hx hb dX6_areAlike_35 ?_
          refine lv_iload hx hb dX6_areAlike_36 (lv_at hl 0 rfl) ?_
          refine z_iadd hx hb dX6_areAlike_38 ?_
          refine g_iald (k := ((8 * u) + i)) hx hb hK hB (by decide) rfl (by omega) (Nat.lt_of_lt_of_eq (by omega : ((8 * u) + i) < 328) (Eq.symm rfl)) (by decide) dX6_areAlike_39 ?_
          have hr_4 := hR 128 ((8 * u) + i)
          refine z_icmp_ne (tgt := 47) hx hb dX6_areAlike_40 (by decide) ⟨by omega, by omega⟩ ⟨by omega, by omega⟩ (fun c_5 => ?_) (fun c_5 => ?_)
          · have hne : ¬ σ 128 (8 * t + i) = σ 128 (8 * u + i) := c_5
            refine lv_iconst (v := iZ 0) hx hb dX6_areAlike_47 rfl ?_
            refine lv_istore_n (lv' := [(3, .int (iZ 0)), (4, .int (iZ ((i : Nat) : Int))), (0, .ref (tad θ 111)), (1, .int (iZ ((t : Nat) : Int))), (2, .int (iZ ((u : Nat) : Int)))]) hx hb dX6_areAlike_48 rfl hl (by decide) rfl (fun ls hl => ?_)
            refine z_iinc (k := 1) (lv' := [(4, .int (iZ (((i : Nat) : Int) + 1))), (3, .int (iZ 0)), (0, .ref (tad θ 111)), (1, .int (iZ ((t : Nat) : Int))), (2, .int (iZ ((u : Nat) : Int)))]) hx hb dX6_areAlike_49 hl rfl (by decide) rfl (fun ls hl => ?_)
            have hl : lv_has ls 5 [(4, .int (iZ (((i + 1) : Nat) : Int))), (3, .int (iZ 0)), (0, .ref (tad θ 111)), (1, .int (iZ ((t : Nat) : Int))), (2, .int (iZ ((u : Nat) : Int)))] := by have e9 : (((i : Nat) : Int) + 1) = (((i + 1) : Nat) : Int) := (by omega); rw [e9] at hl; exact hl
            refine lv_goto (tgt := 5) hx hb dX6_areAlike_52 (by decide) ?_
            exact ih5 (i + 1) 0 _ _ _ (by omega) (by omega) (Or.inr ⟨rfl, fun q => hne (q i (by omega))⟩) hB (lv_sub hl [0, 1, 2, 3, 4] rfl)
          · have heq : σ 128 (8 * t + i) = σ 128 (8 * u + i) := c_5
            refine lv_iconst (v := iZ 1) hx hb dX6_areAlike_43 rfl ?_
            refine lv_goto (tgt := 48) hx hb dX6_areAlike_44 (by decide) ?_
            refine lv_istore_n (lv' := [(3, .int (iZ 1)), (4, .int (iZ ((i : Nat) : Int))), (0, .ref (tad θ 111)), (1, .int (iZ ((t : Nat) : Int))), (2, .int (iZ ((u : Nat) : Int)))]) hx hb dX6_areAlike_48 rfl hl (by decide) rfl (fun ls hl => ?_)
            refine z_iinc (k := 1) (lv' := [(4, .int (iZ (((i : Nat) : Int) + 1))), (3, .int (iZ 1)), (0, .ref (tad θ 111)), (1, .int (iZ ((t : Nat) : Int))), (2, .int (iZ ((u : Nat) : Int)))]) hx hb dX6_areAlike_49 hl rfl (by decide) rfl (fun ls hl => ?_)
            have hl : lv_has ls 5 [(4, .int (iZ (((i + 1) : Nat) : Int))), (3, .int (iZ 1)), (0, .ref (tad θ 111)), (1, .int (iZ ((t : Nat) : Int))), (2, .int (iZ ((u : Nat) : Int)))] := by have e9 : (((i : Nat) : Int) + 1) = (((i + 1) : Nat) : Int) := (by omega); rw [e9] at hl; exact hl
            refine lv_goto (tgt := 5) hx hb dX6_areAlike_52 (by decide) ?_
            exact ih5 (i + 1) 1 _ _ _ (by omega) (by omega) (Or.inl ⟨rfl, lt_s (hv.resolve_right (fun h => by omega)).2 heq⟩) hB (lv_sub hl [0, 1, 2, 3, 4] rfl)
  exact loop5 _ 0 1 _ _ _ (Nat.lt_succ_self _) (by omega) (Or.inl ⟨rfl, fun s h => absurd h (Nat.not_lt_zero _)⟩) hB (lv_sub hl [0, 1, 2, 3, 4] rfl)
set_option maxHeartbeats 4000000 in
set_option maxRecDepth 100000 in
theorem mX6_layStates (l : Launch) (θ : gT) (hθ : gOK θ) (σ : gS) (z : gZ) (w : mC) (N : Nat) (T : Nat → Nat) (hX : tCx σ w N T) (hpg : tOk (σ 114) N) (a0 b0 : Int) (ha : 0 ≤ a0 ∧ a0 ≤ 99) (hb0 : 0 ≤ b0 ∧ b0 ≤ 99) : GV l θ yX6_layStates cX6_layStates 6 4 100 [.ref (tad θ 111), .int (iZ a0), .int (iZ b0)] σ z (fun σ' z' => (∀ t, t ≤ 40 → ∀ s, s < 8 → σ' 128 (8 * t + s) = stv (tkC (cpr (σ 114) (σ 115) 50) w T N a0 b0 t) s) ∧ fr wLs σ σ' ∧ z' = z) := by
  refine g_enter (ret := none) (by decide +kernel) (Nat.le_of_ble_eq_true rfl) ?_
  intro p e s m args below meth c ls F hB hl
  obtain ⟨hx, hb, hr, hml, hown, hts, hlk, hK, hst⟩ := F
  have hR := hB.1.2
  have hl : lv_has ls 6 [(0, .ref (tad θ 111)), (1, .int (iZ a0)), (2, .int (iZ b0))] := hl
  have hN8 : N ≤ 8 := by have := hpg.1.1; have := hpg.2.2; omega
  have hB0 : tOk (cpr (σ 114) (σ 115) 50) N := hpg.cong (fun k hk => cpr_50 _ _ hk)
  refine lv_aload_n hx hb dX6_layStates_0 rfl (lv_at hl 0 rfl) ?_
  refine g_callv (g_runV (i := 111) (As := []) (rest := []) hx hb hml hown hts hK hst hB (mX6_begin l θ hθ σ z ) mv_X6_begin kw_934 cf6 (by decide) rfl rfl hl.1 rfl (Nat.le_of_ble_eq_true rfl) ⟨by decide, by decide⟩ ⟨Nat.le_refl _, Nat.le_refl _⟩ dX6_layStates_1) hB (fun σ1 z_1 H locs hp1 hB => ?_)
  obtain ⟨hp1, hf1, e2_⟩ := hp1
  rw [e2_] at hB
  clear e2_
  have hR := hB.1.2
  refine lv_iconst (v := iZ 0) hx hb dX6_layStates_4 rfl ?_
  refine lv_istore_n (lv' := [(3, .int (iZ 0)), (0, .ref (tad θ 111)), (1, .int (iZ a0)), (2, .int (iZ b0))]) hx hb dX6_layStates_5 rfl hl (by decide) rfl (fun ls hl => ?_)
  have loop6 : ∀ (n6 : Nat) (t : Nat) (σ2 : gS) (H : Heap) (locs : List Loc) (ls : Array Slot), 41 - t < n6 → (t ≤ 41) → (σ2 115 = (tkC (cpr (σ 114) (σ 115) 50) w T N a0 b0 t)) → (∀ u, u < t → ∀ s, s < 8 → σ2 128 (8 * u + s) = stv (tkC (cpr (σ 114) (σ 115) 50) w T N a0 b0 u) s) → (fr wLs σ σ2) →  gB θ σ2 z s.heap H locs → lv_has ls 6 [(3, .int (iZ ((t : Nat) : Int))), (0, .ref (tad θ 111)), (1, .int (iZ a0)), (2, .int (iZ b0))] → W p l e (gRm 4 100) s m args below meth c H locs 0 0 (MQ below (gQv θ (fun σ' z' => (∀ t, t ≤ 40 → ∀ s, s < 8 → σ' 128 (8 * t + s) = stv (tkC (cpr (σ 114) (σ 115) 50) w T N a0 b0 t) s) ∧ fr wLs σ σ' ∧ z' = z)) args s 0 0 (tA θ)) (F0 m 6 ls []) := by
    intro n6
    induction n6 with
    | zero => intro t σ2 H locs ls hmu; exact absurd hmu (Nat.not_lt_zero _)
    | succ n6 ih6 =>
      intro t σ2 H locs ls hmu ht hg hst0 hf hB hl
      have hR := hB.1.2
      have hX2 : tCx σ2 w N T := hX.keep (hf.row (fun k => rfl)) (hf.row (fun k => rfl)) (hf.row (fun k => rfl))
      have hr2 : tOk (σ2 115) N := by rw [hg]; exact tkC_ok (w := w) hB0 hX.lt ha hb0 t
      refine lv_iload_n hx hb dX6_layStates_6 rfl (lv_at hl 0 rfl) ?_
      refine lv_bipush (v := iZ 40) hx hb dX6_layStates_7 (by decide) ?_
      refine z_icmp_gt (tgt := 108) hx hb dX6_layStates_9 (by decide) ⟨by omega, by omega⟩ ⟨by decide, by decide⟩ (fun c_3 => ?_) (fun c_3 => ?_)
      · exact g_vret hx hb hr hlk hB dX6_layStates_108 (⟨fun u hu s hs => hst0 u (by omega) s hs, hf, rfl⟩)
      · refine lv_iconst (v := iZ 0) hx hb dX6_layStates_12 rfl ?_
        refine lv_istore (lv' := [(4, .int (iZ 0)), (3, .int (iZ ((t : Nat) : Int))), (0, .ref (tad θ 111)), (1, .int (iZ a0)), (2, .int (iZ b0))]) hx hb dX6_layStates_13 hl (by decide) rfl (fun ls hl => ?_)
        have loop15 : ∀ (n15 : Nat) (i : Nat) (σ3 : gS) (H : Heap) (locs : List Loc) (ls : Array Slot), 8 - i < n15 → (i ≤ 8) → (∀ u, u < t → ∀ s, s < 8 → σ3 128 (8 * u + s) = stv (tkC (cpr (σ 114) (σ 115) 50) w T N a0 b0 u) s) → (∀ s, s < i → σ3 128 (8 * t + s) = stv (tkC (cpr (σ 114) (σ 115) 50) w T N a0 b0 t) s) → (fr (fun i _ => i == 128) σ2 σ3) →  gB θ σ3 z s.heap H locs → lv_has ls 6 [(4, .int (iZ ((i : Nat) : Int))), (3, .int (iZ ((t : Nat) : Int))), (0, .ref (tad θ 111)), (1, .int (iZ a0)), (2, .int (iZ b0))] → W p l e (gRm 4 100) s m args below meth c H locs 0 0 (MQ below (gQv θ (fun σ' z' => (∀ t, t ≤ 40 → ∀ s, s < 8 → σ' 128 (8 * t + s) = stv (tkC (cpr (σ 114) (σ 115) 50) w T N a0 b0 t) s) ∧ fr wLs σ σ' ∧ z' = z)) args s 0 0 (tA θ)) (F0 m 15 ls []) := by
          intro n15
          induction n15 with
          | zero => intro i σ3 H locs ls hmu; exact absurd hmu (Nat.not_lt_zero _)
          | succ n15 ih15 =>
            intro i σ3 H locs ls hmu hi hst1 hst2 hf3 hB hl
            have hR := hB.1.2
            have hg3 : σ3 115 = (tkC (cpr (σ 114) (σ 115) 50) w T N a0 b0 t) := by rw [hf3.row (fun k => rfl)]; exact hg
            have hr3 : tOk (tkC (cpr (σ 114) (σ 115) 50) w T N a0 b0 t) N := tkC_ok (w := w) hB0 hX.lt ha hb0 t
            refine lv_iload hx hb dX6_layStates_15 (lv_at hl 0 rfl) ?_
            refine lv_bipush (v := iZ 8) hx hb dX6_layStates_17 (by decide) ?_
            refine z_icmp_ge (tgt := 91) hx hb dX6_layStates_19 (by decide) ⟨by omega, by omega⟩ ⟨by decide, by decide⟩ (fun c_4 => ?_) (fun c_4 => ?_)
            · refine lv_aload_n hx hb dX6_layStates_91 rfl (lv_at hl 2 rfl) ?_
              refine lv_aload_n hx hb dX6_layStates_92 rfl (lv_at hl 2 rfl) ?_
              refine g_getr (k := 6) (j := 115) hx hb hts hown hK hθ hB cf6 (by decide) rfl (by decide) kw_665 rfl rfl dX6_layStates_93 ?_
              refine lv_iload_n hx hb dX6_layStates_96 rfl (lv_at hl 3 rfl) ?_
              refine lv_iload_n hx hb dX6_layStates_97 rfl (lv_at hl 4 rfl) ?_
              refine g_calli (g_runV (i := 111) (As := [.ref (tad θ 115), .int (iZ a0), .int (iZ b0)]) (rest := []) hx hb hml hown hts hK hst hB (mX6_goTick l θ hθ σ3 z w ((hX2.keep (hf3.row (fun k => rfl)) (hf3.row (fun k => rfl)) (hf3.row (fun k => rfl)))).1 ((hX2.keep (hf3.row (fun k => rfl)) (hf3.row (fun k => rfl)) (hf3.row (fun k => rfl)))).2.1 115 (Or.inr rfl) ((by rw [hg3]; exact hr3 : tOk (σ3 115) N)).1 N ((by rw [hg3]; exact hr3 : tOk (σ3 115) N)).2.2 ((by rw [hg3]; exact hr3 : tOk (σ3 115) N)).2.1 T ((hX2.keep (hf3.row (fun k => rfl)) (hf3.row (fun k => rfl)) (hf3.row (fun k => rfl)))).2.2 a0 b0 (ha) (hb0)) mv_X6_goTick kw_893 cf6 (by decide) rfl rfl hl.1 rfl (Nat.le_of_ble_eq_true rfl) ⟨by decide, by decide⟩ ⟨Nat.le_refl _, Nat.le_refl _⟩ dX6_layStates_98) hB (fun q_6 σ5 z_5 H locs hq_6 hp5 hB => ?_)
              obtain ⟨hp5, hf5, e2_⟩ := hp5
              rw [e2_] at hB
              clear e2_
              have hR := hB.1.2
              refine lv_pop hx hb dX6_layStates_101 rfl ?_
              refine z_iinc (k := 1) (lv' := [(3, .int (iZ (((t : Nat) : Int) + 1))), (4, .int (iZ ((i : Nat) : Int))), (0, .ref (tad θ 111)), (1, .int (iZ a0)), (2, .int (iZ b0))]) hx hb dX6_layStates_102 hl rfl (by decide) rfl (fun ls hl => ?_)
              have hl : lv_has ls 6 [(3, .int (iZ (((t + 1) : Nat) : Int))), (4, .int (iZ ((i : Nat) : Int))), (0, .ref (tad θ 111)), (1, .int (iZ a0)), (2, .int (iZ b0))] := by have e9 : (((t : Nat) : Int) + 1) = (((t + 1) : Nat) : Int) := (by omega); rw [e9] at hl; exact hl
              refine lv_goto (tgt := 6) hx hb dX6_layStates_105 (by decide) ?_
              exact ih6 (t + 1) σ5 _ _ _ (by omega) (by omega) (by rw [hp5.1, hg3]; rfl) (lt_s (fun u hu s hs => by rw [hf5.row (fun k => rfl)]; exact hst1 u hu s hs) (fun s hs => by rw [hf5.row (fun k => rfl)]; exact hst2 s (by omega))) (((hf.tr (hf3.mono (fun i k h => by simp at h; simp [wLs]; omega))).tr (hf5.mono ls_tk))) hB (lv_sub hl [0, 2, 3, 4] rfl)
            · refine lv_aload_n hx hb dX6_layStates_22 rfl (lv_at hl 2 rfl) ?_
              refine g_getr (k := 6) (j := 115) hx hb hts hown hK hθ hB cf6 (by decide) rfl (by decide) kw_665 rfl rfl dX6_layStates_23 ?_
              refine lv_iconst (v := iZ 1) hx hb dX6_layStates_26 rfl ?_
              refine lv_iload hx hb dX6_layStates_27 (lv_at hl 0 rfl) ?_
              refine z_iadd hx hb dX6_layStates_29 ?_
              refine g_iald (k := (1 + i)) hx hb hK hB (by decide) rfl (by omega) (Nat.lt_of_lt_of_eq (by omega : (1 + i) < 50) (Eq.symm rfl)) (by decide) dX6_layStates_30 ?_
              refine z_top (b := ((tkC (cpr (σ 114) (σ 115) 50) w T N a0 b0 t) (1 + i))) (by rw [hg3]) ?_
              have hK3 := (hr3.1.2 i (by omega)).1
              refine lv_istore (lv' := [(5, .int (iZ ((tkC (cpr (σ 114) (σ 115) 50) w T N a0 b0 t) (1 + i)))), (4, .int (iZ ((i : Nat) : Int))), (3, .int (iZ ((t : Nat) : Int))), (0, .ref (tad θ 111)), (1, .int (iZ a0)), (2, .int (iZ b0))]) hx hb dX6_layStates_31 hl (by decide) rfl (fun ls hl => ?_)
              refine lv_aload_n hx hb dX6_layStates_33 rfl (lv_at hl 3 rfl) ?_
              refine g_getr (k := 25) (j := 128) hx hb hts hown hK hθ hB cf6 (by decide) rfl (by decide) kw_684 rfl rfl dX6_layStates_34 ?_
              refine lv_bipush (v := iZ 8) hx hb dX6_layStates_37 (by decide) ?_
              refine lv_iload_n hx hb dX6_layStates_39 rfl (lv_at hl 2 rfl) ?_
              refine z_imul hx hb dX6_layStates_40 ?_
              refine lv_iload hx hb dX6_layStates_41 (lv_at hl 1 rfl) ?_
              refine z_iadd hx hb dX6_layStates_43 ?_
              refine lv_iload hx hb dX6_layStates_44 (lv_at hl 1 rfl) ?_
              refine lv_aload_n hx hb dX6_layStates_46 rfl (lv_at hl 3 rfl) ?_
              refine g_getr (k := 6) (j := 115) hx hb hts hown hK hθ hB cf6 (by decide) rfl (by decide) kw_665 rfl rfl dX6_layStates_47 ?_
              refine lv_iconst (v := iZ 0) hx hb dX6_layStates_50 rfl ?_
              refine g_iald (k := 0) hx hb hK hB (by decide) rfl (by omega) (Nat.lt_of_lt_of_eq (by omega : 0 < 50) (Eq.symm rfl)) (by decide) dX6_layStates_51 ?_
              refine z_top (b := ((tkC (cpr (σ 114) (σ 115) 50) w T N a0 b0 t) 0)) (by rw [hg3]) ?_
              have hN3 := hr3.2.2
              refine z_icmp_ge (tgt := 83) hx hb dX6_layStates_52 (by decide) ⟨by omega, by omega⟩ ⟨by omega, by omega⟩ (fun c_7 => ?_) (fun c_7 => ?_)
              · refine lv_iconst (v := iZ 0) hx hb dX6_layStates_83 rfl ?_
                refine g_iast (k := ((8 * t) + i)) hx hb hK hθ hB (by decide) rfl (by omega) (Nat.lt_of_lt_of_eq (by omega : ((8 * t) + i) < 328) (Eq.symm rfl)) (by decide) ⟨by decide, by decide⟩ dX6_layStates_84 (fun H locs hB => ?_)
                obtain ⟨σ4, hσ4⟩ : ∃ x_ : gS, x_ = up2 σ3 128 ((8 * t) + i) 0 := ⟨_, rfl⟩
                rw [← hσ4] at hB
                have hR := hB.1.2
                refine z_iinc (k := 1) (lv' := [(4, .int (iZ (((i : Nat) : Int) + 1))), (5, .int (iZ ((tkC (cpr (σ 114) (σ 115) 50) w T N a0 b0 t) (1 + i)))), (3, .int (iZ ((t : Nat) : Int))), (0, .ref (tad θ 111)), (1, .int (iZ a0)), (2, .int (iZ b0))]) hx hb dX6_layStates_85 hl rfl (by decide) rfl (fun ls hl => ?_)
                have hl : lv_has ls 6 [(4, .int (iZ (((i + 1) : Nat) : Int))), (5, .int (iZ ((tkC (cpr (σ 114) (σ 115) 50) w T N a0 b0 t) (1 + i)))), (3, .int (iZ ((t : Nat) : Int))), (0, .ref (tad θ 111)), (1, .int (iZ a0)), (2, .int (iZ b0))] := by have e9 : (((i : Nat) : Int) + 1) = (((i + 1) : Nat) : Int) := (by omega); rw [e9] at hl; exact hl
                refine lv_goto (tgt := 15) hx hb dX6_layStates_88 (by decide) ?_
                exact ih15 (i + 1) σ4 _ _ _ (by omega) (by omega) (fun u hu s hs => by rw [hσ4, up2_k _ _ (by omega)]; exact hst1 u hu s hs) (lt_s (fun s hs => by rw [hσ4, up2_k _ _ (by omega)]; exact hst2 s hs) (by rw [hσ4, up2_eq, stv, if_neg (by omega)])) (by rw [hσ4]; exact hf3.tr (fr.up rfl)) hB (lv_sub hl [0, 2, 3, 4, 5] rfl)
              · refine lv_iload hx hb dX6_layStates_55 (lv_at hl 0 rfl) ?_
                refine z_i2l hx hb ⟨by omega, by omega⟩ dX6_layStates_57 ?_
                refine lv_ldc2 (v := lZ 6) hx hb hown (hts _ kw_954) dX6_layStates_58 ?_
                refine lv_ldc2 (v := lZ 8) hx hb hown (hts _ kw_768) dX6_layStates_61 ?_
                refine g_calli (g_runS (As := [.long (lZ ((tkC (cpr (σ 114) (σ 115) 50) w T N a0 b0 t) (1 + i))), .long (lZ 6), .long (lZ 8)]) (rest := [.int (iZ ((8 * ((t : Nat) : Int)) + ((i : Nat) : Int))), .ref (tad θ 128)]) hx hb hml hown hts hK hst hB (mX6_in l θ hθ σ3 z ((tkC (cpr (σ 114) (σ 115) 50) w T N a0 b0 t) (1 + i)) 6 8 ⟨by omega, by omega⟩ ⟨by omega, by omega⟩ ⟨by omega, by omega⟩) ms_X6_in kw_749 rfl hl.1 rfl (Nat.le_of_ble_eq_true rfl) ⟨by decide, by decide⟩ ⟨Nat.le_refl _, Nat.le_refl _⟩ dX6_layStates_64) hB (fun q_10 σ_8 z_9 H locs hq_10 pq_10 hB => ?_)
                obtain ⟨pq_10, e1_, e2_⟩ := pq_10
                rw [e1_, e2_] at hB
                clear e1_ e2_
                refine z_if_eq (tgt := 83) hx hb dX6_layStates_67 (by decide) ⟨by omega, by omega⟩ (fun c_11 => ?_) (fun c_11 => ?_)
                · refine lv_iconst (v := iZ 0) hx hb dX6_layStates_83 rfl ?_
                  refine g_iast (k := ((8 * t) + i)) hx hb hK hθ hB (by decide) rfl (by omega) (Nat.lt_of_lt_of_eq (by omega : ((8 * t) + i) < 328) (Eq.symm rfl)) (by decide) ⟨by decide, by decide⟩ dX6_layStates_84 (fun H locs hB => ?_)
                  obtain ⟨σ4, hσ4⟩ : ∃ x_ : gS, x_ = up2 σ3 128 ((8 * t) + i) 0 := ⟨_, rfl⟩
                  rw [← hσ4] at hB
                  have hR := hB.1.2
                  refine z_iinc (k := 1) (lv' := [(4, .int (iZ (((i : Nat) : Int) + 1))), (5, .int (iZ ((tkC (cpr (σ 114) (σ 115) 50) w T N a0 b0 t) (1 + i)))), (3, .int (iZ ((t : Nat) : Int))), (0, .ref (tad θ 111)), (1, .int (iZ a0)), (2, .int (iZ b0))]) hx hb dX6_layStates_85 hl rfl (by decide) rfl (fun ls hl => ?_)
                  have hl : lv_has ls 6 [(4, .int (iZ (((i + 1) : Nat) : Int))), (5, .int (iZ ((tkC (cpr (σ 114) (σ 115) 50) w T N a0 b0 t) (1 + i)))), (3, .int (iZ ((t : Nat) : Int))), (0, .ref (tad θ 111)), (1, .int (iZ a0)), (2, .int (iZ b0))] := by have e9 : (((i : Nat) : Int) + 1) = (((i + 1) : Nat) : Int) := (by omega); rw [e9] at hl; exact hl
                  refine lv_goto (tgt := 15) hx hb dX6_layStates_88 (by decide) ?_
                  exact ih15 (i + 1) σ4 _ _ _ (by omega) (by omega) (fun u hu s hs => by rw [hσ4, up2_k _ _ (by omega)]; exact hst1 u hu s hs) (lt_s (fun s hs => by rw [hσ4, up2_k _ _ (by omega)]; exact hst2 s hs) (by rw [hσ4, up2_eq, stv, if_neg (by omega)])) (by rw [hσ4]; exact hf3.tr (fr.up rfl)) hB (lv_sub hl [0, 2, 3, 4, 5] rfl)
                · refine lv_aload_n hx hb dX6_layStates_70 rfl (lv_at hl 3 rfl) ?_
                  refine g_getr (k := 6) (j := 115) hx hb hts hown hK hθ hB cf6 (by decide) rfl (by decide) kw_665 rfl rfl dX6_layStates_71 ?_
                  refine lv_bipush (v := iZ 33) hx hb dX6_layStates_74 (by decide) ?_
                  refine lv_iload hx hb dX6_layStates_76 (lv_at hl 1 rfl) ?_
                  refine z_iadd hx hb dX6_layStates_78 ?_
                  refine g_iald (k := (33 + i)) hx hb hK hB (by decide) rfl (by omega) (Nat.lt_of_lt_of_eq (by omega : (33 + i) < 50) (Eq.symm rfl)) (by decide) dX6_layStates_79 ?_
                  refine z_top (b := ((tkC (cpr (σ 114) (σ 115) 50) w T N a0 b0 t) (33 + i))) (by rw [hg3]) ?_
                  have hV3 := (hr3.2.1 i (by omega)).1
                  refine lv_goto (tgt := 84) hx hb dX6_layStates_80 (by decide) ?_
                  refine g_iast (k := ((8 * t) + i)) hx hb hK hθ hB (by decide) rfl (by omega) (Nat.lt_of_lt_of_eq (by omega : ((8 * t) + i) < 328) (Eq.symm rfl)) (by decide) ⟨by omega, by omega⟩ dX6_layStates_84 (fun H locs hB => ?_)
                  obtain ⟨σ4, hσ4⟩ : ∃ x_ : gS, x_ = up2 σ3 128 ((8 * t) + i) ((tkC (cpr (σ 114) (σ 115) 50) w T N a0 b0 t) (33 + i)) := ⟨_, rfl⟩
                  rw [← hσ4] at hB
                  have hR := hB.1.2
                  refine z_iinc (k := 1) (lv' := [(4, .int (iZ (((i : Nat) : Int) + 1))), (5, .int (iZ ((tkC (cpr (σ 114) (σ 115) 50) w T N a0 b0 t) (1 + i)))), (3, .int (iZ ((t : Nat) : Int))), (0, .ref (tad θ 111)), (1, .int (iZ a0)), (2, .int (iZ b0))]) hx hb dX6_layStates_85 hl rfl (by decide) rfl (fun ls hl => ?_)
                  have hl : lv_has ls 6 [(4, .int (iZ (((i + 1) : Nat) : Int))), (5, .int (iZ ((tkC (cpr (σ 114) (σ 115) 50) w T N a0 b0 t) (1 + i)))), (3, .int (iZ ((t : Nat) : Int))), (0, .ref (tad θ 111)), (1, .int (iZ a0)), (2, .int (iZ b0))] := by have e9 : (((i : Nat) : Int) + 1) = (((i + 1) : Nat) : Int) := (by omega); rw [e9] at hl; exact hl
                  refine lv_goto (tgt := 15) hx hb dX6_layStates_88 (by decide) ?_
                  exact ih15 (i + 1) σ4 _ _ _ (by omega) (by omega) (fun u hu s hs => by rw [hσ4, up2_k _ _ (by omega)]; exact hst1 u hu s hs) (lt_s (fun s hs => by rw [hσ4, up2_k _ _ (by omega)]; exact hst2 s hs) (by rw [hσ4, up2_eq, stv, if_pos (by omega)])) (by rw [hσ4]; exact hf3.tr (fr.up rfl)) hB (lv_sub hl [0, 2, 3, 4, 5] rfl)
        exact loop15 _ 0 σ2 _ _ _ (Nat.lt_succ_self _) (by omega) hst0 (fun s h => absurd h (Nat.not_lt_zero _)) fr.rf hB (lv_sub hl [0, 1, 2, 3, 4] rfl)
  exact loop6 _ 0 σ1 _ _ _ (Nat.lt_succ_self _) (by omega) hp1 (fun u h => absurd h (Nat.not_lt_zero _)) (hf1.mono ls_115) hB (lv_sub hl [0, 1, 2, 3] rfl)
set_option maxHeartbeats 4000000 in
set_option maxRecDepth 100000 in
theorem mX6_round (l : Launch) (θ : gT) (hθ : gOK θ) (σ : gS) (z : gZ) (hW : Wf (σ 114)) (N : Nat) (hN : σ 114 0 = (N : Int)) (hV : Vb (σ 114)) (a0 b0 y : Int) (har : rg a0) (hbr : rg b0) (hyr : rg y) : GI l θ yX6_round cX6_round 6 (some .int) 7 161 [.ref (tad θ 111), .int (iZ a0), .int (iZ b0), .int (iZ y)] σ z (fun q σ' z' => ((¬ (((0 ≤ a0 ∧ a0 ≤ 99) ∧ (0 ≤ b0 ∧ b0 ≤ 99)) ∧ (0 ≤ y ∧ y ≤ 1)) ∧ q = -2) ∨ ((((0 ≤ a0 ∧ a0 ≤ 99) ∧ (0 ≤ b0 ∧ b0 ≤ 99)) ∧ (0 ≤ y ∧ y ≤ 1)) ∧ ¬ sndG (σ 114) N ∧ q = -3) ∨ ((((0 ≤ a0 ∧ a0 ≤ 99) ∧ (0 ≤ b0 ∧ b0 ≤ 99)) ∧ (0 ≤ y ∧ y ≤ 1)) ∧ sndG (σ 114) N ∧ ∃ w, mClk (σ 114) N = some w ∧ rdP (fun t u => ∀ s, s < 8 → stv (tkC (cpr (σ 114) (σ 115) 50) w (tn (wtN (σ 114) w) N) N a0 b0 t) s = stv (tkC (cpr (σ 114) (σ 115) 50) w (tn (wtN (σ 114) w) N) N a0 b0 u) s) y q)) ∧ fr wSc σ σ' ∧ z' = z) := by
  refine g_enter (ret := (some .int)) (by decide +kernel) (Nat.le_of_ble_eq_true rfl) ?_
  intro p e s m args below meth c ls F hB hl
  obtain ⟨hx, hb, hr, hml, hown, hts, hlk, hK, hst⟩ := F
  have hR := hB.1.2
  have hl : lv_has ls 6 [(0, .ref (tad θ 111)), (1, .int (iZ a0)), (2, .int (iZ b0)), (3, .int (iZ y))] := hl
  refine lv_aload_n hx hb dX6_round_0 rfl (lv_at hl 0 rfl) ?_
  refine lv_iconst (v := iZ 0) hx hb dX6_round_1 rfl ?_
  refine g_putI (k := 0) hx hb hts hown hK hθ hB cf6 tyX6 tyX6_ok (by decide) rfl (by decide) kw_659 rfl rfl rfl ⟨by decide, by decide⟩ dX6_round_2 (fun H locs hB => ?_)
  obtain ⟨σ1, hσ1⟩ : ∃ x_ : gS, x_ = up2 σ 111 0 0 := ⟨_, rfl⟩
  rw [← hσ1] at hB
  have hR := hB.1.2
  refine lv_iload_n hx hb dX6_round_5 rfl (lv_at hl 1 rfl) ?_
  refine lv_iload_n hx hb dX6_round_6 rfl (lv_at hl 2 rfl) ?_
  refine g_calli (g_runS (As := [.int (iZ a0), .int (iZ b0)]) (rest := []) hx hb hml hown hts hK hst hB (mX6_areInputs l θ hθ σ1 z a0 b0 ⟨by omega, by omega⟩ ⟨by omega, by omega⟩) ms_X6_areInputs kw_885 rfl hl.1 rfl (Nat.le_of_ble_eq_true rfl) ⟨by decide, by decide⟩ ⟨Nat.le_refl _, Nat.le_refl _⟩ dX6_round_7) hB (fun q_3 σ_1 z_2 H locs hq_3 pq_3 hB => ?_)
  obtain ⟨pq_3, e1_, e2_⟩ := pq_3
  rw [e1_, e2_] at hB
  clear e1_ e2_
  refine z_if_eq (tgt := 23) hx hb dX6_round_10 (by decide) ⟨by omega, by omega⟩ (fun c_4 => ?_) (fun c_4 => ?_)
  · refine lv_bipush (v := iZ (-2)) hx hb dX6_round_23 (by decide) ?_
    exact g_iret hx hb hr hlk hB dX6_round_25 ⟨by decide, by decide⟩ (⟨Or.inl ⟨by omega, rfl⟩, (by rw [hσ1]; exact fr.up rfl : fr wSc σ σ1), rfl⟩)
  · refine lv_iload_n hx hb dX6_round_13 rfl (lv_at hl 3 rfl) ?_
    refine z_i2l hx hb ⟨by omega, by omega⟩ dX6_round_14 ?_
    refine lv_lconst (v := lZ 0) hx hb dX6_round_15 (by decide) ?_
    refine lv_lconst (v := lZ 1) hx hb dX6_round_16 (by decide) ?_
    refine g_calli (g_runS (As := [.long (lZ y), .long (lZ 0), .long (lZ 1)]) (rest := []) hx hb hml hown hts hK hst hB (mX6_in l θ hθ σ1 z y 0 1 ⟨by omega, by omega⟩ ⟨by omega, by omega⟩ ⟨by omega, by omega⟩) ms_X6_in kw_749 rfl hl.1 rfl (Nat.le_of_ble_eq_true rfl) ⟨by decide, by decide⟩ ⟨Nat.le_refl _, Nat.le_refl _⟩ dX6_round_17) hB (fun q_7 σ_5 z_6 H locs hq_7 pq_7 hB => ?_)
    obtain ⟨pq_7, e1_, e2_⟩ := pq_7
    rw [e1_, e2_] at hB
    clear e1_ e2_
    refine z_if_ne (tgt := 26) hx hb dX6_round_20 (by decide) ⟨by omega, by omega⟩ (fun c_8 => ?_) (fun c_8 => ?_)
    · refine lv_aload_n hx hb dX6_round_26 rfl (lv_at hl 0 rfl) ?_
      refine g_calli (g_runV (i := 111) (As := []) (rest := []) hx hb hml hown hts hK hst hB (mX6_soundNow l θ hθ σ1 z (by rw [hσ1, up2_row _ _ (by decide)]; exact hW) N (by rw [hσ1, up2_row _ _ (by decide)]; exact hN)) mv_X6_soundNow kw_789 cf6 (by decide) rfl rfl hl.1 rfl (Nat.le_of_ble_eq_true rfl) ⟨by decide, by decide⟩ ⟨Nat.le_refl _, Nat.le_refl _⟩ dX6_round_27) hB (fun q2 σ2 z_9 H locs hq2 hp2 hB => ?_)
      obtain ⟨hp2, hf2, e2_⟩ := hp2
      rw [e2_] at hB
      clear e2_
      have hR := hB.1.2
      rw [hσ1, up2_row _ _ (by decide)] at hp2
      have hfs : fr wSc σ σ2 := ((by rw [hσ1]; exact fr.up rfl : fr wSc σ σ1)).tr (hf2.mono sc_an)
      have hg2 : σ2 114 = σ 114 := by rw [hf2.row (fun k => rfl), hσ1, up2_row _ _ (by decide)]
      have hgr := hW.1
      obtain ⟨han, hp2⟩ := hp2
      have hiff := mAn_iff han
      rcases hp2 with ⟨hqa, hsn⟩ | ⟨hqa, hsn⟩
      · subst hqa
        have hsd := hiff.mp hsn
        obtain ⟨w, ew, ho, hA2, hfn, hT2, hraw⟩ := mAn_snd hW hN han hsn
        refine z_if_ne (tgt := 36) hx hb dX6_round_30 (by decide) ⟨by decide, by decide⟩ (fun c_10 => ?_) (fun c_10 => ?_)
        · refine lv_aload_n hx hb dX6_round_36 rfl (lv_at hl 0 rfl) ?_
          refine lv_iload_n hx hb dX6_round_37 rfl (lv_at hl 1 rfl) ?_
          refine lv_iload_n hx hb dX6_round_38 rfl (lv_at hl 2 rfl) ?_
          refine g_callv (g_runV (i := 111) (As := [.int (iZ a0), .int (iZ b0)]) (rest := []) hx hb hml hown hts hK hst hB (mX6_layStates l θ hθ σ2 z w N (tn (wtN (σ 114) w) N) ⟨hA2, ho, hT2⟩ (by rw [hg2]; exact ⟨hW, hV, hN⟩) a0 b0 (by omega) (by omega)) mv_X6_layStates kw_950 cf6 (by decide) rfl rfl hl.1 rfl (Nat.le_of_ble_eq_true rfl) ⟨by decide, by decide⟩ ⟨Nat.le_refl _, Nat.le_refl _⟩ dX6_round_39) hB (fun σ3 z_11 H locs hp3 hB => ?_)
          obtain ⟨hp3, hf3, e2_⟩ := hp3
          rw [e2_] at hB
          clear e2_
          have hR := hB.1.2
          have h115 : σ2 115 = σ 115 := by rw [hf2.row (fun k => rfl), hσ1, up2_row _ _ (by decide)]
          rw [hg2, h115] at hp3
          have hal : ∀ t u, t ≤ 40 → u ≤ 40 → (alk (σ3 128) t u ↔ (fun t u => ∀ s, s < 8 → stv (tkC (cpr (σ 114) (σ 115) 50) w (tn (wtN (σ 114) w) N) N a0 b0 t) s = stv (tkC (cpr (σ 114) (σ 115) 50) w (tn (wtN (σ 114) w) N) N a0 b0 u) s) t u) := fun t u h1 h2 => ⟨fun h s hs => by have := h s hs; rw [hp3 t h1 s hs, hp3 u h2 s hs] at this; exact this, fun h s hs => by rw [hp3 t h1 s hs, hp3 u h2 s hs]; exact h s hs⟩
          have hfs3 : fr wSc σ σ3 := hfs.tr (hf3.mono sc_ls)
          refine lv_iconst (v := iZ 1) hx hb dX6_round_42 rfl ?_
          refine z_top (b := (((0 + 1) : Nat) : Int)) (rfl) ?_
          refine lv_istore (lv' := [(4, .int (iZ (((0 + 1) : Nat) : Int))), (0, .ref (tad θ 111)), (1, .int (iZ a0)), (2, .int (iZ b0)), (3, .int (iZ y))]) hx hb dX6_round_43 hl (by decide) rfl (fun ls hl => ?_)
          have loop45 : ∀ (n45 : Nat) (j : Nat) (H : Heap) (locs : List Loc) (ls : Array Slot), 40 - j < n45 → (j ≤ 40) → (∀ l' t', 1 ≤ l' → l' < j + 1 → t' + l' ≤ 40 → ¬ (fun t u => ∀ s, s < 8 → stv (tkC (cpr (σ 114) (σ 115) 50) w (tn (wtN (σ 114) w) N) N a0 b0 t) s = stv (tkC (cpr (σ 114) (σ 115) 50) w (tn (wtN (σ 114) w) N) N a0 b0 u) s) t' (t' + l')) →  gB θ σ3 z s.heap H locs → lv_has ls 6 [(4, .int (iZ (((j + 1) : Nat) : Int))), (0, .ref (tad θ 111)), (1, .int (iZ a0)), (2, .int (iZ b0)), (3, .int (iZ y))] → W p l e (gRm 7 161) s m args below meth c H locs 0 0 (MQ below (gQi θ (fun q σ' z' => ((¬ (((0 ≤ a0 ∧ a0 ≤ 99) ∧ (0 ≤ b0 ∧ b0 ≤ 99)) ∧ (0 ≤ y ∧ y ≤ 1)) ∧ q = -2) ∨ ((((0 ≤ a0 ∧ a0 ≤ 99) ∧ (0 ≤ b0 ∧ b0 ≤ 99)) ∧ (0 ≤ y ∧ y ≤ 1)) ∧ ¬ sndG (σ 114) N ∧ q = -3) ∨ ((((0 ≤ a0 ∧ a0 ≤ 99) ∧ (0 ≤ b0 ∧ b0 ≤ 99)) ∧ (0 ≤ y ∧ y ≤ 1)) ∧ sndG (σ 114) N ∧ ∃ w, mClk (σ 114) N = some w ∧ rdP (fun t u => ∀ s, s < 8 → stv (tkC (cpr (σ 114) (σ 115) 50) w (tn (wtN (σ 114) w) N) N a0 b0 t) s = stv (tkC (cpr (σ 114) (σ 115) 50) w (tn (wtN (σ 114) w) N) N a0 b0 u) s) y q)) ∧ fr wSc σ σ' ∧ z' = z)) args s 0 0 (tA θ)) (F0 m 45 ls []) := by
            intro n45
            induction n45 with
            | zero => intro j H locs ls hmu; exact absurd hmu (Nat.not_lt_zero _)
            | succ n45 ih45 =>
              intro j H locs ls hmu hj hno hB hl
              have hR := hB.1.2
              refine lv_iload hx hb dX6_round_45 (lv_at hl 0 rfl) ?_
              refine lv_bipush (v := iZ 40) hx hb dX6_round_47 (by decide) ?_
              refine z_icmp_gt (tgt := 103) hx hb dX6_round_49 (by decide) ⟨by omega, by omega⟩ ⟨by decide, by decide⟩ (fun c_13 => ?_) (fun c_13 => ?_)
              · refine lv_bipush (v := iZ (-9)) hx hb dX6_round_103 (by decide) ?_
                exact g_iret hx hb hr hlk hB dX6_round_105 ⟨by decide, by decide⟩ (⟨Or.inr (Or.inr ⟨by omega, hsd, w, ew, Or.inr ⟨fun l t h1 h2 => hno l t h1 (by omega) h2, rfl⟩⟩), hfs3, rfl⟩)
              · refine lv_iconst (v := iZ 0) hx hb dX6_round_52 rfl ?_
                refine lv_istore (lv' := [(5, .int (iZ 0)), (4, .int (iZ (((j + 1) : Nat) : Int))), (0, .ref (tad θ 111)), (1, .int (iZ a0)), (2, .int (iZ b0)), (3, .int (iZ y))]) hx hb dX6_round_53 hl (by decide) rfl (fun ls hl => ?_)
                have loop55 : ∀ (n55 : Nat) (t : Nat) (H : Heap) (locs : List Loc) (ls : Array Slot), 41 - t < n55 → (t + (j + 1) ≤ 41) → (∀ t', t' < t → ¬ (fun t u => ∀ s, s < 8 → stv (tkC (cpr (σ 114) (σ 115) 50) w (tn (wtN (σ 114) w) N) N a0 b0 t) s = stv (tkC (cpr (σ 114) (σ 115) 50) w (tn (wtN (σ 114) w) N) N a0 b0 u) s) t' (t' + (j + 1))) →  gB θ σ3 z s.heap H locs → lv_has ls 6 [(5, .int (iZ ((t : Nat) : Int))), (4, .int (iZ (((j + 1) : Nat) : Int))), (0, .ref (tad θ 111)), (1, .int (iZ a0)), (2, .int (iZ b0)), (3, .int (iZ y))] → W p l e (gRm 7 161) s m args below meth c H locs 0 0 (MQ below (gQi θ (fun q σ' z' => ((¬ (((0 ≤ a0 ∧ a0 ≤ 99) ∧ (0 ≤ b0 ∧ b0 ≤ 99)) ∧ (0 ≤ y ∧ y ≤ 1)) ∧ q = -2) ∨ ((((0 ≤ a0 ∧ a0 ≤ 99) ∧ (0 ≤ b0 ∧ b0 ≤ 99)) ∧ (0 ≤ y ∧ y ≤ 1)) ∧ ¬ sndG (σ 114) N ∧ q = -3) ∨ ((((0 ≤ a0 ∧ a0 ≤ 99) ∧ (0 ≤ b0 ∧ b0 ≤ 99)) ∧ (0 ≤ y ∧ y ≤ 1)) ∧ sndG (σ 114) N ∧ ∃ w, mClk (σ 114) N = some w ∧ rdP (fun t u => ∀ s, s < 8 → stv (tkC (cpr (σ 114) (σ 115) 50) w (tn (wtN (σ 114) w) N) N a0 b0 t) s = stv (tkC (cpr (σ 114) (σ 115) 50) w (tn (wtN (σ 114) w) N) N a0 b0 u) s) y q)) ∧ fr wSc σ σ' ∧ z' = z)) args s 0 0 (tA θ)) (F0 m 55 ls []) := by
                  intro n55
                  induction n55 with
                  | zero => intro t H locs ls hmu; exact absurd hmu (Nat.not_lt_zero _)
                  | succ n55 ih55 =>
                    intro t H locs ls hmu ht hno2 hB hl
                    have hR := hB.1.2
                    refine lv_iload hx hb dX6_round_55 (lv_at hl 0 rfl) ?_
                    refine lv_iload hx hb dX6_round_57 (lv_at hl 1 rfl) ?_
                    refine z_iadd hx hb dX6_round_59 ?_
                    refine lv_bipush (v := iZ 40) hx hb dX6_round_60 (by decide) ?_
                    refine z_icmp_gt (tgt := 97) hx hb dX6_round_62 (by decide) ⟨by omega, by omega⟩ ⟨by decide, by decide⟩ (fun c_14 => ?_) (fun c_14 => ?_)
                    · refine z_iinc (k := 1) (lv' := [(4, .int (iZ ((((j + 1) : Nat) : Int) + 1))), (5, .int (iZ ((t : Nat) : Int))), (0, .ref (tad θ 111)), (1, .int (iZ a0)), (2, .int (iZ b0)), (3, .int (iZ y))]) hx hb dX6_round_97 hl rfl (by decide) rfl (fun ls hl => ?_)
                      have hl : lv_has ls 6 [(4, .int (iZ ((((j + 1) + 1) : Nat) : Int))), (5, .int (iZ ((t : Nat) : Int))), (0, .ref (tad θ 111)), (1, .int (iZ a0)), (2, .int (iZ b0)), (3, .int (iZ y))] := by have e9 : ((((j + 1) : Nat) : Int) + 1) = ((((j + 1) + 1) : Nat) : Int) := (by omega); rw [e9] at hl; exact hl
                      refine lv_goto (tgt := 45) hx hb dX6_round_100 (by decide) ?_
                      exact ih45 (j + 1) _ _ _ (by omega) (by omega) (fun l' t' h1 h2 h3 => by rcases Nat.lt_or_ge l' (j + 1) with q | q; exact hno l' t' h1 q h3; rw [show l' = j + 1 by omega] at h3 ⊢; exact hno2 t' (by omega)) hB (lv_sub hl [0, 2, 3, 4, 5] rfl)
                    · refine lv_aload_n hx hb dX6_round_65 rfl (lv_at hl 2 rfl) ?_
                      refine lv_iload hx hb dX6_round_66 (lv_at hl 0 rfl) ?_
                      refine lv_iload hx hb dX6_round_68 (lv_at hl 0 rfl) ?_
                      refine lv_iload hx hb dX6_round_70 (lv_at hl 1 rfl) ?_
                      refine z_iadd hx hb dX6_round_72 ?_
                      refine g_calli (g_runV (i := 111) (As := [.int (iZ ((t : Nat) : Int)), .int (iZ (((t : Nat) : Int) + (((j + 1) : Nat) : Int)))]) (rest := []) hx hb hml hown hts hK hst hB (mX6_areAlike l θ hθ σ3 z t (t + (j + 1)) (by omega) (by omega)) mv_X6_areAlike kw_955 cf6 (by decide) rfl rfl hl.1 rfl (Nat.le_of_ble_eq_true rfl) ⟨by decide, by decide⟩ ⟨Nat.le_refl _, Nat.le_refl _⟩ dX6_round_73) hB (fun qa σ_15 z_16 H locs hqa hpa hB => ?_)
                      obtain ⟨hpa, e1_, e2_⟩ := hpa
                      rw [e1_, e2_] at hB
                      clear e1_ e2_
                      rcases hpa with ⟨hqa2, hala⟩ | ⟨hqa2, hala⟩
                      · subst hqa2
                        have hala := (hal t (t + (j + 1)) (by omega) (by omega)).mp hala
                        refine z_if_eq (tgt := 91) hx hb dX6_round_76 (by decide) ⟨by decide, by decide⟩ (fun c_17 => ?_) (fun c_17 => ?_)
                        · exact absurd c_17 (by decide)
                        · refine lv_iload_n hx hb dX6_round_79 rfl (lv_at hl 5 rfl) ?_
                          refine z_if_ne (tgt := 88) hx hb dX6_round_80 (by decide) ⟨by omega, by omega⟩ (fun c_18 => ?_) (fun c_18 => ?_)
                          · refine lv_iload hx hb dX6_round_88 (lv_at hl 0 rfl) ?_
                            exact g_iret hx hb hr hlk hB dX6_round_90 ⟨by omega, by omega⟩ (⟨Or.inr (Or.inr ⟨by omega, hsd, w, ew, Or.inl ⟨j + 1, t, by omega, by omega, hala, hno, hno2, Or.inr ⟨by omega, rfl⟩⟩⟩), hfs3, rfl⟩)
                          · refine lv_iload hx hb dX6_round_83 (lv_at hl 1 rfl) ?_
                            refine lv_goto (tgt := 90) hx hb dX6_round_85 (by decide) ?_
                            exact g_iret hx hb hr hlk hB dX6_round_90 ⟨by omega, by omega⟩ (⟨Or.inr (Or.inr ⟨by omega, hsd, w, ew, Or.inl ⟨j + 1, t, by omega, by omega, hala, hno, hno2, Or.inl ⟨by omega, rfl⟩⟩⟩), hfs3, rfl⟩)
                      · subst hqa2
                        have hnal : ¬ (fun t u => ∀ s, s < 8 → stv (tkC (cpr (σ 114) (σ 115) 50) w (tn (wtN (σ 114) w) N) N a0 b0 t) s = stv (tkC (cpr (σ 114) (σ 115) 50) w (tn (wtN (σ 114) w) N) N a0 b0 u) s) t (t + (j + 1)) := fun q => hala ((hal t (t + (j + 1)) (by omega) (by omega)).mpr q)
                        refine z_if_eq (tgt := 91) hx hb dX6_round_76 (by decide) ⟨by decide, by decide⟩ (fun c_19 => ?_) (fun c_19 => ?_)
                        · refine z_iinc (k := 0) (lv' := [(5, .int (iZ (((t : Nat) : Int) + 1))), (4, .int (iZ (((j + 1) : Nat) : Int))), (0, .ref (tad θ 111)), (1, .int (iZ a0)), (2, .int (iZ b0)), (3, .int (iZ y))]) hx hb dX6_round_91 hl rfl (by decide) rfl (fun ls hl => ?_)
                          have hl : lv_has ls 6 [(5, .int (iZ (((t + 1) : Nat) : Int))), (4, .int (iZ (((j + 1) : Nat) : Int))), (0, .ref (tad θ 111)), (1, .int (iZ a0)), (2, .int (iZ b0)), (3, .int (iZ y))] := by have e9 : (((t : Nat) : Int) + 1) = (((t + 1) : Nat) : Int) := (by omega); rw [e9] at hl; exact hl
                          refine lv_goto (tgt := 55) hx hb dX6_round_94 (by decide) ?_
                          exact ih55 (t + 1) _ _ _ (by omega) (by omega) (lt_s hno2 hnal) hB (lv_sub hl [0, 1, 2, 3, 4, 5] rfl)
                        · exact absurd (by decide) c_19
                exact loop55 _ 0 _ _ _ (Nat.lt_succ_self _) (by omega) (fun t' h => absurd h (Nat.not_lt_zero _)) hB (lv_sub hl [0, 1, 2, 3, 4, 5] rfl)
          exact loop45 _ 0 _ _ _ (Nat.lt_succ_self _) (by omega) (fun l' t' h1 h2 => absurd h2 (by omega)) hB (lv_sub hl [0, 1, 2, 3, 4] rfl)
        · exact absurd c_10 (by decide)
      · subst hqa
        have hnd : ¬ sndG (σ 114) N := fun q => hsn (hiff.mpr q)
        refine z_if_ne (tgt := 36) hx hb dX6_round_30 (by decide) ⟨by decide, by decide⟩ (fun c_20 => ?_) (fun c_20 => ?_)
        · exact absurd (by decide) c_20
        · refine lv_bipush (v := iZ (-3)) hx hb dX6_round_33 (by decide) ?_
          exact g_iret hx hb hr hlk hB dX6_round_35 ⟨by decide, by decide⟩ (⟨Or.inr (Or.inl ⟨by omega, hnd, rfl⟩), hfs, rfl⟩)
    · refine lv_bipush (v := iZ (-2)) hx hb dX6_round_23 (by decide) ?_
      exact g_iret hx hb hr hlk hB dX6_round_25 ⟨by decide, by decide⟩ (⟨Or.inl ⟨by omega, rfl⟩, (by rw [hσ1]; exact fr.up rfl : fr wSc σ σ1), rfl⟩)
set_option maxHeartbeats 4000000 in
set_option maxRecDepth 100000 in
theorem mX6_see (l : Launch) (θ : gT) (hθ : gOK θ) (σ : gS) (z : gZ) (n : Nat) (hn : σ 111 11 = (n : Int)) (hse : seenOK σ n) (x1 x2 x3 x4 : Int) (h1r : rg x1) (h2r : rg x2) (h3r : rg x3) (h4r : rg x4) : GI l θ yX6_see cX6_see 5 (some .int) 1 25 [.ref (tad θ 111), .int (iZ x1), .int (iZ x2), .int (iZ x3), .int (iZ x4)] σ z (fun q σ' z' => ((¬ ((1 ≤ x1 ∧ x1 ≤ 12) ∧ (0 ≤ x2 ∧ x2 ≤ 7) ∧ (0 ≤ x3 ∧ x3 ≤ 99) ∧ (0 ≤ x4 ∧ x4 ≤ 1)) ∧ q = -2 ∧ fr wSc σ σ') ∨ (((1 ≤ x1 ∧ x1 ≤ 12) ∧ (0 ≤ x2 ∧ x2 ≤ 7) ∧ (0 ≤ x3 ∧ x3 ≤ 99) ∧ (0 ≤ x4 ∧ x4 ≤ 1)) ∧ n = 6 ∧ q = -4 ∧ fr wSc σ σ') ∨ (((1 ≤ x1 ∧ x1 ≤ 12) ∧ (0 ≤ x2 ∧ x2 ≤ 7) ∧ (0 ≤ x3 ∧ x3 ≤ 99) ∧ (0 ≤ x4 ∧ x4 ≤ 1)) ∧ n < 6 ∧ q = (n : Int) + 1 ∧ σ' 111 11 = (n : Int) + 1 ∧ σ' 119 = upn (σ 119) n x1 ∧ σ' 120 = upn (σ 120) n x2 ∧ σ' 121 = upn (σ 121) n x3 ∧ σ' 122 = upn (σ 122) n x4)) ∧ fr wSn σ σ' ∧ z' = z) := by
  refine g_enter (ret := (some .int)) (by decide +kernel) (Nat.le_of_ble_eq_true rfl) ?_
  intro p e s m args below meth c ls F hB hl
  obtain ⟨hx, hb, hr, hml, hown, hts, hlk, hK, hst⟩ := F
  have hR := hB.1.2
  have hl : lv_has ls 5 [(0, .ref (tad θ 111)), (1, .int (iZ x1)), (2, .int (iZ x2)), (3, .int (iZ x3)), (4, .int (iZ x4))] := hl
  have hn6 := hse.1
  refine lv_aload_n hx hb dX6_see_0 rfl (lv_at hl 0 rfl) ?_
  refine lv_iconst (v := iZ 0) hx hb dX6_see_1 rfl ?_
  refine g_putI (k := 0) hx hb hts hown hK hθ hB cf6 tyX6 tyX6_ok (by decide) rfl (by decide) kw_659 rfl rfl rfl ⟨by decide, by decide⟩ dX6_see_2 (fun H locs hB => ?_)
  obtain ⟨σ1, hσ1⟩ : ∃ x_ : gS, x_ = up2 σ 111 0 0 := ⟨_, rfl⟩
  rw [← hσ1] at hB
  have hR := hB.1.2
  refine lv_iload_n hx hb dX6_see_5 rfl (lv_at hl 1 rfl) ?_
  refine z_i2l hx hb ⟨by omega, by omega⟩ dX6_see_6 ?_
  refine lv_lconst (v := lZ 1) hx hb dX6_see_7 (by decide) ?_
  refine lv_ldc2 (v := lZ 12) hx hb hown (hts _ kw_984) dX6_see_8 ?_
  refine g_calli (g_runS (As := [.long (lZ x1), .long (lZ 1), .long (lZ 12)]) (rest := []) hx hb hml hown hts hK hst hB (mX6_in l θ hθ σ1 z x1 1 12 ⟨by omega, by omega⟩ ⟨by omega, by omega⟩ ⟨by omega, by omega⟩) ms_X6_in kw_749 rfl hl.1 rfl (Nat.le_of_ble_eq_true rfl) ⟨by decide, by decide⟩ ⟨Nat.le_refl _, Nat.le_refl _⟩ dX6_see_11) hB (fun q_3 σ_1 z_2 H locs hq_3 pq_3 hB => ?_)
  obtain ⟨pq_3, e1_, e2_⟩ := pq_3
  rw [e1_, e2_] at hB
  clear e1_ e2_
  refine z_if_eq (tgt := 52) hx hb dX6_see_14 (by decide) ⟨by omega, by omega⟩ (fun c_4 => ?_) (fun c_4 => ?_)
  · refine lv_bipush (v := iZ (-2)) hx hb dX6_see_52 (by decide) ?_
    exact g_iret hx hb hr hlk hB dX6_see_54 ⟨by decide, by decide⟩ (⟨Or.inl ⟨by omega, rfl, (by rw [hσ1]; exact fr.up rfl : fr wSc σ σ1)⟩, ((by rw [hσ1]; exact fr.up rfl : fr wSc σ σ1)).mono sn_sc, rfl⟩)
  · refine lv_iload_n hx hb dX6_see_17 rfl (lv_at hl 2 rfl) ?_
    refine z_i2l hx hb ⟨by omega, by omega⟩ dX6_see_18 ?_
    refine lv_lconst (v := lZ 0) hx hb dX6_see_19 (by decide) ?_
    refine lv_ldc2 (v := lZ 7) hx hb hown (hts _ kw_985) dX6_see_20 ?_
    refine g_calli (g_runS (As := [.long (lZ x2), .long (lZ 0), .long (lZ 7)]) (rest := []) hx hb hml hown hts hK hst hB (mX6_in l θ hθ σ1 z x2 0 7 ⟨by omega, by omega⟩ ⟨by omega, by omega⟩ ⟨by omega, by omega⟩) ms_X6_in kw_749 rfl hl.1 rfl (Nat.le_of_ble_eq_true rfl) ⟨by decide, by decide⟩ ⟨Nat.le_refl _, Nat.le_refl _⟩ dX6_see_23) hB (fun q_7 σ_5 z_6 H locs hq_7 pq_7 hB => ?_)
    obtain ⟨pq_7, e1_, e2_⟩ := pq_7
    rw [e1_, e2_] at hB
    clear e1_ e2_
    refine z_if_eq (tgt := 52) hx hb dX6_see_26 (by decide) ⟨by omega, by omega⟩ (fun c_8 => ?_) (fun c_8 => ?_)
    · refine lv_bipush (v := iZ (-2)) hx hb dX6_see_52 (by decide) ?_
      exact g_iret hx hb hr hlk hB dX6_see_54 ⟨by decide, by decide⟩ (⟨Or.inl ⟨by omega, rfl, (by rw [hσ1]; exact fr.up rfl : fr wSc σ σ1)⟩, ((by rw [hσ1]; exact fr.up rfl : fr wSc σ σ1)).mono sn_sc, rfl⟩)
    · refine lv_iload_n hx hb dX6_see_29 rfl (lv_at hl 3 rfl) ?_
      refine z_i2l hx hb ⟨by omega, by omega⟩ dX6_see_30 ?_
      refine lv_lconst (v := lZ 0) hx hb dX6_see_31 (by decide) ?_
      refine lv_ldc2 (v := lZ 99) hx hb hown (hts _ kw_888) dX6_see_32 ?_
      refine g_calli (g_runS (As := [.long (lZ x3), .long (lZ 0), .long (lZ 99)]) (rest := []) hx hb hml hown hts hK hst hB (mX6_in l θ hθ σ1 z x3 0 99 ⟨by omega, by omega⟩ ⟨by omega, by omega⟩ ⟨by omega, by omega⟩) ms_X6_in kw_749 rfl hl.1 rfl (Nat.le_of_ble_eq_true rfl) ⟨by decide, by decide⟩ ⟨Nat.le_refl _, Nat.le_refl _⟩ dX6_see_35) hB (fun q_11 σ_9 z_10 H locs hq_11 pq_11 hB => ?_)
      obtain ⟨pq_11, e1_, e2_⟩ := pq_11
      rw [e1_, e2_] at hB
      clear e1_ e2_
      refine z_if_eq (tgt := 52) hx hb dX6_see_38 (by decide) ⟨by omega, by omega⟩ (fun c_12 => ?_) (fun c_12 => ?_)
      · refine lv_bipush (v := iZ (-2)) hx hb dX6_see_52 (by decide) ?_
        exact g_iret hx hb hr hlk hB dX6_see_54 ⟨by decide, by decide⟩ (⟨Or.inl ⟨by omega, rfl, (by rw [hσ1]; exact fr.up rfl : fr wSc σ σ1)⟩, ((by rw [hσ1]; exact fr.up rfl : fr wSc σ σ1)).mono sn_sc, rfl⟩)
      · refine lv_iload hx hb dX6_see_41 (lv_at hl 4 rfl) ?_
        refine z_i2l hx hb ⟨by omega, by omega⟩ dX6_see_43 ?_
        refine lv_lconst (v := lZ 0) hx hb dX6_see_44 (by decide) ?_
        refine lv_lconst (v := lZ 1) hx hb dX6_see_45 (by decide) ?_
        refine g_calli (g_runS (As := [.long (lZ x4), .long (lZ 0), .long (lZ 1)]) (rest := []) hx hb hml hown hts hK hst hB (mX6_in l θ hθ σ1 z x4 0 1 ⟨by omega, by omega⟩ ⟨by omega, by omega⟩ ⟨by omega, by omega⟩) ms_X6_in kw_749 rfl hl.1 rfl (Nat.le_of_ble_eq_true rfl) ⟨by decide, by decide⟩ ⟨Nat.le_refl _, Nat.le_refl _⟩ dX6_see_46) hB (fun q_15 σ_13 z_14 H locs hq_15 pq_15 hB => ?_)
        obtain ⟨pq_15, e1_, e2_⟩ := pq_15
        rw [e1_, e2_] at hB
        clear e1_ e2_
        refine z_if_ne (tgt := 55) hx hb dX6_see_49 (by decide) ⟨by omega, by omega⟩ (fun c_16 => ?_) (fun c_16 => ?_)
        · refine lv_aload_n hx hb dX6_see_55 rfl (lv_at hl 0 rfl) ?_
          refine g_geti (k := 11) hx hb hts hown hK hB cf6 (by decide) rfl (by decide) kw_670 rfl dX6_see_56 ?_
          refine z_top (b := ((n : Nat) : Int)) (by rw [hσ1, up2_k _ _ (by decide)]; exact hn) ?_
          refine lv_bipush (v := iZ 6) hx hb dX6_see_59 (by decide) ?_
          refine z_icmp_ne (tgt := 67) hx hb dX6_see_61 (by decide) ⟨by omega, by omega⟩ ⟨by decide, by decide⟩ (fun c_17 => ?_) (fun c_17 => ?_)
          · refine lv_aload_n hx hb dX6_see_67 rfl (lv_at hl 0 rfl) ?_
            refine g_getr (k := 12) (j := 119) hx hb hts hown hK hθ hB cf6 (by decide) rfl (by decide) kw_671 rfl rfl dX6_see_68 ?_
            refine lv_aload_n hx hb dX6_see_71 rfl (lv_at hl 0 rfl) ?_
            refine g_geti (k := 11) hx hb hts hown hK hB cf6 (by decide) rfl (by decide) kw_670 rfl dX6_see_72 ?_
            refine z_top (b := ((n : Nat) : Int)) (by rw [hσ1, up2_k _ _ (by decide)]; exact hn) ?_
            refine lv_iload_n hx hb dX6_see_75 rfl (lv_at hl 1 rfl) ?_
            refine g_iast (k := n) hx hb hK hθ hB (by decide) rfl (by omega) (Nat.lt_of_lt_of_eq (by omega : n < 6) (Eq.symm rfl)) (by decide) ⟨by omega, by omega⟩ dX6_see_76 (fun H locs hB => ?_)
            obtain ⟨σ2, hσ2⟩ : ∃ x_ : gS, x_ = up2 σ1 119 n x1 := ⟨_, rfl⟩
            rw [← hσ2] at hB
            have hR := hB.1.2
            refine lv_aload_n hx hb dX6_see_77 rfl (lv_at hl 0 rfl) ?_
            refine g_getr (k := 13) (j := 120) hx hb hts hown hK hθ hB cf6 (by decide) rfl (by decide) kw_672 rfl rfl dX6_see_78 ?_
            refine lv_aload_n hx hb dX6_see_81 rfl (lv_at hl 0 rfl) ?_
            refine g_geti (k := 11) hx hb hts hown hK hB cf6 (by decide) rfl (by decide) kw_670 rfl dX6_see_82 ?_
            refine z_top (b := ((n : Nat) : Int)) (by rw [hσ2, up2_c _ _ (by decide), hσ1, up2_k _ _ (by decide)]; exact hn) ?_
            refine lv_iload_n hx hb dX6_see_85 rfl (lv_at hl 2 rfl) ?_
            refine g_iast (k := n) hx hb hK hθ hB (by decide) rfl (by omega) (Nat.lt_of_lt_of_eq (by omega : n < 6) (Eq.symm rfl)) (by decide) ⟨by omega, by omega⟩ dX6_see_86 (fun H locs hB => ?_)
            obtain ⟨σ3, hσ3⟩ : ∃ x_ : gS, x_ = up2 σ2 120 n x2 := ⟨_, rfl⟩
            rw [← hσ3] at hB
            have hR := hB.1.2
            refine lv_aload_n hx hb dX6_see_87 rfl (lv_at hl 0 rfl) ?_
            refine g_getr (k := 14) (j := 121) hx hb hts hown hK hθ hB cf6 (by decide) rfl (by decide) kw_673 rfl rfl dX6_see_88 ?_
            refine lv_aload_n hx hb dX6_see_91 rfl (lv_at hl 0 rfl) ?_
            refine g_geti (k := 11) hx hb hts hown hK hB cf6 (by decide) rfl (by decide) kw_670 rfl dX6_see_92 ?_
            refine z_top (b := ((n : Nat) : Int)) (by rw [hσ3, up2_c _ _ (by decide), hσ2, up2_c _ _ (by decide), hσ1, up2_k _ _ (by decide)]; exact hn) ?_
            refine lv_iload_n hx hb dX6_see_95 rfl (lv_at hl 3 rfl) ?_
            refine g_iast (k := n) hx hb hK hθ hB (by decide) rfl (by omega) (Nat.lt_of_lt_of_eq (by omega : n < 6) (Eq.symm rfl)) (by decide) ⟨by omega, by omega⟩ dX6_see_96 (fun H locs hB => ?_)
            obtain ⟨σ4, hσ4⟩ : ∃ x_ : gS, x_ = up2 σ3 121 n x3 := ⟨_, rfl⟩
            rw [← hσ4] at hB
            have hR := hB.1.2
            refine lv_aload_n hx hb dX6_see_97 rfl (lv_at hl 0 rfl) ?_
            refine g_getr (k := 15) (j := 122) hx hb hts hown hK hθ hB cf6 (by decide) rfl (by decide) kw_674 rfl rfl dX6_see_98 ?_
            refine lv_aload_n hx hb dX6_see_101 rfl (lv_at hl 0 rfl) ?_
            refine g_geti (k := 11) hx hb hts hown hK hB cf6 (by decide) rfl (by decide) kw_670 rfl dX6_see_102 ?_
            refine z_top (b := ((n : Nat) : Int)) (by rw [hσ4, up2_c _ _ (by decide), hσ3, up2_c _ _ (by decide), hσ2, up2_c _ _ (by decide), hσ1, up2_k _ _ (by decide)]; exact hn) ?_
            refine lv_iload hx hb dX6_see_105 (lv_at hl 4 rfl) ?_
            refine g_iast (k := n) hx hb hK hθ hB (by decide) rfl (by omega) (Nat.lt_of_lt_of_eq (by omega : n < 6) (Eq.symm rfl)) (by decide) ⟨by omega, by omega⟩ dX6_see_107 (fun H locs hB => ?_)
            obtain ⟨σ5, hσ5⟩ : ∃ x_ : gS, x_ = up2 σ4 122 n x4 := ⟨_, rfl⟩
            rw [← hσ5] at hB
            have hR := hB.1.2
            refine lv_aload_n hx hb dX6_see_108 rfl (lv_at hl 0 rfl) ?_
            refine lv_dup hx hb dX6_see_109 rfl ?_
            refine g_geti (k := 11) hx hb hts hown hK hB cf6 (by decide) rfl (by decide) kw_670 rfl dX6_see_110 ?_
            refine z_top (b := ((n : Nat) : Int)) (by rw [hσ5, up2_c _ _ (by decide), hσ4, up2_c _ _ (by decide), hσ3, up2_c _ _ (by decide), hσ2, up2_c _ _ (by decide), hσ1, up2_k _ _ (by decide)]; exact hn) ?_
            refine lv_iconst (v := iZ 1) hx hb dX6_see_113 rfl ?_
            refine z_iadd hx hb dX6_see_114 ?_
            refine g_putI (k := 11) hx hb hts hown hK hθ hB cf6 tyX6 tyX6_ok (by decide) rfl (by decide) kw_670 rfl rfl rfl ⟨by omega, by omega⟩ dX6_see_115 (fun H locs hB => ?_)
            obtain ⟨σ6, hσ6⟩ : ∃ x_ : gS, x_ = up2 σ5 111 11 (((n : Nat) : Int) + 1) := ⟨_, rfl⟩
            rw [← hσ6] at hB
            have hR := hB.1.2
            refine lv_aload_n hx hb dX6_see_118 rfl (lv_at hl 0 rfl) ?_
            refine g_geti (k := 11) hx hb hts hown hK hB cf6 (by decide) rfl (by decide) kw_670 rfl dX6_see_119 ?_
            refine z_top (b := ((n : Int) + 1)) (by rw [hσ6, up2_eq]) ?_
            exact g_iret hx hb hr hlk hB dX6_see_122 ⟨by omega, by omega⟩ (⟨Or.inr (Or.inr ⟨by omega, by omega, rfl, by rw [hσ6, up2_eq], by rw [hσ6, up2_row _ _ (by decide), hσ5, up2_row _ _ (by decide), hσ4, up2_row _ _ (by decide), hσ3, up2_row _ _ (by decide), hσ2, up2_row_eq, hσ1, up2_row _ _ (by decide)], by rw [hσ6, up2_row _ _ (by decide), hσ5, up2_row _ _ (by decide), hσ4, up2_row _ _ (by decide), hσ3, up2_row_eq, hσ2, up2_row _ _ (by decide), hσ1, up2_row _ _ (by decide)], by rw [hσ6, up2_row _ _ (by decide), hσ5, up2_row _ _ (by decide), hσ4, up2_row_eq, hσ3, up2_row _ _ (by decide), hσ2, up2_row _ _ (by decide), hσ1, up2_row _ _ (by decide)], by rw [hσ6, up2_row _ _ (by decide), hσ5, up2_row_eq, hσ4, up2_row _ _ (by decide), hσ3, up2_row _ _ (by decide), hσ2, up2_row _ _ (by decide), hσ1, up2_row _ _ (by decide)]⟩), by rw [hσ6, hσ5, hσ4, hσ3, hσ2]; exact (((((((by rw [hσ1]; exact fr.up rfl : fr wSc σ σ1)).mono sn_sc).tr (fr.up rfl)).tr (fr.up rfl)).tr (fr.up rfl)).tr (fr.up rfl)).tr (fr.up rfl), rfl⟩)
          · refine lv_bipush (v := iZ (-4)) hx hb dX6_see_64 (by decide) ?_
            exact g_iret hx hb hr hlk hB dX6_see_66 ⟨by decide, by decide⟩ (⟨Or.inr (Or.inl ⟨by omega, by omega, rfl, (by rw [hσ1]; exact fr.up rfl : fr wSc σ σ1)⟩), ((by rw [hσ1]; exact fr.up rfl : fr wSc σ σ1)).mono sn_sc, rfl⟩)
        · refine lv_bipush (v := iZ (-2)) hx hb dX6_see_52 (by decide) ?_
          exact g_iret hx hb hr hlk hB dX6_see_54 ⟨by decide, by decide⟩ (⟨Or.inl ⟨by omega, rfl, (by rw [hσ1]; exact fr.up rfl : fr wSc σ σ1)⟩, ((by rw [hσ1]; exact fr.up rfl : fr wSc σ σ1)).mono sn_sc, rfl⟩)
set_option maxHeartbeats 4000000 in
set_option maxRecDepth 100000 in
theorem mX6_unsee (l : Launch) (θ : gT) (hθ : gOK θ) (σ : gS) (z : gZ) (n : Nat) (hn : σ 111 11 = (n : Int)) (hse : seenOK σ n) : GI l θ yX6_unsee cX6_unsee 2 (some .int) 0 0 [.ref (tad θ 111)] σ z (fun q σ' z' => (q = (n : Int) ∧ σ' 111 11 = 0) ∧ fr wSn σ σ' ∧ z' = z) := by
  refine g_enter (ret := (some .int)) (by decide +kernel) (Nat.le_of_ble_eq_true rfl) ?_
  intro p e s m args below meth c ls F hB hl
  obtain ⟨hx, hb, hr, hml, hown, hts, hlk, hK, hst⟩ := F
  have hR := hB.1.2
  have hl : lv_has ls 2 [(0, .ref (tad θ 111))] := hl
  have hn6 := hse.1
  refine lv_aload_n hx hb dX6_unsee_0 rfl (lv_at hl 0 rfl) ?_
  refine lv_iconst (v := iZ 0) hx hb dX6_unsee_1 rfl ?_
  refine g_putI (k := 0) hx hb hts hown hK hθ hB cf6 tyX6 tyX6_ok (by decide) rfl (by decide) kw_659 rfl rfl rfl ⟨by decide, by decide⟩ dX6_unsee_2 (fun H locs hB => ?_)
  obtain ⟨σ1, hσ1⟩ : ∃ x_ : gS, x_ = up2 σ 111 0 0 := ⟨_, rfl⟩
  rw [← hσ1] at hB
  have hR := hB.1.2
  refine lv_aload_n hx hb dX6_unsee_5 rfl (lv_at hl 0 rfl) ?_
  refine g_geti (k := 11) hx hb hts hown hK hB cf6 (by decide) rfl (by decide) kw_670 rfl dX6_unsee_6 ?_
  refine z_top (b := ((n : Nat) : Int)) (by rw [hσ1, up2_k _ _ (by decide)]; exact hn) ?_
  refine lv_istore_n (lv' := [(1, .int (iZ ((n : Nat) : Int))), (0, .ref (tad θ 111))]) hx hb dX6_unsee_9 rfl hl (by decide) rfl (fun ls hl => ?_)
  refine lv_aload_n hx hb dX6_unsee_10 rfl (lv_at hl 1 rfl) ?_
  refine lv_iconst (v := iZ 0) hx hb dX6_unsee_11 rfl ?_
  refine g_putI (k := 11) hx hb hts hown hK hθ hB cf6 tyX6 tyX6_ok (by decide) rfl (by decide) kw_670 rfl rfl rfl ⟨by decide, by decide⟩ dX6_unsee_12 (fun H locs hB => ?_)
  obtain ⟨σ2, hσ2⟩ : ∃ x_ : gS, x_ = up2 σ1 111 11 0 := ⟨_, rfl⟩
  rw [← hσ2] at hB
  have hR := hB.1.2
  refine lv_iload_n hx hb dX6_unsee_15 rfl (lv_at hl 0 rfl) ?_
  exact g_iret hx hb hr hlk hB dX6_unsee_16 ⟨by omega, by omega⟩ (⟨⟨rfl, by rw [hσ2, up2_eq]⟩, by rw [hσ2]; exact (((by rw [hσ1]; exact fr.up rfl : fr wSc σ σ1)).mono sn_sc).tr (fr.up rfl), rfl⟩)
