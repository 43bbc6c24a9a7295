section GR5
variable {p : Program} {l : Launch} {e : Env} {R : Room} {s : State} {m : MethodId} {args : Array Value} {below : List Frame} {meth : Method} {c : Code} {H : Heap} {locs : List Loc} {cells slots : Nat} {Q : State → Prop} {pc : Nat} {ls : Array Slot} {rest : List Value}
theorem z_top32 {a b : Int32} (h : a = b) (k : W p l e R s m args below meth c H locs cells slots Q (F0 m pc ls (.int b :: rest))) : W p l e R s m args below meth c H locs cells slots Q (F0 m pc ls (.int a :: rest)) := by rw [h]; exact k
end GR5
set_option maxHeartbeats 4000000 in
set_option maxRecDepth 100000 in
theorem mJ6_bitCount_0f7a4 (l : Launch) (θ : gT) (hθ : gOK θ) (σ : gS) (z : gZ) (d : Nat) (hd : d < 256) : GI l θ yJ6_bitCount_0f7a4 cJ6_bitCount_0f7a4 1 (some .int) 0 0 [.int (iZ ((d : Nat) : Int))] σ z (fun q σ' z' => (q = ((pcN d 8 : Nat) : Int)) ∧ σ' = σ ∧ z' = z) := by
  refine g_enter (ret := (some .int)) (by decide +kernel) (Nat.le_of_ble_eq_true rfl) ?_
  intro p e s m args below meth c ls F hB hl
  obtain ⟨hx, hb, hr, hml, hown, hts, hlk, hK, hst⟩ := F
  have hR := hB.1.2
  have hl : lv_has ls 1 [(0, .int (iZ ((d : Nat) : Int)))] := hl
  refine lv_iload_n hx hb dJ6_bitCount_0f7a4_0 rfl (lv_at hl 0 rfl) ?_
  refine lv_iload_n hx hb dJ6_bitCount_0f7a4_1 rfl (lv_at hl 0 rfl) ?_
  refine lv_iconst (v := iZ 1) hx hb dJ6_bitCount_0f7a4_2 rfl ?_
  refine lv_iushr (v := ush (iZ ((d : Nat) : Int)) (iZ 1)) hx hb dJ6_bitCount_0f7a4_3 rfl ?_
  refine lv_ldcw (v := 1431655765) hx hb hown (hts _ kw_527) dJ6_bitCount_0f7a4_4 ?_
  refine lv_iand hx hb dJ6_bitCount_0f7a4_7 ?_
  refine lv_isub hx hb dJ6_bitCount_0f7a4_8 ?_
  refine z_top32 (b := (bc1 (iZ ((d : Nat) : Int)))) rfl ?_
  refine lv_istore_n (lv' := [(0, .int ((bc1 (iZ ((d : Nat) : Int)))))]) hx hb dJ6_bitCount_0f7a4_9 rfl hl (by decide) rfl (fun ls hl => ?_)
  refine lv_iload_n hx hb dJ6_bitCount_0f7a4_10 rfl (lv_at hl 0 rfl) ?_
  refine lv_ldcw (v := 858993459) hx hb hown (hts _ kw_528) dJ6_bitCount_0f7a4_11 ?_
  refine lv_iand hx hb dJ6_bitCount_0f7a4_14 ?_
  refine lv_iload_n hx hb dJ6_bitCount_0f7a4_15 rfl (lv_at hl 0 rfl) ?_
  refine lv_iconst (v := iZ 2) hx hb dJ6_bitCount_0f7a4_16 rfl ?_
  refine lv_iushr (v := ush (((bc1 (iZ ((d : Nat) : Int))))) (iZ 2)) hx hb dJ6_bitCount_0f7a4_17 rfl ?_
  refine lv_ldcw (v := 858993459) hx hb hown (hts _ kw_528) dJ6_bitCount_0f7a4_18 ?_
  refine lv_iand hx hb dJ6_bitCount_0f7a4_21 ?_
  refine lv_iadd hx hb dJ6_bitCount_0f7a4_22 ?_
  refine z_top32 (b := (bc2 (bc1 (iZ ((d : Nat) : Int))))) rfl ?_
  refine lv_istore_n (lv' := [(0, .int ((bc2 (bc1 (iZ ((d : Nat) : Int))))))]) hx hb dJ6_bitCount_0f7a4_23 rfl hl (by decide) rfl (fun ls hl => ?_)
  refine lv_iload_n hx hb dJ6_bitCount_0f7a4_24 rfl (lv_at hl 0 rfl) ?_
  refine lv_iload_n hx hb dJ6_bitCount_0f7a4_25 rfl (lv_at hl 0 rfl) ?_
  refine lv_iconst (v := iZ 4) hx hb dJ6_bitCount_0f7a4_26 rfl ?_
  refine lv_iushr (v := ush (((bc2 (bc1 (iZ ((d : Nat) : Int)))))) (iZ 4)) hx hb dJ6_bitCount_0f7a4_27 rfl ?_
  refine lv_iadd hx hb dJ6_bitCount_0f7a4_28 ?_
  refine lv_ldcw (v := 252645135) hx hb hown (hts _ kw_529) dJ6_bitCount_0f7a4_29 ?_
  refine lv_iand hx hb dJ6_bitCount_0f7a4_32 ?_
  refine z_top32 (b := (bc3 (bc2 (bc1 (iZ ((d : Nat) : Int)))))) rfl ?_
  refine lv_istore_n (lv' := [(0, .int ((bc3 (bc2 (bc1 (iZ ((d : Nat) : Int)))))))]) hx hb dJ6_bitCount_0f7a4_33 rfl hl (by decide) rfl (fun ls hl => ?_)
  refine lv_iload_n hx hb dJ6_bitCount_0f7a4_34 rfl (lv_at hl 0 rfl) ?_
  refine lv_iload_n hx hb dJ6_bitCount_0f7a4_35 rfl (lv_at hl 0 rfl) ?_
  refine lv_bipush (v := iZ 8) hx hb dJ6_bitCount_0f7a4_36 (by decide) ?_
  refine lv_iushr (v := ush (((bc3 (bc2 (bc1 (iZ ((d : Nat) : Int))))))) (iZ 8)) hx hb dJ6_bitCount_0f7a4_38 rfl ?_
  refine lv_iadd hx hb dJ6_bitCount_0f7a4_39 ?_
  refine z_top32 (b := (bc4 (bc3 (bc2 (bc1 (iZ ((d : Nat) : Int))))))) rfl ?_
  refine lv_istore_n (lv' := [(0, .int ((bc4 (bc3 (bc2 (bc1 (iZ ((d : Nat) : Int))))))))]) hx hb dJ6_bitCount_0f7a4_40 rfl hl (by decide) rfl (fun ls hl => ?_)
  refine lv_iload_n hx hb dJ6_bitCount_0f7a4_41 rfl (lv_at hl 0 rfl) ?_
  refine lv_iload_n hx hb dJ6_bitCount_0f7a4_42 rfl (lv_at hl 0 rfl) ?_
  refine lv_bipush (v := iZ 16) hx hb dJ6_bitCount_0f7a4_43 (by decide) ?_
  refine lv_iushr (v := ush (((bc4 (bc3 (bc2 (bc1 (iZ ((d : Nat) : Int)))))))) (iZ 16)) hx hb dJ6_bitCount_0f7a4_45 rfl ?_
  refine lv_iadd hx hb dJ6_bitCount_0f7a4_46 ?_
  refine z_top32 (b := (bc5 (bc4 (bc3 (bc2 (bc1 (iZ ((d : Nat) : Int)))))))) rfl ?_
  refine lv_istore_n (lv' := [(0, .int ((bc5 (bc4 (bc3 (bc2 (bc1 (iZ ((d : Nat) : Int)))))))))]) hx hb dJ6_bitCount_0f7a4_47 rfl hl (by decide) rfl (fun ls hl => ?_)
  refine lv_iload_n hx hb dJ6_bitCount_0f7a4_48 rfl (lv_at hl 0 rfl) ?_
  refine lv_bipush (v := iZ 63) hx hb dJ6_bitCount_0f7a4_49 (by decide) ?_
  refine lv_iand hx hb dJ6_bitCount_0f7a4_51 ?_
  refine z_top32 (b := iZ ((pcN d 8 : Nat) : Int)) (bcI_pc hd) ?_
  have hpl := pcN_le d 8
  exact g_iret hx hb hr hlk hB dJ6_bitCount_0f7a4_52 ⟨by omega, by omega⟩ ⟨rfl, rfl, rfl⟩
set_option maxHeartbeats 4000000 in
set_option maxRecDepth 100000 in
theorem mX5_tick (l : Launch) (θ : gT) (hθ : gOK θ) (σ : gS) (z : gZ) (N : Nat) (T : Nat → Nat) (h00 : σ 3 0 = (N : Int)) (hN8 : N ≤ 8) (hb9 : bC (fp σ 3)) (hTT : (σ 13 0 = -9 ∧ σ 13 1 = 0 ∧ σ 13 2 = -9) → ∀ j, j < N → σ 19 j = ((T j : Nat) : Int) ∧ (T j < 8 ∧ T j < N)) (c0 o : Nat) (hc : σ 21 0 = (c0 : Int)) (ho9 : σ 21 1 = (o : Int)) (hc14 : c0 ≤ 14) (ho14 : o < 14) (a0 b0 : Int) (har : rg a0) (hbr : rg b0) : GI l θ yX5_tick cX5_tick 3 (some .int) 4 94 [.ref (tad θ 0), .int (iZ a0), .int (iZ b0)] σ z (fun q σ' z' => ((¬ ((0 ≤ a0 ∧ a0 ≤ 99) ∧ (0 ≤ b0 ∧ b0 ≤ 99)) ∧ q = -2 ∧ σ' = σ) ∨ (((0 ≤ a0 ∧ a0 ≤ 99) ∧ (0 ≤ b0 ∧ b0 ≤ 99)) ∧ ¬ (σ 13 0 = -9 ∧ σ 13 1 = 0 ∧ σ 13 2 = -9) ∧ q = -3 ∧ σ' = σ) ∨ (((0 ≤ a0 ∧ a0 ≤ 99) ∧ (0 ≤ b0 ∧ b0 ≤ 99)) ∧ (σ 13 0 = -9 ∧ σ 13 1 = 0 ∧ σ 13 2 = -9) ∧ fp σ' 3 = (wkC (fp σ 3) T (σ 16) N a0 b0) ∧ rmC (fp σ 3) c0 o σ σ' ∧ q = ((pcN (tbC (wkC (fp σ 3) T (σ 16) N a0 b0) 8) 8 : Nat) : Int))) ∧ fr wNd σ σ' ∧ z' = z) := by
  refine g_enter (ret := (some .int)) (by decide +kernel) (Nat.le_of_ble_eq_true rfl) ?_
  intro p e s m args below meth c ls F hB hl
  obtain ⟨hx, hb, hr, hml, hown, hts, hlk, hK, hst⟩ := F
  have hR := hB.1.2
  have hl : lv_has ls 3 [(0, .ref (tad θ 0)), (1, .int (iZ a0)), (2, .int (iZ b0))] := hl
  refine lv_iload_n hx hb dX5_tick_0 rfl (lv_at hl 1 rfl) ?_
  refine g_calli (g_runS (As := [.int (iZ a0)]) (rest := []) hx hb hml hown hts hK hst hB (mX5_isValue l θ hθ σ z a0 ⟨by omega, by omega⟩) ms_X5_isValue kw_488 rfl hl.1 rfl (Nat.le_of_ble_eq_true rfl) ⟨by decide, by decide⟩ ⟨Nat.le_refl _, Nat.le_refl _⟩ dX5_tick_1) hB (fun q_3 σ_1 z_2 H locs hq_3 pq_3 hB => ?_)
  obtain ⟨pq_3, e1_, e2_⟩ := pq_3
  rw [e1_, e2_] at hB
  clear e1_ e2_
  refine z_if_eq (tgt := 14) hx hb dX5_tick_4 (by decide) ⟨by omega, by omega⟩ (fun c_4 => ?_) (fun c_4 => ?_)
  · refine lv_bipush (v := iZ (-2)) hx hb dX5_tick_14 (by decide) ?_
    exact g_iret hx hb hr hlk hB dX5_tick_16 ⟨by decide, by decide⟩ (⟨Or.inl ⟨by omega, rfl, rfl⟩, fr.rf, rfl⟩)
  · refine lv_iload_n hx hb dX5_tick_7 rfl (lv_at hl 2 rfl) ?_
    refine g_calli (g_runS (As := [.int (iZ b0)]) (rest := []) hx hb hml hown hts hK hst hB (mX5_isValue l θ hθ σ z b0 ⟨by omega, by omega⟩) ms_X5_isValue kw_488 rfl hl.1 rfl (Nat.le_of_ble_eq_true rfl) ⟨by decide, by decide⟩ ⟨Nat.le_refl _, Nat.le_refl _⟩ dX5_tick_8) hB (fun q_7 σ_5 z_6 H locs hq_7 pq_7 hB => ?_)
    obtain ⟨pq_7, e1_, e2_⟩ := pq_7
    rw [e1_, e2_] at hB
    clear e1_ e2_
    refine z_if_ne (tgt := 17) hx hb dX5_tick_11 (by decide) ⟨by omega, by omega⟩ (fun c_8 => ?_) (fun c_8 => ?_)
    · refine lv_aload_n hx hb dX5_tick_17 rfl (lv_at hl 0 rfl) ?_
      refine g_getr (k := 3) (j := 13) hx hb hts hown hK hθ hB cf5 (by decide) rfl (by decide) kw_169 rfl rfl dX5_tick_18 ?_
      refine g_calli (g_runV (i := 13) (As := []) (rest := []) hx hb hml hown hts hK hst hB (mX2_isSound l θ hθ σ z ) mv_X2_isSound kw_446 cf2 (by decide) rfl rfl hl.1 rfl (Nat.le_of_ble_eq_true rfl) ⟨by decide, by decide⟩ ⟨Nat.le_refl _, Nat.le_refl _⟩ dX5_tick_21) hB (fun qs σ_9 z_10 H locs hqs hps hB => ?_)
      obtain ⟨hps, e1_, e2_⟩ := hps
      rw [e1_, e2_] at hB
      clear e1_ e2_
      rcases hps with ⟨hqs, hsn⟩ | ⟨hqs, hsn⟩
      · subst hqs
        have hT := hTT hsn
        have hT8 : ∀ i, i < N → T i < 8 ∧ T i < N := fun i hi => (hT i hi).2
        refine z_if_ne (tgt := 30) hx hb dX5_tick_24 (by decide) ⟨by decide, by decide⟩ (fun c_11 => ?_) (fun c_11 => ?_)
        · refine lv_aload_n hx hb dX5_tick_30 rfl (lv_at hl 0 rfl) ?_
          refine g_getr (k := 4) (j := 21) hx hb hts hown hK hθ hB cf5 (by decide) rfl (by decide) kw_170 rfl rfl dX5_tick_31 ?_
          refine lv_aload_n hx hb dX5_tick_34 rfl (lv_at hl 0 rfl) ?_
          refine g_getr (k := 1) (j := 3) hx hb hts hown hK hθ hB cf5 (by decide) rfl (by decide) kw_167 rfl rfl dX5_tick_35 ?_
          refine g_callv (g_runV (i := 21) (As := [.ref (tad θ 3)]) (rest := []) hx hb hml hown hts hK hst hB (mX0_remember l θ hθ σ z c0 o hc ho9 hc14 ho14) mv_X0_remember kw_491 cf0 (by decide) rfl rfl hl.1 rfl (Nat.le_of_ble_eq_true rfl) ⟨by decide, by decide⟩ ⟨Nat.le_refl _, Nat.le_refl _⟩ dX5_tick_38) hB (fun σ1 z_12 H locs hp1 hB => ?_)
          obtain ⟨hp1, hf1, e2_⟩ := hp1
          rw [e2_] at hB
          clear e2_
          have hR := hB.1.2
          have hrm1 := rmC.of hp1 hf1
          have hnw1 := hf1.mono (nw_do (show (o + c0) % 14 < 14 by omega))
          have hnd1 := hf1.mono (nd_do (show (o + c0) % 14 < 14 by omega))
          have hg1 : fp σ1 3 = fp σ 3 := fp_fr hf1 ⟨by simp [wDo, wF]; omega, by simp [wDo, wF]; omega, fun j k h1 h2 => by simp [wDo, wF]; omega⟩
          refine lv_aload_n hx hb dX5_tick_41 rfl (lv_at hl 0 rfl) ?_
          refine g_getr (k := 1) (j := 3) hx hb hts hown hK hθ hB cf5 (by decide) rfl (by decide) kw_167 rfl rfl dX5_tick_42 ?_
          refine lv_aload_n hx hb dX5_tick_45 rfl (lv_at hl 0 rfl) ?_
          refine g_getr (k := 3) (j := 13) hx hb hts hown hK hθ hB cf5 (by decide) rfl (by decide) kw_169 rfl rfl dX5_tick_46 ?_
          refine lv_iload_n hx hb dX5_tick_49 rfl (lv_at hl 1 rfl) ?_
          refine lv_iload_n hx hb dX5_tick_50 rfl (lv_at hl 2 rfl) ?_
          refine g_callv (g_runV (i := 3) (As := [.ref (tad θ 13), .int (iZ a0), .int (iZ b0)]) (rest := []) hx hb hml hown hts hK hst hB (mX1_work l θ hθ σ1 z 3 isF_3 N T (by rw [hg1]; exact h00) hN8 (fun j hj => by rw [hf1 19 j (by simp [wDo, wF]; omega)]; exact hT j hj) (by rw [hg1]; exact hb9) a0 b0 (by omega) (by omega)) mv_X1_work kw_498 cf1 (by decide) rfl rfl hl.1 rfl (Nat.le_of_ble_eq_true rfl) ⟨by decide, by decide⟩ ⟨Nat.le_refl _, Nat.le_refl _⟩ dX5_tick_51) hB (fun σ2 z_14 H locs hp2 hB => ?_)
          obtain ⟨hp2, hf2, e2_⟩ := hp2
          rw [e2_] at hB
          clear e2_
          have hR := hB.1.2
          rw [hg1, hf1.row (fun k => by simp [wDo, wF]; omega)] at hp2
          refine lv_aload_n hx hb dX5_tick_54 rfl (lv_at hl 0 rfl) ?_
          refine g_getr (k := 1) (j := 3) hx hb hts hown hK hθ hB cf5 (by decide) rfl (by decide) kw_167 rfl rfl dX5_tick_55 ?_
          refine g_calli (g_runV (i := 3) (As := []) (rest := []) hx hb hml hown hts hK hst hB (mX1_thereBits l θ hθ σ2 z 3 isF_3) mv_X1_thereBits kw_454 cf1 (by decide) rfl rfl hl.1 rfl (Nat.le_of_ble_eq_true rfl) ⟨by decide, by decide⟩ ⟨Nat.le_refl _, Nat.le_refl _⟩ dX5_tick_58) hB (fun q_18 σ_16 z_17 H locs hq_18 pq_18 hB => ?_)
          obtain ⟨pq_18, e1_, e2_⟩ := pq_18
          rw [e1_, e2_] at hB
          clear e1_ e2_
          subst pq_18
          refine z_top (b := (((tbC (wkC (fp σ 3) T (σ 16) N a0 b0) 8) : Nat) : Int)) (by rw [hp2]) ?_
          have htb := tbC_256 (wkC (fp σ 3) T (σ 16) N a0 b0) (Nat.le_refl 8)
          refine g_calli (g_runS (As := [.int (iZ (((tbC (wkC (fp σ 3) T (σ 16) N a0 b0) 8) : Nat) : Int))]) (rest := []) hx hb hml hown hts hK hst hB (mJ6_bitCount_0f7a4 l θ hθ σ2 z (tbC (wkC (fp σ 3) T (σ 16) N a0 b0) 8) (by omega)) ms_J6_bitCount_0f7a4 kw_524 rfl hl.1 rfl (Nat.le_of_ble_eq_true rfl) ⟨by decide, by decide⟩ ⟨Nat.le_refl _, Nat.le_refl _⟩ dX5_tick_61) hB (fun q_21 σ_19 z_20 H locs hq_21 pq_21 hB => ?_)
          obtain ⟨pq_21, e1_, e2_⟩ := pq_21
          rw [e1_, e2_] at hB
          clear e1_ e2_
          subst pq_21
          have hpl := pcN_le (tbC (wkC (fp σ 3) T (σ 16) N a0 b0) 8) 8
          exact g_iret hx hb hr hlk hB dX5_tick_64 ⟨by omega, by omega⟩ (⟨Or.inr (Or.inr ⟨by omega, hsn, hp2, hrm1.keep hf2 wF3_row, rfl⟩), hnd1.tr (hf2.mono nd_3), rfl⟩)
        · exact absurd c_11 (by decide)
      · subst hqs
        refine z_if_ne (tgt := 30) hx hb dX5_tick_24 (by decide) ⟨by decide, by decide⟩ (fun c_22 => ?_) (fun c_22 => ?_)
        · exact absurd (by decide) c_22
        · refine lv_bipush (v := iZ (-3)) hx hb dX5_tick_27 (by decide) ?_
          exact g_iret hx hb hr hlk hB dX5_tick_29 ⟨by decide, by decide⟩ (⟨Or.inr (Or.inl ⟨by omega, hsn, rfl, rfl⟩), fr.rf, rfl⟩)
    · refine lv_bipush (v := iZ (-2)) hx hb dX5_tick_14 (by decide) ?_
      exact g_iret hx hb hr hlk hB dX5_tick_16 ⟨by decide, by decide⟩ (⟨Or.inl ⟨by omega, rfl, rfl⟩, fr.rf, rfl⟩)
