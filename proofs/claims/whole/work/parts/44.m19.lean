set_option maxHeartbeats 4000000 in
set_option maxRecDepth 100000 in
theorem mX6_longPower (l : Launch) (θ : gT) (hθ : gOK θ) (σ : gS) (z : gZ) (n : Nat) (hn : n ≤ 3) : GL l θ yX6_longPower cX6_longPower 6 0 0 [.long (lZ 100000), .int (iZ ((n : Nat) : Int))] σ z (fun q σ' z' => (q = lZ ((100000 ^ n : Nat) : Int)) ∧ σ' = σ ∧ z' = z) := by
  refine g_enter (ret := (some .long)) (by decide +kernel) (Nat.le_of_ble_eq_true rfl) ?_
  intro p e s m args below meth c ls F hB hl
  obtain ⟨hx, hb, hr, hml, hown, hts, hlk, hK, hst⟩ := F
  have hR := hB.1.2
  have hl : lv_has ls 6 [(0, .long (lZ 100000)), (2, .int (iZ ((n : Nat) : Int)))] := hl
  refine lv_lconst (v := lZ 1) hx hb dX6_longPower_0 (by decide) ?_
  refine z_topl (b := ((100000 ^ 0 : Nat) : Int)) (rfl) ?_
  refine lv_lstore_n (lv' := [(3, .long (lZ ((100000 ^ 0 : Nat) : Int))), (0, .long (lZ 100000)), (2, .int (iZ ((n : Nat) : Int)))]) hx hb dX6_longPower_1 rfl hl (by decide) rfl (fun ls hl => ?_)
  refine lv_iconst (v := iZ 0) hx hb dX6_longPower_2 rfl ?_
  refine lv_istore (lv' := [(5, .int (iZ 0)), (3, .long (lZ ((100000 ^ 0 : Nat) : Int))), (0, .long (lZ 100000)), (2, .int (iZ ((n : Nat) : Int)))]) hx hb dX6_longPower_3 hl (by decide) rfl (fun ls hl => ?_)
  have loop5 : ∀ (n5 : Nat) (k : Nat) (H : Heap) (locs : List Loc) (ls : Array Slot), n - k < n5 → (k ≤ n) →  gB θ σ z s.heap H locs → lv_has ls 6 [(5, .int (iZ ((k : Nat) : Int))), (3, .long (lZ ((100000 ^ k : Nat) : Int))), (0, .long (lZ 100000)), (2, .int (iZ ((n : Nat) : Int)))] → W p l e (gRm 0 0) s m args below meth c H locs 0 0 (MQ below (gQl θ (fun q σ' z' => (q = lZ ((100000 ^ n : Nat) : Int)) ∧ σ' = σ ∧ z' = z)) args s 0 0 (tA θ)) (F0 m 5 ls []) := by
    intro n5
    induction n5 with
    | zero => intro k H locs ls hmu; exact absurd hmu (Nat.not_lt_zero _)
    | succ n5 ih5 =>
      intro k H locs ls hmu hk hB hl
      have hR := hB.1.2
      refine lv_iload hx hb dX6_longPower_5 (lv_at hl 0 rfl) ?_
      refine lv_iload_n hx hb dX6_longPower_7 rfl (lv_at hl 3 rfl) ?_
      refine z_icmp_ge (tgt := 21) hx hb dX6_longPower_8 (by decide) ⟨by omega, by omega⟩ ⟨by omega, by omega⟩ (fun c_1 => ?_) (fun c_1 => ?_)
      · refine lv_lload_n hx hb dX6_longPower_21 rfl (lv_at hl 1 rfl) ?_
        exact g_lret hx hb hr hlk hB dX6_longPower_22 (⟨by rw [show k = n by omega], rfl, rfl⟩)
      · refine lv_lload_n hx hb dX6_longPower_11 rfl (lv_at hl 1 rfl) ?_
        refine lv_lload_n hx hb dX6_longPower_12 rfl (lv_at hl 2 rfl) ?_
        refine z_lmul hx hb dX6_longPower_13 ?_
        refine z_topl (b := ((100000 ^ (k + 1) : Nat) : Int)) (by rw [Nat.pow_succ, Int.natCast_mul]; rfl) ?_
        refine lv_lstore_n (lv' := [(3, .long (lZ ((100000 ^ (k + 1) : Nat) : Int))), (5, .int (iZ ((k : Nat) : Int))), (0, .long (lZ 100000)), (2, .int (iZ ((n : Nat) : Int)))]) hx hb dX6_longPower_14 rfl hl (by decide) rfl (fun ls hl => ?_)
        refine z_iinc (k := 1) (lv' := [(5, .int (iZ (((k : Nat) : Int) + 1))), (3, .long (lZ ((100000 ^ (k + 1) : Nat) : Int))), (0, .long (lZ 100000)), (2, .int (iZ ((n : Nat) : Int)))]) hx hb dX6_longPower_15 hl rfl (by decide) rfl (fun ls hl => ?_)
        have hl : lv_has ls 6 [(5, .int (iZ (((k + 1) : Nat) : Int))), (3, .long (lZ ((100000 ^ (k + 1) : Nat) : Int))), (0, .long (lZ 100000)), (2, .int (iZ ((n : Nat) : Int)))] := by have e9 : (((k : Nat) : Int) + 1) = (((k + 1) : Nat) : Int) := (by omega); rw [e9] at hl; exact hl
        refine lv_goto (tgt := 5) hx hb dX6_longPower_18 (by decide) ?_
        exact ih5 (k + 1) _ _ _ (by omega) (by omega) hB (lv_sub hl [0, 1, 2, 3] rfl)
  exact loop5 _ 0 _ _ _ (Nat.lt_succ_self _) (by omega) hB (lv_sub hl [0, 1, 2, 3] rfl)
set_option maxHeartbeats 4000000 in
set_option maxRecDepth 100000 in
theorem mX6_areLike (l : Launch) (θ : gT) (hθ : gOK θ) (σ : gS) (z : gZ) (w : mC) (hA : mA σ w) (ho : mOK w) (a : Nat) (ha : a < 8) (b : Nat) (hb8 : b < 8) : GI l θ yX6_areLike cX6_areLike 6 (some .boolean) 2 45 [.ref (tad θ 111), .int (iZ ((a : Nat) : Int)), .int (iZ ((b : Nat) : Int))] σ z (fun q σ' z' => ((q = 1 ∧ lkP w a b) ∨ (q = 0 ∧ ¬ lkP w a b)) ∧ fr w127 σ σ' ∧ z' = z) := by
  refine g_enter (ret := (some .boolean)) (by decide +kernel) (Nat.le_of_ble_eq_true rfl) ?_
  intro p e s m args below meth c ls F hB hl
  obtain ⟨hx, hb, hr, hml, hown, hts, hlk, hK, hst⟩ := F
  have hR := hB.1.2
  have hl : lv_has ls 6 [(0, .ref (tad θ 111)), (1, .int (iZ ((a : Nat) : Int))), (2, .int (iZ ((b : Nat) : Int)))] := hl
  refine lv_aload_n hx hb dX6_areLike_0 rfl (lv_at hl 0 rfl) ?_
  refine lv_iload_n hx hb dX6_areLike_1 rfl (lv_at hl 1 rfl) ?_
  refine g_calli (g_runV (i := 111) (As := [.int (iZ ((a : Nat) : Int))]) (rest := []) hx hb hml hown hts hK hst hB (mX6_clocks l θ hθ σ z w (hA) ho a ha) mv_X6_clocks kw_835 cf6 (by decide) rfl rfl hl.1 rfl (Nat.le_of_ble_eq_true rfl) ⟨by decide, by decide⟩ ⟨Nat.le_refl _, Nat.le_refl _⟩ dX6_areLike_2) hB (fun qc1 σ1 z_1 H locs hqc1 hpc1 hB => ?_)
  obtain ⟨hpc1, hf1, e2_⟩ := hpc1
  rw [e2_] at hB
  clear e2_
  have hR := hB.1.2
  obtain ⟨hqc1, hch1⟩ := hpc1
  have hdn1 := dN_le w a
  rw [hqc1]
  refine lv_istore_n (lv' := [(3, .int (iZ (((dN w a) : Nat) : Int))), (0, .ref (tad θ 111)), (1, .int (iZ ((a : Nat) : Int))), (2, .int (iZ ((b : Nat) : Int)))]) hx hb dX6_areLike_5 rfl hl (by decide) rfl (fun ls hl => ?_)
  refine lv_iload_n hx hb dX6_areLike_6 rfl (lv_at hl 0 rfl) ?_
  refine z_if_ne (tgt := 15) hx hb dX6_areLike_7 (by decide) ⟨by omega, by omega⟩ (fun c_2 => ?_) (fun c_2 => ?_)
  · refine lv_aload_n hx hb dX6_areLike_15 rfl (lv_at hl 1 rfl) ?_
    refine g_getr (k := 24) (j := 127) hx hb hts hown hK hθ hB cf6 (by decide) rfl (by decide) kw_683 rfl rfl dX6_areLike_16 ?_
    refine lv_iconst (v := iZ 0) hx hb dX6_areLike_19 rfl ?_
    refine g_iald (k := 0) hx hb hK hB (by decide) rfl (by omega) (Nat.lt_of_lt_of_eq (by omega : 0 < 8) (Eq.symm rfl)) (by decide) dX6_areLike_20 ?_
    refine z_top (b := (w.2 (xs w a 0))) (hch1 0 (by omega)) ?_
    have hra := hR 127 0
    rw [hch1 0 (by omega)] at hra
    refine lv_istore (lv' := [(4, .int (iZ (w.2 (xs w a 0)))), (3, .int (iZ (((dN w a) : Nat) : Int))), (0, .ref (tad θ 111)), (1, .int (iZ ((a : Nat) : Int))), (2, .int (iZ ((b : Nat) : Int)))]) hx hb dX6_areLike_21 hl (by decide) rfl (fun ls hl => ?_)
    refine lv_aload_n hx hb dX6_areLike_23 rfl (lv_at hl 2 rfl) ?_
    refine lv_iload_n hx hb dX6_areLike_24 rfl (lv_at hl 4 rfl) ?_
    refine g_calli (g_runV (i := 111) (As := [.int (iZ ((b : Nat) : Int))]) (rest := []) hx hb hml hown hts hK hst hB (mX6_clocks l θ hθ σ1 z w ((hA.keep (hf1.row (fun k => rfl)) (hf1.row (fun k => rfl)))) ho b hb8) mv_X6_clocks kw_835 cf6 (by decide) rfl rfl hl.1 rfl (Nat.le_of_ble_eq_true rfl) ⟨by decide, by decide⟩ ⟨Nat.le_refl _, Nat.le_refl _⟩ dX6_areLike_25) hB (fun qc2 σ2 z_3 H locs hqc2 hpc2 hB => ?_)
    obtain ⟨hpc2, hf2, e2_⟩ := hpc2
    rw [e2_] at hB
    clear e2_
    have hR := hB.1.2
    obtain ⟨hqc2, hch2⟩ := hpc2
    have hdn2 := dN_le w b
    rw [hqc2]
    refine lv_istore (lv' := [(5, .int (iZ (((dN w b) : Nat) : Int))), (4, .int (iZ (w.2 (xs w a 0)))), (3, .int (iZ (((dN w a) : Nat) : Int))), (0, .ref (tad θ 111)), (1, .int (iZ ((a : Nat) : Int))), (2, .int (iZ ((b : Nat) : Int)))]) hx hb dX6_areLike_28 hl (by decide) rfl (fun ls hl => ?_)
    refine lv_iload_n hx hb dX6_areLike_30 rfl (lv_at hl 2 rfl) ?_
    refine lv_iload hx hb dX6_areLike_31 (lv_at hl 0 rfl) ?_
    refine z_icmp_ne (tgt := 55) hx hb dX6_areLike_33 (by decide) ⟨by omega, by omega⟩ ⟨by omega, by omega⟩ (fun c_4 => ?_) (fun c_4 => ?_)
    · refine lv_iconst (v := iZ 0) hx hb dX6_areLike_55 rfl ?_
      exact g_zret hx hb hr hlk hB dX6_areLike_56 (by decide) (⟨Or.inr ⟨rfl, fun q => by have q1 := q.1; have q2 := q.2; omega⟩, hf1.tr hf2, rfl⟩)
    · refine lv_iload_n hx hb dX6_areLike_36 rfl (lv_at hl 2 rfl) ?_
      refine z_if_eq (tgt := 51) hx hb dX6_areLike_37 (by decide) ⟨by omega, by omega⟩ (fun c_5 => ?_) (fun c_5 => ?_)
      · refine lv_iconst (v := iZ 1) hx hb dX6_areLike_51 rfl ?_
        refine lv_goto (tgt := 56) hx hb dX6_areLike_52 (by decide) ?_
        exact g_zret hx hb hr hlk hB dX6_areLike_56 (by decide) (⟨Or.inl ⟨rfl, by omega, Or.inl (by omega)⟩, hf1.tr hf2, rfl⟩)
      · refine lv_aload_n hx hb dX6_areLike_40 rfl (lv_at hl 3 rfl) ?_
        refine g_getr (k := 24) (j := 127) hx hb hts hown hK hθ hB cf6 (by decide) rfl (by decide) kw_683 rfl rfl dX6_areLike_41 ?_
        refine lv_iconst (v := iZ 0) hx hb dX6_areLike_44 rfl ?_
        refine g_iald (k := 0) hx hb hK hB (by decide) rfl (by omega) (Nat.lt_of_lt_of_eq (by omega : 0 < 8) (Eq.symm rfl)) (by decide) dX6_areLike_45 ?_
        refine z_top (b := (w.2 (xs w b 0))) (hch2 0 (by omega)) ?_
        have hrb := hR 127 0
        rw [hch2 0 (by omega)] at hrb
        refine lv_iload hx hb dX6_areLike_46 (lv_at hl 1 rfl) ?_
        refine z_icmp_ne (tgt := 55) hx hb dX6_areLike_48 (by decide) ⟨by omega, by omega⟩ ⟨by omega, by omega⟩ (fun c_6 => ?_) (fun c_6 => ?_)
        · refine lv_iconst (v := iZ 0) hx hb dX6_areLike_55 rfl ?_
          exact g_zret hx hb hr hlk hB dX6_areLike_56 (by decide) (⟨Or.inr ⟨rfl, fun q => by have q1 := q.1; have q2 := q.2; omega⟩, hf1.tr hf2, rfl⟩)
        · refine lv_iconst (v := iZ 1) hx hb dX6_areLike_51 rfl ?_
          refine lv_goto (tgt := 56) hx hb dX6_areLike_52 (by decide) ?_
          exact g_zret hx hb hr hlk hB dX6_areLike_56 (by decide) (⟨Or.inl ⟨rfl, by omega, Or.inr (by omega)⟩, hf1.tr hf2, rfl⟩)
  · refine lv_bipush (v := iZ (-9)) hx hb dX6_areLike_10 (by decide) ?_
    refine lv_goto (tgt := 21) hx hb dX6_areLike_12 (by decide) ?_
    refine lv_istore (lv' := [(4, .int (iZ (-9))), (3, .int (iZ (((dN w a) : Nat) : Int))), (0, .ref (tad θ 111)), (1, .int (iZ ((a : Nat) : Int))), (2, .int (iZ ((b : Nat) : Int)))]) hx hb dX6_areLike_21 hl (by decide) rfl (fun ls hl => ?_)
    refine lv_aload_n hx hb dX6_areLike_23 rfl (lv_at hl 2 rfl) ?_
    refine lv_iload_n hx hb dX6_areLike_24 rfl (lv_at hl 4 rfl) ?_
    refine g_calli (g_runV (i := 111) (As := [.int (iZ ((b : Nat) : Int))]) (rest := []) hx hb hml hown hts hK hst hB (mX6_clocks l θ hθ σ1 z w ((hA.keep (hf1.row (fun k => rfl)) (hf1.row (fun k => rfl)))) ho b hb8) mv_X6_clocks kw_835 cf6 (by decide) rfl rfl hl.1 rfl (Nat.le_of_ble_eq_true rfl) ⟨by decide, by decide⟩ ⟨Nat.le_refl _, Nat.le_refl _⟩ dX6_areLike_25) hB (fun qc2 σ2 z_7 H locs hqc2 hpc2 hB => ?_)
    obtain ⟨hpc2, hf2, e2_⟩ := hpc2
    rw [e2_] at hB
    clear e2_
    have hR := hB.1.2
    obtain ⟨hqc2, hch2⟩ := hpc2
    have hdn2 := dN_le w b
    rw [hqc2]
    refine lv_istore (lv' := [(5, .int (iZ (((dN w b) : Nat) : Int))), (4, .int (iZ (-9))), (3, .int (iZ (((dN w a) : Nat) : Int))), (0, .ref (tad θ 111)), (1, .int (iZ ((a : Nat) : Int))), (2, .int (iZ ((b : Nat) : Int)))]) hx hb dX6_areLike_28 hl (by decide) rfl (fun ls hl => ?_)
    refine lv_iload_n hx hb dX6_areLike_30 rfl (lv_at hl 2 rfl) ?_
    refine lv_iload hx hb dX6_areLike_31 (lv_at hl 0 rfl) ?_
    refine z_icmp_ne (tgt := 55) hx hb dX6_areLike_33 (by decide) ⟨by omega, by omega⟩ ⟨by omega, by omega⟩ (fun c_8 => ?_) (fun c_8 => ?_)
    · refine lv_iconst (v := iZ 0) hx hb dX6_areLike_55 rfl ?_
      exact g_zret hx hb hr hlk hB dX6_areLike_56 (by decide) (⟨Or.inr ⟨rfl, fun q => by have q1 := q.1; have q2 := q.2; omega⟩, hf1.tr hf2, rfl⟩)
    · refine lv_iload_n hx hb dX6_areLike_36 rfl (lv_at hl 2 rfl) ?_
      refine z_if_eq (tgt := 51) hx hb dX6_areLike_37 (by decide) ⟨by omega, by omega⟩ (fun c_9 => ?_) (fun c_9 => ?_)
      · refine lv_iconst (v := iZ 1) hx hb dX6_areLike_51 rfl ?_
        refine lv_goto (tgt := 56) hx hb dX6_areLike_52 (by decide) ?_
        exact g_zret hx hb hr hlk hB dX6_areLike_56 (by decide) (⟨Or.inl ⟨rfl, by omega, Or.inl (by omega)⟩, hf1.tr hf2, rfl⟩)
      · refine lv_aload_n hx hb dX6_areLike_40 rfl (lv_at hl 3 rfl) ?_
        refine g_getr (k := 24) (j := 127) hx hb hts hown hK hθ hB cf6 (by decide) rfl (by decide) kw_683 rfl rfl dX6_areLike_41 ?_
        refine lv_iconst (v := iZ 0) hx hb dX6_areLike_44 rfl ?_
        refine g_iald (k := 0) hx hb hK hB (by decide) rfl (by omega) (Nat.lt_of_lt_of_eq (by omega : 0 < 8) (Eq.symm rfl)) (by decide) dX6_areLike_45 ?_
        refine z_top (b := (w.2 (xs w b 0))) (hch2 0 (by omega)) ?_
        have hrb := hR 127 0
        rw [hch2 0 (by omega)] at hrb
        refine lv_iload hx hb dX6_areLike_46 (lv_at hl 1 rfl) ?_
        refine z_icmp_ne (tgt := 55) hx hb dX6_areLike_48 (by decide) ⟨by omega, by omega⟩ ⟨by decide, by decide⟩ (fun c_10 => ?_) (fun c_10 => ?_)
        · refine lv_iconst (v := iZ 0) hx hb dX6_areLike_55 rfl ?_
          exact g_zret hx hb hr hlk hB dX6_areLike_56 (by decide) (⟨Or.inr ⟨rfl, fun q => by have q1 := q.1; have q2 := q.2; omega⟩, hf1.tr hf2, rfl⟩)
        · refine lv_iconst (v := iZ 1) hx hb dX6_areLike_51 rfl ?_
          refine lv_goto (tgt := 56) hx hb dX6_areLike_52 (by decide) ?_
          exact g_zret hx hb hr hlk hB dX6_areLike_56 (by decide) (⟨Or.inl ⟨rfl, by omega, Or.inr (by omega)⟩, hf1.tr hf2, rfl⟩)
set_option maxHeartbeats 4000000 in
set_option maxRecDepth 100000 in
theorem mX6_isSo (l : Launch) (θ : gT) (hθ : gOK θ) (σ : gS) (z : gZ) (w : mC) (hA : mA σ w) (ho : mOK w) (N : Nat) (hN : σ 114 0 = (N : Int)) (hN8 : N ≤ 8) (hV : Vb (σ 115)) (k a b t : Nat) (hk : k < 10) (ha : a < 10) (hb9 : b < 10) (ht : t < 100) : GI l θ yX6_isSo cX6_isSo 5 (some .boolean) 3 70 [.ref (tad θ 111), .int (iZ ((k : Nat) : Int)), .int (iZ ((a : Nat) : Int)), .int (iZ ((b : Nat) : Int)), .int (iZ ((t : Nat) : Int))] σ z (fun q σ' z' => ((q = 1 ∧ soP N (σ 115) w k a b t) ∨ (q = 0 ∧ ¬ soP N (σ 115) w k a b t)) ∧ fr w127 σ σ' ∧ z' = z) := by
  refine g_enter (ret := (some .boolean)) (by decide +kernel) (Nat.le_of_ble_eq_true rfl) ?_
  intro p e s m args below meth c ls F hB hl
  obtain ⟨hx, hb, hr, hml, hown, hts, hlk, hK, hst⟩ := F
  have hR := hB.1.2
  have hl : lv_has ls 5 [(0, .ref (tad θ 111)), (1, .int (iZ ((k : Nat) : Int))), (2, .int (iZ ((a : Nat) : Int))), (3, .int (iZ ((b : Nat) : Int))), (4, .int (iZ ((t : Nat) : Int)))] := hl
  refine lv_aload_n hx hb dX6_isSo_0 rfl (lv_at hl 0 rfl) ?_
  refine lv_iload_n hx hb dX6_isSo_1 rfl (lv_at hl 2 rfl) ?_
  refine g_calli (g_runV (i := 111) (As := [.int (iZ ((a : Nat) : Int))]) (rest := []) hx hb hml hown hts hK hst hB (mX6_noStream l θ hθ σ z ((a : Nat) : Int) ⟨by omega, by omega⟩ (by omega)) mv_X6_noStream kw_869 cf6 (by decide) rfl rfl hl.1 rfl (Nat.le_of_ble_eq_true rfl) ⟨by decide, by decide⟩ ⟨Nat.le_refl _, Nat.le_refl _⟩ dX6_isSo_2) hB (fun qn σ_1 z_2 H locs hqn hpn hB => ?_)
  obtain ⟨hpn, e1_, e2_⟩ := hpn
  rw [e1_, e2_] at hB
  clear e1_ e2_
  refine z_if_eq (tgt := 10) hx hb dX6_isSo_5 (by decide) ⟨by omega, by omega⟩ (fun c_3 => ?_) (fun c_3 => ?_)
  · have haN : a < N := by omega
    have hva := (hV a (by omega)).2
    refine lv_iload_n hx hb dX6_isSo_10 rfl (lv_at hl 1 rfl) ?_
    rcases (show (((k : Nat) : Int) < 3 ∨ 5 < ((k : Nat) : Int)) ∨ ((k : Nat) : Int) = 3 ∨ ((k : Nat) : Int) = 4 ∨ ((k : Nat) : Int) = 5 by omega) with c_4 | c_4 | c_4 | c_4
    · refine z_tabOut (tgt := 109) hx hb dX6_isSo_11 ⟨by omega, by omega⟩ c_4 (by decide) ?_
      refine lv_iload_n hx hb dX6_isSo_109 rfl (lv_at hl 1 rfl) ?_
      refine lv_bipush (v := iZ 6) hx hb dX6_isSo_110 (by decide) ?_
      refine z_icmp_ne (tgt := 141) hx hb dX6_isSo_112 (by decide) ⟨by omega, by omega⟩ ⟨by decide, by decide⟩ (fun c_5 => ?_) (fun c_5 => ?_)
      · refine lv_iconst (v := iZ 0) hx hb dX6_isSo_141 rfl ?_
        exact g_zret hx hb hr hlk hB dX6_isSo_142 (by decide) (⟨Or.inr ⟨rfl, fun q => by obtain ⟨q0, q1 | q1 | q1 | q1⟩ := q <;> omega⟩, fr.rf, rfl⟩)
      · refine lv_iload hx hb dX6_isSo_115 (lv_at hl 4 rfl) ?_
        refine z_if_ne (tgt := 141) hx hb dX6_isSo_117 (by decide) ⟨by omega, by omega⟩ (fun c_6 => ?_) (fun c_6 => ?_)
        · refine lv_iconst (v := iZ 0) hx hb dX6_isSo_141 rfl ?_
          exact g_zret hx hb hr hlk hB dX6_isSo_142 (by decide) (⟨Or.inr ⟨rfl, fun q => by obtain ⟨q0, q1 | q1 | q1 | q1⟩ := q <;> omega⟩, fr.rf, rfl⟩)
        · refine lv_aload_n hx hb dX6_isSo_120 rfl (lv_at hl 0 rfl) ?_
          refine lv_iload_n hx hb dX6_isSo_121 rfl (lv_at hl 3 rfl) ?_
          refine g_calli (g_runV (i := 111) (As := [.int (iZ ((b : Nat) : Int))]) (rest := []) hx hb hml hown hts hK hst hB (mX6_noStream l θ hθ σ z ((b : Nat) : Int) ⟨by omega, by omega⟩ (by omega)) mv_X6_noStream kw_869 cf6 (by decide) rfl rfl hl.1 rfl (Nat.le_of_ble_eq_true rfl) ⟨by decide, by decide⟩ ⟨Nat.le_refl _, Nat.le_refl _⟩ dX6_isSo_122) hB (fun qb σ_7 z_8 H locs hqb hpb hB => ?_)
          obtain ⟨hpb, e1_, e2_⟩ := hpb
          rw [e1_, e2_] at hB
          clear e1_ e2_
          refine z_if_ne (tgt := 141) hx hb dX6_isSo_125 (by decide) ⟨by omega, by omega⟩ (fun c_9 => ?_) (fun c_9 => ?_)
          · refine lv_iconst (v := iZ 0) hx hb dX6_isSo_141 rfl ?_
            exact g_zret hx hb hr hlk hB dX6_isSo_142 (by decide) (⟨Or.inr ⟨rfl, fun q => by obtain ⟨q0, q1 | q1 | q1 | q1⟩ := q <;> omega⟩, fr.rf, rfl⟩)
          · refine lv_aload_n hx hb dX6_isSo_128 rfl (lv_at hl 0 rfl) ?_
            refine lv_iload_n hx hb dX6_isSo_129 rfl (lv_at hl 2 rfl) ?_
            refine lv_iload_n hx hb dX6_isSo_130 rfl (lv_at hl 3 rfl) ?_
            refine g_calli (g_runV (i := 111) (As := [.int (iZ ((a : Nat) : Int)), .int (iZ ((b : Nat) : Int))]) (rest := []) hx hb hml hown hts hK hst hB (mX6_areLike l θ hθ σ z w hA ho a (by omega) b (by omega)) mv_X6_areLike kw_976 cf6 (by decide) rfl rfl hl.1 rfl (Nat.le_of_ble_eq_true rfl) ⟨by decide, by decide⟩ ⟨Nat.le_refl _, Nat.le_refl _⟩ dX6_isSo_131) hB (fun ql σ1 z_10 H locs hql hpl hB => ?_)
            obtain ⟨hpl, hf1, e2_⟩ := hpl
            rw [e2_] at hB
            clear e2_
            have hR := hB.1.2
            rcases hpl with ⟨hql, hlik⟩ | ⟨hql, hlik⟩
            · subst hql
              refine z_if_eq (tgt := 141) hx hb dX6_isSo_134 (by decide) ⟨by decide, by decide⟩ (fun c_11 => ?_) (fun c_11 => ?_)
              · exact absurd c_11 (by decide)
              · refine lv_iconst (v := iZ 1) hx hb dX6_isSo_137 rfl ?_
                refine lv_goto (tgt := 142) hx hb dX6_isSo_138 (by decide) ?_
                exact g_zret hx hb hr hlk hB dX6_isSo_142 (by decide) (⟨Or.inl ⟨rfl, haN, Or.inr (Or.inr (Or.inr ⟨by omega, by omega, by omega, hlik⟩))⟩, hf1, rfl⟩)
            · subst hql
              refine z_if_eq (tgt := 141) hx hb dX6_isSo_134 (by decide) ⟨by decide, by decide⟩ (fun c_12 => ?_) (fun c_12 => ?_)
              · refine lv_iconst (v := iZ 0) hx hb dX6_isSo_141 rfl ?_
                exact g_zret hx hb hr hlk hB dX6_isSo_142 (by decide) (⟨Or.inr ⟨rfl, fun q => by obtain ⟨q0, q1 | q1 | q1 | q1⟩ := q; omega; omega; omega; exact hlik q1.2.2.2⟩, hf1, rfl⟩)
              · exact absurd (by decide) c_12
    · refine z_tabIn (v := 3) (off := 25) (tgt := 36) hx hb dX6_isSo_11 c_4 ⟨by decide, by decide⟩ (by decide) (by decide) rfl (by decide) ?_
      have hxk := c_4
      refine lv_iload_n hx hb dX6_isSo_36 rfl (lv_at hl 3 rfl) ?_
      refine z_if_ne (tgt := 58) hx hb dX6_isSo_37 (by decide) ⟨by omega, by omega⟩ (fun c_13 => ?_) (fun c_13 => ?_)
      · refine lv_iconst (v := iZ 0) hx hb dX6_isSo_58 rfl ?_
        exact g_zret hx hb hr hlk hB dX6_isSo_59 (by decide) (⟨Or.inr ⟨rfl, fun q => by obtain ⟨q0, q1 | q1 | q1 | q1⟩ := q <;> omega⟩, fr.rf, rfl⟩)
      · refine lv_aload_n hx hb dX6_isSo_40 rfl (lv_at hl 0 rfl) ?_
        refine g_getr (k := 6) (j := 115) hx hb hts hown hK hθ hB cf6 (by decide) rfl (by decide) kw_665 rfl rfl dX6_isSo_41 ?_
        refine lv_bipush (v := iZ 41) hx hb dX6_isSo_44 (by decide) ?_
        refine lv_iload_n hx hb dX6_isSo_46 rfl (lv_at hl 2 rfl) ?_
        refine z_iadd hx hb dX6_isSo_47 ?_
        refine g_iald (k := (41 + a)) hx hb hK hB (by decide) rfl (by omega) (Nat.lt_of_lt_of_eq (by omega : (41 + a) < 50) (Eq.symm rfl)) (by decide) dX6_isSo_48 ?_
        have hr_14 := hR 115 (41 + a)
        refine lv_iload hx hb dX6_isSo_49 (lv_at hl 4 rfl) ?_
        refine z_icmp_ne (tgt := 58) hx hb dX6_isSo_51 (by decide) ⟨by omega, by omega⟩ ⟨by omega, by omega⟩ (fun c_15 => ?_) (fun c_15 => ?_)
        · refine lv_iconst (v := iZ 0) hx hb dX6_isSo_58 rfl ?_
          exact g_zret hx hb hr hlk hB dX6_isSo_59 (by decide) (⟨Or.inr ⟨rfl, fun q => by obtain ⟨q0, q1 | q1 | q1 | q1⟩ := q <;> omega⟩, fr.rf, rfl⟩)
        · refine lv_iconst (v := iZ 1) hx hb dX6_isSo_54 rfl ?_
          refine lv_goto (tgt := 59) hx hb dX6_isSo_55 (by decide) ?_
          exact g_zret hx hb hr hlk hB dX6_isSo_59 (by decide) (⟨Or.inl ⟨rfl, by omega, Or.inl ⟨by omega, by omega, by omega⟩⟩, fr.rf, rfl⟩)
    · refine z_tabIn (v := 4) (off := 49) (tgt := 60) hx hb dX6_isSo_11 c_4 ⟨by decide, by decide⟩ (by decide) (by decide) rfl (by decide) ?_
      have hxk := c_4
      refine lv_iload_n hx hb dX6_isSo_60 rfl (lv_at hl 3 rfl) ?_
      refine z_if_ne (tgt := 87) hx hb dX6_isSo_61 (by decide) ⟨by omega, by omega⟩ (fun c_16 => ?_) (fun c_16 => ?_)
      · refine lv_iconst (v := iZ 0) hx hb dX6_isSo_87 rfl ?_
        exact g_zret hx hb hr hlk hB dX6_isSo_88 (by decide) (⟨Or.inr ⟨rfl, fun q => by obtain ⟨q0, q1 | q1 | q1 | q1⟩ := q <;> omega⟩, fr.rf, rfl⟩)
      · refine lv_iload hx hb dX6_isSo_64 (lv_at hl 4 rfl) ?_
        refine z_if_ne (tgt := 87) hx hb dX6_isSo_66 (by decide) ⟨by omega, by omega⟩ (fun c_17 => ?_) (fun c_17 => ?_)
        · refine lv_iconst (v := iZ 0) hx hb dX6_isSo_87 rfl ?_
          exact g_zret hx hb hr hlk hB dX6_isSo_88 (by decide) (⟨Or.inr ⟨rfl, fun q => by obtain ⟨q0, q1 | q1 | q1 | q1⟩ := q <;> omega⟩, fr.rf, rfl⟩)
        · refine lv_aload_n hx hb dX6_isSo_69 rfl (lv_at hl 0 rfl) ?_
          refine g_getr (k := 6) (j := 115) hx hb hts hown hK hθ hB cf6 (by decide) rfl (by decide) kw_665 rfl rfl dX6_isSo_70 ?_
          refine lv_bipush (v := iZ 41) hx hb dX6_isSo_73 (by decide) ?_
          refine lv_iload_n hx hb dX6_isSo_75 rfl (lv_at hl 2 rfl) ?_
          refine z_iadd hx hb dX6_isSo_76 ?_
          refine g_iald (k := (41 + a)) hx hb hK hB (by decide) rfl (by omega) (Nat.lt_of_lt_of_eq (by omega : (41 + a) < 50) (Eq.symm rfl)) (by decide) dX6_isSo_77 ?_
          have hr_18 := hR 115 (41 + a)
          refine lv_bipush (v := iZ (-9)) hx hb dX6_isSo_78 (by decide) ?_
          refine z_icmp_ne (tgt := 87) hx hb dX6_isSo_80 (by decide) ⟨by omega, by omega⟩ ⟨by decide, by decide⟩ (fun c_19 => ?_) (fun c_19 => ?_)
          · refine lv_iconst (v := iZ 0) hx hb dX6_isSo_87 rfl ?_
            exact g_zret hx hb hr hlk hB dX6_isSo_88 (by decide) (⟨Or.inr ⟨rfl, fun q => by obtain ⟨q0, q1 | q1 | q1 | q1⟩ := q <;> omega⟩, fr.rf, rfl⟩)
          · refine lv_iconst (v := iZ 1) hx hb dX6_isSo_83 rfl ?_
            refine lv_goto (tgt := 88) hx hb dX6_isSo_84 (by decide) ?_
            exact g_zret hx hb hr hlk hB dX6_isSo_88 (by decide) (⟨Or.inl ⟨rfl, by omega, Or.inr (Or.inl ⟨by omega, by omega, by omega, by omega⟩)⟩, fr.rf, rfl⟩)
    · refine z_tabIn (v := 5) (off := 78) (tgt := 89) hx hb dX6_isSo_11 c_4 ⟨by decide, by decide⟩ (by decide) (by decide) rfl (by decide) ?_
      have hxk := c_4
      refine lv_iload hx hb dX6_isSo_89 (lv_at hl 4 rfl) ?_
      refine z_if_ne (tgt := 107) hx hb dX6_isSo_91 (by decide) ⟨by omega, by omega⟩ (fun c_20 => ?_) (fun c_20 => ?_)
      · refine lv_iconst (v := iZ 0) hx hb dX6_isSo_107 rfl ?_
        exact g_zret hx hb hr hlk hB dX6_isSo_108 (by decide) (⟨Or.inr ⟨rfl, fun q => by obtain ⟨q0, q1 | q1 | q1 | q1⟩ := q <;> omega⟩, fr.rf, rfl⟩)
      · refine lv_aload_n hx hb dX6_isSo_94 rfl (lv_at hl 0 rfl) ?_
        refine lv_iload_n hx hb dX6_isSo_95 rfl (lv_at hl 2 rfl) ?_
        refine g_calli (g_runV (i := 111) (As := [.int (iZ ((a : Nat) : Int))]) (rest := []) hx hb hml hown hts hK hst hB (mX6_clocks l θ hθ σ z w (hA) ho a (by omega)) mv_X6_clocks kw_835 cf6 (by decide) rfl rfl hl.1 rfl (Nat.le_of_ble_eq_true rfl) ⟨by decide, by decide⟩ ⟨Nat.le_refl _, Nat.le_refl _⟩ dX6_isSo_96) hB (fun qc1 σ1 z_21 H locs hqc1 hpc1 hB => ?_)
        obtain ⟨hpc1, hf1, e2_⟩ := hpc1
        rw [e2_] at hB
        clear e2_
        have hR := hB.1.2
        obtain ⟨hqc1, hch1⟩ := hpc1
        have hdn1 := dN_le w a
        rw [hqc1]
        refine lv_iload_n hx hb dX6_isSo_99 rfl (lv_at hl 3 rfl) ?_
        refine z_icmp_ne (tgt := 107) hx hb dX6_isSo_100 (by decide) ⟨by omega, by omega⟩ ⟨by omega, by omega⟩ (fun c_22 => ?_) (fun c_22 => ?_)
        · refine lv_iconst (v := iZ 0) hx hb dX6_isSo_107 rfl ?_
          exact g_zret hx hb hr hlk hB dX6_isSo_108 (by decide) (⟨Or.inr ⟨rfl, fun q => by obtain ⟨q0, q1 | q1 | q1 | q1⟩ := q <;> omega⟩, hf1, rfl⟩)
        · refine lv_iconst (v := iZ 1) hx hb dX6_isSo_103 rfl ?_
          refine lv_goto (tgt := 108) hx hb dX6_isSo_104 (by decide) ?_
          exact g_zret hx hb hr hlk hB dX6_isSo_108 (by decide) (⟨Or.inl ⟨rfl, by omega, Or.inr (Or.inr (Or.inl ⟨by omega, by omega, by omega⟩))⟩, hf1, rfl⟩)
  · refine lv_iconst (v := iZ 0) hx hb dX6_isSo_8 rfl ?_
    exact g_zret hx hb hr hlk hB dX6_isSo_9 (by decide) (⟨Or.inr ⟨rfl, fun q => by have := q.1; omega⟩, fr.rf, rfl⟩)
set_option maxHeartbeats 4000000 in
set_option maxRecDepth 100000 in
theorem mX6_does (l : Launch) (θ : gT) (hθ : gOK θ) (σ : gS) (z : gZ) (w : mC) (N : Nat) (T : Nat → Nat) (hX : tCx σ w N T) (hN0 : σ 114 0 = (N : Int)) (hr0 : tOk (σ 115) N) (f : Nat) (hf9 : f < 100000) : GI l θ yX6_does cX6_does 2 (some .boolean) 4 100 [.ref (tad θ 111), .int (iZ ((f : Nat) : Int))] σ z (fun q σ' z' => (σ' 115 = (jdG (σ 115) w T N f) ∧ ((q = 1 ∧ jdB (σ 115) w N f) ∨ (q = 0 ∧ ¬ jdB (σ 115) w N f))) ∧ fr (wTk 115) σ σ' ∧ z' = z) := by
  refine g_enter (ret := (some .boolean)) (by decide +kernel) (Nat.le_of_ble_eq_true rfl) ?_
  intro p e s m args below meth c ls F hB hl
  obtain ⟨hx, hb, hr, hml, hown, hts, hlk, hK, hst⟩ := F
  have hR := hB.1.2
  have hl : lv_has ls 2 [(0, .ref (tad θ 111)), (1, .int (iZ ((f : Nat) : Int)))] := hl
  have hN8 : N ≤ 8 := by have := hr0.1.1; have := hr0.2.2; omega
  refine lv_iload_n hx hb dX6_does_0 rfl (lv_at hl 1 rfl) ?_
  refine lv_sipush (v := iZ 10000) hx hb dX6_does_1 (by decide) ?_
  refine z_idiv hx hb dX6_does_4 ⟨by omega, by omega⟩ (by omega) ⟨by decide, by decide⟩ (by decide) ?_
  refine lv_iconst (v := iZ 1) hx hb dX6_does_5 rfl ?_
  refine z_icmp_ne (tgt := 31) hx hb dX6_does_6 (by decide) ⟨by omega, by omega⟩ ⟨by decide, by decide⟩ (fun c_1 => ?_) (fun c_1 => ?_)
  · have h1f : ¬ f / 10000 = 1 := by omega
    refine lv_iload_n hx hb dX6_does_31 rfl (lv_at hl 1 rfl) ?_
    refine lv_sipush (v := iZ 20000) hx hb dX6_does_32 (by decide) ?_
    refine z_icmp_ne (tgt := 47) hx hb dX6_does_35 (by decide) ⟨by omega, by omega⟩ ⟨by decide, by decide⟩ (fun c_2 => ?_) (fun c_2 => ?_)
    · have h2f : ¬ f = 20000 := by omega
      refine lv_aload_n hx hb dX6_does_47 rfl (lv_at hl 0 rfl) ?_
      refine lv_iload_n hx hb dX6_does_48 rfl (lv_at hl 1 rfl) ?_
      refine lv_sipush (v := iZ 10000) hx hb dX6_does_49 (by decide) ?_
      refine z_idiv hx hb dX6_does_52 ⟨by omega, by omega⟩ (by omega) ⟨by decide, by decide⟩ (by decide) ?_
      refine z_top (b := (((f / 10000) : Nat) : Int)) (by omega) ?_
      refine lv_iload_n hx hb dX6_does_53 rfl (lv_at hl 1 rfl) ?_
      refine lv_sipush (v := iZ 1000) hx hb dX6_does_54 (by decide) ?_
      refine z_idiv hx hb dX6_does_57 ⟨by omega, by omega⟩ (by omega) ⟨by decide, by decide⟩ (by decide) ?_
      refine lv_bipush (v := iZ 10) hx hb dX6_does_58 (by decide) ?_
      refine z_irem hx hb dX6_does_60 ⟨by omega, by omega⟩ (by omega) ⟨by decide, by decide⟩ (by decide) ?_
      refine z_top (b := (((f / 1000 % 10) : Nat) : Int)) (by omega) ?_
      refine lv_iload_n hx hb dX6_does_61 rfl (lv_at hl 1 rfl) ?_
      refine lv_bipush (v := iZ 100) hx hb dX6_does_62 (by decide) ?_
      refine z_idiv hx hb dX6_does_64 ⟨by omega, by omega⟩ (by omega) ⟨by decide, by decide⟩ (by decide) ?_
      refine lv_bipush (v := iZ 10) hx hb dX6_does_65 (by decide) ?_
      refine z_irem hx hb dX6_does_67 ⟨by omega, by omega⟩ (by omega) ⟨by decide, by decide⟩ (by decide) ?_
      refine z_top (b := (((f / 100 % 10) : Nat) : Int)) (by omega) ?_
      refine lv_iload_n hx hb dX6_does_68 rfl (lv_at hl 1 rfl) ?_
      refine lv_bipush (v := iZ 100) hx hb dX6_does_69 (by decide) ?_
      refine z_irem hx hb dX6_does_71 ⟨by omega, by omega⟩ (by omega) ⟨by decide, by decide⟩ (by decide) ?_
      refine z_top (b := (((f % 100) : Nat) : Int)) (by omega) ?_
      refine g_calli (g_runV (i := 111) (As := [.int (iZ (((f / 10000) : Nat) : Int)), .int (iZ (((f / 1000 % 10) : Nat) : Int)), .int (iZ (((f / 100 % 10) : Nat) : Int)), .int (iZ (((f % 100) : Nat) : Int))]) (rest := []) hx hb hml hown hts hK hst hB (mX6_isSo l θ hθ σ z w hX.1 hX.2.1 N hN0 hN8 hr0.2.1 (f / 10000) (f / 1000 % 10) (f / 100 % 10) (f % 100) (by omega) (by omega) (by omega) (by omega)) mv_X6_isSo kw_972 cf6 (by decide) rfl rfl hl.1 rfl (Nat.le_of_ble_eq_true rfl) ⟨by decide, by decide⟩ ⟨Nat.le_refl _, Nat.le_refl _⟩ dX6_does_72) hB (fun q1 σ1 z_3 H locs hq1 hp1 hB => ?_)
      obtain ⟨hp1, hf1, e2_⟩ := hp1
      rw [e2_] at hB
      clear e2_
      have hR := hB.1.2
      have hjd : σ1 115 = (jdG (σ 115) w T N f) := by rw [jdG, if_neg h1f, if_neg h2f]; exact hf1.row (fun k => rfl)
      have hfw : fr (wTk 115) σ σ1 := hf1.mono (fun i k h => by simp [w127] at h; simp [wTk]; omega)
      rcases hp1 with ⟨hq1, hso⟩ | ⟨hq1, hso⟩
      · subst hq1
        exact g_zret hx hb hr hlk hB dX6_does_75 (by decide) (⟨⟨hjd, Or.inl ⟨rfl, Or.inr (Or.inr hso)⟩⟩, hfw, rfl⟩)
      · subst hq1
        exact g_zret hx hb hr hlk hB dX6_does_75 (by decide) (⟨⟨hjd, Or.inr ⟨rfl, fun q => by rcases q with h | h | h; exact h1f h; exact h2f h; exact hso h⟩⟩, hfw, rfl⟩)
    · have h2f : f = 20000 := by omega
      refine lv_aload_n hx hb dX6_does_38 rfl (lv_at hl 0 rfl) ?_
      refine g_getr (k := 6) (j := 115) hx hb hts hown hK hθ hB cf6 (by decide) rfl (by decide) kw_665 rfl rfl dX6_does_39 ?_
      refine g_callv (g_runS (As := [.ref (tad θ 115)]) (rest := []) hx hb hml hown hts hK hst hB (mX6_goAfresh l θ hθ σ z 115 (Or.inr rfl) hr0.1) ms_X6_goAfresh kw_786 rfl hl.1 rfl (Nat.le_of_ble_eq_true rfl) ⟨by decide, by decide⟩ ⟨Nat.le_refl _, Nat.le_refl _⟩ dX6_does_42) hB (fun σ1 z_4 H locs hp1 hB => ?_)
      obtain ⟨hp1, hf1, e2_⟩ := hp1
      rw [e2_] at hB
      clear e2_
      have hR := hB.1.2
      refine lv_iconst (v := iZ 1) hx hb dX6_does_45 rfl ?_
      exact g_zret hx hb hr hlk hB dX6_does_46 (by decide) (⟨⟨by rw [hp1, jdG, if_neg h1f, if_pos h2f], Or.inl ⟨rfl, Or.inr (Or.inl h2f)⟩⟩, hf1, rfl⟩)
  · have h1f : f / 10000 = 1 := by omega
    refine lv_aload_n hx hb dX6_does_9 rfl (lv_at hl 0 rfl) ?_
    refine lv_aload_n hx hb dX6_does_10 rfl (lv_at hl 0 rfl) ?_
    refine g_getr (k := 6) (j := 115) hx hb hts hown hK hθ hB cf6 (by decide) rfl (by decide) kw_665 rfl rfl dX6_does_11 ?_
    refine lv_iload_n hx hb dX6_does_14 rfl (lv_at hl 1 rfl) ?_
    refine lv_bipush (v := iZ 100) hx hb dX6_does_15 (by decide) ?_
    refine z_idiv hx hb dX6_does_17 ⟨by omega, by omega⟩ (by omega) ⟨by decide, by decide⟩ (by decide) ?_
    refine lv_bipush (v := iZ 100) hx hb dX6_does_18 (by decide) ?_
    refine z_irem hx hb dX6_does_20 ⟨by omega, by omega⟩ (by omega) ⟨by decide, by decide⟩ (by decide) ?_
    refine z_top (b := (((f / 100 % 100) : Nat) : Int)) (by omega) ?_
    refine lv_iload_n hx hb dX6_does_21 rfl (lv_at hl 1 rfl) ?_
    refine lv_bipush (v := iZ 100) hx hb dX6_does_22 (by decide) ?_
    refine z_irem hx hb dX6_does_24 ⟨by omega, by omega⟩ (by omega) ⟨by decide, by decide⟩ (by decide) ?_
    refine z_top (b := (((f % 100) : Nat) : Int)) (by omega) ?_
    refine g_calli (g_runV (i := 111) (As := [.ref (tad θ 115), .int (iZ (((f / 100 % 100) : Nat) : Int)), .int (iZ (((f % 100) : Nat) : Int))]) (rest := []) hx hb hml hown hts hK hst hB (mX6_goTick l θ hθ σ z w (hX).1 (hX).2.1 115 (Or.inr rfl) (hr0).1 N (hr0).2.2 (hr0).2.1 T (hX).2.2 ((f / 100 % 100 : Nat) : Int) ((f % 100 : Nat) : Int) (by omega) (by omega)) mv_X6_goTick kw_893 cf6 (by decide) rfl rfl hl.1 rfl (Nat.le_of_ble_eq_true rfl) ⟨by decide, by decide⟩ ⟨Nat.le_refl _, Nat.le_refl _⟩ dX6_does_25) hB (fun q_7 σ1 z_6 H locs hq_7 hp1 hB => ?_)
    obtain ⟨hp1, hf1, e2_⟩ := hp1
    rw [e2_] at hB
    clear e2_
    have hR := hB.1.2
    refine lv_pop hx hb dX6_does_28 rfl ?_
    refine lv_iconst (v := iZ 1) hx hb dX6_does_29 rfl ?_
    exact g_zret hx hb hr hlk hB dX6_does_30 (by decide) (⟨⟨by rw [hp1.1, jdG, if_pos h1f], Or.inl ⟨rfl, Or.inl h1f⟩⟩, hf1, rfl⟩)
set_option maxHeartbeats 4000000 in
set_option maxRecDepth 100000 in
theorem mX6_judge (l : Launch) (θ : gT) (hθ : gOK θ) (σ : gS) (z : gZ) (hW : Wf (σ 114)) (N : Nat) (hN : σ 114 0 = (N : Int)) (hV : Vb (σ 114)) (n r : Int) (hnr : rg n) (hrr : rgL r) : GI l θ yX6_judge cX6_judge 5 (some .int) 7 161 [.ref (tad θ 111), .int (iZ n), .long (lZ r)] σ z (fun q σ' z' => ((¬ ((1 ≤ n ∧ n ≤ 3) ∧ 0 ≤ r ∧ r < ((100000 ^ n.toNat : Nat) : Int)) ∧ q = -2) ∨ (((1 ≤ n ∧ n ≤ 3) ∧ 0 ≤ r ∧ r < ((100000 ^ n.toNat : Nat) : Int)) ∧ ¬ sndG (σ 114) N ∧ q = -3) ∨ (((1 ≤ n ∧ n ≤ 3) ∧ 0 ≤ r ∧ r < ((100000 ^ n.toNat : Nat) : Int)) ∧ sndG (σ 114) N ∧ ∃ w, mClk (σ 114) N = some w ∧ ∃ n0 r0 : Nat, n = (n0 : Int) ∧ r = (r0 : Int) ∧ jgP (cpr (σ 114) (σ 115) 50) w (tn (wtN (σ 114) w) N) N r0 n0 q)) ∧ fr wSc σ σ' ∧ z' = z) := by
  refine g_enter (ret := (some .int)) (by decide +kernel) (Nat.le_of_ble_eq_true rfl) ?_
  intro p e s m args below meth c ls F hB hl
  obtain ⟨hx, hb, hr, hml, hown, hts, hlk, hK, hst⟩ := F
  have hR := hB.1.2
  have hl : lv_has ls 5 [(0, .ref (tad θ 111)), (1, .int (iZ n)), (2, .long (lZ r))] := hl
  refine lv_aload_n hx hb dX6_judge_0 rfl (lv_at hl 0 rfl) ?_
  refine lv_iconst (v := iZ 0) hx hb dX6_judge_1 rfl ?_
  refine g_putI (k := 0) hx hb hts hown hK hθ hB cf6 tyX6 tyX6_ok (by decide) rfl (by decide) kw_659 rfl rfl rfl ⟨by decide, by decide⟩ dX6_judge_2 (fun H locs hB => ?_)
  obtain ⟨σ1, hσ1⟩ : ∃ x_ : gS, x_ = up2 σ 111 0 0 := ⟨_, rfl⟩
  rw [← hσ1] at hB
  have hR := hB.1.2
  refine lv_iload_n hx hb dX6_judge_5 rfl (lv_at hl 1 rfl) ?_
  refine z_i2l hx hb ⟨by omega, by omega⟩ dX6_judge_6 ?_
  refine lv_lconst (v := lZ 1) hx hb dX6_judge_7 (by decide) ?_
  refine lv_ldc2 (v := lZ 3) hx hb hown (hts _ kw_963) dX6_judge_8 ?_
  refine g_calli (g_runS (As := [.long (lZ n), .long (lZ 1), .long (lZ 3)]) (rest := []) hx hb hml hown hts hK hst hB (mX6_in l θ hθ σ1 z n 1 3 ⟨by omega, by omega⟩ ⟨by omega, by omega⟩ ⟨by omega, by omega⟩) ms_X6_in kw_749 rfl hl.1 rfl (Nat.le_of_ble_eq_true rfl) ⟨by decide, by decide⟩ ⟨Nat.le_refl _, Nat.le_refl _⟩ dX6_judge_11) hB (fun q_3 σ_1 z_2 H locs hq_3 pq_3 hB => ?_)
  obtain ⟨pq_3, e1_, e2_⟩ := pq_3
  rw [e1_, e2_] at hB
  clear e1_ e2_
  refine z_if_eq (tgt := 34) hx hb dX6_judge_14 (by decide) ⟨by omega, by omega⟩ (fun c_4 => ?_) (fun c_4 => ?_)
  · refine lv_bipush (v := iZ (-2)) hx hb dX6_judge_34 (by decide) ?_
    exact g_iret hx hb hr hlk hB dX6_judge_36 ⟨by decide, by decide⟩ (⟨Or.inl ⟨by omega, rfl⟩, (by rw [hσ1]; exact fr.up rfl : fr wSc σ σ1), rfl⟩)
  · obtain ⟨n0, hn0⟩ : ∃ n0 : Nat, n = (n0 : Int) := ⟨n.toNat, by omega⟩
    have hnt : n.toNat = n0 := by omega
    have h5 := pow_5 (show n0 ≤ 3 by omega)
    have hl : lv_has ls 5 [(0, .ref (tad θ 111)), (1, .int (iZ ((n0 : Nat) : Int))), (2, .long (lZ r))] := by rw [hn0] at hl; exact hl
    refine lv_lload_n hx hb dX6_judge_17 rfl (lv_at hl 2 rfl) ?_
    refine lv_lconst (v := lZ 0) hx hb dX6_judge_18 (by decide) ?_
    refine lv_ldc2 (v := lZ 100000) hx hb hown (hts _ kw_964) dX6_judge_19 ?_
    refine lv_iload_n hx hb dX6_judge_22 rfl (lv_at hl 1 rfl) ?_
    refine g_calll (g_runS (As := [.long (lZ 100000), .int (iZ ((n0 : Nat) : Int))]) (rest := [.long (lZ 0), .long (lZ r)]) hx hb hml hown hts hK hst hB (mX6_longPower l θ hθ σ1 z n0 (by omega)) ms_X6_longPower kw_965 rfl hl.1 rfl (Nat.le_of_ble_eq_true rfl) ⟨by decide, by decide⟩ ⟨Nat.le_refl _, Nat.le_refl _⟩ dX6_judge_23) hB (fun q_7 σ_5 z_6 H locs pq_7 hB => ?_)
    obtain ⟨pq_7, e1_, e2_⟩ := pq_7
    rw [e1_, e2_] at hB
    clear e1_ e2_
    subst pq_7
    refine lv_lconst (v := lZ 1) hx hb dX6_judge_26 (by decide) ?_
    refine z_lsub hx hb dX6_judge_27 ?_
    refine g_calli (g_runS (As := [.long (lZ r), .long (lZ 0), .long (lZ (((100000 ^ n0 : Nat) : Int) - 1))]) (rest := []) hx hb hml hown hts hK hst hB (mX6_in l θ hθ σ1 z r 0 (((100000 ^ n0 : Nat) : Int) - 1) ⟨by omega, by omega⟩ ⟨by omega, by omega⟩ ⟨by omega, by omega⟩) ms_X6_in kw_749 rfl hl.1 rfl (Nat.le_of_ble_eq_true rfl) ⟨by decide, by decide⟩ ⟨Nat.le_refl _, Nat.le_refl _⟩ dX6_judge_28) hB (fun q_10 σ_8 z_9 H locs hq_10 pq_10 hB => ?_)
    obtain ⟨pq_10, e1_, e2_⟩ := pq_10
    rw [e1_, e2_] at hB
    clear e1_ e2_
    refine z_if_ne (tgt := 37) hx hb dX6_judge_31 (by decide) ⟨by omega, by omega⟩ (fun c_11 => ?_) (fun c_11 => ?_)
    · have hJK : ((1 ≤ n ∧ n ≤ 3) ∧ 0 ≤ r ∧ r < ((100000 ^ n.toNat : Nat) : Int)) := by rw [hnt]; omega
      obtain ⟨r0, hr0⟩ : ∃ r0 : Nat, r = (r0 : Int) := ⟨r.toNat, by omega⟩
      have hl : lv_has ls 5 [(0, .ref (tad θ 111)), (1, .int (iZ ((n0 : Nat) : Int))), (2, .long (lZ ((r0 : Nat) : Int)))] := by rw [hr0] at hl; exact hl
      refine lv_aload_n hx hb dX6_judge_37 rfl (lv_at hl 0 rfl) ?_
      refine g_calli (g_runV (i := 111) (As := []) (rest := []) hx hb hml hown hts hK hst hB (mX6_soundNow l θ hθ σ1 z (by rw [hσ1, up2_row _ _ (by decide)]; exact hW) N (by rw [hσ1, up2_row _ _ (by decide)]; exact hN)) mv_X6_soundNow kw_789 cf6 (by decide) rfl rfl hl.1 rfl (Nat.le_of_ble_eq_true rfl) ⟨by decide, by decide⟩ ⟨Nat.le_refl _, Nat.le_refl _⟩ dX6_judge_38) hB (fun q2 σ2 z_12 H locs hq2 hp2 hB => ?_)
      obtain ⟨hp2, hf2, e2_⟩ := hp2
      rw [e2_] at hB
      clear e2_
      have hR := hB.1.2
      rw [hσ1, up2_row _ _ (by decide)] at hp2
      have hfs : fr wSc σ σ2 := ((by rw [hσ1]; exact fr.up rfl : fr wSc σ σ1)).tr (hf2.mono sc_an)
      have hg2 : σ2 114 = σ 114 := by rw [hf2.row (fun k => rfl), hσ1, up2_row _ _ (by decide)]
      have hgr := hW.1
      obtain ⟨han, hp2⟩ := hp2
      have hiff := mAn_iff han
      rcases hp2 with ⟨hqa, hsn⟩ | ⟨hqa, hsn⟩
      · subst hqa
        have hsd := hiff.mp hsn
        obtain ⟨w, ew, ho, hA2, hfn, hT2, hraw⟩ := mAn_snd hW hN han hsn
        refine z_if_ne (tgt := 47) hx hb dX6_judge_41 (by decide) ⟨by decide, by decide⟩ (fun c_13 => ?_) (fun c_13 => ?_)
        · refine lv_aload_n hx hb dX6_judge_47 rfl (lv_at hl 0 rfl) ?_
          refine g_callv (g_runV (i := 111) (As := []) (rest := []) hx hb hml hown hts hK hst hB (mX6_begin l θ hθ σ2 z ) mv_X6_begin kw_934 cf6 (by decide) rfl rfl hl.1 rfl (Nat.le_of_ble_eq_true rfl) ⟨by decide, by decide⟩ ⟨Nat.le_refl _, Nat.le_refl _⟩ dX6_judge_48) hB (fun σ3 z_14 H locs hp3 hB => ?_)
          obtain ⟨hp3, hf3, e2_⟩ := hp3
          rw [e2_] at hB
          clear e2_
          have hR := hB.1.2
          have hX3 : tCx σ3 w N (tn (wtN (σ 114) w) N) := (show tCx σ2 w N (tn (wtN (σ 114) w) N) from ⟨hA2, ho, hT2⟩).keep (hf3.row (fun k => rfl)) (hf3.row (fun k => rfl)) (hf3.row (fun k => rfl))
          have h115 : σ2 115 = σ 115 := by rw [hf2.row (fun k => rfl), hσ1, up2_row _ _ (by decide)]
          rw [hg2, h115] at hp3
          have hB0 : tOk (cpr (σ 114) (σ 115) 50) N := (show tOk (σ 114) N from ⟨hW, hV, hN⟩).cong (fun k hk => cpr_50 _ _ hk)
          have hr3 : tOk (σ3 115) N := by rw [hp3]; exact hB0
          have hfs3 : fr wSc σ σ3 := hfs.tr (hf3.mono sc_115)
          refine lv_iconst (v := iZ 0) hx hb dX6_judge_51 rfl ?_
          refine lv_istore (lv' := [(4, .int (iZ 0)), (0, .ref (tad θ 111)), (1, .int (iZ ((n0 : Nat) : Int))), (2, .long (lZ ((r0 : Nat) : Int)))]) hx hb dX6_judge_52 hl (by decide) rfl (fun ls hl => ?_)
          have loop54 : ∀ (n54 : Nat) (k : Nat) (σ4 : gS) (H : Heap) (locs : List Loc) (ls : Array Slot), n0 - k < n54 → (k ≤ n0) → (σ4 115 = (jdR (cpr (σ 114) (σ 115) 50) w (tn (wtN (σ 114) w) N) N r0 n0) k) → (∀ i, i < k → jdB ((jdR (cpr (σ 114) (σ 115) 50) w (tn (wtN (σ 114) w) N) N r0 n0) i) w N (jdF r0 n0 i)) → (fr (wTk 115) σ3 σ4) →  gB θ σ4 z s.heap H locs → lv_has ls 5 [(4, .int (iZ ((k : Nat) : Int))), (0, .ref (tad θ 111)), (1, .int (iZ ((n0 : Nat) : Int))), (2, .long (lZ ((r0 : Nat) : Int)))] → W p l e (gRm 7 161) s m args below meth c H locs 0 0 (MQ below (gQi θ (fun q σ' z' => ((¬ ((1 ≤ n ∧ n ≤ 3) ∧ 0 ≤ r ∧ r < ((100000 ^ n.toNat : Nat) : Int)) ∧ q = -2) ∨ (((1 ≤ n ∧ n ≤ 3) ∧ 0 ≤ r ∧ r < ((100000 ^ n.toNat : Nat) : Int)) ∧ ¬ sndG (σ 114) N ∧ q = -3) ∨ (((1 ≤ n ∧ n ≤ 3) ∧ 0 ≤ r ∧ r < ((100000 ^ n.toNat : Nat) : Int)) ∧ sndG (σ 114) N ∧ ∃ w, mClk (σ 114) N = some w ∧ ∃ n0 r0 : Nat, n = (n0 : Int) ∧ r = (r0 : Int) ∧ jgP (cpr (σ 114) (σ 115) 50) w (tn (wtN (σ 114) w) N) N r0 n0 q)) ∧ fr wSc σ σ' ∧ z' = z)) args s 0 0 (tA θ)) (F0 m 54 ls []) := by
            intro n54
            induction n54 with
            | zero => intro k σ4 H locs ls hmu; exact absurd hmu (Nat.not_lt_zero _)
            | succ n54 ih54 =>
              intro k σ4 H locs ls hmu hk hg hall hf4 hB hl
              have hR := hB.1.2
              have hX4 : tCx σ4 w N (tn (wtN (σ 114) w) N) := hX3.keep (hf4.row (fun k => rfl)) (hf4.row (fun k => rfl)) (hf4.row (fun k => rfl))
              have hr4 : tOk (σ4 115) N := by rw [hg]; exact jdR_ok hB0 hX3.lt k
              have h5k := pow_5 (show n0 - 1 - k ≤ 3 by omega)
              have hdv := Nat.div_le_self r0 (100000 ^ (n0 - 1 - k))
              obtain ⟨A, hA9⟩ : ∃ A, A = r0 / 100000 ^ (n0 - 1 - k) := ⟨_, rfl⟩
              rw [← hA9] at hdv
              have hN4 : σ4 114 0 = (N : Int) := by rw [hf4.row (fun k => rfl), hf3.row (fun k => rfl), hg2]; exact hN
              refine lv_iload hx hb dX6_judge_54 (lv_at hl 0 rfl) ?_
              refine lv_iload_n hx hb dX6_judge_56 rfl (lv_at hl 2 rfl) ?_
              refine z_icmp_ge (tgt := 95) hx hb dX6_judge_57 (by decide) ⟨by omega, by omega⟩ ⟨by omega, by omega⟩ (fun c_16 => ?_) (fun c_16 => ?_)
              · refine lv_bipush (v := iZ (-9)) hx hb dX6_judge_95 (by decide) ?_
                exact g_iret hx hb hr hlk hB dX6_judge_97 ⟨by decide, by decide⟩ (⟨Or.inr (Or.inr ⟨hJK, hsd, w, ew, n0, r0, hn0, hr0, Or.inl ⟨rfl, fun i hi => hall i (by omega)⟩⟩), hfs3.tr (hf4.mono sc_tr), rfl⟩)
              · refine lv_aload_n hx hb dX6_judge_60 rfl (lv_at hl 1 rfl) ?_
                refine lv_lload_n hx hb dX6_judge_61 rfl (lv_at hl 3 rfl) ?_
                refine lv_ldc2 (v := lZ 100000) hx hb hown (hts _ kw_964) dX6_judge_62 ?_
                refine lv_iload_n hx hb dX6_judge_65 rfl (lv_at hl 2 rfl) ?_
                refine lv_iconst (v := iZ 1) hx hb dX6_judge_66 rfl ?_
                refine z_isub hx hb dX6_judge_67 ?_
                refine lv_iload hx hb dX6_judge_68 (lv_at hl 0 rfl) ?_
                refine z_isub hx hb dX6_judge_70 ?_
                refine z_top (b := (((n0 - 1 - k) : Nat) : Int)) (by omega) ?_
                refine g_calll (g_runS (As := [.long (lZ 100000), .int (iZ (((n0 - 1 - k) : Nat) : Int))]) (rest := [.long (lZ ((r0 : Nat) : Int)), .ref (tad θ 111)]) hx hb hml hown hts hK hst hB (mX6_longPower l θ hθ σ4 z (n0 - 1 - k) (by omega)) ms_X6_longPower kw_965 rfl hl.1 rfl (Nat.le_of_ble_eq_true rfl) ⟨by decide, by decide⟩ ⟨Nat.le_refl _, Nat.le_refl _⟩ dX6_judge_71) hB (fun q_19 σ_17 z_18 H locs pq_19 hB => ?_)
                obtain ⟨pq_19, e1_, e2_⟩ := pq_19
                rw [e1_, e2_] at hB
                clear e1_ e2_
                subst pq_19
                refine z_ldiv hx hb dX6_judge_74 ⟨by omega, by omega⟩ (by omega) ⟨by omega, by omega⟩ (by omega) ?_
                refine z_topl (b := ((A : Nat) : Int)) (by rw [hA9, Int.natCast_ediv]) ?_
                refine lv_ldc2 (v := lZ 100000) hx hb hown (hts _ kw_964) dX6_judge_75 ?_
                refine z_lrem hx hb dX6_judge_78 ⟨by omega, by omega⟩ (by omega) ⟨by omega, by omega⟩ (by omega) ?_
                refine z_topl (b := ((jdF r0 n0 k : Nat) : Int)) (by rw [jdF, ← hA9]; omega) ?_
                refine z_l2i hx hb dX6_judge_79 ?_
                refine z_top (b := (((jdF r0 n0 k) : Nat) : Int)) (rfl) ?_
                refine g_calli (g_runV (i := 111) (As := [.int (iZ (((jdF r0 n0 k) : Nat) : Int))]) (rest := []) hx hb hml hown hts hK hst hB (mX6_does l θ hθ σ4 z w N (tn (wtN (σ 114) w) N) hX4 hN4 hr4 (jdF r0 n0 k) (by rw [jdF]; omega)) mv_X6_does kw_968 cf6 (by decide) rfl rfl hl.1 rfl (Nat.le_of_ble_eq_true rfl) ⟨by decide, by decide⟩ ⟨Nat.le_refl _, Nat.le_refl _⟩ dX6_judge_80) hB (fun q5 σ5 z_20 H locs hq5 hp5 hB => ?_)
                obtain ⟨hp5, hf5, e2_⟩ := hp5
                rw [e2_] at hB
                clear e2_
                have hR := hB.1.2
                obtain ⟨hp5, hq5⟩ := hp5
                refine z_if_ne (tgt := 89) hx hb dX6_judge_83 (by decide) ⟨by omega, by omega⟩ (fun c_21 => ?_) (fun c_21 => ?_)
                · have hjb : jdB ((jdR (cpr (σ 114) (σ 115) 50) w (tn (wtN (σ 114) w) N) N r0 n0) k) w N (jdF r0 n0 k) := by rw [← hg]; rcases hq5 with h | h; exact h.2; omega
                  refine z_iinc (k := 0) (lv' := [(4, .int (iZ (((k : Nat) : Int) + 1))), (0, .ref (tad θ 111)), (1, .int (iZ ((n0 : Nat) : Int))), (2, .long (lZ ((r0 : Nat) : Int)))]) hx hb dX6_judge_89 hl rfl (by decide) rfl (fun ls hl => ?_)
                  have hl : lv_has ls 5 [(4, .int (iZ (((k + 1) : Nat) : Int))), (0, .ref (tad θ 111)), (1, .int (iZ ((n0 : Nat) : Int))), (2, .long (lZ ((r0 : Nat) : Int)))] := by have e9 : (((k : Nat) : Int) + 1) = (((k + 1) : Nat) : Int) := (by omega); rw [e9] at hl; exact hl
                  refine lv_goto (tgt := 54) hx hb dX6_judge_92 (by decide) ?_
                  exact ih54 (k + 1) σ5 _ _ _ (by omega) (by omega) (by rw [hp5, hg]; rfl) (lt_s hall hjb) (hf4.tr hf5) hB (lv_sub hl [0, 1, 2, 3] rfl)
                · have hjb : ¬ jdB ((jdR (cpr (σ 114) (σ 115) 50) w (tn (wtN (σ 114) w) N) N r0 n0) k) w N (jdF r0 n0 k) := by rw [← hg]; rcases hq5 with h | h; omega; exact h.2
                  refine lv_iload hx hb dX6_judge_86 (lv_at hl 0 rfl) ?_
                  exact g_iret hx hb hr hlk hB dX6_judge_88 ⟨by omega, by omega⟩ (⟨Or.inr (Or.inr ⟨hJK, hsd, w, ew, n0, r0, hn0, hr0, Or.inr ⟨k, by omega, rfl, hjb, hall⟩⟩), (hfs3.tr (hf4.mono sc_tr)).tr (hf5.mono sc_tr), rfl⟩)
          exact loop54 _ 0 σ3 _ _ _ (Nat.lt_succ_self _) (by omega) hp3 (fun i h => absurd h (Nat.not_lt_zero _)) fr.rf hB (lv_sub hl [0, 1, 2, 3] rfl)
        · exact absurd c_13 (by decide)
      · subst hqa
        have hnd : ¬ sndG (σ 114) N := fun q => hsn (hiff.mpr q)
        refine z_if_ne (tgt := 47) hx hb dX6_judge_41 (by decide) ⟨by decide, by decide⟩ (fun c_22 => ?_) (fun c_22 => ?_)
        · exact absurd (by decide) c_22
        · refine lv_bipush (v := iZ (-3)) hx hb dX6_judge_44 (by decide) ?_
          exact g_iret hx hb hr hlk hB dX6_judge_46 ⟨by decide, by decide⟩ (⟨Or.inr (Or.inl ⟨hJK, hnd, rfl⟩), hfs, rfl⟩)
    · refine lv_bipush (v := iZ (-2)) hx hb dX6_judge_34 (by decide) ?_
      exact g_iret hx hb hr hlk hB dX6_judge_36 ⟨by decide, by decide⟩ (⟨Or.inl ⟨by rw [hnt]; omega, rfl⟩, (by rw [hσ1]; exact fr.up rfl : fr wSc σ σ1), rfl⟩)
