set_option maxHeartbeats 4000000 in
set_option maxRecDepth 100000 in
theorem mX5_weight (l : Launch) (θ : gT) (hθ : gOK θ) (σ : gS) (z : gZ) (n d k0 : Nat) (hn : n ≤ 6) (hd : d < 64) (hk : k0 ≤ 10) : GI l θ yX5_weight cX5_weight 5 (some .int) 0 0 [.int (iZ ((n : Nat) : Int)), .int (iZ ((d : Nat) : Int)), .int (iZ ((k0 : Nat) : Int))] σ z (fun q σ' z' => (q = ((wgC k0 d n : Nat) : Int)) ∧ σ' = σ ∧ z' = z) := by
  refine g_enter (ret := (some .int)) (by decide +kernel) (Nat.le_of_ble_eq_true rfl) ?_
  intro p e s m args below meth c ls F hB hl
  obtain ⟨hx, hb, hr, hml, hown, hts, hlk, hK, hst⟩ := F
  have hR := hB.1.2
  have hl : lv_has ls 5 [(0, .int (iZ ((n : Nat) : Int))), (1, .int (iZ ((d : Nat) : Int))), (2, .int (iZ ((k0 : Nat) : Int)))] := hl
  refine lv_iconst (v := iZ 1) hx hb dX5_weight_0 rfl ?_
  refine z_top (b := (((wgC k0 d 0) : Nat) : Int)) (rfl) ?_
  refine lv_istore_n (lv' := [(3, .int (iZ (((wgC k0 d 0) : Nat) : Int))), (0, .int (iZ ((n : Nat) : Int))), (1, .int (iZ ((d : Nat) : Int))), (2, .int (iZ ((k0 : Nat) : Int)))]) hx hb dX5_weight_1 rfl hl (by decide) rfl (fun ls hl => ?_)
  refine lv_iconst (v := iZ 0) hx hb dX5_weight_2 rfl ?_
  refine lv_istore (lv' := [(4, .int (iZ 0)), (3, .int (iZ (((wgC k0 d 0) : Nat) : Int))), (0, .int (iZ ((n : Nat) : Int))), (1, .int (iZ ((d : Nat) : Int))), (2, .int (iZ ((k0 : Nat) : Int)))]) hx hb dX5_weight_3 hl (by decide) rfl (fun ls hl => ?_)
  have loop5 : ∀ (n5 : Nat) (i : Nat) (H : Heap) (locs : List Loc) (ls : Array Slot), n - i < n5 → (i ≤ n) →  gB θ σ z s.heap H locs → lv_has ls 5 [(4, .int (iZ ((i : Nat) : Int))), (3, .int (iZ (((wgC k0 d i) : Nat) : Int))), (0, .int (iZ ((n : Nat) : Int))), (1, .int (iZ ((d : Nat) : Int))), (2, .int (iZ ((k0 : Nat) : Int)))] → W p l e (gRm 0 0) s m args below meth c H locs 0 0 (MQ below (gQi θ (fun q σ' z' => (q = ((wgC k0 d n : Nat) : Int)) ∧ σ' = σ ∧ z' = z)) args s 0 0 (tA θ)) (F0 m 5 ls []) := by
    intro n5
    induction n5 with
    | zero => intro i H locs ls hmu; exact absurd hmu (Nat.not_lt_zero _)
    | succ n5 ih5 =>
      intro i H locs ls hmu hi hB hl
      have hR := hB.1.2
      have hbt := Nat.mod_lt (d / 2 ^ i) (show 0 < 2 by omega)
      have hwl := wgC_le (d := d) hk (n := i) (by omega)
      have hp6 := pow_6 (a := 10) (i := i) (Nat.le_refl _) (by omega)
      refine lv_iload hx hb dX5_weight_5 (lv_at hl 0 rfl) ?_
      refine lv_iload_n hx hb dX5_weight_7 rfl (lv_at hl 2 rfl) ?_
      refine z_icmp_ge (tgt := 38) hx hb dX5_weight_8 (by decide) ⟨by omega, by omega⟩ ⟨by omega, by omega⟩ (fun c_1 => ?_) (fun c_1 => ?_)
      · refine lv_iload_n hx hb dX5_weight_38 rfl (lv_at hl 1 rfl) ?_
        exact g_iret hx hb hr hlk hB dX5_weight_39 ⟨by omega, by omega⟩ (⟨by rw [show i = n by omega], rfl, rfl⟩)
      · refine lv_iload_n hx hb dX5_weight_11 rfl (lv_at hl 1 rfl) ?_
        refine lv_iload_n hx hb dX5_weight_12 rfl (lv_at hl 3 rfl) ?_
        refine lv_iload hx hb dX5_weight_13 (lv_at hl 0 rfl) ?_
        refine z_ishr (a := d) (j := i) hx hb (by omega) (by omega) dX5_weight_15 ?_
        refine lv_iconst (v := iZ 1) hx hb dX5_weight_16 rfl ?_
        refine z_iand (a := (d / 2 ^ i)) (b := 1) hx hb dX5_weight_17 ?_
        refine z_top (b := (((d / 2 ^ i % 2) : Nat) : Int)) (by rw [Nat.and_one_is_mod]) ?_
        refine lv_iconst (v := iZ 1) hx hb dX5_weight_18 rfl ?_
        refine z_icmp_ne (tgt := 26) hx hb dX5_weight_19 (by decide) ⟨by omega, by omega⟩ ⟨by decide, by decide⟩ (fun c_2 => ?_) (fun c_2 => ?_)
        · refine lv_bipush (v := iZ 10) hx hb dX5_weight_26 (by decide) ?_
          refine lv_iload_n hx hb dX5_weight_28 rfl (lv_at hl 4 rfl) ?_
          refine z_isub hx hb dX5_weight_29 ?_
          refine z_top (b := (((10 - k0) : Nat) : Int)) (by omega) ?_
          refine z_imul hx hb dX5_weight_30 ?_
          refine z_top (b := (((wgC k0 d (i + 1)) : Nat) : Int)) (by rw [wgC, if_neg (by omega), Int.natCast_mul]) ?_
          refine lv_istore_n (lv' := [(3, .int (iZ (((wgC k0 d (i + 1)) : Nat) : Int))), (4, .int (iZ ((i : Nat) : Int))), (0, .int (iZ ((n : Nat) : Int))), (1, .int (iZ ((d : Nat) : Int))), (2, .int (iZ ((k0 : Nat) : Int)))]) hx hb dX5_weight_31 rfl hl (by decide) rfl (fun ls hl => ?_)
          refine z_iinc (k := 1) (lv' := [(4, .int (iZ (((i : Nat) : Int) + 1))), (3, .int (iZ (((wgC k0 d (i + 1)) : Nat) : Int))), (0, .int (iZ ((n : Nat) : Int))), (1, .int (iZ ((d : Nat) : Int))), (2, .int (iZ ((k0 : Nat) : Int)))]) hx hb dX5_weight_32 hl rfl (by decide) rfl (fun ls hl => ?_)
          have hl : lv_has ls 5 [(4, .int (iZ (((i + 1) : Nat) : Int))), (3, .int (iZ (((wgC k0 d (i + 1)) : Nat) : Int))), (0, .int (iZ ((n : Nat) : Int))), (1, .int (iZ ((d : Nat) : Int))), (2, .int (iZ ((k0 : Nat) : Int)))] := by have e9 : (((i : Nat) : Int) + 1) = (((i + 1) : Nat) : Int) := (by omega); rw [e9] at hl; exact hl
          refine lv_goto (tgt := 5) hx hb dX5_weight_35 (by decide) ?_
          exact ih5 (i + 1) _ _ _ (by omega) (by omega) hB (lv_sub hl [0, 1, 2, 3, 4] rfl)
        · refine lv_iload_n hx hb dX5_weight_22 rfl (lv_at hl 4 rfl) ?_
          refine lv_goto (tgt := 30) hx hb dX5_weight_23 (by decide) ?_
          refine z_top (b := ((k0 : Nat) : Int)) (rfl) ?_
          refine z_imul hx hb dX5_weight_30 ?_
          refine z_top (b := (((wgC k0 d (i + 1)) : Nat) : Int)) (by rw [wgC, if_pos (by omega), Int.natCast_mul]) ?_
          refine lv_istore_n (lv' := [(3, .int (iZ (((wgC k0 d (i + 1)) : Nat) : Int))), (4, .int (iZ ((i : Nat) : Int))), (0, .int (iZ ((n : Nat) : Int))), (1, .int (iZ ((d : Nat) : Int))), (2, .int (iZ ((k0 : Nat) : Int)))]) hx hb dX5_weight_31 rfl hl (by decide) rfl (fun ls hl => ?_)
          refine z_iinc (k := 1) (lv' := [(4, .int (iZ (((i : Nat) : Int) + 1))), (3, .int (iZ (((wgC k0 d (i + 1)) : Nat) : Int))), (0, .int (iZ ((n : Nat) : Int))), (1, .int (iZ ((d : Nat) : Int))), (2, .int (iZ ((k0 : Nat) : Int)))]) hx hb dX5_weight_32 hl rfl (by decide) rfl (fun ls hl => ?_)
          have hl : lv_has ls 5 [(4, .int (iZ (((i + 1) : Nat) : Int))), (3, .int (iZ (((wgC k0 d (i + 1)) : Nat) : Int))), (0, .int (iZ ((n : Nat) : Int))), (1, .int (iZ ((d : Nat) : Int))), (2, .int (iZ ((k0 : Nat) : Int)))] := by have e9 : (((i : Nat) : Int) + 1) = (((i + 1) : Nat) : Int) := (by omega); rw [e9] at hl; exact hl
          refine lv_goto (tgt := 5) hx hb dX5_weight_35 (by decide) ?_
          exact ih5 (i + 1) _ _ _ (by omega) (by omega) hB (lv_sub hl [0, 1, 2, 3, 4] rfl)
  exact loop5 _ 0 _ _ _ (Nat.lt_succ_self _) (by omega) hB (lv_sub hl [0, 1, 2, 3, 4] rfl)
set_option maxHeartbeats 4000000 in
set_option maxRecDepth 100000 in
theorem mX5_commonDivisor (l : Launch) (θ : gT) (hθ : gOK θ) (σ : gS) (z : gZ) (a b : Nat) (ha : a < 2147483648) (hb0 : b < 2147483648) : GI l θ yX5_commonDivisor cX5_commonDivisor 6 (some .int) 0 0 [.int (iZ ((a : Nat) : Int)), .int (iZ ((b : Nat) : Int))] σ z (fun q σ' z' => (q = ((Nat.gcd a b : Nat) : Int)) ∧ σ' = σ ∧ z' = z) := by
  refine g_enter (ret := (some .int)) (by decide +kernel) (Nat.le_of_ble_eq_true rfl) ?_
  intro p e s m args below meth c ls F hB hl
  obtain ⟨hx, hb, hr, hml, hown, hts, hlk, hK, hst⟩ := F
  have hR := hB.1.2
  have hl : lv_has ls 6 [(0, .int (iZ ((a : Nat) : Int))), (1, .int (iZ ((b : Nat) : Int)))] := hl
  refine lv_iload_n hx hb dX5_commonDivisor_0 rfl (lv_at hl 0 rfl) ?_
  refine lv_istore_n (lv' := [(2, .int (iZ ((a : Nat) : Int))), (0, .int (iZ ((a : Nat) : Int))), (1, .int (iZ ((b : Nat) : Int)))]) hx hb dX5_commonDivisor_1 rfl hl (by decide) rfl (fun ls hl => ?_)
  refine lv_iload_n hx hb dX5_commonDivisor_2 rfl (lv_at hl 2 rfl) ?_
  refine lv_istore_n (lv' := [(3, .int (iZ ((b : Nat) : Int))), (2, .int (iZ ((a : Nat) : Int))), (0, .int (iZ ((a : Nat) : Int))), (1, .int (iZ ((b : Nat) : Int)))]) hx hb dX5_commonDivisor_3 rfl hl (by decide) rfl (fun ls hl => ?_)
  refine lv_iconst (v := iZ 0) hx hb dX5_commonDivisor_4 rfl ?_
  refine lv_istore (lv' := [(4, .int (iZ 0)), (3, .int (iZ ((b : Nat) : Int))), (2, .int (iZ ((a : Nat) : Int))), (0, .int (iZ ((a : Nat) : Int))), (1, .int (iZ ((b : Nat) : Int)))]) hx hb dX5_commonDivisor_5 hl (by decide) rfl (fun ls hl => ?_)
  have loop7 : ∀ (n7 : Nat) (i : Nat) (u : Nat) (v : Nat) (H : Heap) (locs : List Loc) (ls : Array Slot), 64 - i < n7 → (i ≤ 64) → (u = (gdP i (a, b)).1) → (v = (gdP i (a, b)).2) →  gB θ σ z s.heap H locs → lv_has ls 6 [(4, .int (iZ ((i : Nat) : Int))), (3, .int (iZ ((v : Nat) : Int))), (2, .int (iZ ((u : Nat) : Int))), (0, .int (iZ ((a : Nat) : Int))), (1, .int (iZ ((b : Nat) : Int)))] → W p l e (gRm 0 0) s m args below meth c H locs 0 0 (MQ below (gQi θ (fun q σ' z' => (q = ((Nat.gcd a b : Nat) : Int)) ∧ σ' = σ ∧ z' = z)) args s 0 0 (tA θ)) (F0 m 7 ls []) := by
    intro n7
    induction n7 with
    | zero => intro i u v H locs ls hmu; exact absurd hmu (Nat.not_lt_zero _)
    | succ n7 ih7 =>
      intro i u v H locs ls hmu hi hu hv hB hl
      have hR := hB.1.2
      have hlt := gdP_lt (a, b) ⟨ha, hb0⟩ i
      rw [← hu, ← hv] at hlt
      refine lv_iload hx hb dX5_commonDivisor_7 (lv_at hl 0 rfl) ?_
      refine lv_bipush (v := iZ 64) hx hb dX5_commonDivisor_9 (by decide) ?_
      refine z_icmp_ge (tgt := 34) hx hb dX5_commonDivisor_11 (by decide) ⟨by omega, by omega⟩ ⟨by decide, by decide⟩ (fun c_1 => ?_) (fun c_1 => ?_)
      · refine lv_iload_n hx hb dX5_commonDivisor_34 rfl (lv_at hl 2 rfl) ?_
        exact g_iret hx hb hr hlk hB dX5_commonDivisor_35 ⟨by omega, by omega⟩ (⟨by rw [hu, gdP_end hi (Or.inr (by omega)) hb0], rfl, rfl⟩)
      · refine lv_iload_n hx hb dX5_commonDivisor_14 rfl (lv_at hl 1 rfl) ?_
        refine z_if_eq (tgt := 34) hx hb dX5_commonDivisor_15 (by decide) ⟨by omega, by omega⟩ (fun c_2 => ?_) (fun c_2 => ?_)
        · refine lv_iload_n hx hb dX5_commonDivisor_34 rfl (lv_at hl 2 rfl) ?_
          exact g_iret hx hb hr hlk hB dX5_commonDivisor_35 ⟨by omega, by omega⟩ (⟨by rw [hu, gdP_end hi (Or.inl (by rw [← hv]; omega)) hb0], rfl, rfl⟩)
        · refine lv_iload_n hx hb dX5_commonDivisor_18 rfl (lv_at hl 2 rfl) ?_
          refine lv_iload_n hx hb dX5_commonDivisor_19 rfl (lv_at hl 1 rfl) ?_
          refine z_irem hx hb dX5_commonDivisor_20 ⟨by omega, by omega⟩ (by omega) ⟨by omega, by omega⟩ (by omega) ?_
          refine z_top (b := (((u % v) : Nat) : Int)) (by rw [Int.natCast_emod]) ?_
          refine lv_istore (lv' := [(5, .int (iZ (((u % v) : Nat) : Int))), (4, .int (iZ ((i : Nat) : Int))), (3, .int (iZ ((v : Nat) : Int))), (2, .int (iZ ((u : Nat) : Int))), (0, .int (iZ ((a : Nat) : Int))), (1, .int (iZ ((b : Nat) : Int)))]) hx hb dX5_commonDivisor_21 hl (by decide) rfl (fun ls hl => ?_)
          refine lv_iload_n hx hb dX5_commonDivisor_23 rfl (lv_at hl 2 rfl) ?_
          refine lv_istore_n (lv' := [(2, .int (iZ ((v : Nat) : Int))), (5, .int (iZ (((u % v) : Nat) : Int))), (4, .int (iZ ((i : Nat) : Int))), (3, .int (iZ ((v : Nat) : Int))), (0, .int (iZ ((a : Nat) : Int))), (1, .int (iZ ((b : Nat) : Int)))]) hx hb dX5_commonDivisor_24 rfl hl (by decide) rfl (fun ls hl => ?_)
          refine lv_iload hx hb dX5_commonDivisor_25 (lv_at hl 1 rfl) ?_
          refine lv_istore_n (lv' := [(3, .int (iZ (((u % v) : Nat) : Int))), (2, .int (iZ ((v : Nat) : Int))), (5, .int (iZ (((u % v) : Nat) : Int))), (4, .int (iZ ((i : Nat) : Int))), (0, .int (iZ ((a : Nat) : Int))), (1, .int (iZ ((b : Nat) : Int)))]) hx hb dX5_commonDivisor_27 rfl hl (by decide) rfl (fun ls hl => ?_)
          refine z_iinc (k := 3) (lv' := [(4, .int (iZ (((i : Nat) : Int) + 1))), (3, .int (iZ (((u % v) : Nat) : Int))), (2, .int (iZ ((v : Nat) : Int))), (5, .int (iZ (((u % v) : Nat) : Int))), (0, .int (iZ ((a : Nat) : Int))), (1, .int (iZ ((b : Nat) : Int)))]) hx hb dX5_commonDivisor_28 hl rfl (by decide) rfl (fun ls hl => ?_)
          have hl : lv_has ls 6 [(4, .int (iZ (((i + 1) : Nat) : Int))), (3, .int (iZ (((u % v) : Nat) : Int))), (2, .int (iZ ((v : Nat) : Int))), (5, .int (iZ (((u % v) : Nat) : Int))), (0, .int (iZ ((a : Nat) : Int))), (1, .int (iZ ((b : Nat) : Int)))] := by have e9 : (((i : Nat) : Int) + 1) = (((i + 1) : Nat) : Int) := (by omega); rw [e9] at hl; exact hl
          refine lv_goto (tgt := 7) hx hb dX5_commonDivisor_31 (by decide) ?_
          exact ih7 (i + 1) v (u % v) _ _ _ (by omega) (by omega) (by rw [gdP, if_neg (by rw [← hv]; omega)]; exact hv) (by rw [gdP, if_neg (by rw [← hv]; omega)]; show u % v = _; rw [hu, hv]) hB (lv_sub hl [0, 1, 2, 4, 5] rfl)
  exact loop7 _ 0 a b _ _ _ (Nat.lt_succ_self _) (by omega) rfl rfl hB (lv_sub hl [0, 1, 2, 3, 4] rfl)
set_option maxHeartbeats 4000000 in
set_option maxRecDepth 100000 in
theorem mX5_power (l : Launch) (θ : gT) (hθ : gOK θ) (σ : gS) (z : gZ) (B n : Nat) (hn : n ≤ 6) : GL l θ yX5_power cX5_power 6 0 0 [.long (lZ ((B : Nat) : Int)), .int (iZ ((n : Nat) : Int))] σ z (fun q σ' z' => (q = lZ ((B ^ n : Nat) : Int)) ∧ σ' = σ ∧ z' = z) := by
  refine g_enter (ret := (some .long)) (by decide +kernel) (Nat.le_of_ble_eq_true rfl) ?_
  intro p e s m args below meth c ls F hB hl
  obtain ⟨hx, hb, hr, hml, hown, hts, hlk, hK, hst⟩ := F
  have hR := hB.1.2
  have hl : lv_has ls 6 [(0, .long (lZ ((B : Nat) : Int))), (2, .int (iZ ((n : Nat) : Int)))] := hl
  refine lv_lconst (v := lZ 1) hx hb dX5_power_0 (by decide) ?_
  refine z_topl (b := ((B ^ 0 : Nat) : Int)) (rfl) ?_
  refine lv_lstore_n (lv' := [(3, .long (lZ ((B ^ 0 : Nat) : Int))), (0, .long (lZ ((B : Nat) : Int))), (2, .int (iZ ((n : Nat) : Int)))]) hx hb dX5_power_1 rfl hl (by decide) rfl (fun ls hl => ?_)
  refine lv_iconst (v := iZ 0) hx hb dX5_power_2 rfl ?_
  refine lv_istore (lv' := [(5, .int (iZ 0)), (3, .long (lZ ((B ^ 0 : Nat) : Int))), (0, .long (lZ ((B : Nat) : Int))), (2, .int (iZ ((n : Nat) : Int)))]) hx hb dX5_power_3 hl (by decide) rfl (fun ls hl => ?_)
  have loop5 : ∀ (n5 : Nat) (k : Nat) (H : Heap) (locs : List Loc) (ls : Array Slot), n - k < n5 → (k ≤ n) →  gB θ σ z s.heap H locs → lv_has ls 6 [(5, .int (iZ ((k : Nat) : Int))), (3, .long (lZ ((B ^ k : Nat) : Int))), (0, .long (lZ ((B : Nat) : Int))), (2, .int (iZ ((n : Nat) : Int)))] → W p l e (gRm 0 0) s m args below meth c H locs 0 0 (MQ below (gQl θ (fun q σ' z' => (q = lZ ((B ^ n : Nat) : Int)) ∧ σ' = σ ∧ z' = z)) args s 0 0 (tA θ)) (F0 m 5 ls []) := by
    intro n5
    induction n5 with
    | zero => intro k H locs ls hmu; exact absurd hmu (Nat.not_lt_zero _)
    | succ n5 ih5 =>
      intro k H locs ls hmu hk hB hl
      have hR := hB.1.2
      refine lv_iload hx hb dX5_power_5 (lv_at hl 0 rfl) ?_
      refine lv_iload_n hx hb dX5_power_7 rfl (lv_at hl 3 rfl) ?_
      refine z_icmp_ge (tgt := 21) hx hb dX5_power_8 (by decide) ⟨by omega, by omega⟩ ⟨by omega, by omega⟩ (fun c_1 => ?_) (fun c_1 => ?_)
      · refine lv_lload_n hx hb dX5_power_21 rfl (lv_at hl 1 rfl) ?_
        exact g_lret hx hb hr hlk hB dX5_power_22 (⟨by rw [show k = n by omega], rfl, rfl⟩)
      · refine lv_lload_n hx hb dX5_power_11 rfl (lv_at hl 1 rfl) ?_
        refine lv_lload_n hx hb dX5_power_12 rfl (lv_at hl 2 rfl) ?_
        refine z_lmul hx hb dX5_power_13 ?_
        refine z_topl (b := ((B ^ (k + 1) : Nat) : Int)) (by rw [Nat.pow_succ, Int.natCast_mul]) ?_
        refine lv_lstore_n (lv' := [(3, .long (lZ ((B ^ (k + 1) : Nat) : Int))), (5, .int (iZ ((k : Nat) : Int))), (0, .long (lZ ((B : Nat) : Int))), (2, .int (iZ ((n : Nat) : Int)))]) hx hb dX5_power_14 rfl hl (by decide) rfl (fun ls hl => ?_)
        refine z_iinc (k := 1) (lv' := [(5, .int (iZ (((k : Nat) : Int) + 1))), (3, .long (lZ ((B ^ (k + 1) : Nat) : Int))), (0, .long (lZ ((B : Nat) : Int))), (2, .int (iZ ((n : Nat) : Int)))]) hx hb dX5_power_15 hl rfl (by decide) rfl (fun ls hl => ?_)
        have hl : lv_has ls 6 [(5, .int (iZ (((k + 1) : Nat) : Int))), (3, .long (lZ ((B ^ (k + 1) : Nat) : Int))), (0, .long (lZ ((B : Nat) : Int))), (2, .int (iZ ((n : Nat) : Int)))] := by have e9 : (((k : Nat) : Int) + 1) = (((k + 1) : Nat) : Int) := (by omega); rw [e9] at hl; exact hl
        refine lv_goto (tgt := 5) hx hb dX5_power_18 (by decide) ?_
        exact ih5 (k + 1) _ _ _ (by omega) (by omega) hB (lv_sub hl [0, 1, 2, 3] rfl)
  exact loop5 _ 0 _ _ _ (Nat.lt_succ_self _) (by omega) hB (lv_sub hl [0, 1, 2, 3] rfl)
set_option maxHeartbeats 4000000 in
set_option maxRecDepth 100000 in
theorem mX5_odds (l : Launch) (θ : gT) (hθ : gOK θ) (σ : gS) (z : gZ) (N : Nat) (T : Nat → Nat) (h00 : σ 3 0 = (N : Int)) (hN8 : N ≤ 8) (hb9 : bC (fp σ 3)) (hTT : (σ 13 0 = -9 ∧ σ 13 1 = 0 ∧ σ 13 2 = -9) → ∀ j, j < N → σ 19 j = ((T j : Nat) : Int) ∧ (T j < 8 ∧ T j < N)) (x9 y n k h : Int) (hxr : rg x9) (hyr : rg y) (hnr : rg n) (hkr : rg k) (hh : 0 ≤ h ∧ h ≤ 1) : GI l θ yX5_odds cX5_odds 9 (some .int) 5 119 [.ref (tad θ 0), .int (iZ x9), .int (iZ y), .int (iZ n), .int (iZ k), .int (iZ h)] σ z (fun q σ' z' => ((¬ (0 ≤ x9 ∧ x9 < σ 3 0) ∧ q = -1) ∨ ∃ s0 : Nat, x9 = (s0 : Int) ∧ (s0 : Int) < σ 3 0 ∧ ((¬ ((0 ≤ y ∧ y ≤ 6) ∧ (1 ≤ n ∧ n ≤ 6) ∧ (0 ≤ k ∧ k ≤ 10)) ∧ q = -2) ∨ (((0 ≤ y ∧ y ≤ 6) ∧ (1 ≤ n ∧ n ≤ 6) ∧ (0 ≤ k ∧ k ≤ 10)) ∧ ¬ (σ 13 0 = -9 ∧ σ 13 1 = 0 ∧ σ 13 2 = -9) ∧ q = -3) ∨ (((0 ≤ y ∧ y ≤ 6) ∧ (1 ≤ n ∧ n ≤ 6) ∧ (0 ≤ k ∧ k ≤ 10)) ∧ (σ 13 0 = -9 ∧ σ 13 1 = 0 ∧ σ 13 2 = -9) ∧ ∃ y0 n0 k0 : Nat, y = (y0 : Int) ∧ n = (n0 : Int) ∧ k = (k0 : Int) ∧ odQ (odS (fun d => tcN (wkI (fp σ 3) T (σ 16) N (bitI d)) s0 n0) y0 k0 n0 (2 ^ n0)) (10 ^ n0) h q))) ∧ fr (wF 8) σ σ' ∧ z' = z) := by
  refine g_enter (ret := (some .int)) (by decide +kernel) (Nat.le_of_ble_eq_true rfl) ?_
  intro p e s m args below meth c ls F hB hl
  obtain ⟨hx, hb, hr, hml, hown, hts, hlk, hK, hst⟩ := F
  have hR := hB.1.2
  have hl : lv_has ls 9 [(0, .ref (tad θ 0)), (1, .int (iZ x9)), (2, .int (iZ y)), (3, .int (iZ n)), (4, .int (iZ k)), (5, .int (iZ h))] := hl
  refine lv_aload_n hx hb dX5_odds_0 rfl (lv_at hl 0 rfl) ?_
  refine lv_iload_n hx hb dX5_odds_1 rfl (lv_at hl 1 rfl) ?_
  refine g_calli (g_runV (i := 0) (As := [.int (iZ x9)]) (rest := []) hx hb hml hown hts hK hst hB (mX5_isStream l θ hθ σ z (by omega) x9 ⟨by omega, by omega⟩) mv_X5_isStream kw_462 cf5 (by decide) rfl rfl hl.1 rfl (Nat.le_of_ble_eq_true rfl) ⟨by decide, by decide⟩ ⟨Nat.le_refl _, Nat.le_refl _⟩ dX5_odds_2) hB (fun qi σ_1 z_2 H locs hqi hpi hB => ?_)
  obtain ⟨hpi, e1_, e2_⟩ := hpi
  rw [e1_, e2_] at hB
  clear e1_ e2_
  refine z_if_ne (tgt := 10) hx hb dX5_odds_5 (by decide) ⟨by omega, by omega⟩ (fun c_3 => ?_) (fun c_3 => ?_)
  · obtain ⟨s0, hs0⟩ : ∃ s0 : Nat, x9 = (s0 : Int) := ⟨x9.toNat, by omega⟩
    have hs8 : s0 < 8 := by omega
    have hl : lv_has ls 9 [(0, .ref (tad θ 0)), (1, .int (iZ ((s0 : Nat) : Int))), (2, .int (iZ y)), (3, .int (iZ n)), (4, .int (iZ k)), (5, .int (iZ h))] := by rw [hs0] at hl; exact hl
    refine lv_iload_n hx hb dX5_odds_10 rfl (lv_at hl 2 rfl) ?_
    refine z_if_lt (tgt := 43) hx hb dX5_odds_11 (by decide) ⟨by omega, by omega⟩ (fun c_4 => ?_) (fun c_4 => ?_)
    · refine lv_bipush (v := iZ (-2)) hx hb dX5_odds_43 (by decide) ?_
      exact g_iret hx hb hr hlk hB dX5_odds_45 ⟨by decide, by decide⟩ (⟨Or.inr ⟨s0, hs0, by omega, Or.inl ⟨by omega, rfl⟩⟩, fr.rf, rfl⟩)
    · refine lv_iload_n hx hb dX5_odds_14 rfl (lv_at hl 2 rfl) ?_
      refine lv_bipush (v := iZ 6) hx hb dX5_odds_15 (by decide) ?_
      refine z_icmp_gt (tgt := 43) hx hb dX5_odds_17 (by decide) ⟨by omega, by omega⟩ ⟨by decide, by decide⟩ (fun c_5 => ?_) (fun c_5 => ?_)
      · refine lv_bipush (v := iZ (-2)) hx hb dX5_odds_43 (by decide) ?_
        exact g_iret hx hb hr hlk hB dX5_odds_45 ⟨by decide, by decide⟩ (⟨Or.inr ⟨s0, hs0, by omega, Or.inl ⟨by omega, rfl⟩⟩, fr.rf, rfl⟩)
      · refine lv_iload_n hx hb dX5_odds_20 rfl (lv_at hl 3 rfl) ?_
        refine lv_iconst (v := iZ 1) hx hb dX5_odds_21 rfl ?_
        refine z_icmp_lt (tgt := 43) hx hb dX5_odds_22 (by decide) ⟨by omega, by omega⟩ ⟨by decide, by decide⟩ (fun c_6 => ?_) (fun c_6 => ?_)
        · refine lv_bipush (v := iZ (-2)) hx hb dX5_odds_43 (by decide) ?_
          exact g_iret hx hb hr hlk hB dX5_odds_45 ⟨by decide, by decide⟩ (⟨Or.inr ⟨s0, hs0, by omega, Or.inl ⟨by omega, rfl⟩⟩, fr.rf, rfl⟩)
        · refine lv_iload_n hx hb dX5_odds_25 rfl (lv_at hl 3 rfl) ?_
          refine lv_bipush (v := iZ 6) hx hb dX5_odds_26 (by decide) ?_
          refine z_icmp_gt (tgt := 43) hx hb dX5_odds_28 (by decide) ⟨by omega, by omega⟩ ⟨by decide, by decide⟩ (fun c_7 => ?_) (fun c_7 => ?_)
          · refine lv_bipush (v := iZ (-2)) hx hb dX5_odds_43 (by decide) ?_
            exact g_iret hx hb hr hlk hB dX5_odds_45 ⟨by decide, by decide⟩ (⟨Or.inr ⟨s0, hs0, by omega, Or.inl ⟨by omega, rfl⟩⟩, fr.rf, rfl⟩)
          · refine lv_iload hx hb dX5_odds_31 (lv_at hl 4 rfl) ?_
            refine z_if_lt (tgt := 43) hx hb dX5_odds_33 (by decide) ⟨by omega, by omega⟩ (fun c_8 => ?_) (fun c_8 => ?_)
            · refine lv_bipush (v := iZ (-2)) hx hb dX5_odds_43 (by decide) ?_
              exact g_iret hx hb hr hlk hB dX5_odds_45 ⟨by decide, by decide⟩ (⟨Or.inr ⟨s0, hs0, by omega, Or.inl ⟨by omega, rfl⟩⟩, fr.rf, rfl⟩)
            · refine lv_iload hx hb dX5_odds_36 (lv_at hl 4 rfl) ?_
              refine lv_bipush (v := iZ 10) hx hb dX5_odds_38 (by decide) ?_
              refine z_icmp_le (tgt := 46) hx hb dX5_odds_40 (by decide) ⟨by omega, by omega⟩ ⟨by decide, by decide⟩ (fun c_9 => ?_) (fun c_9 => ?_)
              · obtain ⟨y0, hy0⟩ : ∃ y0 : Nat, y = (y0 : Int) := ⟨y.toNat, by omega⟩
                obtain ⟨n0, hn0⟩ : ∃ n0 : Nat, n = (n0 : Int) := ⟨n.toNat, by omega⟩
                obtain ⟨k0, hk0⟩ : ∃ k0 : Nat, k = (k0 : Int) := ⟨k.toNat, by omega⟩
                have hn6 : n0 ≤ 6 := by omega
                have hk10 : k0 ≤ 10 := by omega
                have hl : lv_has ls 9 [(0, .ref (tad θ 0)), (1, .int (iZ ((s0 : Nat) : Int))), (2, .int (iZ ((y0 : Nat) : Int))), (3, .int (iZ ((n0 : Nat) : Int))), (4, .int (iZ ((k0 : Nat) : Int))), (5, .int (iZ h))] := by rw [hy0, hn0, hk0] at hl; exact hl
                refine lv_aload_n hx hb dX5_odds_46 rfl (lv_at hl 0 rfl) ?_
                refine g_getr (k := 3) (j := 13) hx hb hts hown hK hθ hB cf5 (by decide) rfl (by decide) kw_169 rfl rfl dX5_odds_47 ?_
                refine g_calli (g_runV (i := 13) (As := []) (rest := []) hx hb hml hown hts hK hst hB (mX2_isSound l θ hθ σ z ) mv_X2_isSound kw_446 cf2 (by decide) rfl rfl hl.1 rfl (Nat.le_of_ble_eq_true rfl) ⟨by decide, by decide⟩ ⟨Nat.le_refl _, Nat.le_refl _⟩ dX5_odds_50) hB (fun qs σ_10 z_11 H locs hqs hps hB => ?_)
                obtain ⟨hps, e1_, e2_⟩ := hps
                rw [e1_, e2_] at hB
                clear e1_ e2_
                rcases hps with ⟨hqs, hsn⟩ | ⟨hqs, hsn⟩
                · subst hqs
                  have hT := hTT hsn
                  have hT8 : ∀ i, i < N → T i < 8 ∧ T i < N := fun i hi => (hT i hi).2
                  refine z_if_ne (tgt := 59) hx hb dX5_odds_53 (by decide) ⟨by decide, by decide⟩ (fun c_12 => ?_) (fun c_12 => ?_)
                  · refine lv_iconst (v := iZ 0) hx hb dX5_odds_59 rfl ?_
                    refine z_top (b := (((odS (fun d => tcN (wkI (fp σ 3) T (σ 16) N (bitI d)) s0 n0) y0 k0 n0 0) : Nat) : Int)) (rfl) ?_
                    refine lv_istore (lv' := [(6, .int (iZ (((odS (fun d => tcN (wkI (fp σ 3) T (σ 16) N (bitI d)) s0 n0) y0 k0 n0 0) : Nat) : Int))), (0, .ref (tad θ 0)), (1, .int (iZ ((s0 : Nat) : Int))), (2, .int (iZ ((y0 : Nat) : Int))), (3, .int (iZ ((n0 : Nat) : Int))), (4, .int (iZ ((k0 : Nat) : Int))), (5, .int (iZ h))]) hx hb dX5_odds_60 hl (by decide) rfl (fun ls hl => ?_)
                    refine lv_iconst (v := iZ 0) hx hb dX5_odds_62 rfl ?_
                    refine lv_istore (lv' := [(7, .int (iZ 0)), (6, .int (iZ (((odS (fun d => tcN (wkI (fp σ 3) T (σ 16) N (bitI d)) s0 n0) y0 k0 n0 0) : Nat) : Int))), (0, .ref (tad θ 0)), (1, .int (iZ ((s0 : Nat) : Int))), (2, .int (iZ ((y0 : Nat) : Int))), (3, .int (iZ ((n0 : Nat) : Int))), (4, .int (iZ ((k0 : Nat) : Int))), (5, .int (iZ h))]) hx hb dX5_odds_63 hl (by decide) rfl (fun ls hl => ?_)
                    have loop65 : ∀ (n65 : Nat) (d : Nat) (σ4 : gS) (H : Heap) (locs : List Loc) (ls : Array Slot), 2 ^ n0 - d < n65 → (d ≤ 2 ^ n0) → (fr (wF 8) σ σ4) →  gB θ σ4 z s.heap H locs → lv_has ls 9 [(7, .int (iZ ((d : Nat) : Int))), (6, .int (iZ (((odS (fun d => tcN (wkI (fp σ 3) T (σ 16) N (bitI d)) s0 n0) y0 k0 n0 d) : Nat) : Int))), (0, .ref (tad θ 0)), (1, .int (iZ ((s0 : Nat) : Int))), (2, .int (iZ ((y0 : Nat) : Int))), (3, .int (iZ ((n0 : Nat) : Int))), (4, .int (iZ ((k0 : Nat) : Int))), (5, .int (iZ h))] → W p l e (gRm 5 119) s m args below meth c H locs 0 0 (MQ below (gQi θ (fun q σ' z' => ((¬ (0 ≤ x9 ∧ x9 < σ 3 0) ∧ q = -1) ∨ ∃ s0 : Nat, x9 = (s0 : Int) ∧ (s0 : Int) < σ 3 0 ∧ ((¬ ((0 ≤ y ∧ y ≤ 6) ∧ (1 ≤ n ∧ n ≤ 6) ∧ (0 ≤ k ∧ k ≤ 10)) ∧ q = -2) ∨ (((0 ≤ y ∧ y ≤ 6) ∧ (1 ≤ n ∧ n ≤ 6) ∧ (0 ≤ k ∧ k ≤ 10)) ∧ ¬ (σ 13 0 = -9 ∧ σ 13 1 = 0 ∧ σ 13 2 = -9) ∧ q = -3) ∨ (((0 ≤ y ∧ y ≤ 6) ∧ (1 ≤ n ∧ n ≤ 6) ∧ (0 ≤ k ∧ k ≤ 10)) ∧ (σ 13 0 = -9 ∧ σ 13 1 = 0 ∧ σ 13 2 = -9) ∧ ∃ y0 n0 k0 : Nat, y = (y0 : Int) ∧ n = (n0 : Int) ∧ k = (k0 : Int) ∧ odQ (odS (fun d => tcN (wkI (fp σ 3) T (σ 16) N (bitI d)) s0 n0) y0 k0 n0 (2 ^ n0)) (10 ^ n0) h q))) ∧ fr (wF 8) σ σ' ∧ z' = z)) args s 0 0 (tA θ)) (F0 m 65 ls []) := by
                      intro n65
                      induction n65 with
                      | zero => intro d σ4 H locs ls hmu; exact absurd hmu (Nat.not_lt_zero _)
                      | succ n65 ih65 =>
                        intro d σ4 H locs ls hmu hd hf4 hB hl
                        have hR := hB.1.2
                        have hp26 := pow_n6 hn6
                        have hos := odS_le (th := (fun d => tcN (wkI (fp σ 3) T (σ 16) N (bitI d)) s0 n0)) (v := y0) hk10 hn6 d
                        have hg43 : fp σ4 3 = fp σ 3 := fp_ne hf4 isF_8 isF_3 (by decide)
                        refine lv_iload hx hb dX5_odds_65 (lv_at hl 0 rfl) ?_
                        refine lv_iconst (v := iZ 1) hx hb dX5_odds_67 rfl ?_
                        refine lv_iload_n hx hb dX5_odds_68 rfl (lv_at hl 5 rfl) ?_
                        refine z_ishl1 (j := n0) hx hb (by omega) dX5_odds_69 ?_
                        refine z_icmp_ge (tgt := 104) hx hb dX5_odds_70 (by decide) ⟨by omega, by omega⟩ ⟨by omega, by omega⟩ (fun c_13 => ?_) (fun c_13 => ?_)
                        · refine lv_ldc2 (v := lZ 10) hx hb hown (hts _ kw_626) dX5_odds_104 ?_
                          refine lv_iload_n hx hb dX5_odds_107 rfl (lv_at hl 5 rfl) ?_
                          refine g_calll (g_runS (As := [.long (lZ 10), .int (iZ ((n0 : Nat) : Int))]) (rest := []) hx hb hml hown hts hK hst hB (mX5_power l θ hθ σ4 z 10 n0 (by omega)) ms_X5_power kw_578 rfl hl.1 rfl (Nat.le_of_ble_eq_true rfl) ⟨by decide, by decide⟩ ⟨Nat.le_refl _, Nat.le_refl _⟩ dX5_odds_108) hB (fun q_16 σ_14 z_15 H locs pq_16 hB => ?_)
                          obtain ⟨pq_16, e1_, e2_⟩ := pq_16
                          rw [e1_, e2_] at hB
                          clear e1_ e2_
                          subst pq_16
                          refine z_l2i hx hb dX5_odds_111 ?_
                          have h10 := pow_10 hn6
                          have hgp := Nat.gcd_pos_of_pos_right (odS (fun d => tcN (wkI (fp σ 3) T (σ 16) N (bitI d)) s0 n0) y0 k0 n0 d) (show 0 < 10 ^ n0 by omega)
                          refine z_top (b := (((10 ^ n0) : Nat) : Int)) (rfl) ?_
                          refine lv_istore (lv' := [(7, .int (iZ (((10 ^ n0) : Nat) : Int))), (6, .int (iZ (((odS (fun d => tcN (wkI (fp σ 3) T (σ 16) N (bitI d)) s0 n0) y0 k0 n0 d) : Nat) : Int))), (0, .ref (tad θ 0)), (1, .int (iZ ((s0 : Nat) : Int))), (2, .int (iZ ((y0 : Nat) : Int))), (3, .int (iZ ((n0 : Nat) : Int))), (4, .int (iZ ((k0 : Nat) : Int))), (5, .int (iZ h))]) hx hb dX5_odds_112 hl (by decide) rfl (fun ls hl => ?_)
                          refine lv_iload hx hb dX5_odds_114 (lv_at hl 1 rfl) ?_
                          refine lv_iload hx hb dX5_odds_116 (lv_at hl 0 rfl) ?_
                          refine g_calli (g_runS (As := [.int (iZ (((odS (fun d => tcN (wkI (fp σ 3) T (σ 16) N (bitI d)) s0 n0) y0 k0 n0 d) : Nat) : Int)), .int (iZ (((10 ^ n0) : Nat) : Int))]) (rest := []) hx hb hml hown hts hK hst hB (mX5_commonDivisor l θ hθ σ4 z (odS (fun d => tcN (wkI (fp σ 3) T (σ 16) N (bitI d)) s0 n0) y0 k0 n0 d) (10 ^ n0) (by omega) (by omega)) ms_X5_commonDivisor kw_627 rfl hl.1 rfl (Nat.le_of_ble_eq_true rfl) ⟨by decide, by decide⟩ ⟨Nat.le_refl _, Nat.le_refl _⟩ dX5_odds_118) hB (fun q_19 σ_17 z_18 H locs hq_19 pq_19 hB => ?_)
                          obtain ⟨pq_19, e1_, e2_⟩ := pq_19
                          rw [e1_, e2_] at hB
                          clear e1_ e2_
                          subst pq_19
                          refine lv_istore (lv' := [(8, .int (iZ (((Nat.gcd (odS (fun d => tcN (wkI (fp σ 3) T (σ 16) N (bitI d)) s0 n0) y0 k0 n0 d) (10 ^ n0)) : Nat) : Int))), (7, .int (iZ (((10 ^ n0) : Nat) : Int))), (6, .int (iZ (((odS (fun d => tcN (wkI (fp σ 3) T (σ 16) N (bitI d)) s0 n0) y0 k0 n0 d) : Nat) : Int))), (0, .ref (tad θ 0)), (1, .int (iZ ((s0 : Nat) : Int))), (2, .int (iZ ((y0 : Nat) : Int))), (3, .int (iZ ((n0 : Nat) : Int))), (4, .int (iZ ((k0 : Nat) : Int))), (5, .int (iZ h))]) hx hb dX5_odds_121 hl (by decide) rfl (fun ls hl => ?_)
                          have hgl := Nat.gcd_le_right (odS (fun d => tcN (wkI (fp σ 3) T (σ 16) N (bitI d)) s0 n0) y0 k0 n0 d) (show 0 < 10 ^ n0 by omega)
                          refine lv_iload hx hb dX5_odds_123 (lv_at hl 0 rfl) ?_
                          refine z_if_ne (tgt := 131) hx hb dX5_odds_125 (by decide) ⟨by omega, by omega⟩ (fun c_20 => ?_) (fun c_20 => ?_)
                          · refine lv_iload hx hb dX5_odds_131 (lv_at hl 8 rfl) ?_
                            refine z_if_eq (tgt := 141) hx hb dX5_odds_133 (by decide) ⟨by omega, by omega⟩ (fun c_21 => ?_) (fun c_21 => ?_)
                            · refine lv_iload hx hb dX5_odds_141 (lv_at hl 1 rfl) ?_
                              refine lv_iload hx hb dX5_odds_143 (lv_at hl 0 rfl) ?_
                              have hd9 : d = 2 ^ n0 := by omega
                              refine z_idiv hx hb dX5_odds_145 ⟨by omega, by omega⟩ (by omega) ⟨by omega, by omega⟩ (by omega) ?_
                              refine z_top (b := ((((10 ^ n0) / Nat.gcd (odS (fun d => tcN (wkI (fp σ 3) T (σ 16) N (bitI d)) s0 n0) y0 k0 n0 d) (10 ^ n0)) : Nat) : Int)) (by rw [Int.natCast_ediv]) ?_
                              exact g_iret hx hb hr hlk hB dX5_odds_146 ⟨by have := Int.natCast_nonneg ((10 ^ n0) / Nat.gcd (odS (fun d => tcN (wkI (fp σ 3) T (σ 16) N (bitI d)) s0 n0) y0 k0 n0 d) (10 ^ n0)); omega, by have := Nat.div_le_self (10 ^ n0) (Nat.gcd (odS (fun d => tcN (wkI (fp σ 3) T (σ 16) N (bitI d)) s0 n0) y0 k0 n0 d) (10 ^ n0)); omega⟩ (⟨Or.inr ⟨s0, hs0, by omega, Or.inr (Or.inr ⟨by omega, hsn, y0, n0, k0, hy0, hn0, hk0, by rw [← hd9]; exact Or.inr ⟨by omega, rfl⟩⟩)⟩, hf4, rfl⟩)
                            · refine lv_iload hx hb dX5_odds_136 (lv_at hl 2 rfl) ?_
                              refine lv_goto (tgt := 143) hx hb dX5_odds_138 (by decide) ?_
                              refine lv_iload hx hb dX5_odds_143 (lv_at hl 0 rfl) ?_
                              have hd9 : d = 2 ^ n0 := by omega
                              refine z_idiv hx hb dX5_odds_145 ⟨by omega, by omega⟩ (by omega) ⟨by omega, by omega⟩ (by omega) ?_
                              refine z_top (b := ((((odS (fun d => tcN (wkI (fp σ 3) T (σ 16) N (bitI d)) s0 n0) y0 k0 n0 d) / Nat.gcd (odS (fun d => tcN (wkI (fp σ 3) T (σ 16) N (bitI d)) s0 n0) y0 k0 n0 d) (10 ^ n0)) : Nat) : Int)) (by rw [Int.natCast_ediv]) ?_
                              exact g_iret hx hb hr hlk hB dX5_odds_146 ⟨by have := Int.natCast_nonneg ((odS (fun d => tcN (wkI (fp σ 3) T (σ 16) N (bitI d)) s0 n0) y0 k0 n0 d) / Nat.gcd (odS (fun d => tcN (wkI (fp σ 3) T (σ 16) N (bitI d)) s0 n0) y0 k0 n0 d) (10 ^ n0)); omega, by have := Nat.div_le_self (odS (fun d => tcN (wkI (fp σ 3) T (σ 16) N (bitI d)) s0 n0) y0 k0 n0 d) (Nat.gcd (odS (fun d => tcN (wkI (fp σ 3) T (σ 16) N (bitI d)) s0 n0) y0 k0 n0 d) (10 ^ n0)); omega⟩ (⟨Or.inr ⟨s0, hs0, by omega, Or.inr (Or.inr ⟨by omega, hsn, y0, n0, k0, hy0, hn0, hk0, by rw [← hd9]; exact Or.inl ⟨by omega, rfl⟩⟩)⟩, hf4, rfl⟩)
                          · exfalso; omega
                        · refine lv_aload_n hx hb dX5_odds_73 rfl (lv_at hl 2 rfl) ?_
                          refine lv_iload_n hx hb dX5_odds_74 rfl (lv_at hl 3 rfl) ?_
                          refine lv_iload_n hx hb dX5_odds_75 rfl (lv_at hl 5 rfl) ?_
                          refine lv_iload hx hb dX5_odds_76 (lv_at hl 0 rfl) ?_
                          refine g_calli (g_runV (i := 0) (As := [.int (iZ ((s0 : Nat) : Int)), .int (iZ ((n0 : Nat) : Int)), .int (iZ ((d : Nat) : Int))]) (rest := []) hx hb hml hown hts hK hst hB (mX5_timesThere l θ hθ σ4 z N T (by rw [hf4 3 0 rfl]; exact h00) hN8 (by rw [hg43]; exact hb9) (fun j hj => by rw [hf4 19 j rfl]; exact hT j hj) s0 hs8 n0 hn6 d (by omega)) mv_X5_timesThere kw_619 cf5 (by decide) rfl rfl hl.1 rfl (Nat.le_of_ble_eq_true rfl) ⟨by decide, by decide⟩ ⟨Nat.le_refl _, Nat.le_refl _⟩ dX5_odds_78) hB (fun q5 σ5 z_22 H locs hq5 hp5 hB => ?_)
                          obtain ⟨hp5, hf5, e2_⟩ := hp5
                          rw [e2_] at hB
                          clear e2_
                          have hR := hB.1.2
                          rw [hg43, hf4.row (fun k => isF_8.sn (by omega))] at hp5
                          have htcl := tcN_le (wkI (fp σ 3) T (σ 16) N (bitI d)) s0 n0
                          rw [hp5]
                          refine lv_iload_n hx hb dX5_odds_81 rfl (lv_at hl 4 rfl) ?_
                          refine z_icmp_lt (tgt := 98) hx hb dX5_odds_82 (by decide) ⟨by omega, by omega⟩ ⟨by omega, by omega⟩ (fun c_23 => ?_) (fun c_23 => ?_)
                          · have hth : ¬ y0 ≤ (fun d => tcN (wkI (fp σ 3) T (σ 16) N (bitI d)) s0 n0) d := fun q => by have : y0 ≤ tcN (wkI (fp σ 3) T (σ 16) N (bitI d)) s0 n0 := q; omega
                            have hon : (odS (fun d => tcN (wkI (fp σ 3) T (σ 16) N (bitI d)) s0 n0) y0 k0 n0 (d + 1)) = (odS (fun d => tcN (wkI (fp σ 3) T (σ 16) N (bitI d)) s0 n0) y0 k0 n0 d) := by rw [odS, if_neg hth]; omega
                            have hl : lv_has ls 9 [(7, .int (iZ ((d : Nat) : Int))), (6, .int (iZ (((odS (fun d => tcN (wkI (fp σ 3) T (σ 16) N (bitI d)) s0 n0) y0 k0 n0 (d + 1)) : Nat) : Int))), (0, .ref (tad θ 0)), (1, .int (iZ ((s0 : Nat) : Int))), (2, .int (iZ ((y0 : Nat) : Int))), (3, .int (iZ ((n0 : Nat) : Int))), (4, .int (iZ ((k0 : Nat) : Int))), (5, .int (iZ h))] := by rw [← hon] at hl; exact hl
                            refine z_iinc (k := 0) (lv' := [(7, .int (iZ (((d : Nat) : Int) + 1))), (6, .int (iZ (((odS (fun d => tcN (wkI (fp σ 3) T (σ 16) N (bitI d)) s0 n0) y0 k0 n0 (d + 1)) : Nat) : Int))), (0, .ref (tad θ 0)), (1, .int (iZ ((s0 : Nat) : Int))), (2, .int (iZ ((y0 : Nat) : Int))), (3, .int (iZ ((n0 : Nat) : Int))), (4, .int (iZ ((k0 : Nat) : Int))), (5, .int (iZ h))]) hx hb dX5_odds_98 hl rfl (by decide) rfl (fun ls hl => ?_)
                            have hl : lv_has ls 9 [(7, .int (iZ (((d + 1) : Nat) : Int))), (6, .int (iZ (((odS (fun d => tcN (wkI (fp σ 3) T (σ 16) N (bitI d)) s0 n0) y0 k0 n0 (d + 1)) : Nat) : Int))), (0, .ref (tad θ 0)), (1, .int (iZ ((s0 : Nat) : Int))), (2, .int (iZ ((y0 : Nat) : Int))), (3, .int (iZ ((n0 : Nat) : Int))), (4, .int (iZ ((k0 : Nat) : Int))), (5, .int (iZ h))] := by have e9 : (((d : Nat) : Int) + 1) = (((d + 1) : Nat) : Int) := (by omega); rw [e9] at hl; exact hl
                            refine lv_goto (tgt := 65) hx hb dX5_odds_101 (by decide) ?_
                            exact ih65 (d + 1) σ5 _ _ _ (by omega) (by omega) (hf4.tr hf5) hB (lv_sub hl [0, 1, 2, 3, 4, 5, 6, 7] rfl)
                          · have hth : y0 ≤ (fun d => tcN (wkI (fp σ 3) T (σ 16) N (bitI d)) s0 n0) d := (show y0 ≤ tcN (wkI (fp σ 3) T (σ 16) N (bitI d)) s0 n0 by omega)
                            refine lv_iload hx hb dX5_odds_85 (lv_at hl 1 rfl) ?_
                            refine lv_iload_n hx hb dX5_odds_87 rfl (lv_at hl 5 rfl) ?_
                            refine lv_iload hx hb dX5_odds_88 (lv_at hl 0 rfl) ?_
                            refine lv_iload hx hb dX5_odds_90 (lv_at hl 6 rfl) ?_
                            refine g_calli (g_runS (As := [.int (iZ ((n0 : Nat) : Int)), .int (iZ ((d : Nat) : Int)), .int (iZ ((k0 : Nat) : Int))]) (rest := [.int (iZ (((odS (fun d => tcN (wkI (fp σ 3) T (σ 16) N (bitI d)) s0 n0) y0 k0 n0 d) : Nat) : Int))]) hx hb hml hown hts hK hst hB (mX5_weight l θ hθ σ5 z n0 d k0 (by omega) (by omega) (by omega)) ms_X5_weight kw_623 rfl hl.1 rfl (Nat.le_of_ble_eq_true rfl) ⟨by decide, by decide⟩ ⟨Nat.le_refl _, Nat.le_refl _⟩ dX5_odds_92) hB (fun q_26 σ_24 z_25 H locs hq_26 pq_26 hB => ?_)
                            obtain ⟨pq_26, e1_, e2_⟩ := pq_26
                            rw [e1_, e2_] at hB
                            clear e1_ e2_
                            subst pq_26
                            refine z_iadd hx hb dX5_odds_95 ?_
                            refine z_top (b := (((odS (fun d => tcN (wkI (fp σ 3) T (σ 16) N (bitI d)) s0 n0) y0 k0 n0 (d + 1)) : Nat) : Int)) (by rw [odS, if_pos hth, wgC_odW]; omega) ?_
                            refine lv_istore (lv' := [(6, .int (iZ (((odS (fun d => tcN (wkI (fp σ 3) T (σ 16) N (bitI d)) s0 n0) y0 k0 n0 (d + 1)) : Nat) : Int))), (7, .int (iZ ((d : Nat) : Int))), (0, .ref (tad θ 0)), (1, .int (iZ ((s0 : Nat) : Int))), (2, .int (iZ ((y0 : Nat) : Int))), (3, .int (iZ ((n0 : Nat) : Int))), (4, .int (iZ ((k0 : Nat) : Int))), (5, .int (iZ h))]) hx hb dX5_odds_96 hl (by decide) rfl (fun ls hl => ?_)
                            refine z_iinc (k := 1) (lv' := [(7, .int (iZ (((d : Nat) : Int) + 1))), (6, .int (iZ (((odS (fun d => tcN (wkI (fp σ 3) T (σ 16) N (bitI d)) s0 n0) y0 k0 n0 (d + 1)) : Nat) : Int))), (0, .ref (tad θ 0)), (1, .int (iZ ((s0 : Nat) : Int))), (2, .int (iZ ((y0 : Nat) : Int))), (3, .int (iZ ((n0 : Nat) : Int))), (4, .int (iZ ((k0 : Nat) : Int))), (5, .int (iZ h))]) hx hb dX5_odds_98 hl rfl (by decide) rfl (fun ls hl => ?_)
                            have hl : lv_has ls 9 [(7, .int (iZ (((d + 1) : Nat) : Int))), (6, .int (iZ (((odS (fun d => tcN (wkI (fp σ 3) T (σ 16) N (bitI d)) s0 n0) y0 k0 n0 (d + 1)) : Nat) : Int))), (0, .ref (tad θ 0)), (1, .int (iZ ((s0 : Nat) : Int))), (2, .int (iZ ((y0 : Nat) : Int))), (3, .int (iZ ((n0 : Nat) : Int))), (4, .int (iZ ((k0 : Nat) : Int))), (5, .int (iZ h))] := by have e9 : (((d : Nat) : Int) + 1) = (((d + 1) : Nat) : Int) := (by omega); rw [e9] at hl; exact hl
                            refine lv_goto (tgt := 65) hx hb dX5_odds_101 (by decide) ?_
                            exact ih65 (d + 1) σ5 _ _ _ (by omega) (by omega) (hf4.tr hf5) hB (lv_sub hl [0, 1, 2, 3, 4, 5, 6, 7] rfl)
                    exact loop65 _ 0 σ _ _ _ (Nat.lt_succ_self _) (Nat.zero_le _) fr.rf hB (lv_sub hl [0, 1, 2, 3, 4, 5, 6, 7] rfl)
                  · exact absurd c_12 (by decide)
                · subst hqs
                  refine z_if_ne (tgt := 59) hx hb dX5_odds_53 (by decide) ⟨by decide, by decide⟩ (fun c_27 => ?_) (fun c_27 => ?_)
                  · exact absurd (by decide) c_27
                  · refine lv_bipush (v := iZ (-3)) hx hb dX5_odds_56 (by decide) ?_
                    exact g_iret hx hb hr hlk hB dX5_odds_58 ⟨by decide, by decide⟩ (⟨Or.inr ⟨s0, hs0, by omega, Or.inr (Or.inl ⟨by omega, hsn, rfl⟩)⟩, fr.rf, rfl⟩)
              · refine lv_bipush (v := iZ (-2)) hx hb dX5_odds_43 (by decide) ?_
                exact g_iret hx hb hr hlk hB dX5_odds_45 ⟨by decide, by decide⟩ (⟨Or.inr ⟨s0, hs0, by omega, Or.inl ⟨by omega, rfl⟩⟩, fr.rf, rfl⟩)
  · refine lv_iconst (v := iZ (-1)) hx hb dX5_odds_8 rfl ?_
    exact g_iret hx hb hr hlk hB dX5_odds_9 ⟨by decide, by decide⟩ (⟨Or.inl ⟨by omega, rfl⟩, fr.rf, rfl⟩)
