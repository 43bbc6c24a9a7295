set_option maxHeartbeats 4000000 in
set_option maxRecDepth 100000 in
theorem mX6_power (l : Launch) (θ : gT) (hθ : gOK θ) (σ : gS) (z : gZ) (a n : Nat) (ha : a ≤ 10) (hn : n ≤ 6) : GI l θ yX6_power cX6_power 4 (some .int) 0 0 [.int (iZ ((a : Nat) : Int)), .int (iZ ((n : Nat) : Int))] σ z (fun q σ' z' => (q = ((a ^ n : Nat) : Int)) ∧ σ' = σ ∧ z' = z) := by
  refine g_enter (ret := (some .int)) (by decide +kernel) (Nat.le_of_ble_eq_true rfl) ?_
  intro p e s m args below meth c ls F hB hl
  obtain ⟨hx, hb, hr, hml, hown, hts, hlk, hK, hst⟩ := F
  have hR := hB.1.2
  have hl : lv_has ls 4 [(0, .int (iZ ((a : Nat) : Int))), (1, .int (iZ ((n : Nat) : Int)))] := hl
  refine lv_iconst (v := iZ 1) hx hb dX6_power_0 rfl ?_
  refine z_top (b := (((a ^ 0) : Nat) : Int)) (rfl) ?_
  refine lv_istore_n (lv' := [(2, .int (iZ (((a ^ 0) : Nat) : Int))), (0, .int (iZ ((a : Nat) : Int))), (1, .int (iZ ((n : Nat) : Int)))]) hx hb dX6_power_1 rfl hl (by decide) rfl (fun ls hl => ?_)
  refine lv_iconst (v := iZ 0) hx hb dX6_power_2 rfl ?_
  refine lv_istore_n (lv' := [(3, .int (iZ 0)), (2, .int (iZ (((a ^ 0) : Nat) : Int))), (0, .int (iZ ((a : Nat) : Int))), (1, .int (iZ ((n : Nat) : Int)))]) hx hb dX6_power_3 rfl hl (by decide) rfl (fun ls hl => ?_)
  have loop4 : ∀ (n4 : Nat) (k : Nat) (H : Heap) (locs : List Loc) (ls : Array Slot), n - k < n4 → (k ≤ n) →  gB θ σ z s.heap H locs → lv_has ls 4 [(3, .int (iZ ((k : Nat) : Int))), (2, .int (iZ (((a ^ k) : Nat) : Int))), (0, .int (iZ ((a : Nat) : Int))), (1, .int (iZ ((n : Nat) : Int)))] → W p l e (gRm 0 0) s m args below meth c H locs 0 0 (MQ below (gQi θ (fun q σ' z' => (q = ((a ^ n : Nat) : Int)) ∧ σ' = σ ∧ z' = z)) args s 0 0 (tA θ)) (F0 m 4 ls []) := by
    intro n4
    induction n4 with
    | zero => intro k H locs ls hmu; exact absurd hmu (Nat.not_lt_zero _)
    | succ n4 ih4 =>
      intro k H locs ls hmu hk hB hl
      have hR := hB.1.2
      have hpw := pow_6 ha (show k ≤ 6 by omega)
      refine lv_iload_n hx hb dX6_power_4 rfl (lv_at hl 0 rfl) ?_
      refine lv_iload_n hx hb dX6_power_5 rfl (lv_at hl 3 rfl) ?_
      refine z_icmp_ge (tgt := 19) hx hb dX6_power_6 (by decide) ⟨by omega, by omega⟩ ⟨by omega, by omega⟩ (fun c_1 => ?_) (fun c_1 => ?_)
      · refine lv_iload_n hx hb dX6_power_19 rfl (lv_at hl 1 rfl) ?_
        exact g_iret hx hb hr hlk hB dX6_power_20 ⟨by omega, by omega⟩ (⟨by rw [show k = n by omega], rfl, rfl⟩)
      · refine lv_iload_n hx hb dX6_power_9 rfl (lv_at hl 1 rfl) ?_
        refine lv_iload_n hx hb dX6_power_10 rfl (lv_at hl 2 rfl) ?_
        refine z_imul hx hb dX6_power_11 ?_
        refine z_top (b := (((a ^ (k + 1)) : Nat) : Int)) (by rw [Nat.pow_succ, Int.natCast_mul]) ?_
        refine lv_istore_n (lv' := [(2, .int (iZ (((a ^ (k + 1)) : Nat) : Int))), (3, .int (iZ ((k : Nat) : Int))), (0, .int (iZ ((a : Nat) : Int))), (1, .int (iZ ((n : Nat) : Int)))]) hx hb dX6_power_12 rfl hl (by decide) rfl (fun ls hl => ?_)
        refine z_iinc (k := 1) (lv' := [(3, .int (iZ (((k : Nat) : Int) + 1))), (2, .int (iZ (((a ^ (k + 1)) : Nat) : Int))), (0, .int (iZ ((a : Nat) : Int))), (1, .int (iZ ((n : Nat) : Int)))]) hx hb dX6_power_13 hl rfl (by decide) rfl (fun ls hl => ?_)
        have hl : lv_has ls 4 [(3, .int (iZ (((k + 1) : Nat) : Int))), (2, .int (iZ (((a ^ (k + 1)) : Nat) : Int))), (0, .int (iZ ((a : Nat) : Int))), (1, .int (iZ ((n : Nat) : Int)))] := by have e9 : (((k : Nat) : Int) + 1) = (((k + 1) : Nat) : Int) := (by omega); rw [e9] at hl; exact hl
        refine lv_goto (tgt := 4) hx hb dX6_power_16 (by decide) ?_
        exact ih4 (k + 1) _ _ _ (by omega) (by omega) hB (lv_sub hl [0, 1, 2, 3] rfl)
  exact loop4 _ 0 _ _ _ (Nat.lt_succ_self _) (by omega) hB (lv_sub hl [0, 1, 2, 3] rfl)
set_option maxHeartbeats 4000000 in
set_option maxRecDepth 100000 in
theorem mX6_divisor (l : Launch) (θ : gT) (hθ : gOK θ) (σ : gS) (z : gZ) (a b : Nat) (ha : a < 2147483648) (hb0 : b < 2147483648) : GI l θ yX6_divisor cX6_divisor 5 (some .int) 0 0 [.int (iZ ((a : Nat) : Int)), .int (iZ ((b : Nat) : Int))] σ z (fun q σ' z' => (q = ((Nat.gcd a b : Nat) : Int)) ∧ σ' = σ ∧ z' = z) := by
  refine g_enter (ret := (some .int)) (by decide +kernel) (Nat.le_of_ble_eq_true rfl) ?_
  intro p e s m args below meth c ls F hB hl
  obtain ⟨hx, hb, hr, hml, hown, hts, hlk, hK, hst⟩ := F
  have hR := hB.1.2
  have hl : lv_has ls 5 [(0, .int (iZ ((a : Nat) : Int))), (1, .int (iZ ((b : Nat) : Int)))] := hl
  refine lv_iload_n hx hb dX6_divisor_0 rfl (lv_at hl 0 rfl) ?_
  refine lv_istore_n (lv' := [(2, .int (iZ ((a : Nat) : Int))), (0, .int (iZ ((a : Nat) : Int))), (1, .int (iZ ((b : Nat) : Int)))]) hx hb dX6_divisor_1 rfl hl (by decide) rfl (fun ls hl => ?_)
  refine lv_iload_n hx hb dX6_divisor_2 rfl (lv_at hl 2 rfl) ?_
  refine lv_istore_n (lv' := [(3, .int (iZ ((b : Nat) : Int))), (2, .int (iZ ((a : Nat) : Int))), (0, .int (iZ ((a : Nat) : Int))), (1, .int (iZ ((b : Nat) : Int)))]) hx hb dX6_divisor_3 rfl hl (by decide) rfl (fun ls hl => ?_)
  have loop4 : ∀ (n4 : Nat) (u : Nat) (v : Nat) (H : Heap) (locs : List Loc) (ls : Array Slot), v < n4 → (u < 2147483648) → (v < 2147483648) → (Nat.gcd u v = Nat.gcd a b) →  gB θ σ z s.heap H locs → lv_has ls 5 [(3, .int (iZ ((v : Nat) : Int))), (2, .int (iZ ((u : Nat) : Int))), (0, .int (iZ ((a : Nat) : Int))), (1, .int (iZ ((b : Nat) : Int)))] → W p l e (gRm 0 0) s m args below meth c H locs 0 0 (MQ below (gQi θ (fun q σ' z' => (q = ((Nat.gcd a b : Nat) : Int)) ∧ σ' = σ ∧ z' = z)) args s 0 0 (tA θ)) (F0 m 4 ls []) := by
    intro n4
    induction n4 with
    | zero => intro u v H locs ls hmu; exact absurd hmu (Nat.not_lt_zero _)
    | succ n4 ih4 =>
      intro u v H locs ls hmu hu hv hg hB hl
      have hR := hB.1.2
      refine lv_iload_n hx hb dX6_divisor_4 rfl (lv_at hl 0 rfl) ?_
      refine z_if_eq (tgt := 21) hx hb dX6_divisor_5 (by decide) ⟨by omega, by omega⟩ (fun c_1 => ?_) (fun c_1 => ?_)
      · refine lv_iload_n hx hb dX6_divisor_21 rfl (lv_at hl 1 rfl) ?_
        exact g_iret hx hb hr hlk hB dX6_divisor_22 ⟨by omega, by omega⟩ (⟨by rw [← hg, show v = 0 by omega, Nat.gcd_zero_right], rfl, rfl⟩)
      · refine lv_iload_n hx hb dX6_divisor_8 rfl (lv_at hl 1 rfl) ?_
        refine lv_iload_n hx hb dX6_divisor_9 rfl (lv_at hl 0 rfl) ?_
        refine z_irem hx hb dX6_divisor_10 ⟨by omega, by omega⟩ (by omega) ⟨by omega, by omega⟩ (by omega) ?_
        refine z_top (b := (((u % v) : Nat) : Int)) (by rw [Int.natCast_emod]) ?_
        refine lv_istore (lv' := [(4, .int (iZ (((u % v) : Nat) : Int))), (3, .int (iZ ((v : Nat) : Int))), (2, .int (iZ ((u : Nat) : Int))), (0, .int (iZ ((a : Nat) : Int))), (1, .int (iZ ((b : Nat) : Int)))]) hx hb dX6_divisor_11 hl (by decide) rfl (fun ls hl => ?_)
        refine lv_iload_n hx hb dX6_divisor_13 rfl (lv_at hl 1 rfl) ?_
        refine lv_istore_n (lv' := [(2, .int (iZ ((v : Nat) : Int))), (4, .int (iZ (((u % v) : Nat) : Int))), (3, .int (iZ ((v : Nat) : Int))), (0, .int (iZ ((a : Nat) : Int))), (1, .int (iZ ((b : Nat) : Int)))]) hx hb dX6_divisor_14 rfl hl (by decide) rfl (fun ls hl => ?_)
        refine lv_iload hx hb dX6_divisor_15 (lv_at hl 1 rfl) ?_
        refine lv_istore_n (lv' := [(3, .int (iZ (((u % v) : Nat) : Int))), (2, .int (iZ ((v : Nat) : Int))), (4, .int (iZ (((u % v) : Nat) : Int))), (0, .int (iZ ((a : Nat) : Int))), (1, .int (iZ ((b : Nat) : Int)))]) hx hb dX6_divisor_17 rfl hl (by decide) rfl (fun ls hl => ?_)
        refine lv_goto (tgt := 4) hx hb dX6_divisor_18 (by decide) ?_
        have hml2 := Nat.mod_lt u (show 0 < v by omega)
        exact ih4 v (u % v) _ _ _ (by omega) hv (by omega) (by rw [gcd_step]; exact hg) hB (lv_sub hl [0, 1, 3, 4] rfl)
  exact loop4 _ a b _ _ _ (Nat.lt_succ_self _) ha hb0 rfl hB (lv_sub hl [0, 1, 2, 3] rfl)
set_option maxHeartbeats 4000000 in
set_option maxRecDepth 100000 in
theorem mX6_fraction (l : Launch) (θ : gT) (hθ : gOK θ) (σ : gS) (z : gZ) (a b : Nat) (ha : a < 2147483648) (hb1 : 0 < b) (hb0 : b < 2147483648) (y : Int) (hy : 0 ≤ y ∧ y ≤ 1) : GI l θ yX6_fraction cX6_fraction 4 (some .int) 1 24 [.int (iZ ((a : Nat) : Int)), .int (iZ ((b : Nat) : Int)), .int (iZ y)] σ z (fun q σ' z' => (odQ a b y q) ∧ σ' = σ ∧ z' = z) := by
  refine g_enter (ret := (some .int)) (by decide +kernel) (Nat.le_of_ble_eq_true rfl) ?_
  intro p e s m args below meth c ls F hB hl
  obtain ⟨hx, hb, hr, hml, hown, hts, hlk, hK, hst⟩ := F
  have hR := hB.1.2
  have hl : lv_has ls 4 [(0, .int (iZ ((a : Nat) : Int))), (1, .int (iZ ((b : Nat) : Int))), (2, .int (iZ y))] := hl
  have hgp := Nat.gcd_pos_of_pos_right a hb1
  have hgl := Nat.gcd_le_right a hb1
  have ha2 := Nat.div_le_self a (Nat.gcd a b)
  have hb2 := Nat.div_le_self b (Nat.gcd a b)
  obtain ⟨A, hA⟩ : ∃ A, A = a / Nat.gcd a b := ⟨_, rfl⟩
  obtain ⟨B, hB9⟩ : ∃ B, B = b / Nat.gcd a b := ⟨_, rfl⟩
  rw [← hA] at ha2
  rw [← hB9] at hb2
  refine lv_iload_n hx hb dX6_fraction_0 rfl (lv_at hl 0 rfl) ?_
  refine lv_iload_n hx hb dX6_fraction_1 rfl (lv_at hl 1 rfl) ?_
  refine g_calli (g_runS (As := [.int (iZ ((a : Nat) : Int)), .int (iZ ((b : Nat) : Int))]) (rest := []) hx hb hml hown hts hK hst hB (mX6_divisor l θ hθ σ z a b (by omega) (by omega)) ms_X6_divisor kw_1013 rfl hl.1 rfl (Nat.le_of_ble_eq_true rfl) ⟨by decide, by decide⟩ ⟨Nat.le_refl _, Nat.le_refl _⟩ dX6_fraction_2) hB (fun q_3 σ_1 z_2 H locs hq_3 pq_3 hB => ?_)
  obtain ⟨pq_3, e1_, e2_⟩ := pq_3
  rw [e1_, e2_] at hB
  clear e1_ e2_
  subst pq_3
  refine lv_istore_n (lv' := [(3, .int (iZ (((Nat.gcd a b) : Nat) : Int))), (0, .int (iZ ((a : Nat) : Int))), (1, .int (iZ ((b : Nat) : Int))), (2, .int (iZ y))]) hx hb dX6_fraction_5 rfl hl (by decide) rfl (fun ls hl => ?_)
  refine lv_iload_n hx hb dX6_fraction_6 rfl (lv_at hl 3 rfl) ?_
  refine z_if_eq (tgt := 16) hx hb dX6_fraction_7 (by decide) ⟨by omega, by omega⟩ (fun c_4 => ?_) (fun c_4 => ?_)
  · refine lv_iload_n hx hb dX6_fraction_16 rfl (lv_at hl 2 rfl) ?_
    refine lv_iload_n hx hb dX6_fraction_17 rfl (lv_at hl 0 rfl) ?_
    refine z_idiv hx hb dX6_fraction_18 ⟨by omega, by omega⟩ (by omega) ⟨by omega, by omega⟩ (by omega) ?_
    refine z_top (b := ((B : Nat) : Int)) (by rw [hB9, Int.natCast_ediv]) ?_
    exact g_iret hx hb hr hlk hB dX6_fraction_19 ⟨by omega, by omega⟩ (⟨Or.inr ⟨by omega, by rw [hB9]⟩, rfl, rfl⟩)
  · refine lv_iload_n hx hb dX6_fraction_10 rfl (lv_at hl 1 rfl) ?_
    refine lv_iload_n hx hb dX6_fraction_11 rfl (lv_at hl 0 rfl) ?_
    refine z_idiv hx hb dX6_fraction_12 ⟨by omega, by omega⟩ (by omega) ⟨by omega, by omega⟩ (by omega) ?_
    refine z_top (b := ((A : Nat) : Int)) (by rw [hA, Int.natCast_ediv]) ?_
    refine lv_goto (tgt := 19) hx hb dX6_fraction_13 (by decide) ?_
    refine z_top (b := ((A : Nat) : Int)) (rfl) ?_
    exact g_iret hx hb hr hlk hB dX6_fraction_19 ⟨by omega, by omega⟩ (⟨Or.inl ⟨by omega, by rw [hA]⟩, rfl, rfl⟩)
set_option maxHeartbeats 4000000 in
set_option maxRecDepth 100000 in
theorem mX6_timesThere (l : Launch) (θ : gT) (hθ : gOK θ) (σ : gS) (z : gZ) (w : mC) (N : Nat) (T : Nat → Nat) (hX : tCx σ w N T) (hpg : tOk (σ 114) N) (s0 : Nat) (hs : s0 < 8) (d : Nat) (hd : d < 64) (n : Nat) (hn : n ≤ 6) : GI l θ yX6_timesThere cX6_timesThere 6 (some .int) 4 100 [.ref (tad θ 111), .int (iZ ((s0 : Nat) : Int)), .int (iZ ((d : Nat) : Int)), .int (iZ ((n : Nat) : Int))] σ z (fun q σ' z' => (q = ((tcN (tkI (cpr (σ 114) (σ 115) 50) w T N (bitI d)) s0 n : Nat) : Int)) ∧ fr (wTk 115) σ σ' ∧ z' = z) := by
  refine g_enter (ret := (some .int)) (by decide +kernel) (Nat.le_of_ble_eq_true rfl) ?_
  intro p e s m args below meth c ls F hB hl
  obtain ⟨hx, hb, hr, hml, hown, hts, hlk, hK, hst⟩ := F
  have hR := hB.1.2
  have hl : lv_has ls 6 [(0, .ref (tad θ 111)), (1, .int (iZ ((s0 : Nat) : Int))), (2, .int (iZ ((d : Nat) : Int))), (3, .int (iZ ((n : Nat) : Int)))] := hl
  have hB0 : tOk (cpr (σ 114) (σ 115) 50) N := hpg.cong (fun k hk => cpr_50 _ _ hk)
  refine lv_aload_n hx hb dX6_timesThere_0 rfl (lv_at hl 0 rfl) ?_
  refine g_callv (g_runV (i := 111) (As := []) (rest := []) hx hb hml hown hts hK hst hB (mX6_begin l θ hθ σ z ) mv_X6_begin kw_934 cf6 (by decide) rfl rfl hl.1 rfl (Nat.le_of_ble_eq_true rfl) ⟨by decide, by decide⟩ ⟨Nat.le_refl _, Nat.le_refl _⟩ dX6_timesThere_1) hB (fun σ1 z_1 H locs hp1 hB => ?_)
  obtain ⟨hp1, hf1, e2_⟩ := hp1
  rw [e2_] at hB
  clear e2_
  have hR := hB.1.2
  refine lv_iconst (v := iZ 0) hx hb dX6_timesThere_4 rfl ?_
  refine z_top (b := (((tcN (tkI (cpr (σ 114) (σ 115) 50) w T N (bitI d)) s0 0) : Nat) : Int)) (rfl) ?_
  refine lv_istore (lv' := [(4, .int (iZ (((tcN (tkI (cpr (σ 114) (σ 115) 50) w T N (bitI d)) s0 0) : Nat) : Int))), (0, .ref (tad θ 111)), (1, .int (iZ ((s0 : Nat) : Int))), (2, .int (iZ ((d : Nat) : Int))), (3, .int (iZ ((n : Nat) : Int)))]) hx hb dX6_timesThere_5 hl (by decide) rfl (fun ls hl => ?_)
  refine lv_iconst (v := iZ 0) hx hb dX6_timesThere_7 rfl ?_
  refine lv_istore (lv' := [(5, .int (iZ 0)), (4, .int (iZ (((tcN (tkI (cpr (σ 114) (σ 115) 50) w T N (bitI d)) s0 0) : Nat) : Int))), (0, .ref (tad θ 111)), (1, .int (iZ ((s0 : Nat) : Int))), (2, .int (iZ ((d : Nat) : Int))), (3, .int (iZ ((n : Nat) : Int)))]) hx hb dX6_timesThere_8 hl (by decide) rfl (fun ls hl => ?_)
  have loop10 : ∀ (n10 : Nat) (t : Nat) (σ2 : gS) (H : Heap) (locs : List Loc) (ls : Array Slot), n - t < n10 → (t ≤ n) → (σ2 115 = (tkI (cpr (σ 114) (σ 115) 50) w T N (bitI d)) t) → (fr (wTk 115) σ σ2) →  gB θ σ2 z s.heap H locs → lv_has ls 6 [(5, .int (iZ ((t : Nat) : Int))), (4, .int (iZ (((tcN (tkI (cpr (σ 114) (σ 115) 50) w T N (bitI d)) s0 t) : Nat) : Int))), (0, .ref (tad θ 111)), (1, .int (iZ ((s0 : Nat) : Int))), (2, .int (iZ ((d : Nat) : Int))), (3, .int (iZ ((n : Nat) : Int)))] → W p l e (gRm 4 100) s m args below meth c H locs 0 0 (MQ below (gQi θ (fun q σ' z' => (q = ((tcN (tkI (cpr (σ 114) (σ 115) 50) w T N (bitI d)) s0 n : Nat) : Int)) ∧ fr (wTk 115) σ σ' ∧ z' = z)) args s 0 0 (tA θ)) (F0 m 10 ls []) := by
    intro n10
    induction n10 with
    | zero => intro t σ2 H locs ls hmu; exact absurd hmu (Nat.not_lt_zero _)
    | succ n10 ih10 =>
      intro t σ2 H locs ls hmu ht hg hf hB hl
      have hR := hB.1.2
      have hX2 : tCx σ2 w N T := hX.keep (hf.row (fun k => rfl)) (hf.row (fun k => rfl)) (hf.row (fun k => rfl))
      have hr2 : tOk (σ2 115) N := by rw [hg]; exact tkI_ok hB0 hX.lt t (fun i _ => bitI_in d i)
      have htc := tcN_le (tkI (cpr (σ 114) (σ 115) 50) w T N (bitI d)) s0 t
      have hbt := Nat.mod_lt (d / 2 ^ t) (show 0 < 2 by omega)
      refine lv_iload hx hb dX6_timesThere_10 (lv_at hl 0 rfl) ?_
      refine lv_iload_n hx hb dX6_timesThere_12 rfl (lv_at hl 5 rfl) ?_
      refine z_icmp_ge (tgt := 62) hx hb dX6_timesThere_13 (by decide) ⟨by omega, by omega⟩ ⟨by omega, by omega⟩ (fun c_3 => ?_) (fun c_3 => ?_)
      · refine lv_iload hx hb dX6_timesThere_62 (lv_at hl 1 rfl) ?_
        exact g_iret hx hb hr hlk hB dX6_timesThere_64 ⟨by omega, by omega⟩ (⟨by rw [show t = n by omega], hf, rfl⟩)
      · refine lv_aload_n hx hb dX6_timesThere_16 rfl (lv_at hl 2 rfl) ?_
        refine lv_aload_n hx hb dX6_timesThere_17 rfl (lv_at hl 2 rfl) ?_
        refine g_getr (k := 6) (j := 115) hx hb hts hown hK hθ hB cf6 (by decide) rfl (by decide) kw_665 rfl rfl dX6_timesThere_18 ?_
        refine lv_iload_n hx hb dX6_timesThere_21 rfl (lv_at hl 4 rfl) ?_
        refine lv_iload hx hb dX6_timesThere_22 (lv_at hl 0 rfl) ?_
        refine z_ishr (a := d) (j := t) hx hb (by omega) (by omega) dX6_timesThere_24 ?_
        refine lv_iconst (v := iZ 1) hx hb dX6_timesThere_25 rfl ?_
        refine z_iand (a := (d / 2 ^ t)) (b := 1) hx hb dX6_timesThere_26 ?_
        refine z_top (b := (((d / 2 ^ t % 2) : Nat) : Int)) (by rw [Nat.and_one_is_mod]) ?_
        refine lv_iconst (v := iZ 0) hx hb dX6_timesThere_27 rfl ?_
        refine g_calli (g_runV (i := 111) (As := [.ref (tad θ 115), .int (iZ (((d / 2 ^ t % 2) : Nat) : Int)), .int (iZ 0)]) (rest := []) hx hb hml hown hts hK hst hB (mX6_goTick l θ hθ σ2 z w (hX2).1 (hX2).2.1 115 (Or.inr rfl) (hr2).1 N (hr2).2.2 (hr2).2.1 T (hX2).2.2 ((d / 2 ^ t % 2 : Nat) : Int) 0 (by omega) (by omega)) mv_X6_goTick kw_893 cf6 (by decide) rfl rfl hl.1 rfl (Nat.le_of_ble_eq_true rfl) ⟨by decide, by decide⟩ ⟨Nat.le_refl _, Nat.le_refl _⟩ dX6_timesThere_28) hB (fun q_5 σ3 z_4 H locs hq_5 hp3 hB => ?_)
        obtain ⟨hp3, hf3, e2_⟩ := hp3
        rw [e2_] at hB
        clear e2_
        have hR := hB.1.2
        have hg3 : σ3 115 = (tkI (cpr (σ 114) (σ 115) 50) w T N (bitI d)) (t + 1) := by rw [hp3.1, hg]; rfl
        have hr3 : tOk ((tkI (cpr (σ 114) (σ 115) 50) w T N (bitI d)) (t + 1)) N := tkI_ok hB0 hX.lt (t + 1) (fun i _ => bitI_in d i)
        refine lv_pop hx hb dX6_timesThere_31 rfl ?_
        refine lv_iload hx hb dX6_timesThere_32 (lv_at hl 1 rfl) ?_
        refine lv_aload_n hx hb dX6_timesThere_34 rfl (lv_at hl 2 rfl) ?_
        refine g_getr (k := 6) (j := 115) hx hb hts hown hK hθ hB cf6 (by decide) rfl (by decide) kw_665 rfl rfl dX6_timesThere_35 ?_
        refine lv_bipush (v := iZ 41) hx hb dX6_timesThere_38 (by decide) ?_
        refine lv_iload_n hx hb dX6_timesThere_40 rfl (lv_at hl 3 rfl) ?_
        refine z_iadd hx hb dX6_timesThere_41 ?_
        refine g_iald (k := (41 + s0)) hx hb hK hB (by decide) rfl (by omega) (Nat.lt_of_lt_of_eq (by omega : (41 + s0) < 50) (Eq.symm rfl)) (by decide) dX6_timesThere_42 ?_
        refine z_top (b := ((tkI (cpr (σ 114) (σ 115) 50) w T N (bitI d)) (t + 1) (41 + s0))) (by rw [hg3]) ?_
        have hvb := (hr3.2.1 s0 hs).2
        refine lv_bipush (v := iZ (-9)) hx hb dX6_timesThere_43 (by decide) ?_
        refine z_icmp_ne (tgt := 52) hx hb dX6_timesThere_45 (by decide) ⟨by omega, by omega⟩ ⟨by decide, by decide⟩ (fun c_6 => ?_) (fun c_6 => ?_)
        · have hth := c_6
          refine lv_iconst (v := iZ 1) hx hb dX6_timesThere_52 rfl ?_
          refine z_iadd hx hb dX6_timesThere_53 ?_
          refine z_top (b := (((tcN (tkI (cpr (σ 114) (σ 115) 50) w T N (bitI d)) s0 (t + 1)) : Nat) : Int)) (by rw [tcN, if_neg hth]; omega) ?_
          refine lv_istore (lv' := [(4, .int (iZ (((tcN (tkI (cpr (σ 114) (σ 115) 50) w T N (bitI d)) s0 (t + 1)) : Nat) : Int))), (5, .int (iZ ((t : Nat) : Int))), (0, .ref (tad θ 111)), (1, .int (iZ ((s0 : Nat) : Int))), (2, .int (iZ ((d : Nat) : Int))), (3, .int (iZ ((n : Nat) : Int)))]) hx hb dX6_timesThere_54 hl (by decide) rfl (fun ls hl => ?_)
          refine z_iinc (k := 1) (lv' := [(5, .int (iZ (((t : Nat) : Int) + 1))), (4, .int (iZ (((tcN (tkI (cpr (σ 114) (σ 115) 50) w T N (bitI d)) s0 (t + 1)) : Nat) : Int))), (0, .ref (tad θ 111)), (1, .int (iZ ((s0 : Nat) : Int))), (2, .int (iZ ((d : Nat) : Int))), (3, .int (iZ ((n : Nat) : Int)))]) hx hb dX6_timesThere_56 hl rfl (by decide) rfl (fun ls hl => ?_)
          have hl : lv_has ls 6 [(5, .int (iZ (((t + 1) : Nat) : Int))), (4, .int (iZ (((tcN (tkI (cpr (σ 114) (σ 115) 50) w T N (bitI d)) s0 (t + 1)) : Nat) : Int))), (0, .ref (tad θ 111)), (1, .int (iZ ((s0 : Nat) : Int))), (2, .int (iZ ((d : Nat) : Int))), (3, .int (iZ ((n : Nat) : Int)))] := by have e9 : (((t : Nat) : Int) + 1) = (((t + 1) : Nat) : Int) := (by omega); rw [e9] at hl; exact hl
          refine lv_goto (tgt := 10) hx hb dX6_timesThere_59 (by decide) ?_
          exact ih10 (t + 1) σ3 _ _ _ (by omega) (by omega) hg3 (hf.tr hf3) hB (lv_sub hl [0, 1, 2, 3, 4, 5] rfl)
        · have hth := c_6
          refine lv_iconst (v := iZ 0) hx hb dX6_timesThere_48 rfl ?_
          refine lv_goto (tgt := 53) hx hb dX6_timesThere_49 (by decide) ?_
          refine z_iadd hx hb dX6_timesThere_53 ?_
          refine z_top (b := (((tcN (tkI (cpr (σ 114) (σ 115) 50) w T N (bitI d)) s0 (t + 1)) : Nat) : Int)) (by rw [tcN, if_pos hth]; omega) ?_
          refine lv_istore (lv' := [(4, .int (iZ (((tcN (tkI (cpr (σ 114) (σ 115) 50) w T N (bitI d)) s0 (t + 1)) : Nat) : Int))), (5, .int (iZ ((t : Nat) : Int))), (0, .ref (tad θ 111)), (1, .int (iZ ((s0 : Nat) : Int))), (2, .int (iZ ((d : Nat) : Int))), (3, .int (iZ ((n : Nat) : Int)))]) hx hb dX6_timesThere_54 hl (by decide) rfl (fun ls hl => ?_)
          refine z_iinc (k := 1) (lv' := [(5, .int (iZ (((t : Nat) : Int) + 1))), (4, .int (iZ (((tcN (tkI (cpr (σ 114) (σ 115) 50) w T N (bitI d)) s0 (t + 1)) : Nat) : Int))), (0, .ref (tad θ 111)), (1, .int (iZ ((s0 : Nat) : Int))), (2, .int (iZ ((d : Nat) : Int))), (3, .int (iZ ((n : Nat) : Int)))]) hx hb dX6_timesThere_56 hl rfl (by decide) rfl (fun ls hl => ?_)
          have hl : lv_has ls 6 [(5, .int (iZ (((t + 1) : Nat) : Int))), (4, .int (iZ (((tcN (tkI (cpr (σ 114) (σ 115) 50) w T N (bitI d)) s0 (t + 1)) : Nat) : Int))), (0, .ref (tad θ 111)), (1, .int (iZ ((s0 : Nat) : Int))), (2, .int (iZ ((d : Nat) : Int))), (3, .int (iZ ((n : Nat) : Int)))] := by have e9 : (((t : Nat) : Int) + 1) = (((t + 1) : Nat) : Int) := (by omega); rw [e9] at hl; exact hl
          refine lv_goto (tgt := 10) hx hb dX6_timesThere_59 (by decide) ?_
          exact ih10 (t + 1) σ3 _ _ _ (by omega) (by omega) hg3 (hf.tr hf3) hB (lv_sub hl [0, 1, 2, 3, 4, 5] rfl)
  exact loop10 _ 0 σ1 _ _ _ (Nat.lt_succ_self _) (by omega) (by rw [hp1]; rfl) (hf1.mono tk_115) hB (lv_sub hl [0, 1, 2, 3, 4, 5] rfl)
set_option maxHeartbeats 4000000 in
set_option maxRecDepth 100000 in
theorem mX6_odds (l : Launch) (θ : gT) (hθ : gOK θ) (σ : gS) (z : gZ) (hW : Wf (σ 114)) (N : Nat) (hN : σ 114 0 = (N : Int)) (hV : Vb (σ 114)) (x y n k h : Int) (hxr : rg x) (hyr : rg y) (hnr : rg n) (hkr : rg k) (hh : 0 ≤ h ∧ h ≤ 1) : GI l θ yX6_odds cX6_odds 10 (some .int) 7 161 [.ref (tad θ 111), .int (iZ x), .int (iZ y), .int (iZ n), .int (iZ k), .int (iZ h)] σ z (fun q σ' z' => ((¬ (0 ≤ x ∧ x < σ 114 0) ∧ q = -1) ∨ ∃ s0 : Nat, x = (s0 : Int) ∧ (s0 : Int) < σ 114 0 ∧ ((¬ ((0 ≤ y ∧ y ≤ 6) ∧ (1 ≤ n ∧ n ≤ 6) ∧ (0 ≤ k ∧ k ≤ 10)) ∧ q = -2) ∨ (((0 ≤ y ∧ y ≤ 6) ∧ (1 ≤ n ∧ n ≤ 6) ∧ (0 ≤ k ∧ k ≤ 10)) ∧ ¬ sndG (σ 114) N ∧ q = -3) ∨ (((0 ≤ y ∧ y ≤ 6) ∧ (1 ≤ n ∧ n ≤ 6) ∧ (0 ≤ k ∧ k ≤ 10)) ∧ sndG (σ 114) N ∧ ∃ w, mClk (σ 114) N = some w ∧ ∃ y0 n0 k0 : Nat, y = (y0 : Int) ∧ n = (n0 : Int) ∧ k = (k0 : Int) ∧ odQ (odS (odT (σ 114) w (tn (wtN (σ 114) w) N) N s0 n0) y0 k0 n0 (2 ^ n0)) (10 ^ n0) h q))) ∧ fr wSc σ σ' ∧ z' = z) := by
  refine g_enter (ret := (some .int)) (by decide +kernel) (Nat.le_of_ble_eq_true rfl) ?_
  intro p e s m args below meth c ls F hB hl
  obtain ⟨hx, hb, hr, hml, hown, hts, hlk, hK, hst⟩ := F
  have hR := hB.1.2
  have hl : lv_has ls 10 [(0, .ref (tad θ 111)), (1, .int (iZ x)), (2, .int (iZ y)), (3, .int (iZ n)), (4, .int (iZ k)), (5, .int (iZ h))] := hl
  refine lv_aload_n hx hb dX6_odds_0 rfl (lv_at hl 0 rfl) ?_
  refine lv_iconst (v := iZ 0) hx hb dX6_odds_1 rfl ?_
  refine g_putI (k := 0) hx hb hts hown hK hθ hB cf6 tyX6 tyX6_ok (by decide) rfl (by decide) kw_659 rfl rfl rfl ⟨by decide, by decide⟩ dX6_odds_2 (fun H locs hB => ?_)
  obtain ⟨σ1, hσ1⟩ : ∃ x_ : gS, x_ = up2 σ 111 0 0 := ⟨_, rfl⟩
  rw [← hσ1] at hB
  have hR := hB.1.2
  refine lv_aload_n hx hb dX6_odds_5 rfl (lv_at hl 0 rfl) ?_
  refine lv_iload_n hx hb dX6_odds_6 rfl (lv_at hl 1 rfl) ?_
  refine g_calli (g_runV (i := 111) (As := [.int (iZ x)]) (rest := []) hx hb hml hown hts hK hst hB (mX6_noStream l θ hθ σ1 z x ⟨by omega, by omega⟩ (by rw [hσ1, up2_row _ _ (by decide)]; exact hW.1)) mv_X6_noStream kw_869 cf6 (by decide) rfl rfl hl.1 rfl (Nat.le_of_ble_eq_true rfl) ⟨by decide, by decide⟩ ⟨Nat.le_refl _, Nat.le_refl _⟩ dX6_odds_7) hB (fun qn σ_1 z_2 H locs hqn hpn hB => ?_)
  obtain ⟨hpn, e1_, e2_⟩ := hpn
  rw [e1_, e2_] at hB
  clear e1_ e2_
  rw [hσ1, up2_row _ _ (by decide)] at hpn
  have hgr := hW.1
  refine z_if_eq (tgt := 15) hx hb dX6_odds_10 (by decide) ⟨by omega, by omega⟩ (fun c_3 => ?_) (fun c_3 => ?_)
  · obtain ⟨s0, hs0⟩ : ∃ s0 : Nat, x = (s0 : Int) := ⟨x.toNat, by omega⟩
    have hs8 : s0 < 8 := by omega
    have hl : lv_has ls 10 [(0, .ref (tad θ 111)), (1, .int (iZ ((s0 : Nat) : Int))), (2, .int (iZ y)), (3, .int (iZ n)), (4, .int (iZ k)), (5, .int (iZ h))] := by rw [hs0] at hl; exact hl
    refine lv_iload_n hx hb dX6_odds_15 rfl (lv_at hl 2 rfl) ?_
    refine z_i2l hx hb ⟨by omega, by omega⟩ dX6_odds_16 ?_
    refine lv_lconst (v := lZ 0) hx hb dX6_odds_17 (by decide) ?_
    refine lv_ldc2 (v := lZ 6) hx hb hown (hts _ kw_954) dX6_odds_18 ?_
    refine g_calli (g_runS (As := [.long (lZ y), .long (lZ 0), .long (lZ 6)]) (rest := []) hx hb hml hown hts hK hst hB (mX6_in l θ hθ σ1 z y 0 6 ⟨by omega, by omega⟩ ⟨by omega, by omega⟩ ⟨by omega, by omega⟩) ms_X6_in kw_749 rfl hl.1 rfl (Nat.le_of_ble_eq_true rfl) ⟨by decide, by decide⟩ ⟨Nat.le_refl _, Nat.le_refl _⟩ dX6_odds_21) hB (fun q_6 σ_4 z_5 H locs hq_6 pq_6 hB => ?_)
    obtain ⟨pq_6, e1_, e2_⟩ := pq_6
    rw [e1_, e2_] at hB
    clear e1_ e2_
    refine z_if_eq (tgt := 52) hx hb dX6_odds_24 (by decide) ⟨by omega, by omega⟩ (fun c_7 => ?_) (fun c_7 => ?_)
    · refine lv_bipush (v := iZ (-2)) hx hb dX6_odds_52 (by decide) ?_
      exact g_iret hx hb hr hlk hB dX6_odds_54 ⟨by decide, by decide⟩ (⟨Or.inr ⟨s0, hs0, by omega, Or.inl ⟨by omega, rfl⟩⟩, (by rw [hσ1]; exact fr.up rfl : fr wSc σ σ1), rfl⟩)
    · refine lv_iload_n hx hb dX6_odds_27 rfl (lv_at hl 3 rfl) ?_
      refine z_i2l hx hb ⟨by omega, by omega⟩ dX6_odds_28 ?_
      refine lv_lconst (v := lZ 1) hx hb dX6_odds_29 (by decide) ?_
      refine lv_ldc2 (v := lZ 6) hx hb hown (hts _ kw_954) dX6_odds_30 ?_
      refine g_calli (g_runS (As := [.long (lZ n), .long (lZ 1), .long (lZ 6)]) (rest := []) hx hb hml hown hts hK hst hB (mX6_in l θ hθ σ1 z n 1 6 ⟨by omega, by omega⟩ ⟨by omega, by omega⟩ ⟨by omega, by omega⟩) ms_X6_in kw_749 rfl hl.1 rfl (Nat.le_of_ble_eq_true rfl) ⟨by decide, by decide⟩ ⟨Nat.le_refl _, Nat.le_refl _⟩ dX6_odds_33) hB (fun q_10 σ_8 z_9 H locs hq_10 pq_10 hB => ?_)
      obtain ⟨pq_10, e1_, e2_⟩ := pq_10
      rw [e1_, e2_] at hB
      clear e1_ e2_
      refine z_if_eq (tgt := 52) hx hb dX6_odds_36 (by decide) ⟨by omega, by omega⟩ (fun c_11 => ?_) (fun c_11 => ?_)
      · refine lv_bipush (v := iZ (-2)) hx hb dX6_odds_52 (by decide) ?_
        exact g_iret hx hb hr hlk hB dX6_odds_54 ⟨by decide, by decide⟩ (⟨Or.inr ⟨s0, hs0, by omega, Or.inl ⟨by omega, rfl⟩⟩, (by rw [hσ1]; exact fr.up rfl : fr wSc σ σ1), rfl⟩)
      · refine lv_iload hx hb dX6_odds_39 (lv_at hl 4 rfl) ?_
        refine z_i2l hx hb ⟨by omega, by omega⟩ dX6_odds_41 ?_
        refine lv_lconst (v := lZ 0) hx hb dX6_odds_42 (by decide) ?_
        refine lv_ldc2 (v := lZ 10) hx hb hown (hts _ kw_1002) dX6_odds_43 ?_
        refine g_calli (g_runS (As := [.long (lZ k), .long (lZ 0), .long (lZ 10)]) (rest := []) hx hb hml hown hts hK hst hB (mX6_in l θ hθ σ1 z k 0 10 ⟨by omega, by omega⟩ ⟨by omega, by omega⟩ ⟨by omega, by omega⟩) ms_X6_in kw_749 rfl hl.1 rfl (Nat.le_of_ble_eq_true rfl) ⟨by decide, by decide⟩ ⟨Nat.le_refl _, Nat.le_refl _⟩ dX6_odds_46) hB (fun q_14 σ_12 z_13 H locs hq_14 pq_14 hB => ?_)
        obtain ⟨pq_14, e1_, e2_⟩ := pq_14
        rw [e1_, e2_] at hB
        clear e1_ e2_
        refine z_if_ne (tgt := 55) hx hb dX6_odds_49 (by decide) ⟨by omega, by omega⟩ (fun c_15 => ?_) (fun c_15 => ?_)
        · obtain ⟨y0, hy0⟩ : ∃ y0 : Nat, y = (y0 : Int) := ⟨y.toNat, by omega⟩
          obtain ⟨n0, hn0⟩ : ∃ n0 : Nat, n = (n0 : Int) := ⟨n.toNat, by omega⟩
          obtain ⟨k0, hk0⟩ : ∃ k0 : Nat, k = (k0 : Int) := ⟨k.toNat, by omega⟩
          have hn6 : n0 ≤ 6 := by omega
          have hk10 : k0 ≤ 10 := by omega
          have hl : lv_has ls 10 [(0, .ref (tad θ 111)), (1, .int (iZ ((s0 : Nat) : Int))), (2, .int (iZ ((y0 : Nat) : Int))), (3, .int (iZ ((n0 : Nat) : Int))), (4, .int (iZ ((k0 : Nat) : Int))), (5, .int (iZ h))] := by rw [hy0, hn0, hk0] at hl; exact hl
          refine lv_aload_n hx hb dX6_odds_55 rfl (lv_at hl 0 rfl) ?_
          refine g_calli (g_runV (i := 111) (As := []) (rest := []) hx hb hml hown hts hK hst hB (mX6_soundNow l θ hθ σ1 z (by rw [hσ1, up2_row _ _ (by decide)]; exact hW) N (by rw [hσ1, up2_row _ _ (by decide)]; exact hN)) mv_X6_soundNow kw_789 cf6 (by decide) rfl rfl hl.1 rfl (Nat.le_of_ble_eq_true rfl) ⟨by decide, by decide⟩ ⟨Nat.le_refl _, Nat.le_refl _⟩ dX6_odds_56) hB (fun q2 σ2 z_16 H locs hq2 hp2 hB => ?_)
          obtain ⟨hp2, hf2, e2_⟩ := hp2
          rw [e2_] at hB
          clear e2_
          have hR := hB.1.2
          rw [hσ1, up2_row _ _ (by decide)] at hp2
          have hfs : fr wSc σ σ2 := ((by rw [hσ1]; exact fr.up rfl : fr wSc σ σ1)).tr (hf2.mono sc_an)
          have hg2 : σ2 114 = σ 114 := by rw [hf2.row (fun k => rfl), hσ1, up2_row _ _ (by decide)]
          have hgr := hW.1
          obtain ⟨han, hp2⟩ := hp2
          have hiff := mAn_iff han
          rcases hp2 with ⟨hqa, hsn⟩ | ⟨hqa, hsn⟩
          · subst hqa
            have hsd := hiff.mp hsn
            obtain ⟨w, ew, ho, hA2, hfn, hT2, hraw⟩ := mAn_snd hW hN han hsn
            refine z_if_ne (tgt := 65) hx hb dX6_odds_59 (by decide) ⟨by decide, by decide⟩ (fun c_17 => ?_) (fun c_17 => ?_)
            · refine lv_iconst (v := iZ 0) hx hb dX6_odds_65 rfl ?_
              refine z_top (b := (((odS (odT (σ 114) w (tn (wtN (σ 114) w) N) N s0 n0) y0 k0 n0 0) : Nat) : Int)) (rfl) ?_
              refine lv_istore (lv' := [(6, .int (iZ (((odS (odT (σ 114) w (tn (wtN (σ 114) w) N) N s0 n0) y0 k0 n0 0) : Nat) : Int))), (0, .ref (tad θ 111)), (1, .int (iZ ((s0 : Nat) : Int))), (2, .int (iZ ((y0 : Nat) : Int))), (3, .int (iZ ((n0 : Nat) : Int))), (4, .int (iZ ((k0 : Nat) : Int))), (5, .int (iZ h))]) hx hb dX6_odds_66 hl (by decide) rfl (fun ls hl => ?_)
              refine lv_iconst (v := iZ 0) hx hb dX6_odds_68 rfl ?_
              refine lv_istore (lv' := [(7, .int (iZ 0)), (6, .int (iZ (((odS (odT (σ 114) w (tn (wtN (σ 114) w) N) N s0 n0) y0 k0 n0 0) : Nat) : Int))), (0, .ref (tad θ 111)), (1, .int (iZ ((s0 : Nat) : Int))), (2, .int (iZ ((y0 : Nat) : Int))), (3, .int (iZ ((n0 : Nat) : Int))), (4, .int (iZ ((k0 : Nat) : Int))), (5, .int (iZ h))]) hx hb dX6_odds_69 hl (by decide) rfl (fun ls hl => ?_)
              have loop71 : ∀ (n71 : Nat) (d : Nat) (σ4 : gS) (H : Heap) (locs : List Loc) (ls : Array Slot), 2 ^ n0 - d < n71 → (d ≤ 2 ^ n0) → (fr (wTk 115) σ2 σ4) →  gB θ σ4 z s.heap H locs → lv_has ls 10 [(7, .int (iZ ((d : Nat) : Int))), (6, .int (iZ (((odS (odT (σ 114) w (tn (wtN (σ 114) w) N) N s0 n0) y0 k0 n0 d) : Nat) : Int))), (0, .ref (tad θ 111)), (1, .int (iZ ((s0 : Nat) : Int))), (2, .int (iZ ((y0 : Nat) : Int))), (3, .int (iZ ((n0 : Nat) : Int))), (4, .int (iZ ((k0 : Nat) : Int))), (5, .int (iZ h))] → W p l e (gRm 7 161) s m args below meth c H locs 0 0 (MQ below (gQi θ (fun q σ' z' => ((¬ (0 ≤ x ∧ x < σ 114 0) ∧ q = -1) ∨ ∃ s0 : Nat, x = (s0 : Int) ∧ (s0 : Int) < σ 114 0 ∧ ((¬ ((0 ≤ y ∧ y ≤ 6) ∧ (1 ≤ n ∧ n ≤ 6) ∧ (0 ≤ k ∧ k ≤ 10)) ∧ q = -2) ∨ (((0 ≤ y ∧ y ≤ 6) ∧ (1 ≤ n ∧ n ≤ 6) ∧ (0 ≤ k ∧ k ≤ 10)) ∧ ¬ sndG (σ 114) N ∧ q = -3) ∨ (((0 ≤ y ∧ y ≤ 6) ∧ (1 ≤ n ∧ n ≤ 6) ∧ (0 ≤ k ∧ k ≤ 10)) ∧ sndG (σ 114) N ∧ ∃ w, mClk (σ 114) N = some w ∧ ∃ y0 n0 k0 : Nat, y = (y0 : Int) ∧ n = (n0 : Int) ∧ k = (k0 : Int) ∧ odQ (odS (odT (σ 114) w (tn (wtN (σ 114) w) N) N s0 n0) y0 k0 n0 (2 ^ n0)) (10 ^ n0) h q))) ∧ fr wSc σ σ' ∧ z' = z)) args s 0 0 (tA θ)) (F0 m 71 ls []) := by
                intro n71
                induction n71 with
                | zero => intro d σ4 H locs ls hmu; exact absurd hmu (Nat.not_lt_zero _)
                | succ n71 ih71 =>
                  intro d σ4 H locs ls hmu hd hf4 hB hl
                  have hR := hB.1.2
                  have hp26 := pow_n6 hn6
                  have hX4 : tCx σ4 w N (tn (wtN (σ 114) w) N) := (show tCx σ2 w N (tn (wtN (σ 114) w) N) from ⟨hA2, ho, hT2⟩).keep (hf4.row (fun k => rfl)) (hf4.row (fun k => rfl)) (hf4.row (fun k => rfl))
                  have hg4 : σ4 114 = σ 114 := by rw [hf4.row (fun k => rfl)]; exact hg2
                  have hpg0 : tOk (σ 114) N := ⟨hW, hV, hN⟩
                  have hpg4 : tOk (σ4 114) N := by rw [hg4]; exact hpg0
                  have hos := odS_le (th := (odT (σ 114) w (tn (wtN (σ 114) w) N) N s0 n0)) (v := y0) hk10 hn6 d
                  refine lv_iload hx hb dX6_odds_71 (lv_at hl 0 rfl) ?_
                  refine lv_iconst (v := iZ 1) hx hb dX6_odds_73 rfl ?_
                  refine lv_iload_n hx hb dX6_odds_74 rfl (lv_at hl 5 rfl) ?_
                  refine z_ishl1 (j := n0) hx hb (by omega) dX6_odds_75 ?_
                  refine z_icmp_ge (tgt := 156) hx hb dX6_odds_76 (by decide) ⟨by omega, by omega⟩ ⟨by omega, by omega⟩ (fun c_18 => ?_) (fun c_18 => ?_)
                  · refine lv_iload hx hb dX6_odds_156 (lv_at hl 1 rfl) ?_
                    refine lv_bipush (v := iZ 10) hx hb dX6_odds_158 (by decide) ?_
                    refine lv_iload_n hx hb dX6_odds_160 rfl (lv_at hl 5 rfl) ?_
                    refine g_calli (g_runS (As := [.int (iZ 10), .int (iZ ((n0 : Nat) : Int))]) (rest := [.int (iZ (((odS (odT (σ 114) w (tn (wtN (σ 114) w) N) N s0 n0) y0 k0 n0 d) : Nat) : Int))]) hx hb hml hown hts hK hst hB (mX6_power l θ hθ σ4 z 10 n0 (by omega) (by omega)) ms_X6_power kw_1007 rfl hl.1 rfl (Nat.le_of_ble_eq_true rfl) ⟨by decide, by decide⟩ ⟨Nat.le_refl _, Nat.le_refl _⟩ dX6_odds_161) hB (fun q_21 σ_19 z_20 H locs hq_21 pq_21 hB => ?_)
                    obtain ⟨pq_21, e1_, e2_⟩ := pq_21
                    rw [e1_, e2_] at hB
                    clear e1_ e2_
                    subst pq_21
                    have h10 := pow_10 hn6
                    refine lv_iload hx hb dX6_odds_164 (lv_at hl 7 rfl) ?_
                    refine g_calli (g_runS (As := [.int (iZ (((odS (odT (σ 114) w (tn (wtN (σ 114) w) N) N s0 n0) y0 k0 n0 d) : Nat) : Int)), .int (iZ (((10 ^ n0) : Nat) : Int)), .int (iZ h)]) (rest := []) hx hb hml hown hts hK hst hB (mX6_fraction l θ hθ σ4 z (odS (odT (σ 114) w (tn (wtN (σ 114) w) N) N s0 n0) y0 k0 n0 d) (10 ^ n0) (by omega) (by omega) (by omega) h hh) ms_X6_fraction kw_1010 rfl hl.1 rfl (Nat.le_of_ble_eq_true rfl) ⟨by decide, by decide⟩ ⟨Nat.le_refl _, Nat.le_refl _⟩ dX6_odds_166) hB (fun q6 σ_22 z_23 H locs hq6 hp6 hB => ?_)
                    obtain ⟨hp6, e1_, e2_⟩ := hp6
                    rw [e1_, e2_] at hB
                    clear e1_ e2_
                    rw [show d = 2 ^ n0 by omega] at hp6
                    exact g_iret hx hb hr hlk hB dX6_odds_169 ⟨by omega, by omega⟩ (⟨Or.inr ⟨s0, hs0, by omega, Or.inr (Or.inr ⟨by omega, hsd, w, ew, y0, n0, k0, hy0, hn0, hk0, hp6⟩)⟩, (hfs.tr (hf4.mono sc_tr)), rfl⟩)
                  · refine lv_iconst (v := iZ 0) hx hb dX6_odds_79 rfl ?_
                    refine z_top (b := (((onN d 0) : Nat) : Int)) (rfl) ?_
                    refine lv_istore (lv' := [(8, .int (iZ (((onN d 0) : Nat) : Int))), (7, .int (iZ ((d : Nat) : Int))), (6, .int (iZ (((odS (odT (σ 114) w (tn (wtN (σ 114) w) N) N s0 n0) y0 k0 n0 d) : Nat) : Int))), (0, .ref (tad θ 111)), (1, .int (iZ ((s0 : Nat) : Int))), (2, .int (iZ ((y0 : Nat) : Int))), (3, .int (iZ ((n0 : Nat) : Int))), (4, .int (iZ ((k0 : Nat) : Int))), (5, .int (iZ h))]) hx hb dX6_odds_80 hl (by decide) rfl (fun ls hl => ?_)
                    refine lv_iconst (v := iZ 0) hx hb dX6_odds_82 rfl ?_
                    refine lv_istore (lv' := [(9, .int (iZ 0)), (8, .int (iZ (((onN d 0) : Nat) : Int))), (7, .int (iZ ((d : Nat) : Int))), (6, .int (iZ (((odS (odT (σ 114) w (tn (wtN (σ 114) w) N) N s0 n0) y0 k0 n0 d) : Nat) : Int))), (0, .ref (tad θ 111)), (1, .int (iZ ((s0 : Nat) : Int))), (2, .int (iZ ((y0 : Nat) : Int))), (3, .int (iZ ((n0 : Nat) : Int))), (4, .int (iZ ((k0 : Nat) : Int))), (5, .int (iZ h))]) hx hb dX6_odds_83 hl (by decide) rfl (fun ls hl => ?_)
                    have loop85 : ∀ (n85 : Nat) (t : Nat) (H : Heap) (locs : List Loc) (ls : Array Slot), n0 - t < n85 → (t ≤ n0) →  gB θ σ4 z s.heap H locs → lv_has ls 10 [(9, .int (iZ ((t : Nat) : Int))), (8, .int (iZ (((onN d t) : Nat) : Int))), (7, .int (iZ ((d : Nat) : Int))), (6, .int (iZ (((odS (odT (σ 114) w (tn (wtN (σ 114) w) N) N s0 n0) y0 k0 n0 d) : Nat) : Int))), (0, .ref (tad θ 111)), (1, .int (iZ ((s0 : Nat) : Int))), (2, .int (iZ ((y0 : Nat) : Int))), (3, .int (iZ ((n0 : Nat) : Int))), (4, .int (iZ ((k0 : Nat) : Int))), (5, .int (iZ h))] → W p l e (gRm 7 161) s m args below meth c H locs 0 0 (MQ below (gQi θ (fun q σ' z' => ((¬ (0 ≤ x ∧ x < σ 114 0) ∧ q = -1) ∨ ∃ s0 : Nat, x = (s0 : Int) ∧ (s0 : Int) < σ 114 0 ∧ ((¬ ((0 ≤ y ∧ y ≤ 6) ∧ (1 ≤ n ∧ n ≤ 6) ∧ (0 ≤ k ∧ k ≤ 10)) ∧ q = -2) ∨ (((0 ≤ y ∧ y ≤ 6) ∧ (1 ≤ n ∧ n ≤ 6) ∧ (0 ≤ k ∧ k ≤ 10)) ∧ ¬ sndG (σ 114) N ∧ q = -3) ∨ (((0 ≤ y ∧ y ≤ 6) ∧ (1 ≤ n ∧ n ≤ 6) ∧ (0 ≤ k ∧ k ≤ 10)) ∧ sndG (σ 114) N ∧ ∃ w, mClk (σ 114) N = some w ∧ ∃ y0 n0 k0 : Nat, y = (y0 : Int) ∧ n = (n0 : Int) ∧ k = (k0 : Int) ∧ odQ (odS (odT (σ 114) w (tn (wtN (σ 114) w) N) N s0 n0) y0 k0 n0 (2 ^ n0)) (10 ^ n0) h q))) ∧ fr wSc σ σ' ∧ z' = z)) args s 0 0 (tA θ)) (F0 m 85 ls []) := by
                      intro n85
                      induction n85 with
                      | zero => intro t H locs ls hmu; exact absurd hmu (Nat.not_lt_zero _)
                      | succ n85 ih85 =>
                        intro t H locs ls hmu ht hB hl
                        have hR := hB.1.2
                        have hon := onN_le d t
                        refine lv_iload hx hb dX6_odds_85 (lv_at hl 0 rfl) ?_
                        refine lv_iload_n hx hb dX6_odds_87 rfl (lv_at hl 7 rfl) ?_
                        refine z_icmp_ge (tgt := 109) hx hb dX6_odds_88 (by decide) ⟨by omega, by omega⟩ ⟨by omega, by omega⟩ (fun c_24 => ?_) (fun c_24 => ?_)
                        · have htn : t = n0 := by omega
                          rw [htn] at hon
                          have hl : lv_has ls 10 [(9, .int (iZ ((n0 : Nat) : Int))), (8, .int (iZ (((onN d n0) : Nat) : Int))), (7, .int (iZ ((d : Nat) : Int))), (6, .int (iZ (((odS (odT (σ 114) w (tn (wtN (σ 114) w) N) N s0 n0) y0 k0 n0 d) : Nat) : Int))), (0, .ref (tad θ 111)), (1, .int (iZ ((s0 : Nat) : Int))), (2, .int (iZ ((y0 : Nat) : Int))), (3, .int (iZ ((n0 : Nat) : Int))), (4, .int (iZ ((k0 : Nat) : Int))), (5, .int (iZ h))] := by rw [htn] at hl; exact hl
                          refine lv_iload hx hb dX6_odds_109 (lv_at hl 3 rfl) ?_
                          refine lv_aload_n hx hb dX6_odds_111 rfl (lv_at hl 4 rfl) ?_
                          refine lv_iload_n hx hb dX6_odds_112 rfl (lv_at hl 5 rfl) ?_
                          refine lv_iload hx hb dX6_odds_113 (lv_at hl 2 rfl) ?_
                          refine lv_iload_n hx hb dX6_odds_115 rfl (lv_at hl 7 rfl) ?_
                          refine g_calli (g_runV (i := 111) (As := [.int (iZ ((s0 : Nat) : Int)), .int (iZ ((d : Nat) : Int)), .int (iZ ((n0 : Nat) : Int))]) (rest := [.int (iZ (((odS (odT (σ 114) w (tn (wtN (σ 114) w) N) N s0 n0) y0 k0 n0 d) : Nat) : Int))]) hx hb hml hown hts hK hst hB (mX6_timesThere l θ hθ σ4 z w N (tn (wtN (σ 114) w) N) hX4 hpg4 s0 hs8 d (by omega) n0 hn6) mv_X6_timesThere kw_1003 cf6 (by decide) rfl rfl hl.1 rfl (Nat.le_of_ble_eq_true rfl) ⟨by decide, by decide⟩ ⟨Nat.le_refl _, Nat.le_refl _⟩ dX6_odds_116) hB (fun q5 σ5 z_25 H locs hq5 hp5 hB => ?_)
                          obtain ⟨hp5, hf5, e2_⟩ := hp5
                          rw [e2_] at hB
                          clear e2_
                          have hR := hB.1.2
                          have htcl := tcN_le (tkI (σ 114) w (tn (wtN (σ 114) w) N) N (bitI d)) s0 n0
                          rw [tcN_e (fun t => tkI_e (cpr_e (σ4 114) (σ4 115)) (hpg4.cong (fun k hk => cpr_50 _ _ hk)) ho hX4.lt (bitI_in d) t) hs8, hg4] at hp5
                          rw [hp5]
                          refine lv_iload_n hx hb dX6_odds_119 rfl (lv_at hl 6 rfl) ?_
                          refine z_icmp_lt (tgt := 146) hx hb dX6_odds_120 (by decide) ⟨by omega, by omega⟩ ⟨by omega, by omega⟩ (fun c_26 => ?_) (fun c_26 => ?_)
                          · have hth : ¬ y0 ≤ (odT (σ 114) w (tn (wtN (σ 114) w) N) N s0 n0) d := fun q => by have : y0 ≤ tcN (tkI (σ 114) w (tn (wtN (σ 114) w) N) N (bitI d)) s0 n0 := q; omega
                            refine lv_iconst (v := iZ 0) hx hb dX6_odds_146 rfl ?_
                            refine z_iadd hx hb dX6_odds_147 ?_
                            refine z_top (b := (((odS (odT (σ 114) w (tn (wtN (σ 114) w) N) N s0 n0) y0 k0 n0 (d + 1)) : Nat) : Int)) (by rw [odS, if_neg hth]; omega) ?_
                            refine lv_istore (lv' := [(6, .int (iZ (((odS (odT (σ 114) w (tn (wtN (σ 114) w) N) N s0 n0) y0 k0 n0 (d + 1)) : Nat) : Int))), (9, .int (iZ ((n0 : Nat) : Int))), (8, .int (iZ (((onN d n0) : Nat) : Int))), (7, .int (iZ ((d : Nat) : Int))), (0, .ref (tad θ 111)), (1, .int (iZ ((s0 : Nat) : Int))), (2, .int (iZ ((y0 : Nat) : Int))), (3, .int (iZ ((n0 : Nat) : Int))), (4, .int (iZ ((k0 : Nat) : Int))), (5, .int (iZ h))]) hx hb dX6_odds_148 hl (by decide) rfl (fun ls hl => ?_)
                            refine z_iinc (k := 3) (lv' := [(7, .int (iZ (((d : Nat) : Int) + 1))), (6, .int (iZ (((odS (odT (σ 114) w (tn (wtN (σ 114) w) N) N s0 n0) y0 k0 n0 (d + 1)) : Nat) : Int))), (9, .int (iZ ((n0 : Nat) : Int))), (8, .int (iZ (((onN d n0) : Nat) : Int))), (0, .ref (tad θ 111)), (1, .int (iZ ((s0 : Nat) : Int))), (2, .int (iZ ((y0 : Nat) : Int))), (3, .int (iZ ((n0 : Nat) : Int))), (4, .int (iZ ((k0 : Nat) : Int))), (5, .int (iZ h))]) hx hb dX6_odds_150 hl rfl (by decide) rfl (fun ls hl => ?_)
                            have hl : lv_has ls 10 [(7, .int (iZ (((d + 1) : Nat) : Int))), (6, .int (iZ (((odS (odT (σ 114) w (tn (wtN (σ 114) w) N) N s0 n0) y0 k0 n0 (d + 1)) : Nat) : Int))), (9, .int (iZ ((n0 : Nat) : Int))), (8, .int (iZ (((onN d n0) : Nat) : Int))), (0, .ref (tad θ 111)), (1, .int (iZ ((s0 : Nat) : Int))), (2, .int (iZ ((y0 : Nat) : Int))), (3, .int (iZ ((n0 : Nat) : Int))), (4, .int (iZ ((k0 : Nat) : Int))), (5, .int (iZ h))] := by have e9 : (((d : Nat) : Int) + 1) = (((d + 1) : Nat) : Int) := (by omega); rw [e9] at hl; exact hl
                            refine lv_goto (tgt := 71) hx hb dX6_odds_153 (by decide) ?_
                            exact ih71 (d + 1) σ5 _ _ _ (by omega) (by omega) (hf4.tr hf5) hB (lv_sub hl [0, 1, 4, 5, 6, 7, 8, 9] rfl)
                          · have hth : y0 ≤ (odT (σ 114) w (tn (wtN (σ 114) w) N) N s0 n0) d := (show y0 ≤ tcN (tkI (σ 114) w (tn (wtN (σ 114) w) N) N (bitI d)) s0 n0 by omega)
                            refine lv_iload hx hb dX6_odds_123 (lv_at hl 8 rfl) ?_
                            refine lv_iload hx hb dX6_odds_125 (lv_at hl 1 rfl) ?_
                            refine g_calli (g_runS (As := [.int (iZ ((k0 : Nat) : Int)), .int (iZ (((onN d n0) : Nat) : Int))]) (rest := [.int (iZ (((odS (odT (σ 114) w (tn (wtN (σ 114) w) N) N s0 n0) y0 k0 n0 d) : Nat) : Int))]) hx hb hml hown hts hK hst hB (mX6_power l θ hθ σ5 z k0 (onN d n0) (by omega) (by omega)) ms_X6_power kw_1007 rfl hl.1 rfl (Nat.le_of_ble_eq_true rfl) ⟨by decide, by decide⟩ ⟨Nat.le_refl _, Nat.le_refl _⟩ dX6_odds_127) hB (fun q_29 σ_27 z_28 H locs hq_29 pq_29 hB => ?_)
                            obtain ⟨pq_29, e1_, e2_⟩ := pq_29
                            rw [e1_, e2_] at hB
                            clear e1_ e2_
                            subst pq_29
                            refine lv_bipush (v := iZ 10) hx hb dX6_odds_130 (by decide) ?_
                            refine lv_iload hx hb dX6_odds_132 (lv_at hl 8 rfl) ?_
                            refine z_isub hx hb dX6_odds_134 ?_
                            refine z_top (b := (((10 - k0) : Nat) : Int)) (by omega) ?_
                            refine lv_iload_n hx hb dX6_odds_135 rfl (lv_at hl 7 rfl) ?_
                            refine lv_iload hx hb dX6_odds_136 (lv_at hl 1 rfl) ?_
                            refine z_isub hx hb dX6_odds_138 ?_
                            refine z_top (b := (((n0 - onN d n0) : Nat) : Int)) (by omega) ?_
                            refine g_calli (g_runS (As := [.int (iZ (((10 - k0) : Nat) : Int)), .int (iZ (((n0 - onN d n0) : Nat) : Int))]) (rest := [.int (iZ (((k0 ^ (onN d n0)) : Nat) : Int)), .int (iZ (((odS (odT (σ 114) w (tn (wtN (σ 114) w) N) N s0 n0) y0 k0 n0 d) : Nat) : Int))]) hx hb hml hown hts hK hst hB (mX6_power l θ hθ σ5 z (10 - k0) (n0 - onN d n0) (by omega) (by omega)) ms_X6_power kw_1007 rfl hl.1 rfl (Nat.le_of_ble_eq_true rfl) ⟨by decide, by decide⟩ ⟨Nat.le_refl _, Nat.le_refl _⟩ dX6_odds_139) hB (fun q_32 σ_30 z_31 H locs hq_32 pq_32 hB => ?_)
                            obtain ⟨pq_32, e1_, e2_⟩ := pq_32
                            rw [e1_, e2_] at hB
                            clear e1_ e2_
                            subst pq_32
                            refine z_imul hx hb dX6_odds_142 ?_
                            refine z_top (b := (((odW k0 n0 d) : Nat) : Int)) (by rw [odW, Int.natCast_mul]) ?_
                            refine lv_goto (tgt := 147) hx hb dX6_odds_143 (by decide) ?_
                            refine z_iadd hx hb dX6_odds_147 ?_
                            refine z_top (b := (((odS (odT (σ 114) w (tn (wtN (σ 114) w) N) N s0 n0) y0 k0 n0 (d + 1)) : Nat) : Int)) (by rw [odS, if_pos hth]; omega) ?_
                            refine lv_istore (lv' := [(6, .int (iZ (((odS (odT (σ 114) w (tn (wtN (σ 114) w) N) N s0 n0) y0 k0 n0 (d + 1)) : Nat) : Int))), (9, .int (iZ ((n0 : Nat) : Int))), (8, .int (iZ (((onN d n0) : Nat) : Int))), (7, .int (iZ ((d : Nat) : Int))), (0, .ref (tad θ 111)), (1, .int (iZ ((s0 : Nat) : Int))), (2, .int (iZ ((y0 : Nat) : Int))), (3, .int (iZ ((n0 : Nat) : Int))), (4, .int (iZ ((k0 : Nat) : Int))), (5, .int (iZ h))]) hx hb dX6_odds_148 hl (by decide) rfl (fun ls hl => ?_)
                            refine z_iinc (k := 3) (lv' := [(7, .int (iZ (((d : Nat) : Int) + 1))), (6, .int (iZ (((odS (odT (σ 114) w (tn (wtN (σ 114) w) N) N s0 n0) y0 k0 n0 (d + 1)) : Nat) : Int))), (9, .int (iZ ((n0 : Nat) : Int))), (8, .int (iZ (((onN d n0) : Nat) : Int))), (0, .ref (tad θ 111)), (1, .int (iZ ((s0 : Nat) : Int))), (2, .int (iZ ((y0 : Nat) : Int))), (3, .int (iZ ((n0 : Nat) : Int))), (4, .int (iZ ((k0 : Nat) : Int))), (5, .int (iZ h))]) hx hb dX6_odds_150 hl rfl (by decide) rfl (fun ls hl => ?_)
                            have hl : lv_has ls 10 [(7, .int (iZ (((d + 1) : Nat) : Int))), (6, .int (iZ (((odS (odT (σ 114) w (tn (wtN (σ 114) w) N) N s0 n0) y0 k0 n0 (d + 1)) : Nat) : Int))), (9, .int (iZ ((n0 : Nat) : Int))), (8, .int (iZ (((onN d n0) : Nat) : Int))), (0, .ref (tad θ 111)), (1, .int (iZ ((s0 : Nat) : Int))), (2, .int (iZ ((y0 : Nat) : Int))), (3, .int (iZ ((n0 : Nat) : Int))), (4, .int (iZ ((k0 : Nat) : Int))), (5, .int (iZ h))] := by have e9 : (((d : Nat) : Int) + 1) = (((d + 1) : Nat) : Int) := (by omega); rw [e9] at hl; exact hl
                            refine lv_goto (tgt := 71) hx hb dX6_odds_153 (by decide) ?_
                            exact ih71 (d + 1) σ5 _ _ _ (by omega) (by omega) (hf4.tr hf5) hB (lv_sub hl [0, 1, 4, 5, 6, 7, 8, 9] rfl)
                        · refine lv_iload hx hb dX6_odds_91 (lv_at hl 1 rfl) ?_
                          refine lv_iload hx hb dX6_odds_93 (lv_at hl 2 rfl) ?_
                          refine lv_iload hx hb dX6_odds_95 (lv_at hl 0 rfl) ?_
                          refine z_ishr (a := d) (j := t) hx hb (by omega) (by omega) dX6_odds_97 ?_
                          refine lv_iconst (v := iZ 1) hx hb dX6_odds_98 rfl ?_
                          refine z_iand (a := (d / 2 ^ t)) (b := 1) hx hb dX6_odds_99 ?_
                          refine z_top (b := (((d / 2 ^ t % 2) : Nat) : Int)) (by rw [Nat.and_one_is_mod]) ?_
                          refine z_iadd hx hb dX6_odds_100 ?_
                          refine z_top (b := (((onN d (t + 1)) : Nat) : Int)) (by rw [onN]; omega) ?_
                          refine lv_istore (lv' := [(8, .int (iZ (((onN d (t + 1)) : Nat) : Int))), (9, .int (iZ ((t : Nat) : Int))), (7, .int (iZ ((d : Nat) : Int))), (6, .int (iZ (((odS (odT (σ 114) w (tn (wtN (σ 114) w) N) N s0 n0) y0 k0 n0 d) : Nat) : Int))), (0, .ref (tad θ 111)), (1, .int (iZ ((s0 : Nat) : Int))), (2, .int (iZ ((y0 : Nat) : Int))), (3, .int (iZ ((n0 : Nat) : Int))), (4, .int (iZ ((k0 : Nat) : Int))), (5, .int (iZ h))]) hx hb dX6_odds_101 hl (by decide) rfl (fun ls hl => ?_)
                          refine z_iinc (k := 1) (lv' := [(9, .int (iZ (((t : Nat) : Int) + 1))), (8, .int (iZ (((onN d (t + 1)) : Nat) : Int))), (7, .int (iZ ((d : Nat) : Int))), (6, .int (iZ (((odS (odT (σ 114) w (tn (wtN (σ 114) w) N) N s0 n0) y0 k0 n0 d) : Nat) : Int))), (0, .ref (tad θ 111)), (1, .int (iZ ((s0 : Nat) : Int))), (2, .int (iZ ((y0 : Nat) : Int))), (3, .int (iZ ((n0 : Nat) : Int))), (4, .int (iZ ((k0 : Nat) : Int))), (5, .int (iZ h))]) hx hb dX6_odds_103 hl rfl (by decide) rfl (fun ls hl => ?_)
                          have hl : lv_has ls 10 [(9, .int (iZ (((t + 1) : Nat) : Int))), (8, .int (iZ (((onN d (t + 1)) : Nat) : Int))), (7, .int (iZ ((d : Nat) : Int))), (6, .int (iZ (((odS (odT (σ 114) w (tn (wtN (σ 114) w) N) N s0 n0) y0 k0 n0 d) : Nat) : Int))), (0, .ref (tad θ 111)), (1, .int (iZ ((s0 : Nat) : Int))), (2, .int (iZ ((y0 : Nat) : Int))), (3, .int (iZ ((n0 : Nat) : Int))), (4, .int (iZ ((k0 : Nat) : Int))), (5, .int (iZ h))] := by have e9 : (((t : Nat) : Int) + 1) = (((t + 1) : Nat) : Int) := (by omega); rw [e9] at hl; exact hl
                          refine lv_goto (tgt := 85) hx hb dX6_odds_106 (by decide) ?_
                          exact ih85 (t + 1) _ _ _ (by omega) (by omega) hB (lv_sub hl [0, 1, 2, 3, 4, 5, 6, 7, 8, 9] rfl)
                    exact loop85 _ 0 _ _ _ (Nat.lt_succ_self _) (by omega) hB (lv_sub hl [0, 1, 2, 3, 4, 5, 6, 7, 8, 9] rfl)
              exact loop71 _ 0 σ2 _ _ _ (Nat.lt_succ_self _) (Nat.zero_le _) fr.rf hB (lv_sub hl [0, 1, 2, 3, 4, 5, 6, 7] rfl)
            · exact absurd c_17 (by decide)
          · subst hqa
            have hnd : ¬ sndG (σ 114) N := fun q => hsn (hiff.mpr q)
            refine z_if_ne (tgt := 65) hx hb dX6_odds_59 (by decide) ⟨by decide, by decide⟩ (fun c_33 => ?_) (fun c_33 => ?_)
            · exact absurd (by decide) c_33
            · refine lv_bipush (v := iZ (-3)) hx hb dX6_odds_62 (by decide) ?_
              exact g_iret hx hb hr hlk hB dX6_odds_64 ⟨by decide, by decide⟩ (⟨Or.inr ⟨s0, hs0, by omega, Or.inr (Or.inl ⟨by omega, hnd, rfl⟩)⟩, hfs, rfl⟩)
        · refine lv_bipush (v := iZ (-2)) hx hb dX6_odds_52 (by decide) ?_
          exact g_iret hx hb hr hlk hB dX6_odds_54 ⟨by decide, by decide⟩ (⟨Or.inr ⟨s0, hs0, by omega, Or.inl ⟨by omega, rfl⟩⟩, (by rw [hσ1]; exact fr.up rfl : fr wSc σ σ1), rfl⟩)
  · refine lv_iconst (v := iZ (-1)) hx hb dX6_odds_13 rfl ?_
    exact g_iret hx hb hr hlk hB dX6_odds_14 ⟨by decide, by decide⟩ (⟨Or.inl ⟨by omega, rfl⟩, (by rw [hσ1]; exact fr.up rfl : fr wSc σ σ1), rfl⟩)
set_option maxHeartbeats 4000000 in
set_option maxRecDepth 100000 in
theorem mX6_sumOf (l : Launch) (θ : gT) (hθ : gOK θ) (σ : gS) (z : gZ) (a0 : Int) (ha : 0 ≤ a0 ∧ a0 ≤ 8) (hV : Vb (σ 115)) : GI l θ yX6_sumOf cX6_sumOf 4 (some .int) 0 0 [.ref (tad θ 111), .int (iZ a0)] σ z (fun q σ' z' => (q = a0 + smV (σ 115) 8) ∧ σ' = σ ∧ z' = z) := by
  refine g_enter (ret := (some .int)) (by decide +kernel) (Nat.le_of_ble_eq_true rfl) ?_
  intro p e s m args below meth c ls F hB hl
  obtain ⟨hx, hb, hr, hml, hown, hts, hlk, hK, hst⟩ := F
  have hR := hB.1.2
  have hl : lv_has ls 4 [(0, .ref (tad θ 111)), (1, .int (iZ a0))] := hl
  refine lv_iload_n hx hb dX6_sumOf_0 rfl (lv_at hl 1 rfl) ?_
  refine z_top (b := (a0 + smV (σ 115) 0)) (by show a0 = a0 + 0; omega) ?_
  refine lv_istore_n (lv' := [(2, .int (iZ (a0 + smV (σ 115) 0))), (0, .ref (tad θ 111)), (1, .int (iZ a0))]) hx hb dX6_sumOf_1 rfl hl (by decide) rfl (fun ls hl => ?_)
  refine lv_iconst (v := iZ 0) hx hb dX6_sumOf_2 rfl ?_
  refine lv_istore_n (lv' := [(3, .int (iZ 0)), (2, .int (iZ (a0 + smV (σ 115) 0))), (0, .ref (tad θ 111)), (1, .int (iZ a0))]) hx hb dX6_sumOf_3 rfl hl (by decide) rfl (fun ls hl => ?_)
  have loop4 : ∀ (n4 : Nat) (k : Nat) (H : Heap) (locs : List Loc) (ls : Array Slot), 8 - k < n4 → (k ≤ 8) →  gB θ σ z s.heap H locs → lv_has ls 4 [(3, .int (iZ ((k : Nat) : Int))), (2, .int (iZ (a0 + smV (σ 115) k))), (0, .ref (tad θ 111)), (1, .int (iZ a0))] → W p l e (gRm 0 0) s m args below meth c H locs 0 0 (MQ below (gQi θ (fun q σ' z' => (q = a0 + smV (σ 115) 8) ∧ σ' = σ ∧ z' = z)) args s 0 0 (tA θ)) (F0 m 4 ls []) := by
    intro n4
    induction n4 with
    | zero => intro k H locs ls hmu; exact absurd hmu (Nat.not_lt_zero _)
    | succ n4 ih4 =>
      intro k H locs ls hmu hk hB hl
      have hR := hB.1.2
      have hsm := smV_in hV hk
      refine lv_iload_n hx hb dX6_sumOf_4 rfl (lv_at hl 0 rfl) ?_
      refine lv_bipush (v := iZ 8) hx hb dX6_sumOf_5 (by decide) ?_
      refine z_icmp_ge (tgt := 44) hx hb dX6_sumOf_7 (by decide) ⟨by omega, by omega⟩ ⟨by decide, by decide⟩ (fun c_1 => ?_) (fun c_1 => ?_)
      · refine lv_iload_n hx hb dX6_sumOf_44 rfl (lv_at hl 1 rfl) ?_
        exact g_iret hx hb hr hlk hB dX6_sumOf_45 ⟨by omega, by omega⟩ (⟨by rw [show k = 8 by omega], rfl, rfl⟩)
      · refine lv_iload_n hx hb dX6_sumOf_10 rfl (lv_at hl 1 rfl) ?_
        refine lv_aload_n hx hb dX6_sumOf_11 rfl (lv_at hl 2 rfl) ?_
        refine g_getr (k := 6) (j := 115) hx hb hts hown hK hθ hB cf6 (by decide) rfl (by decide) kw_665 rfl rfl dX6_sumOf_12 ?_
        refine lv_bipush (v := iZ 41) hx hb dX6_sumOf_15 (by decide) ?_
        refine lv_iload_n hx hb dX6_sumOf_17 rfl (lv_at hl 0 rfl) ?_
        refine z_iadd hx hb dX6_sumOf_18 ?_
        refine g_iald (k := (41 + k)) hx hb hK hB (by decide) rfl (by omega) (Nat.lt_of_lt_of_eq (by omega : (41 + k) < 50) (Eq.symm rfl)) (by decide) dX6_sumOf_19 ?_
        have hr_2 := hR 115 (41 + k)
        refine z_if_le (tgt := 35) hx hb dX6_sumOf_20 (by decide) ⟨by omega, by omega⟩ (fun c_3 => ?_) (fun c_3 => ?_)
        · have hz := c_3
          refine lv_iconst (v := iZ 0) hx hb dX6_sumOf_35 rfl ?_
          refine z_iadd hx hb dX6_sumOf_36 ?_
          refine z_top (b := (a0 + smV (σ 115) (k + 1))) (by rw [smV, if_pos hz]; omega) ?_
          refine lv_istore_n (lv' := [(2, .int (iZ (a0 + smV (σ 115) (k + 1)))), (3, .int (iZ ((k : Nat) : Int))), (0, .ref (tad θ 111)), (1, .int (iZ a0))]) hx hb dX6_sumOf_37 rfl hl (by decide) rfl (fun ls hl => ?_)
          refine z_iinc (k := 1) (lv' := [(3, .int (iZ (((k : Nat) : Int) + 1))), (2, .int (iZ (a0 + smV (σ 115) (k + 1)))), (0, .ref (tad θ 111)), (1, .int (iZ a0))]) hx hb dX6_sumOf_38 hl rfl (by decide) rfl (fun ls hl => ?_)
          have hl : lv_has ls 4 [(3, .int (iZ (((k + 1) : Nat) : Int))), (2, .int (iZ (a0 + smV (σ 115) (k + 1)))), (0, .ref (tad θ 111)), (1, .int (iZ a0))] := by have e9 : (((k : Nat) : Int) + 1) = (((k + 1) : Nat) : Int) := (by omega); rw [e9] at hl; exact hl
          refine lv_goto (tgt := 4) hx hb dX6_sumOf_41 (by decide) ?_
          exact ih4 (k + 1) _ _ _ (by omega) (by omega) hB (lv_sub hl [0, 1, 2, 3] rfl)
        · have hz := c_3
          refine lv_aload_n hx hb dX6_sumOf_23 rfl (lv_at hl 2 rfl) ?_
          refine g_getr (k := 6) (j := 115) hx hb hts hown hK hθ hB cf6 (by decide) rfl (by decide) kw_665 rfl rfl dX6_sumOf_24 ?_
          refine lv_bipush (v := iZ 41) hx hb dX6_sumOf_27 (by decide) ?_
          refine lv_iload_n hx hb dX6_sumOf_29 rfl (lv_at hl 0 rfl) ?_
          refine z_iadd hx hb dX6_sumOf_30 ?_
          refine g_iald (k := (41 + k)) hx hb hK hB (by decide) rfl (by omega) (Nat.lt_of_lt_of_eq (by omega : (41 + k) < 50) (Eq.symm rfl)) (by decide) dX6_sumOf_31 ?_
          have hr_4 := hR 115 (41 + k)
          refine lv_goto (tgt := 36) hx hb dX6_sumOf_32 (by decide) ?_
          refine z_iadd hx hb dX6_sumOf_36 ?_
          refine z_top (b := (a0 + smV (σ 115) (k + 1))) (by rw [smV, if_neg hz]; omega) ?_
          refine lv_istore_n (lv' := [(2, .int (iZ (a0 + smV (σ 115) (k + 1)))), (3, .int (iZ ((k : Nat) : Int))), (0, .ref (tad θ 111)), (1, .int (iZ a0))]) hx hb dX6_sumOf_37 rfl hl (by decide) rfl (fun ls hl => ?_)
          refine z_iinc (k := 1) (lv' := [(3, .int (iZ (((k : Nat) : Int) + 1))), (2, .int (iZ (a0 + smV (σ 115) (k + 1)))), (0, .ref (tad θ 111)), (1, .int (iZ a0))]) hx hb dX6_sumOf_38 hl rfl (by decide) rfl (fun ls hl => ?_)
          have hl : lv_has ls 4 [(3, .int (iZ (((k + 1) : Nat) : Int))), (2, .int (iZ (a0 + smV (σ 115) (k + 1)))), (0, .ref (tad θ 111)), (1, .int (iZ a0))] := by have e9 : (((k : Nat) : Int) + 1) = (((k + 1) : Nat) : Int) := (by omega); rw [e9] at hl; exact hl
          refine lv_goto (tgt := 4) hx hb dX6_sumOf_41 (by decide) ?_
          exact ih4 (k + 1) _ _ _ (by omega) (by omega) hB (lv_sub hl [0, 1, 2, 3] rfl)
  exact loop4 _ 0 _ _ _ (Nat.lt_succ_self _) (by omega) hB (lv_sub hl [0, 1, 2, 3] rfl)
set_option maxHeartbeats 4000000 in
set_option maxRecDepth 100000 in
theorem mX6_runs (l : Launch) (θ : gT) (hθ : gOK θ) (σ : gS) (z : gZ) (hW : Wf (σ 114)) (N : Nat) (hN : σ 114 0 = (N : Int)) (hV : Vb (σ 114)) (x : Int) (hxr : rg x) : GI l θ yX6_runs cX6_runs 5 (some .int) 7 161 [.ref (tad θ 111), .int (iZ x)] σ z (fun q σ' z' => ((¬ (1 ≤ x ∧ x ≤ 30) ∧ q = -2 ∧ z' = z) ∨ ((1 ≤ x ∧ x ≤ 30) ∧ ¬ sndG (σ 114) N ∧ q = -3 ∧ z' = z) ∨ ((1 ≤ x ∧ x ≤ 30) ∧ sndG (σ 114) N ∧ ∃ w, mClk (σ 114) N = some w ∧ ∃ m0 : Nat, x = (m0 : Int) ∧ q = rnS (tkI (cpr (σ 114) (σ 115) 50) w (tn (wtN (σ 114) w) N) N (sdU (z 111))) (rnC (cpr (σ 114) (σ 115) 50) w (tn (wtN (σ 114) w) N) N (sdU (z 111))) m0 ∧ z' = upr z 111 (sdI (z 111) m0))) ∧ fr wSc σ σ') := by
  refine g_enter (ret := (some .int)) (by decide +kernel) (Nat.le_of_ble_eq_true rfl) ?_
  intro p e s m args below meth c ls F hB hl
  obtain ⟨hx, hb, hr, hml, hown, hts, hlk, hK, hst⟩ := F
  have hR := hB.1.2
  have hl : lv_has ls 5 [(0, .ref (tad θ 111)), (1, .int (iZ x))] := hl
  refine lv_aload_n hx hb dX6_runs_0 rfl (lv_at hl 0 rfl) ?_
  refine lv_iconst (v := iZ 0) hx hb dX6_runs_1 rfl ?_
  refine g_putI (k := 0) hx hb hts hown hK hθ hB cf6 tyX6 tyX6_ok (by decide) rfl (by decide) kw_659 rfl rfl rfl ⟨by decide, by decide⟩ dX6_runs_2 (fun H locs hB => ?_)
  obtain ⟨σ1, hσ1⟩ : ∃ x_ : gS, x_ = up2 σ 111 0 0 := ⟨_, rfl⟩
  rw [← hσ1] at hB
  have hR := hB.1.2
  refine lv_iload_n hx hb dX6_runs_5 rfl (lv_at hl 1 rfl) ?_
  refine z_i2l hx hb ⟨by omega, by omega⟩ dX6_runs_6 ?_
  refine lv_lconst (v := lZ 1) hx hb dX6_runs_7 (by decide) ?_
  refine lv_ldc2 (v := lZ 30) hx hb hown (hts _ kw_1024) dX6_runs_8 ?_
  refine g_calli (g_runS (As := [.long (lZ x), .long (lZ 1), .long (lZ 30)]) (rest := []) hx hb hml hown hts hK hst hB (mX6_in l θ hθ σ1 z x 1 30 ⟨by omega, by omega⟩ ⟨by omega, by omega⟩ ⟨by omega, by omega⟩) ms_X6_in kw_749 rfl hl.1 rfl (Nat.le_of_ble_eq_true rfl) ⟨by decide, by decide⟩ ⟨Nat.le_refl _, Nat.le_refl _⟩ dX6_runs_11) hB (fun q_3 σ_1 z_2 H locs hq_3 pq_3 hB => ?_)
  obtain ⟨pq_3, e1_, e2_⟩ := pq_3
  rw [e1_, e2_] at hB
  clear e1_ e2_
  refine z_if_ne (tgt := 20) hx hb dX6_runs_14 (by decide) ⟨by omega, by omega⟩ (fun c_4 => ?_) (fun c_4 => ?_)
  · obtain ⟨m0, hm0⟩ : ∃ m0 : Nat, x = (m0 : Int) := ⟨x.toNat, by omega⟩
    have hl : lv_has ls 5 [(0, .ref (tad θ 111)), (1, .int (iZ ((m0 : Nat) : Int)))] := by rw [hm0] at hl; exact hl
    refine lv_aload_n hx hb dX6_runs_20 rfl (lv_at hl 0 rfl) ?_
    refine g_calli (g_runV (i := 111) (As := []) (rest := []) hx hb hml hown hts hK hst hB (mX6_soundNow l θ hθ σ1 z (by rw [hσ1, up2_row _ _ (by decide)]; exact hW) N (by rw [hσ1, up2_row _ _ (by decide)]; exact hN)) mv_X6_soundNow kw_789 cf6 (by decide) rfl rfl hl.1 rfl (Nat.le_of_ble_eq_true rfl) ⟨by decide, by decide⟩ ⟨Nat.le_refl _, Nat.le_refl _⟩ dX6_runs_21) hB (fun q2 σ2 z_5 H locs hq2 hp2 hB => ?_)
    obtain ⟨hp2, hf2, e2_⟩ := hp2
    rw [e2_] at hB
    clear e2_
    have hR := hB.1.2
    rw [hσ1, up2_row _ _ (by decide)] at hp2
    have hfs : fr wSc σ σ2 := ((by rw [hσ1]; exact fr.up rfl : fr wSc σ σ1)).tr (hf2.mono sc_an)
    have hg2 : σ2 114 = σ 114 := by rw [hf2.row (fun k => rfl), hσ1, up2_row _ _ (by decide)]
    have hgr := hW.1
    obtain ⟨han, hp2⟩ := hp2
    have hiff := mAn_iff han
    rcases hp2 with ⟨hqa, hsn⟩ | ⟨hqa, hsn⟩
    · subst hqa
      have hsd := hiff.mp hsn
      obtain ⟨w, ew, ho, hA2, hfn, hT2, hraw⟩ := mAn_snd hW hN han hsn
      refine z_if_ne (tgt := 30) hx hb dX6_runs_24 (by decide) ⟨by decide, by decide⟩ (fun c_6 => ?_) (fun c_6 => ?_)
      · refine lv_aload_n hx hb dX6_runs_30 rfl (lv_at hl 0 rfl) ?_
        refine g_callv (g_runV (i := 111) (As := []) (rest := []) hx hb hml hown hts hK hst hB (mX6_begin l θ hθ σ2 z ) mv_X6_begin kw_934 cf6 (by decide) rfl rfl hl.1 rfl (Nat.le_of_ble_eq_true rfl) ⟨by decide, by decide⟩ ⟨Nat.le_refl _, Nat.le_refl _⟩ dX6_runs_31) hB (fun σ3 z_7 H locs hp3 hB => ?_)
        obtain ⟨hp3, hf3, e2_⟩ := hp3
        rw [e2_] at hB
        clear e2_
        have hR := hB.1.2
        have hX3 : tCx σ3 w N (tn (wtN (σ 114) w) N) := (show tCx σ2 w N (tn (wtN (σ 114) w) N) from ⟨hA2, ho, hT2⟩).keep (hf3.row (fun k => rfl)) (hf3.row (fun k => rfl)) (hf3.row (fun k => rfl))
        have h115 : σ2 115 = σ 115 := by rw [hf2.row (fun k => rfl), hσ1, up2_row _ _ (by decide)]
        rw [hg2, h115] at hp3
        have hB0 : tOk (cpr (σ 114) (σ 115) 50) N := (show tOk (σ 114) N from ⟨hW, hV, hN⟩).cong (fun k hk => cpr_50 _ _ hk)
        have hr3 : tOk (σ3 115) N := by rw [hp3]; exact hB0
        have hfs3 : fr wSc σ σ3 := hfs.tr (hf3.mono sc_115)
        refine lv_iconst (v := iZ 0) hx hb dX6_runs_34 rfl ?_
        refine z_top (b := (rnS (tkI (cpr (σ 114) (σ 115) 50) w (tn (wtN (σ 114) w) N) N (sdU (z 111))) (rnC (cpr (σ 114) (σ 115) 50) w (tn (wtN (σ 114) w) N) N (sdU (z 111))) 0)) (rfl) ?_
        refine lv_istore_n (lv' := [(2, .int (iZ (rnS (tkI (cpr (σ 114) (σ 115) 50) w (tn (wtN (σ 114) w) N) N (sdU (z 111))) (rnC (cpr (σ 114) (σ 115) 50) w (tn (wtN (σ 114) w) N) N (sdU (z 111))) 0))), (0, .ref (tad θ 111)), (1, .int (iZ ((m0 : Nat) : Int)))]) hx hb dX6_runs_35 rfl hl (by decide) rfl (fun ls hl => ?_)
        refine lv_iconst (v := iZ 0) hx hb dX6_runs_36 rfl ?_
        refine lv_istore_n (lv' := [(3, .int (iZ 0)), (2, .int (iZ (rnS (tkI (cpr (σ 114) (σ 115) 50) w (tn (wtN (σ 114) w) N) N (sdU (z 111))) (rnC (cpr (σ 114) (σ 115) 50) w (tn (wtN (σ 114) w) N) N (sdU (z 111))) 0))), (0, .ref (tad θ 111)), (1, .int (iZ ((m0 : Nat) : Int)))]) hx hb dX6_runs_37 rfl hl (by decide) rfl (fun ls hl => ?_)
        have loop38 : ∀ (n38 : Nat) (k : Nat) (σ4 : gS) (z4 : gZ) (H : Heap) (locs : List Loc) (ls : Array Slot), m0 - k < n38 → (k ≤ m0) → (z4 = upr z 111 (sdI (z 111) k)) → (σ4 115 = (tkI (cpr (σ 114) (σ 115) 50) w (tn (wtN (σ 114) w) N) N (sdU (z 111))) k) → (fr (wTk 115) σ3 σ4) →  gB θ σ4 z4 s.heap H locs → lv_has ls 5 [(3, .int (iZ ((k : Nat) : Int))), (2, .int (iZ (rnS (tkI (cpr (σ 114) (σ 115) 50) w (tn (wtN (σ 114) w) N) N (sdU (z 111))) (rnC (cpr (σ 114) (σ 115) 50) w (tn (wtN (σ 114) w) N) N (sdU (z 111))) k))), (0, .ref (tad θ 111)), (1, .int (iZ ((m0 : Nat) : Int)))] → W p l e (gRm 7 161) s m args below meth c H locs 0 0 (MQ below (gQi θ (fun q σ' z' => ((¬ (1 ≤ x ∧ x ≤ 30) ∧ q = -2 ∧ z' = z) ∨ ((1 ≤ x ∧ x ≤ 30) ∧ ¬ sndG (σ 114) N ∧ q = -3 ∧ z' = z) ∨ ((1 ≤ x ∧ x ≤ 30) ∧ sndG (σ 114) N ∧ ∃ w, mClk (σ 114) N = some w ∧ ∃ m0 : Nat, x = (m0 : Int) ∧ q = rnS (tkI (cpr (σ 114) (σ 115) 50) w (tn (wtN (σ 114) w) N) N (sdU (z 111))) (rnC (cpr (σ 114) (σ 115) 50) w (tn (wtN (σ 114) w) N) N (sdU (z 111))) m0 ∧ z' = upr z 111 (sdI (z 111) m0))) ∧ fr wSc σ σ')) args s 0 0 (tA θ)) (F0 m 38 ls []) := by
          intro n38
          induction n38 with
          | zero => intro k σ4 z4 H locs ls hmu; exact absurd hmu (Nat.not_lt_zero _)
          | succ n38 ih38 =>
            intro k σ4 z4 H locs ls hmu hk hz hg hf4 hB hl
            have hR := hB.1.2
            have hX4 : tCx σ4 w N (tn (wtN (σ 114) w) N) := hX3.keep (hf4.row (fun k => rfl)) (hf4.row (fun k => rfl)) (hf4.row (fun k => rfl))
            have hr4 : tOk (σ4 115) N := by rw [hg]; exact tkI_ok hB0 hX3.lt k (fun i _ => sdU_in (z 111) i)
            refine lv_iload_n hx hb dX6_runs_38 rfl (lv_at hl 0 rfl) ?_
            refine lv_iload_n hx hb dX6_runs_39 rfl (lv_at hl 3 rfl) ?_
            refine z_icmp_ge (tgt := 103) hx hb dX6_runs_40 (by decide) ⟨by omega, by omega⟩ ⟨by omega, by omega⟩ (fun c_9 => ?_) (fun c_9 => ?_)
            · refine lv_iload_n hx hb dX6_runs_103 rfl (lv_at hl 1 rfl) ?_
              have hrng : rg (rnS (tkI (cpr (σ 114) (σ 115) 50) w (tn (wtN (σ 114) w) N) N (sdU (z 111))) (rnC (cpr (σ 114) (σ 115) 50) w (tn (wtN (σ 114) w) N) N (sdU (z 111))) k) := by
                have h9 := rnS_in (R := (tkI (cpr (σ 114) (σ 115) 50) w (tn (wtN (σ 114) w) N) N (sdU (z 111)))) (C := (rnC (cpr (σ 114) (σ 115) 50) w (tn (wtN (σ 114) w) N) N (sdU (z 111)))) (fun i => by have hm := mN_le ((tkI (cpr (σ 114) (σ 115) 50) w (tn (wtN (σ 114) w) N) N (sdU (z 111))) i) w (tn (wtN (σ 114) w) N) ((sdU (z 111)) i).1 ((sdU (z 111)) i).2 N; have hc : (rnC (cpr (σ 114) (σ 115) 50) w (tn (wtN (σ 114) w) N) N (sdU (z 111))) i = ((mN ((tkI (cpr (σ 114) (σ 115) 50) w (tn (wtN (σ 114) w) N) N (sdU (z 111))) i) w (tn (wtN (σ 114) w) N) ((sdU (z 111)) i).1 ((sdU (z 111)) i).2 N : Nat) : Int) := rfl; have := hW.1; omega) (fun i => (tkI_ok hB0 hX3.lt i (fun i _ => sdU_in (z 111) i)).2.1) k
                exact ⟨by omega, by omega⟩
              exact g_iret hx hb hr hlk hB dX6_runs_104 hrng (⟨Or.inr (Or.inr ⟨by omega, hsd, w, ew, m0, hm0, by rw [show k = m0 by omega], by rw [hz, show k = m0 by omega]⟩), hfs3.tr (hf4.mono sc_tr)⟩)
            · refine lv_aload_n hx hb dX6_runs_43 rfl (lv_at hl 2 rfl) ?_
              refine lv_aload_n hx hb dX6_runs_44 rfl (lv_at hl 2 rfl) ?_
              refine g_getl (k := 16) hx hb hts hown hK hB cf6 (by decide) rfl (by decide) kw_675 rfl dX6_runs_45 ?_
              refine lv_ldc2 hx hb hown (hts _ kw_1025) dX6_runs_48 ?_
              refine lv_lmul hx hb dX6_runs_51 ?_
              refine lv_ldc2 hx hb hown (hts _ kw_1026) dX6_runs_52 ?_
              refine lv_ladd hx hb dX6_runs_55 ?_
              refine g_putL (k := 16) hx hb hts hown hK hθ hB cf6 tyX6 tyX6_ok (by decide) rfl (by decide) kw_675 rfl (by decide) rfl rfl dX6_runs_56 (fun H locs hB => ?_)
              refine lv_aload_n hx hb dX6_runs_59 rfl (lv_at hl 2 rfl) ?_
              refine g_getl (k := 16) hx hb hts hown hK hB cf6 (by decide) rfl (by decide) kw_675 rfl dX6_runs_60 ?_
              refine lv_bipush (v := iZ 33) hx hb dX6_runs_63 (by decide) ?_
              refine z_draw hx hb dX6_runs_65 ?_
              refine z_topl (b := (((dr (sdI (z 111) (k + 1))) : Nat) : Int)) (by rw [upr_eq, hz, upr_eq]; rfl) ?_
              refine z_l2i hx hb dX6_runs_66 ?_
              have hdl := dr_lt (sdI (z 111) (k + 1))
              refine z_top (b := (((dr (sdI (z 111) (k + 1))) : Nat) : Int)) (rfl) ?_
              refine lv_istore (lv' := [(4, .int (iZ (((dr (sdI (z 111) (k + 1))) : Nat) : Int))), (3, .int (iZ ((k : Nat) : Int))), (2, .int (iZ (rnS (tkI (cpr (σ 114) (σ 115) 50) w (tn (wtN (σ 114) w) N) N (sdU (z 111))) (rnC (cpr (σ 114) (σ 115) 50) w (tn (wtN (σ 114) w) N) N (sdU (z 111))) k))), (0, .ref (tad θ 111)), (1, .int (iZ ((m0 : Nat) : Int)))]) hx hb dX6_runs_67 hl (by decide) rfl (fun ls hl => ?_)
              refine lv_iload_n hx hb dX6_runs_69 rfl (lv_at hl 2 rfl) ?_
              refine lv_aload_n hx hb dX6_runs_70 rfl (lv_at hl 3 rfl) ?_
              refine lv_aload_n hx hb dX6_runs_71 rfl (lv_at hl 3 rfl) ?_
              refine lv_aload_n hx hb dX6_runs_72 rfl (lv_at hl 3 rfl) ?_
              refine g_getr (k := 6) (j := 115) hx hb hts hown hK hθ hB cf6 (by decide) rfl (by decide) kw_665 rfl rfl dX6_runs_73 ?_
              refine lv_iload hx hb dX6_runs_76 (lv_at hl 0 rfl) ?_
              refine lv_bipush (v := iZ 10) hx hb dX6_runs_78 (by decide) ?_
              refine z_irem hx hb dX6_runs_80 ⟨by omega, by omega⟩ (by omega) ⟨by decide, by decide⟩ (by decide) ?_
              refine z_top (b := ((((dr (sdI (z 111) (k + 1))) % 10) : Nat) : Int)) (by omega) ?_
              refine lv_iload hx hb dX6_runs_81 (lv_at hl 0 rfl) ?_
              refine lv_bipush (v := iZ 16) hx hb dX6_runs_83 (by decide) ?_
              refine z_idiv hx hb dX6_runs_85 ⟨by omega, by omega⟩ (by omega) ⟨by decide, by decide⟩ (by decide) ?_
              refine lv_bipush (v := iZ 10) hx hb dX6_runs_86 (by decide) ?_
              refine z_irem hx hb dX6_runs_88 ⟨by omega, by omega⟩ (by omega) ⟨by decide, by decide⟩ (by decide) ?_
              refine z_top (b := ((((dr (sdI (z 111) (k + 1))) / 16 % 10) : Nat) : Int)) (by omega) ?_
              refine g_calli (g_runV (i := 111) (As := [.ref (tad θ 115), .int (iZ ((((dr (sdI (z 111) (k + 1))) % 10) : Nat) : Int)), .int (iZ ((((dr (sdI (z 111) (k + 1))) / 16 % 10) : Nat) : Int))]) (rest := [.ref (tad θ 111), .int (iZ (rnS (tkI (cpr (σ 114) (σ 115) 50) w (tn (wtN (σ 114) w) N) N (sdU (z 111))) (rnC (cpr (σ 114) (σ 115) 50) w (tn (wtN (σ 114) w) N) N (sdU (z 111))) k))]) hx hb hml hown hts hK hst hB (mX6_goTick l θ hθ σ4 (upr z4 111 (((z4 111) * (6364136223846793005 : Int64)) + (1442695040888963407 : Int64))) w (hX4).1 (hX4).2.1 115 (Or.inr rfl) (hr4).1 N (hr4).2.2 (hr4).2.1 (tn (wtN (σ 114) w) N) (hX4).2.2 (((dr (sdI (z 111) (k + 1))) % 10 : Nat) : Int) (((dr (sdI (z 111) (k + 1))) / 16 % 10 : Nat) : Int) (by omega) (by omega)) mv_X6_goTick kw_893 cf6 (by decide) rfl rfl hl.1 rfl (Nat.le_of_ble_eq_true rfl) ⟨by decide, by decide⟩ ⟨Nat.le_refl _, Nat.le_refl _⟩ dX6_runs_89) hB (fun q5 σ5 z_10 H locs hq5 hp5 hB => ?_)
              obtain ⟨hp5, hf5, e2_⟩ := hp5
              rw [e2_] at hB
              clear e2_
              have hR := hB.1.2
              have hg5 : σ5 115 = (tkI (cpr (σ 114) (σ 115) 50) w (tn (wtN (σ 114) w) N) N (sdU (z 111))) (k + 1) := by rw [hp5.1, hg]; rfl
              have hr5 : tOk ((tkI (cpr (σ 114) (σ 115) 50) w (tn (wtN (σ 114) w) N) N (sdU (z 111))) (k + 1)) N := tkI_ok hB0 hX3.lt (k + 1) (fun i _ => sdU_in (z 111) i)
              have hq5e : q5 = (rnC (cpr (σ 114) (σ 115) 50) w (tn (wtN (σ 114) w) N) N (sdU (z 111))) k := by rw [hp5.2, hg]; rfl
              have hmn := mN_le ((tkI (cpr (σ 114) (σ 115) 50) w (tn (wtN (σ 114) w) N) N (sdU (z 111))) k) w (tn (wtN (σ 114) w) N) ((sdU (z 111)) k).1 ((sdU (z 111)) k).2 N
              have hC5 : (rnC (cpr (σ 114) (σ 115) 50) w (tn (wtN (σ 114) w) N) N (sdU (z 111))) k = ((mN ((tkI (cpr (σ 114) (σ 115) 50) w (tn (wtN (σ 114) w) N) N (sdU (z 111))) k) w (tn (wtN (σ 114) w) N) ((sdU (z 111)) k).1 ((sdU (z 111)) k).2 N : Nat) : Int) := rfl
              have hN8 := hW.1
              rw [hq5e]
              refine g_calli (g_runV (i := 111) (As := [.int (iZ ((rnC (cpr (σ 114) (σ 115) 50) w (tn (wtN (σ 114) w) N) N (sdU (z 111))) k))]) (rest := [.int (iZ (rnS (tkI (cpr (σ 114) (σ 115) 50) w (tn (wtN (σ 114) w) N) N (sdU (z 111))) (rnC (cpr (σ 114) (σ 115) 50) w (tn (wtN (σ 114) w) N) N (sdU (z 111))) k))]) hx hb hml hown hts hK hst hB (mX6_sumOf l θ hθ σ5 (upr z4 111 (((z4 111) * (6364136223846793005 : Int64)) + (1442695040888963407 : Int64))) ((rnC (cpr (σ 114) (σ 115) 50) w (tn (wtN (σ 114) w) N) N (sdU (z 111))) k) (by omega) (by rw [hg5]; exact hr5.2.1)) mv_X6_sumOf kw_1027 cf6 (by decide) rfl rfl hl.1 rfl (Nat.le_of_ble_eq_true rfl) ⟨by decide, by decide⟩ ⟨Nat.le_refl _, Nat.le_refl _⟩ dX6_runs_92) hB (fun q_13 σ_11 z_12 H locs hq_13 pq_13 hB => ?_)
              obtain ⟨pq_13, e1_, e2_⟩ := pq_13
              rw [e1_, e2_] at hB
              clear e1_ e2_
              subst pq_13
              refine z_top (b := ((rnC (cpr (σ 114) (σ 115) 50) w (tn (wtN (σ 114) w) N) N (sdU (z 111))) k + smV ((tkI (cpr (σ 114) (σ 115) 50) w (tn (wtN (σ 114) w) N) N (sdU (z 111))) (k + 1)) 8)) (by rw [hg5]) ?_
              refine z_iadd hx hb dX6_runs_95 ?_
              refine z_top (b := (rnS (tkI (cpr (σ 114) (σ 115) 50) w (tn (wtN (σ 114) w) N) N (sdU (z 111))) (rnC (cpr (σ 114) (σ 115) 50) w (tn (wtN (σ 114) w) N) N (sdU (z 111))) (k + 1))) (rfl) ?_
              refine lv_istore_n (lv' := [(2, .int (iZ (rnS (tkI (cpr (σ 114) (σ 115) 50) w (tn (wtN (σ 114) w) N) N (sdU (z 111))) (rnC (cpr (σ 114) (σ 115) 50) w (tn (wtN (σ 114) w) N) N (sdU (z 111))) (k + 1)))), (4, .int (iZ (((dr (sdI (z 111) (k + 1))) : Nat) : Int))), (3, .int (iZ ((k : Nat) : Int))), (0, .ref (tad θ 111)), (1, .int (iZ ((m0 : Nat) : Int)))]) hx hb dX6_runs_96 rfl hl (by decide) rfl (fun ls hl => ?_)
              refine z_iinc (k := 2) (lv' := [(3, .int (iZ (((k : Nat) : Int) + 1))), (2, .int (iZ (rnS (tkI (cpr (σ 114) (σ 115) 50) w (tn (wtN (σ 114) w) N) N (sdU (z 111))) (rnC (cpr (σ 114) (σ 115) 50) w (tn (wtN (σ 114) w) N) N (sdU (z 111))) (k + 1)))), (4, .int (iZ (((dr (sdI (z 111) (k + 1))) : Nat) : Int))), (0, .ref (tad θ 111)), (1, .int (iZ ((m0 : Nat) : Int)))]) hx hb dX6_runs_97 hl rfl (by decide) rfl (fun ls hl => ?_)
              have hl : lv_has ls 5 [(3, .int (iZ (((k + 1) : Nat) : Int))), (2, .int (iZ (rnS (tkI (cpr (σ 114) (σ 115) 50) w (tn (wtN (σ 114) w) N) N (sdU (z 111))) (rnC (cpr (σ 114) (σ 115) 50) w (tn (wtN (σ 114) w) N) N (sdU (z 111))) (k + 1)))), (4, .int (iZ (((dr (sdI (z 111) (k + 1))) : Nat) : Int))), (0, .ref (tad θ 111)), (1, .int (iZ ((m0 : Nat) : Int)))] := by have e9 : (((k : Nat) : Int) + 1) = (((k + 1) : Nat) : Int) := (by omega); rw [e9] at hl; exact hl
              refine lv_goto (tgt := 38) hx hb dX6_runs_100 (by decide) ?_
              exact ih38 (k + 1) σ5 (upr z4 111 (((z4 111) * (6364136223846793005 : Int64)) + (1442695040888963407 : Int64))) _ _ _ (by omega) (by omega) (by rw [hz, upr_eq, upr_upr]; rfl) hg5 (hf4.tr hf5) hB (lv_sub hl [0, 1, 3, 4] rfl)
        exact loop38 _ 0 σ3 z _ _ _ (Nat.lt_succ_self _) (by omega) (upr_self z 111) hp3 fr.rf hB (lv_sub hl [0, 1, 2, 3] rfl)
      · exact absurd c_6 (by decide)
    · subst hqa
      have hnd : ¬ sndG (σ 114) N := fun q => hsn (hiff.mpr q)
      refine z_if_ne (tgt := 30) hx hb dX6_runs_24 (by decide) ⟨by decide, by decide⟩ (fun c_14 => ?_) (fun c_14 => ?_)
      · exact absurd (by decide) c_14
      · refine lv_bipush (v := iZ (-3)) hx hb dX6_runs_27 (by decide) ?_
        exact g_iret hx hb hr hlk hB dX6_runs_29 ⟨by decide, by decide⟩ (⟨Or.inr (Or.inl ⟨by omega, hnd, rfl, rfl⟩), hfs⟩)
  · refine lv_bipush (v := iZ (-2)) hx hb dX6_runs_17 (by decide) ?_
    exact g_iret hx hb hr hlk hB dX6_runs_19 ⟨by decide, by decide⟩ (⟨Or.inl ⟨by omega, rfl, rfl⟩, (by rw [hσ1]; exact fr.up rfl : fr wSc σ σ1)⟩)
