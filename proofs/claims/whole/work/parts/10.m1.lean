/-- the pages that the reference works on -/
def isP (P : Nat) : Prop := P = 114 ∨ P = 115
theorem isP.ltp {P : Nat} (h : isP P) : P < 129 := by rcases h with rfl | rfl <;> decide
theorem isP.ckp {P : Nat} (h : isP P) : ck P = 7 := by rcases h with rfl | rfl <;> decide
theorem isP.cnp {P : Nat} (h : isP P) : cn P = 50 := by rcases h with rfl | rfl <;> decide
theorem isP.bgp {P : Nat} (h : isP P) : cn P < 1000 := by rw [h.cnp]; decide
set_option maxHeartbeats 4000000 in
set_option maxRecDepth 100000 in
theorem mX6_in (l : Launch) (θ : gT) (hθ : gOK θ) (σ : gS) (z : gZ) (v a b : Int) (hv : rgL v) (ha : rgL a) (hb0 : rgL b) : GI l θ yX6_in cX6_in 6 (some .boolean) 0 0 [.long (lZ v), .long (lZ a), .long (lZ b)] σ z (fun q σ' z' => ((q = 1 ∧ (a ≤ v ∧ v ≤ b)) ∨ (q = 0 ∧ ¬ (a ≤ v ∧ v ≤ b))) ∧ σ' = σ ∧ z' = z) := by
  refine g_enter (ret := (some .boolean)) (by decide +kernel) (Nat.le_of_ble_eq_true rfl) ?_
  intro p e s m args below meth c ls F hB hl
  obtain ⟨hx, hb, hr, hml, hown, hts, hlk, hK, hst⟩ := F
  have hR := hB.1.2
  have hl : lv_has ls 6 [(0, .long (lZ v)), (2, .long (lZ a)), (4, .long (lZ b))] := hl
  refine lv_lload_n hx hb dX6_in_0 rfl (lv_at hl 0 rfl) ?_
  refine lv_lload_n hx hb dX6_in_1 rfl (lv_at hl 1 rfl) ?_
  refine z_lcmp hx hb dX6_in_2 ⟨by omega, by omega⟩ ⟨by omega, by omega⟩ ?_
  have hc_1 := cmpZ_sp v a
  refine z_if_lt (tgt := 17) hx hb dX6_in_3 (by decide) ⟨by omega, by omega⟩ (fun c_2 => ?_) (fun c_2 => ?_)
  · refine lv_iconst (v := iZ 0) hx hb dX6_in_17 rfl ?_
    exact g_zret hx hb hr hlk hB dX6_in_18 (by decide) (⟨by omega, rfl, rfl⟩)
  · refine lv_lload_n hx hb dX6_in_6 rfl (lv_at hl 0 rfl) ?_
    refine lv_lload hx hb dX6_in_7 (lv_at hl 2 rfl) ?_
    refine z_lcmp hx hb dX6_in_9 ⟨by omega, by omega⟩ ⟨by omega, by omega⟩ ?_
    have hc_3 := cmpZ_sp v b
    refine z_if_gt (tgt := 17) hx hb dX6_in_10 (by decide) ⟨by omega, by omega⟩ (fun c_4 => ?_) (fun c_4 => ?_)
    · refine lv_iconst (v := iZ 0) hx hb dX6_in_17 rfl ?_
      exact g_zret hx hb hr hlk hB dX6_in_18 (by decide) (⟨by omega, rfl, rfl⟩)
    · refine lv_iconst (v := iZ 1) hx hb dX6_in_13 rfl ?_
      refine lv_goto (tgt := 18) hx hb dX6_in_14 (by decide) ?_
      exact g_zret hx hb hr hlk hB dX6_in_18 (by decide) (⟨by omega, rfl, rfl⟩)
set_option maxHeartbeats 4000000 in
set_option maxRecDepth 100000 in
theorem mX6_has (l : Launch) (θ : gT) (hθ : gOK θ) (σ : gS) (z : gZ) (a : Nat) (ha : a < 256) (k : Nat) (hk : k < 8) : GI l θ yX6_has cX6_has 2 (some .boolean) 0 0 [.int (iZ ((a : Nat) : Int)), .int (iZ ((k : Nat) : Int))] σ z (fun q σ' z' => ((q = 1 ∧ (a / 2 ^ k % 2 = 1)) ∨ (q = 0 ∧ ¬ (a / 2 ^ k % 2 = 1))) ∧ σ' = σ ∧ z' = z) := by
  refine g_enter (ret := (some .boolean)) (by decide +kernel) (Nat.le_of_ble_eq_true rfl) ?_
  intro p e s m args below meth c ls F hB hl
  obtain ⟨hx, hb, hr, hml, hown, hts, hlk, hK, hst⟩ := F
  have hR := hB.1.2
  have hl : lv_has ls 2 [(0, .int (iZ ((a : Nat) : Int))), (1, .int (iZ ((k : Nat) : Int)))] := hl
  refine lv_iload_n hx hb dX6_has_0 rfl (lv_at hl 0 rfl) ?_
  refine lv_iload_n hx hb dX6_has_1 rfl (lv_at hl 1 rfl) ?_
  refine z_ishr (a := a) (j := k) hx hb (by omega) (by omega) dX6_has_2 ?_
  refine lv_iconst (v := iZ 1) hx hb dX6_has_3 rfl ?_
  have e1 : (a / 2 ^ k) &&& 1 = a / 2 ^ k % 2 := Nat.and_one_is_mod _
  have e2 := Nat.mod_lt (a / 2 ^ k) (show 0 < 2 by decide)
  refine z_iand (a := (a / 2 ^ k)) (b := 1) hx hb dX6_has_4 ?_
  refine lv_iconst (v := iZ 1) hx hb dX6_has_5 rfl ?_
  refine z_icmp_ne (tgt := 13) hx hb dX6_has_6 (by decide) ⟨by omega, by omega⟩ ⟨by decide, by decide⟩ (fun c_1 => ?_) (fun c_1 => ?_)
  · refine lv_iconst (v := iZ 0) hx hb dX6_has_13 rfl ?_
    exact g_zret hx hb hr hlk hB dX6_has_14 (by decide) (⟨by omega, rfl, rfl⟩)
  · refine lv_iconst (v := iZ 1) hx hb dX6_has_9 rfl ?_
    refine lv_goto (tgt := 14) hx hb dX6_has_10 (by decide) ?_
    exact g_zret hx hb hr hlk hB dX6_has_14 (by decide) (⟨by omega, rfl, rfl⟩)
set_option maxHeartbeats 4000000 in
set_option maxRecDepth 100000 in
theorem mX6_figures (l : Launch) (θ : gT) (hθ : gOK θ) (σ : gS) (z : gZ) (k : Int) (hk : rg k) : GI l θ yX6_figures cX6_figures 1 (some .int) 0 0 [.int (iZ k)] σ z (fun q σ' z' => (((k < 2 ∨ k = 7) ∧ q = 1) ∨ ((k = 5 ∨ k = 11) ∧ q = 3) ∨ (¬ (k < 2 ∨ k = 7 ∨ k = 5 ∨ k = 11) ∧ q = 2)) ∧ σ' = σ ∧ z' = z) := by
  refine g_enter (ret := (some .int)) (by decide +kernel) (Nat.le_of_ble_eq_true rfl) ?_
  intro p e s m args below meth c ls F hB hl
  obtain ⟨hx, hb, hr, hml, hown, hts, hlk, hK, hst⟩ := F
  have hR := hB.1.2
  have hl : lv_has ls 1 [(0, .int (iZ k))] := hl
  refine lv_iload_n hx hb dX6_figures_0 rfl (lv_at hl 0 rfl) ?_
  refine lv_iconst (v := iZ 2) hx hb dX6_figures_1 rfl ?_
  refine z_icmp_lt (tgt := 11) hx hb dX6_figures_2 (by decide) ⟨by omega, by omega⟩ ⟨by decide, by decide⟩ (fun c_1 => ?_) (fun c_1 => ?_)
  · refine lv_iconst (v := iZ 1) hx hb dX6_figures_11 rfl ?_
    refine lv_goto (tgt := 31) hx hb dX6_figures_12 (by decide) ?_
    exact g_iret hx hb hr hlk hB dX6_figures_31 ⟨by decide, by decide⟩ (⟨by omega, rfl, rfl⟩)
  · refine lv_iload_n hx hb dX6_figures_5 rfl (lv_at hl 0 rfl) ?_
    refine lv_bipush (v := iZ 7) hx hb dX6_figures_6 (by decide) ?_
    refine z_icmp_ne (tgt := 15) hx hb dX6_figures_8 (by decide) ⟨by omega, by omega⟩ ⟨by decide, by decide⟩ (fun c_2 => ?_) (fun c_2 => ?_)
    · refine lv_iload_n hx hb dX6_figures_15 rfl (lv_at hl 0 rfl) ?_
      refine lv_iconst (v := iZ 5) hx hb dX6_figures_16 rfl ?_
      refine z_icmp_eq (tgt := 26) hx hb dX6_figures_17 (by decide) ⟨by omega, by omega⟩ ⟨by decide, by decide⟩ (fun c_3 => ?_) (fun c_3 => ?_)
      · refine lv_iconst (v := iZ 3) hx hb dX6_figures_26 rfl ?_
        refine lv_goto (tgt := 31) hx hb dX6_figures_27 (by decide) ?_
        exact g_iret hx hb hr hlk hB dX6_figures_31 ⟨by decide, by decide⟩ (⟨by omega, rfl, rfl⟩)
      · refine lv_iload_n hx hb dX6_figures_20 rfl (lv_at hl 0 rfl) ?_
        refine lv_bipush (v := iZ 11) hx hb dX6_figures_21 (by decide) ?_
        refine z_icmp_ne (tgt := 30) hx hb dX6_figures_23 (by decide) ⟨by omega, by omega⟩ ⟨by decide, by decide⟩ (fun c_4 => ?_) (fun c_4 => ?_)
        · refine lv_iconst (v := iZ 2) hx hb dX6_figures_30 rfl ?_
          exact g_iret hx hb hr hlk hB dX6_figures_31 ⟨by decide, by decide⟩ (⟨by omega, rfl, rfl⟩)
        · refine lv_iconst (v := iZ 3) hx hb dX6_figures_26 rfl ?_
          refine lv_goto (tgt := 31) hx hb dX6_figures_27 (by decide) ?_
          exact g_iret hx hb hr hlk hB dX6_figures_31 ⟨by decide, by decide⟩ (⟨by omega, rfl, rfl⟩)
    · refine lv_iconst (v := iZ 1) hx hb dX6_figures_11 rfl ?_
      refine lv_goto (tgt := 31) hx hb dX6_figures_12 (by decide) ?_
      exact g_iret hx hb hr hlk hB dX6_figures_31 ⟨by decide, by decide⟩ (⟨by omega, rfl, rfl⟩)
set_option maxHeartbeats 4000000 in
set_option maxRecDepth 100000 in
theorem mX6_most (l : Launch) (θ : gT) (hθ : gOK θ) (σ : gS) (z : gZ) (k i n : Int) (hk : rg k) (hi : rg i) (hn : 0 ≤ n ∧ n < 1000) : GI l θ yX6_most cX6_most 3 (some .int) 0 0 [.int (iZ k), .int (iZ i), .int (iZ n)] σ z (fun q σ' z' => ((k = 0 ∧ q = 1) ∨ (k ≠ 0 ∧ (k = 1 ∨ k = 6 ∧ i = 0) ∧ q = 9) ∨ (k ≠ 0 ∧ ¬ (k = 1 ∨ k = 6 ∧ i = 0) ∧ q = n - 1)) ∧ σ' = σ ∧ z' = z) := by
  refine g_enter (ret := (some .int)) (by decide +kernel) (Nat.le_of_ble_eq_true rfl) ?_
  intro p e s m args below meth c ls F hB hl
  obtain ⟨hx, hb, hr, hml, hown, hts, hlk, hK, hst⟩ := F
  have hR := hB.1.2
  have hl : lv_has ls 3 [(0, .int (iZ k)), (1, .int (iZ i)), (2, .int (iZ n))] := hl
  refine lv_iload_n hx hb dX6_most_0 rfl (lv_at hl 0 rfl) ?_
  refine z_if_ne (tgt := 8) hx hb dX6_most_1 (by decide) ⟨by omega, by omega⟩ (fun c_1 => ?_) (fun c_1 => ?_)
  · refine lv_iload_n hx hb dX6_most_8 rfl (lv_at hl 0 rfl) ?_
    refine lv_iconst (v := iZ 1) hx hb dX6_most_9 rfl ?_
    refine z_icmp_eq (tgt := 23) hx hb dX6_most_10 (by decide) ⟨by omega, by omega⟩ ⟨by decide, by decide⟩ (fun c_2 => ?_) (fun c_2 => ?_)
    · refine lv_bipush (v := iZ 9) hx hb dX6_most_23 (by decide) ?_
      refine lv_goto (tgt := 31) hx hb dX6_most_25 (by decide) ?_
      exact g_iret hx hb hr hlk hB dX6_most_31 ⟨by decide, by decide⟩ (⟨by omega, rfl, rfl⟩)
    · refine lv_iload_n hx hb dX6_most_13 rfl (lv_at hl 0 rfl) ?_
      refine lv_bipush (v := iZ 6) hx hb dX6_most_14 (by decide) ?_
      refine z_icmp_ne (tgt := 28) hx hb dX6_most_16 (by decide) ⟨by omega, by omega⟩ ⟨by decide, by decide⟩ (fun c_3 => ?_) (fun c_3 => ?_)
      · refine lv_iload_n hx hb dX6_most_28 rfl (lv_at hl 2 rfl) ?_
        refine lv_iconst (v := iZ 1) hx hb dX6_most_29 rfl ?_
        refine z_isub hx hb dX6_most_30 ?_
        exact g_iret hx hb hr hlk hB dX6_most_31 ⟨by omega, by omega⟩ (⟨by omega, rfl, rfl⟩)
      · refine lv_iload_n hx hb dX6_most_19 rfl (lv_at hl 1 rfl) ?_
        refine z_if_ne (tgt := 28) hx hb dX6_most_20 (by decide) ⟨by omega, by omega⟩ (fun c_4 => ?_) (fun c_4 => ?_)
        · refine lv_iload_n hx hb dX6_most_28 rfl (lv_at hl 2 rfl) ?_
          refine lv_iconst (v := iZ 1) hx hb dX6_most_29 rfl ?_
          refine z_isub hx hb dX6_most_30 ?_
          exact g_iret hx hb hr hlk hB dX6_most_31 ⟨by omega, by omega⟩ (⟨by omega, rfl, rfl⟩)
        · refine lv_bipush (v := iZ 9) hx hb dX6_most_23 (by decide) ?_
          refine lv_goto (tgt := 31) hx hb dX6_most_25 (by decide) ?_
          exact g_iret hx hb hr hlk hB dX6_most_31 ⟨by decide, by decide⟩ (⟨by omega, rfl, rfl⟩)
  · refine lv_iconst (v := iZ 1) hx hb dX6_most_4 rfl ?_
    refine lv_goto (tgt := 31) hx hb dX6_most_5 (by decide) ?_
    exact g_iret hx hb hr hlk hB dX6_most_31 ⟨by decide, by decide⟩ (⟨by omega, rfl, rfl⟩)
set_option maxHeartbeats 4000000 in
set_option maxRecDepth 100000 in
theorem mX6_noStream (l : Launch) (θ : gT) (hθ : gOK θ) (σ : gS) (z : gZ) (k : Int) (hk : rg k) (hn : 0 ≤ σ 114 0 ∧ σ 114 0 ≤ 8) : GI l θ yX6_noStream cX6_noStream 2 (some .boolean) 1 25 [.ref (tad θ 111), .int (iZ k)] σ z (fun q σ' z' => ((q = 1 ∧ (¬ (0 ≤ k ∧ k < σ 114 0))) ∨ (q = 0 ∧ ¬ (¬ (0 ≤ k ∧ k < σ 114 0)))) ∧ σ' = σ ∧ z' = z) := by
  refine g_enter (ret := (some .boolean)) (by decide +kernel) (Nat.le_of_ble_eq_true rfl) ?_
  intro p e s m args below meth c ls F hB hl
  obtain ⟨hx, hb, hr, hml, hown, hts, hlk, hK, hst⟩ := F
  have hR := hB.1.2
  have hl : lv_has ls 2 [(0, .ref (tad θ 111)), (1, .int (iZ k))] := hl
  refine lv_iload_n hx hb dX6_noStream_0 rfl (lv_at hl 1 rfl) ?_
  refine z_i2l hx hb ⟨by omega, by omega⟩ dX6_noStream_1 ?_
  refine lv_lconst (v := lZ 0) hx hb dX6_noStream_2 (by decide) ?_
  refine lv_aload_n hx hb dX6_noStream_3 rfl (lv_at hl 0 rfl) ?_
  refine g_getr (k := 5) (j := 114) hx hb hts hown hK hθ hB cf6 (by decide) rfl (by decide) kw_664 rfl rfl dX6_noStream_4 ?_
  refine lv_iconst (v := iZ 0) hx hb dX6_noStream_7 rfl ?_
  refine g_iald (k := 0) hx hb hK hB (by decide) rfl (by omega) (Nat.lt_of_lt_of_eq (by omega : 0 < 50) (Eq.symm rfl)) (by decide) dX6_noStream_8 ?_
  have hr_1 := hR 114 0
  refine lv_iconst (v := iZ 1) hx hb dX6_noStream_9 rfl ?_
  refine z_isub hx hb dX6_noStream_10 ?_
  refine z_i2l hx hb ⟨by omega, by omega⟩ dX6_noStream_11 ?_
  refine g_calli (g_runS (As := [.long (lZ k), .long (lZ 0), .long (lZ ((σ 114 0) - 1))]) (rest := []) hx hb hml hown hts hK hst hB (mX6_in l θ hθ σ z k 0 ((σ 114 0) - 1) ⟨by omega, by omega⟩ ⟨by omega, by omega⟩ ⟨by omega, by omega⟩) ms_X6_in kw_749 rfl hl.1 rfl (Nat.le_of_ble_eq_true rfl) ⟨by decide, by decide⟩ ⟨Nat.le_refl _, Nat.le_refl _⟩ dX6_noStream_12) hB (fun q_4 σ_2 z_3 H locs hq_4 pq_4 hB => ?_)
  obtain ⟨pq_4, e1_, e2_⟩ := pq_4
  rw [e1_, e2_] at hB
  clear e1_ e2_
  refine z_if_ne (tgt := 22) hx hb dX6_noStream_15 (by decide) ⟨by omega, by omega⟩ (fun c_5 => ?_) (fun c_5 => ?_)
  · refine lv_iconst (v := iZ 0) hx hb dX6_noStream_22 rfl ?_
    exact g_zret hx hb hr hlk hB dX6_noStream_23 (by decide) (⟨by omega, rfl, rfl⟩)
  · refine lv_iconst (v := iZ 1) hx hb dX6_noStream_18 rfl ?_
    refine lv_goto (tgt := 23) hx hb dX6_noStream_19 (by decide) ?_
    exact g_zret hx hb hr hlk hB dX6_noStream_23 (by decide) (⟨by omega, rfl, rfl⟩)
set_option maxHeartbeats 4000000 in
set_option maxRecDepth 100000 in
theorem mX6_streamOf (l : Launch) (θ : gT) (hθ : gOK θ) (σ : gS) (z : gZ) (P : Nat) (hP : isP P) (k i : Nat) (hk : k < 8) (hi : i < 3) : GI l θ yX6_streamOf cX6_streamOf 5 (some .int) 1 20 [.ref (tad θ P), .int (iZ ((k : Nat) : Int)), .int (iZ ((i : Nat) : Int))] σ z (fun q σ' z' => (((1 < σ P (1 + k) ∧ ((i : Int) < 1 ∨ ((i : Int) < 2 ∧ σ P (1 + k) ≠ 7) ∨ σ P (1 + k) = 5 ∨ σ P (1 + k) = 11) ∧ (σ P (1 + k) ≠ 6 ∨ 0 < i)) ∧ q = σ P (9 + 3 * k + i)) ∨ (¬ (1 < σ P (1 + k) ∧ ((i : Int) < 1 ∨ ((i : Int) < 2 ∧ σ P (1 + k) ≠ 7) ∨ σ P (1 + k) = 5 ∨ σ P (1 + k) = 11) ∧ (σ P (1 + k) ≠ 6 ∨ 0 < i)) ∧ q = -9)) ∧ σ' = σ ∧ z' = z) := by
  refine g_enter (ret := (some .int)) (by decide +kernel) (Nat.le_of_ble_eq_true rfl) ?_
  intro p e s m args below meth c ls F hB hl
  obtain ⟨hx, hb, hr, hml, hown, hts, hlk, hK, hst⟩ := F
  have hR := hB.1.2
  have hl : lv_has ls 5 [(0, .ref (tad θ P)), (1, .int (iZ ((k : Nat) : Int))), (2, .int (iZ ((i : Nat) : Int)))] := hl
  refine lv_aload_n hx hb dX6_streamOf_0 rfl (lv_at hl 0 rfl) ?_
  refine lv_iconst (v := iZ 1) hx hb dX6_streamOf_1 rfl ?_
  refine lv_iload_n hx hb dX6_streamOf_2 rfl (lv_at hl 1 rfl) ?_
  refine z_iadd hx hb dX6_streamOf_3 ?_
  refine g_iald (k := (1 + k)) hx hb hK hB hP.ltp hP.ckp (by omega) (Nat.lt_of_lt_of_eq (by omega : (1 + k) < 50) (Eq.symm hP.cnp)) hP.bgp dX6_streamOf_4 ?_
  have hr_1 := hR P (1 + k)
  refine lv_istore_n (lv' := [(3, .int (iZ (σ P (1 + k)))), (0, .ref (tad θ P)), (1, .int (iZ ((k : Nat) : Int))), (2, .int (iZ ((i : Nat) : Int)))]) hx hb dX6_streamOf_5 rfl hl (by decide) rfl (fun ls hl => ?_)
  refine lv_iload_n hx hb dX6_streamOf_6 rfl (lv_at hl 0 rfl) ?_
  refine lv_iconst (v := iZ 1) hx hb dX6_streamOf_7 rfl ?_
  refine z_icmp_le (tgt := 33) hx hb dX6_streamOf_8 (by decide) ⟨by omega, by omega⟩ ⟨by decide, by decide⟩ (fun c_2 => ?_) (fun c_2 => ?_)
  · refine lv_iconst (v := iZ 0) hx hb dX6_streamOf_33 rfl ?_
    refine lv_istore (lv' := [(4, .int (iZ 0)), (3, .int (iZ (σ P (1 + k)))), (0, .ref (tad θ P)), (1, .int (iZ ((k : Nat) : Int))), (2, .int (iZ ((i : Nat) : Int)))]) hx hb dX6_streamOf_34 hl (by decide) rfl (fun ls hl => ?_)
    refine lv_iload hx hb dX6_streamOf_36 (lv_at hl 0 rfl) ?_
    refine z_if_eq (tgt := 54) hx hb dX6_streamOf_38 (by decide) ⟨by decide, by decide⟩ (fun c_3 => ?_) (fun c_3 => ?_)
    · refine lv_bipush (v := iZ (-9)) hx hb dX6_streamOf_54 (by decide) ?_
      exact g_iret hx hb hr hlk hB dX6_streamOf_56 ⟨by decide, by decide⟩ (⟨by omega, rfl, rfl⟩)
    · exact absurd (by decide) c_3
  · refine lv_iload_n hx hb dX6_streamOf_11 rfl (lv_at hl 3 rfl) ?_
    refine lv_iload_n hx hb dX6_streamOf_12 rfl (lv_at hl 0 rfl) ?_
    refine g_calli (g_runS (As := [.int (iZ (σ P (1 + k)))]) (rest := [.int (iZ ((i : Nat) : Int))]) hx hb hml hown hts hK hst hB (mX6_figures l θ hθ σ z (σ P (1 + k)) ⟨by omega, by omega⟩) ms_X6_figures kw_776 rfl hl.1 rfl (Nat.le_of_ble_eq_true rfl) ⟨by decide, by decide⟩ ⟨Nat.le_refl _, Nat.le_refl _⟩ dX6_streamOf_13) hB (fun q_6 σ_4 z_5 H locs hq_6 pq_6 hB => ?_)
    obtain ⟨pq_6, e1_, e2_⟩ := pq_6
    rw [e1_, e2_] at hB
    clear e1_ e2_
    refine z_icmp_ge (tgt := 33) hx hb dX6_streamOf_16 (by decide) ⟨by omega, by omega⟩ ⟨by omega, by omega⟩ (fun c_7 => ?_) (fun c_7 => ?_)
    · refine lv_iconst (v := iZ 0) hx hb dX6_streamOf_33 rfl ?_
      refine lv_istore (lv' := [(4, .int (iZ 0)), (3, .int (iZ (σ P (1 + k)))), (0, .ref (tad θ P)), (1, .int (iZ ((k : Nat) : Int))), (2, .int (iZ ((i : Nat) : Int)))]) hx hb dX6_streamOf_34 hl (by decide) rfl (fun ls hl => ?_)
      refine lv_iload hx hb dX6_streamOf_36 (lv_at hl 0 rfl) ?_
      refine z_if_eq (tgt := 54) hx hb dX6_streamOf_38 (by decide) ⟨by decide, by decide⟩ (fun c_8 => ?_) (fun c_8 => ?_)
      · refine lv_bipush (v := iZ (-9)) hx hb dX6_streamOf_54 (by decide) ?_
        exact g_iret hx hb hr hlk hB dX6_streamOf_56 ⟨by decide, by decide⟩ (⟨by omega, rfl, rfl⟩)
      · exact absurd (by decide) c_8
    · refine lv_iload_n hx hb dX6_streamOf_19 rfl (lv_at hl 0 rfl) ?_
      refine lv_bipush (v := iZ 6) hx hb dX6_streamOf_20 (by decide) ?_
      refine z_icmp_ne (tgt := 29) hx hb dX6_streamOf_22 (by decide) ⟨by omega, by omega⟩ ⟨by decide, by decide⟩ (fun c_9 => ?_) (fun c_9 => ?_)
      · refine lv_iconst (v := iZ 1) hx hb dX6_streamOf_29 rfl ?_
        refine lv_goto (tgt := 34) hx hb dX6_streamOf_30 (by decide) ?_
        refine lv_istore (lv' := [(4, .int (iZ 1)), (3, .int (iZ (σ P (1 + k)))), (0, .ref (tad θ P)), (1, .int (iZ ((k : Nat) : Int))), (2, .int (iZ ((i : Nat) : Int)))]) hx hb dX6_streamOf_34 hl (by decide) rfl (fun ls hl => ?_)
        refine lv_iload hx hb dX6_streamOf_36 (lv_at hl 0 rfl) ?_
        refine z_if_eq (tgt := 54) hx hb dX6_streamOf_38 (by decide) ⟨by decide, by decide⟩ (fun c_10 => ?_) (fun c_10 => ?_)
        · exact absurd c_10 (by decide)
        · refine lv_aload_n hx hb dX6_streamOf_41 rfl (lv_at hl 2 rfl) ?_
          refine lv_bipush (v := iZ 9) hx hb dX6_streamOf_42 (by decide) ?_
          refine lv_iconst (v := iZ 3) hx hb dX6_streamOf_44 rfl ?_
          refine lv_iload_n hx hb dX6_streamOf_45 rfl (lv_at hl 3 rfl) ?_
          refine z_imul hx hb dX6_streamOf_46 ?_
          refine z_iadd hx hb dX6_streamOf_47 ?_
          refine lv_iload_n hx hb dX6_streamOf_48 rfl (lv_at hl 4 rfl) ?_
          refine z_iadd hx hb dX6_streamOf_49 ?_
          refine g_iald (k := ((9 + (3 * k)) + i)) hx hb hK hB hP.ltp hP.ckp (by omega) (Nat.lt_of_lt_of_eq (by omega : ((9 + (3 * k)) + i) < 50) (Eq.symm hP.cnp)) hP.bgp dX6_streamOf_50 ?_
          have hr_11 := hR P ((9 + (3 * k)) + i)
          refine lv_goto (tgt := 56) hx hb dX6_streamOf_51 (by decide) ?_
          exact g_iret hx hb hr hlk hB dX6_streamOf_56 ⟨by omega, by omega⟩ (⟨by omega, rfl, rfl⟩)
      · refine lv_iload_n hx hb dX6_streamOf_25 rfl (lv_at hl 3 rfl) ?_
        refine z_if_le (tgt := 33) hx hb dX6_streamOf_26 (by decide) ⟨by omega, by omega⟩ (fun c_12 => ?_) (fun c_12 => ?_)
        · refine lv_iconst (v := iZ 0) hx hb dX6_streamOf_33 rfl ?_
          refine lv_istore (lv' := [(4, .int (iZ 0)), (3, .int (iZ (σ P (1 + k)))), (0, .ref (tad θ P)), (1, .int (iZ ((k : Nat) : Int))), (2, .int (iZ ((i : Nat) : Int)))]) hx hb dX6_streamOf_34 hl (by decide) rfl (fun ls hl => ?_)
          refine lv_iload hx hb dX6_streamOf_36 (lv_at hl 0 rfl) ?_
          refine z_if_eq (tgt := 54) hx hb dX6_streamOf_38 (by decide) ⟨by decide, by decide⟩ (fun c_13 => ?_) (fun c_13 => ?_)
          · refine lv_bipush (v := iZ (-9)) hx hb dX6_streamOf_54 (by decide) ?_
            exact g_iret hx hb hr hlk hB dX6_streamOf_56 ⟨by decide, by decide⟩ (⟨by omega, rfl, rfl⟩)
          · exact absurd (by decide) c_13
        · refine lv_iconst (v := iZ 1) hx hb dX6_streamOf_29 rfl ?_
          refine lv_goto (tgt := 34) hx hb dX6_streamOf_30 (by decide) ?_
          refine lv_istore (lv' := [(4, .int (iZ 1)), (3, .int (iZ (σ P (1 + k)))), (0, .ref (tad θ P)), (1, .int (iZ ((k : Nat) : Int))), (2, .int (iZ ((i : Nat) : Int)))]) hx hb dX6_streamOf_34 hl (by decide) rfl (fun ls hl => ?_)
          refine lv_iload hx hb dX6_streamOf_36 (lv_at hl 0 rfl) ?_
          refine z_if_eq (tgt := 54) hx hb dX6_streamOf_38 (by decide) ⟨by decide, by decide⟩ (fun c_14 => ?_) (fun c_14 => ?_)
          · exact absurd c_14 (by decide)
          · refine lv_aload_n hx hb dX6_streamOf_41 rfl (lv_at hl 2 rfl) ?_
            refine lv_bipush (v := iZ 9) hx hb dX6_streamOf_42 (by decide) ?_
            refine lv_iconst (v := iZ 3) hx hb dX6_streamOf_44 rfl ?_
            refine lv_iload_n hx hb dX6_streamOf_45 rfl (lv_at hl 3 rfl) ?_
            refine z_imul hx hb dX6_streamOf_46 ?_
            refine z_iadd hx hb dX6_streamOf_47 ?_
            refine lv_iload_n hx hb dX6_streamOf_48 rfl (lv_at hl 4 rfl) ?_
            refine z_iadd hx hb dX6_streamOf_49 ?_
            refine g_iald (k := ((9 + (3 * k)) + i)) hx hb hK hB hP.ltp hP.ckp (by omega) (Nat.lt_of_lt_of_eq (by omega : ((9 + (3 * k)) + i) < 50) (Eq.symm hP.cnp)) hP.bgp dX6_streamOf_50 ?_
            have hr_15 := hR P ((9 + (3 * k)) + i)
            refine lv_goto (tgt := 56) hx hb dX6_streamOf_51 (by decide) ?_
            exact g_iret hx hb hr hlk hB dX6_streamOf_56 ⟨by omega, by omega⟩ (⟨by omega, rfl, rfl⟩)
set_option maxHeartbeats 4000000 in
set_option maxRecDepth 100000 in
theorem mX6_root (l : Launch) (θ : gT) (hθ : gOK θ) (σ : gS) (z : gZ) (u : Nat → Nat) (hu : mU σ u) (ho : uOK u) (s0 : Nat) (hs : s0 < 8) : GI l θ yX6_root cX6_root 3 (some .int) 0 0 [.ref (tad θ 111), .int (iZ ((s0 : Nat) : Int))] σ z (fun q σ' z' => (q = ((rt u s0 : Nat) : Int)) ∧ σ' = σ ∧ z' = z) := by
  refine g_enter (ret := (some .int)) (by decide +kernel) (Nat.le_of_ble_eq_true rfl) ?_
  intro p e s m args below meth c ls F hB hl
  obtain ⟨hx, hb, hr, hml, hown, hts, hlk, hK, hst⟩ := F
  have hR := hB.1.2
  have hl : lv_has ls 3 [(0, .ref (tad θ 111)), (1, .int (iZ ((s0 : Nat) : Int)))] := hl
  refine lv_iload_n hx hb dX6_root_0 rfl (lv_at hl 1 rfl) ?_
  refine lv_istore_n (lv' := [(2, .int (iZ ((s0 : Nat) : Int))), (0, .ref (tad θ 111)), (1, .int (iZ ((s0 : Nat) : Int)))]) hx hb dX6_root_1 rfl hl (by decide) rfl (fun ls hl => ?_)
  have loop2 : ∀ (n2 : Nat) (r : Nat) (j : Nat) (H : Heap) (locs : List Loc) (ls : Array Slot), 8 - j < n2 → (r < 8) → (r = itr u j s0) → (j ≤ 8) →  gB θ σ z s.heap H locs → lv_has ls 3 [(2, .int (iZ ((r : Nat) : Int))), (0, .ref (tad θ 111)), (1, .int (iZ ((s0 : Nat) : Int)))] → W p l e (gRm 0 0) s m args below meth c H locs 0 0 (MQ below (gQi θ (fun q σ' z' => (q = ((rt u s0 : Nat) : Int)) ∧ σ' = σ ∧ z' = z)) args s 0 0 (tA θ)) (F0 m 2 ls []) := by
    intro n2
    induction n2 with
    | zero => intro r j H locs ls hmu; exact absurd hmu (Nat.not_lt_zero _)
    | succ n2 ih2 =>
      intro r j H locs ls hmu hr8 hj hj8 hB hl
      have hR := hB.1.2
      have hu8 := (hu r hr8).2
      refine lv_aload_n hx hb dX6_root_2 rfl (lv_at hl 1 rfl) ?_
      refine g_getr (k := 17) (j := 123) hx hb hts hown hK hθ hB cf6 (by decide) rfl (by decide) kw_676 rfl rfl dX6_root_3 ?_
      refine lv_iload_n hx hb dX6_root_6 rfl (lv_at hl 0 rfl) ?_
      refine g_iald (k := r) hx hb hK hB (by decide) rfl (by omega) (Nat.lt_of_lt_of_eq (by omega : r < 8) (Eq.symm rfl)) (by decide) dX6_root_7 ?_
      refine z_top (b := (((u r) : Nat) : Int)) ((hu r hr8).1) ?_
      refine lv_iload_n hx hb dX6_root_8 rfl (lv_at hl 0 rfl) ?_
      refine z_icmp_eq (tgt := 22) hx hb dX6_root_9 (by decide) ⟨by omega, by omega⟩ ⟨by omega, by omega⟩ (fun c_1 => ?_) (fun c_1 => ?_)
      · have hfx : u (itr u j s0) = itr u j s0 := by rw [← hj]; omega
        have hrt : rt u s0 = r := by rw [rt_of hj8 hfx, hj]
        refine lv_iload_n hx hb dX6_root_22 rfl (lv_at hl 0 rfl) ?_
        exact g_iret hx hb hr hlk hB dX6_root_23 ⟨by omega, by omega⟩ (⟨by omega, rfl, rfl⟩)
      · have hlt : j < 8 := by
          rcases Nat.lt_or_ge j 8 with h | h
          · exact h
          · have e8 : j = 8 := by omega
            subst e8
            have := (ho s0 hs).2
            rw [← hj] at this
            omega
        refine lv_aload_n hx hb dX6_root_12 rfl (lv_at hl 1 rfl) ?_
        refine g_getr (k := 17) (j := 123) hx hb hts hown hK hθ hB cf6 (by decide) rfl (by decide) kw_676 rfl rfl dX6_root_13 ?_
        refine lv_iload_n hx hb dX6_root_16 rfl (lv_at hl 0 rfl) ?_
        refine g_iald (k := r) hx hb hK hB (by decide) rfl (by omega) (Nat.lt_of_lt_of_eq (by omega : r < 8) (Eq.symm rfl)) (by decide) dX6_root_17 ?_
        refine z_top (b := (((u r) : Nat) : Int)) ((hu r hr8).1) ?_
        refine lv_istore_n (lv' := [(2, .int (iZ (((u r) : Nat) : Int))), (0, .ref (tad θ 111)), (1, .int (iZ ((s0 : Nat) : Int)))]) hx hb dX6_root_18 rfl hl (by decide) rfl (fun ls hl => ?_)
        refine lv_goto (tgt := 2) hx hb dX6_root_19 (by decide) ?_
        exact ih2 (u r) (j + 1) _ _ _ (by omega) hu8 (by rw [hj]; rfl) (by omega) hB (lv_sub hl [0, 1, 2] rfl)
  exact loop2 _ s0 0 _ _ _ (Nat.lt_succ_self _) hs rfl (by omega) hB (lv_sub hl [0, 1, 2] rfl)
