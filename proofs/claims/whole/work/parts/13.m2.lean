set_option maxHeartbeats 4000000 in
set_option maxRecDepth 100000 in
theorem mX6_isMet (l : Launch) (θ : gT) (hθ : gOK θ) (σ : gS) (z : gZ) (w : mC) (hA : mA σ w) (ho : mOK w) (r s0 : Nat) (hr8 : r < 8) (hs : s0 < 8) : GI l θ yX6_isMet cX6_isMet 4 (some .boolean) 1 22 [.ref (tad θ 111), .int (iZ ((r : Nat) : Int)), .int (iZ ((s0 : Nat) : Int))] σ z (fun q σ' z' => ((q = 1 ∧ (metB w.1 w.2 r s0 = true)) ∨ (q = 0 ∧ ¬ (metB w.1 w.2 r s0 = true))) ∧ σ' = σ ∧ z' = z) := by
  refine g_enter (ret := (some .boolean)) (by decide +kernel) (Nat.le_of_ble_eq_true rfl) ?_
  intro p e s m args below meth c ls F hB hl
  obtain ⟨hx, hb, hr, hml, hown, hts, hlk, hK, hst⟩ := F
  have hR := hB.1.2
  have hl : lv_has ls 4 [(0, .ref (tad θ 111)), (1, .int (iZ ((r : Nat) : Int))), (2, .int (iZ ((s0 : Nat) : Int)))] := hl
  have ht := ho.2.1
  refine lv_aload_n hx hb dX6_isMet_0 rfl (lv_at hl 0 rfl) ?_
  refine lv_iload_n hx hb dX6_isMet_1 rfl (lv_at hl 2 rfl) ?_
  refine g_calli (g_runV (i := 111) (As := [.int (iZ ((s0 : Nat) : Int))]) (rest := []) hx hb hml hown hts hK hst hB (mX6_root l θ hθ σ z w.1 hA.1 ho.1 s0 (hs)) mv_X6_root kw_809 cf6 (by decide) rfl rfl hl.1 rfl (Nat.le_of_ble_eq_true rfl) ⟨by decide, by decide⟩ ⟨Nat.le_refl _, Nat.le_refl _⟩ dX6_isMet_2) hB (fun q_3 σ_1 z_2 H locs hq_3 pq_3 hB => ?_)
  obtain ⟨pq_3, e1_, e2_⟩ := pq_3
  rw [e1_, e2_] at hB
  clear e1_ e2_
  subst pq_3
  refine lv_istore_n (lv' := [(3, .int (iZ (((rt w.1 s0) : Nat) : Int))), (0, .ref (tad θ 111)), (1, .int (iZ ((r : Nat) : Int))), (2, .int (iZ ((s0 : Nat) : Int)))]) hx hb dX6_isMet_5 rfl hl (by decide) rfl (fun ls hl => ?_)
  have loop6 : ∀ (n6 : Nat) (x : Nat) (j : Nat) (H : Heap) (locs : List Loc) (ls : Array Slot), 8 - j < n6 → (x < 8) → (x = itr (nx w.1 w.2) j (rt w.1 s0)) → (j ≤ 8) → (∀ i, i < j → itr (nx w.1 w.2) i (rt w.1 s0) ≠ r) →  gB θ σ z s.heap H locs → lv_has ls 4 [(3, .int (iZ ((x : Nat) : Int))), (0, .ref (tad θ 111)), (1, .int (iZ ((r : Nat) : Int))), (2, .int (iZ ((s0 : Nat) : Int)))] → W p l e (gRm 1 22) s m args below meth c H locs 0 0 (MQ below (gQi θ (fun q σ' z' => ((q = 1 ∧ (metB w.1 w.2 r s0 = true)) ∨ (q = 0 ∧ ¬ (metB w.1 w.2 r s0 = true))) ∧ σ' = σ ∧ z' = z)) args s 0 0 (tA θ)) (F0 m 6 ls []) := by
    intro n6
    induction n6 with
    | zero => intro x j H locs ls hmu; exact absurd hmu (Nat.not_lt_zero _)
    | succ n6 ih6 =>
      intro x j H locs ls hmu hx8 hxj hj8 hbf hB hl
      have hR := hB.1.2
      have htx := ht x hx8
      have hlast : j = 8 → w.2 x < 0 := fun e => by subst e; rw [hxj]; exact ho.2.2 _ (rt_lt ho.1 hs)
      refine lv_iload_n hx hb dX6_isMet_6 rfl (lv_at hl 0 rfl) ?_
      refine lv_iload_n hx hb dX6_isMet_7 rfl (lv_at hl 2 rfl) ?_
      refine z_icmp_eq (tgt := 37) hx hb dX6_isMet_8 (by decide) ⟨by omega, by omega⟩ ⟨by omega, by omega⟩ (fun c_4 => ?_) (fun c_4 => ?_)
      · have hm : metB w.1 w.2 r s0 = true := (metB_iff ho.1 ho.2 hs).mpr ⟨j, by rw [← hxj]; omega⟩
        refine lv_iload_n hx hb dX6_isMet_37 rfl (lv_at hl 0 rfl) ?_
        refine lv_iload_n hx hb dX6_isMet_38 rfl (lv_at hl 2 rfl) ?_
        refine z_icmp_ne (tgt := 46) hx hb dX6_isMet_39 (by decide) ⟨by omega, by omega⟩ ⟨by omega, by omega⟩ (fun c_5 => ?_) (fun c_5 => ?_)
        · refine lv_iconst (v := iZ 0) hx hb dX6_isMet_46 rfl ?_
          exact g_zret hx hb hr hlk hB dX6_isMet_47 (by decide) (by first | exact ⟨Or.inl ⟨rfl, hm⟩, rfl, rfl⟩ | exact ⟨Or.inr ⟨rfl, hm⟩, rfl, rfl⟩ | (exfalso; omega))
        · refine lv_iconst (v := iZ 1) hx hb dX6_isMet_42 rfl ?_
          refine lv_goto (tgt := 47) hx hb dX6_isMet_43 (by decide) ?_
          exact g_zret hx hb hr hlk hB dX6_isMet_47 (by decide) (by first | exact ⟨Or.inl ⟨rfl, hm⟩, rfl, rfl⟩ | exact ⟨Or.inr ⟨rfl, hm⟩, rfl, rfl⟩ | (exfalso; omega))
      · refine lv_aload_n hx hb dX6_isMet_11 rfl (lv_at hl 1 rfl) ?_
        refine g_getr (k := 18) (j := 124) hx hb hts hown hK hθ hB cf6 (by decide) rfl (by decide) kw_677 rfl rfl dX6_isMet_12 ?_
        refine lv_iload_n hx hb dX6_isMet_15 rfl (lv_at hl 0 rfl) ?_
        refine g_iald (k := x) hx hb hK hB (by decide) rfl (by omega) (Nat.lt_of_lt_of_eq (by omega : x < 8) (Eq.symm rfl)) (by decide) dX6_isMet_16 ?_
        refine z_top (b := (w.2 x)) (hA.2 x hx8) ?_
        refine z_if_lt (tgt := 37) hx hb dX6_isMet_17 (by decide) ⟨by omega, by omega⟩ (fun c_6 => ?_) (fun c_6 => ?_)
        · have hm : ¬ metB w.1 w.2 r s0 = true := fun q => by
            obtain ⟨i, hi⟩ := (metB_iff ho.1 ho.2 hs).mp q
            rcases Nat.lt_or_ge i j with h | h
            · exact hbf i h hi
            · have e := itr_fix' (f := nx w.1 w.2) (j := j) (k := i) (s := rt w.1 s0) (by rw [← hxj]; exact nx_end (by omega)) h
              rw [hi, ← hxj] at e
              omega
          refine lv_iload_n hx hb dX6_isMet_37 rfl (lv_at hl 0 rfl) ?_
          refine lv_iload_n hx hb dX6_isMet_38 rfl (lv_at hl 2 rfl) ?_
          refine z_icmp_ne (tgt := 46) hx hb dX6_isMet_39 (by decide) ⟨by omega, by omega⟩ ⟨by omega, by omega⟩ (fun c_7 => ?_) (fun c_7 => ?_)
          · refine lv_iconst (v := iZ 0) hx hb dX6_isMet_46 rfl ?_
            exact g_zret hx hb hr hlk hB dX6_isMet_47 (by decide) (by first | exact ⟨Or.inl ⟨rfl, hm⟩, rfl, rfl⟩ | exact ⟨Or.inr ⟨rfl, hm⟩, rfl, rfl⟩ | (exfalso; omega))
          · refine lv_iconst (v := iZ 1) hx hb dX6_isMet_42 rfl ?_
            refine lv_goto (tgt := 47) hx hb dX6_isMet_43 (by decide) ?_
            exact g_zret hx hb hr hlk hB dX6_isMet_47 (by decide) (by first | exact ⟨Or.inl ⟨rfl, hm⟩, rfl, rfl⟩ | exact ⟨Or.inr ⟨rfl, hm⟩, rfl, rfl⟩ | (exfalso; omega))
        · refine lv_aload_n hx hb dX6_isMet_20 rfl (lv_at hl 1 rfl) ?_
          refine lv_aload_n hx hb dX6_isMet_21 rfl (lv_at hl 1 rfl) ?_
          refine g_getr (k := 18) (j := 124) hx hb hts hown hK hθ hB cf6 (by decide) rfl (by decide) kw_677 rfl rfl dX6_isMet_22 ?_
          refine lv_iload_n hx hb dX6_isMet_25 rfl (lv_at hl 0 rfl) ?_
          refine g_iald (k := x) hx hb hK hB (by decide) rfl (by omega) (Nat.lt_of_lt_of_eq (by omega : x < 8) (Eq.symm rfl)) (by decide) dX6_isMet_26 ?_
          refine z_top (b := (w.2 x)) (hA.2 x hx8) ?_
          refine lv_bipush (v := iZ 10) hx hb dX6_isMet_27 (by decide) ?_
          refine z_idiv hx hb dX6_isMet_29 ⟨by omega, by omega⟩ (by omega) ⟨by decide, by decide⟩ (by decide) ?_
          refine z_top (b := (((w.2 x / 10).toNat : Nat) : Int)) (by omega) ?_
          refine g_calli (g_runV (i := 111) (As := [.int (iZ (((w.2 x / 10).toNat : Nat) : Int))]) (rest := []) hx hb hml hown hts hK hst hB (mX6_root l θ hθ σ z w.1 hA.1 ho.1 (w.2 x / 10).toNat (by omega)) mv_X6_root kw_809 cf6 (by decide) rfl rfl hl.1 rfl (Nat.le_of_ble_eq_true rfl) ⟨by decide, by decide⟩ ⟨Nat.le_refl _, Nat.le_refl _⟩ dX6_isMet_30) hB (fun q_10 σ_8 z_9 H locs hq_10 pq_10 hB => ?_)
          obtain ⟨pq_10, e1_, e2_⟩ := pq_10
          rw [e1_, e2_] at hB
          clear e1_ e2_
          subst pq_10
          refine z_top (b := (((nx w.1 w.2 x) : Nat) : Int)) (by rw [nx_pos (by omega)]) ?_
          refine lv_istore_n (lv' := [(3, .int (iZ (((nx w.1 w.2 x) : Nat) : Int))), (0, .ref (tad θ 111)), (1, .int (iZ ((r : Nat) : Int))), (2, .int (iZ ((s0 : Nat) : Int)))]) hx hb dX6_isMet_33 rfl hl (by decide) rfl (fun ls hl => ?_)
          refine lv_goto (tgt := 6) hx hb dX6_isMet_34 (by decide) ?_
          exact ih6 (nx w.1 w.2 x) (j + 1) _ _ _ (by omega) (nx_lt ho.1 ht hx8) (by rw [hxj]; rfl) (by omega) (lt_s hbf (by rw [← hxj]; omega)) hB (lv_sub hl [0, 1, 2, 3] rfl)
  exact loop6 _ (rt w.1 s0) 0 _ _ _ (Nat.lt_succ_self _) (rt_lt ho.1 hs) rfl (by omega) (fun i hi => absurd hi (by omega)) hB (lv_sub hl [0, 1, 2, 3] rfl)
set_option maxHeartbeats 4000000 in
set_option maxRecDepth 100000 in
theorem mX6_settle (l : Launch) (θ : gT) (hθ : gOK θ) (σ : gS) (z : gZ) (w : mC) (hA : mA σ w) (ho : mOK w) (s0 : Nat) (hs : s0 < 8) (is : Int) (his : is = -1 ∨ (0 ≤ is ∧ is < 80)) : GI l θ yX6_settle cX6_settle 4 (some .boolean) 2 45 [.ref (tad θ 111), .int (iZ ((s0 : Nat) : Int)), .int (iZ is)] σ z (fun q σ' z' => oP (mSet w s0 is) q σ' ∧ fr wClk σ σ' ∧ z' = z) := by
  refine g_enter (ret := (some .boolean)) (by decide +kernel) (Nat.le_of_ble_eq_true rfl) ?_
  intro p e s m args below meth c ls F hB hl
  obtain ⟨hx, hb, hr, hml, hown, hts, hlk, hK, hst⟩ := F
  have hR := hB.1.2
  have hl : lv_has ls 4 [(0, .ref (tad θ 111)), (1, .int (iZ ((s0 : Nat) : Int))), (2, .int (iZ is))] := hl
  obtain ⟨r, hrr⟩ : ∃ r, r = rt w.1 s0 := ⟨_, rfl⟩
  have hr8 : r < 8 := by rw [hrr]; exact rt_lt ho.1 hs
  have htr := ho.2.1 r hr8
  refine lv_aload_n hx hb dX6_settle_0 rfl (lv_at hl 0 rfl) ?_
  refine lv_iload_n hx hb dX6_settle_1 rfl (lv_at hl 1 rfl) ?_
  refine g_calli (g_runV (i := 111) (As := [.int (iZ ((s0 : Nat) : Int))]) (rest := []) hx hb hml hown hts hK hst hB (mX6_root l θ hθ σ z w.1 hA.1 ho.1 s0 (hs)) mv_X6_root kw_809 cf6 (by decide) rfl rfl hl.1 rfl (Nat.le_of_ble_eq_true rfl) ⟨by decide, by decide⟩ ⟨Nat.le_refl _, Nat.le_refl _⟩ dX6_settle_2) hB (fun q_3 σ_1 z_2 H locs hq_3 pq_3 hB => ?_)
  obtain ⟨pq_3, e1_, e2_⟩ := pq_3
  rw [e1_, e2_] at hB
  clear e1_ e2_
  subst pq_3
  refine z_top (b := ((r : Nat) : Int)) (by rw [hrr]) ?_
  refine lv_istore_n (lv' := [(3, .int (iZ ((r : Nat) : Int))), (0, .ref (tad θ 111)), (1, .int (iZ ((s0 : Nat) : Int))), (2, .int (iZ is))]) hx hb dX6_settle_5 rfl hl (by decide) rfl (fun ls hl => ?_)
  refine lv_aload_n hx hb dX6_settle_6 rfl (lv_at hl 1 rfl) ?_
  refine g_getr (k := 18) (j := 124) hx hb hts hown hK hθ hB cf6 (by decide) rfl (by decide) kw_677 rfl rfl dX6_settle_7 ?_
  refine lv_iload_n hx hb dX6_settle_10 rfl (lv_at hl 0 rfl) ?_
  refine g_iald (k := r) hx hb hK hB (by decide) rfl (by omega) (Nat.lt_of_lt_of_eq (by omega : r < 8) (Eq.symm rfl)) (by decide) dX6_settle_11 ?_
  refine z_top (b := (w.2 r)) (hA.2 r hr8) ?_
  refine lv_bipush (v := iZ (-9)) hx hb dX6_settle_12 (by decide) ?_
  refine z_icmp_eq (tgt := 33) hx hb dX6_settle_14 (by decide) ⟨by omega, by omega⟩ ⟨by decide, by decide⟩ (fun c_4 => ?_) (fun c_4 => ?_)
  · refine lv_iload_n hx hb dX6_settle_33 rfl (lv_at hl 3 rfl) ?_
    refine z_if_lt (tgt := 51) hx hb dX6_settle_34 (by decide) ⟨by omega, by omega⟩ (fun c_5 => ?_) (fun c_5 => ?_)
    · have hnm : ¬ (0 ≤ is ∧ metB w.1 w.2 r (is / 10).toNat = true) := fun q => by have := q.1; omega
      refine lv_aload_n hx hb dX6_settle_51 rfl (lv_at hl 1 rfl) ?_
      refine g_getr (k := 18) (j := 124) hx hb hts hown hK hθ hB cf6 (by decide) rfl (by decide) kw_677 rfl rfl dX6_settle_52 ?_
      refine lv_iload_n hx hb dX6_settle_55 rfl (lv_at hl 0 rfl) ?_
      refine lv_iload_n hx hb dX6_settle_56 rfl (lv_at hl 3 rfl) ?_
      refine g_iast (k := r) hx hb hK hθ hB (by decide) rfl (by omega) (Nat.lt_of_lt_of_eq (by omega : r < 8) (Eq.symm rfl)) (by decide) ⟨by omega, by omega⟩ dX6_settle_57 (fun H locs hB => ?_)
      obtain ⟨σ1, hσ1⟩ : ∃ x_ : gS, x_ = up2 σ 124 r is := ⟨_, rfl⟩
      rw [← hσ1] at hB
      have hR := hB.1.2
      refine lv_iconst (v := iZ 1) hx hb dX6_settle_58 rfl ?_
      exact g_zret hx hb hr hlk hB dX6_settle_59 (by decide) (⟨Or.inl ⟨(w.1, upn w.2 r is), by rw [mSet, ← hrr, if_neg (by omega), if_neg hnm], rfl, by rw [hσ1]; exact mA_set hA r is⟩, by rw [hσ1]; exact fr.up rfl, rfl⟩)
    · refine lv_aload_n hx hb dX6_settle_37 rfl (lv_at hl 1 rfl) ?_
      refine lv_iload_n hx hb dX6_settle_38 rfl (lv_at hl 0 rfl) ?_
      refine lv_iload_n hx hb dX6_settle_39 rfl (lv_at hl 3 rfl) ?_
      refine lv_bipush (v := iZ 10) hx hb dX6_settle_40 (by decide) ?_
      refine z_idiv hx hb dX6_settle_42 ⟨by omega, by omega⟩ (by omega) ⟨by decide, by decide⟩ (by decide) ?_
      refine z_top (b := (((is / 10).toNat : Nat) : Int)) (by omega) ?_
      refine g_calli (g_runV (i := 111) (As := [.int (iZ ((r : Nat) : Int)), .int (iZ (((is / 10).toNat : Nat) : Int))]) (rest := []) hx hb hml hown hts hK hst hB (mX6_isMet l θ hθ σ z w hA ho r (is / 10).toNat (hr8) (by omega)) mv_X6_isMet kw_813 cf6 (by decide) rfl rfl hl.1 rfl (Nat.le_of_ble_eq_true rfl) ⟨by decide, by decide⟩ ⟨Nat.le_refl _, Nat.le_refl _⟩ dX6_settle_43) hB (fun q_8 σ_6 z_7 H locs hq_8 hmt hB => ?_)
      obtain ⟨hmt, e1_, e2_⟩ := hmt
      rw [e1_, e2_] at hB
      clear e1_ e2_
      refine z_if_eq (tgt := 51) hx hb dX6_settle_46 (by decide) ⟨by omega, by omega⟩ (fun c_9 => ?_) (fun c_9 => ?_)
      · have hnm : ¬ (0 ≤ is ∧ metB w.1 w.2 r (is / 10).toNat = true) := fun q => by
          rcases hmt with ⟨h1, h2⟩ | ⟨h1, h2⟩
          · omega
          · exact h2 q.2
        refine lv_aload_n hx hb dX6_settle_51 rfl (lv_at hl 1 rfl) ?_
        refine g_getr (k := 18) (j := 124) hx hb hts hown hK hθ hB cf6 (by decide) rfl (by decide) kw_677 rfl rfl dX6_settle_52 ?_
        refine lv_iload_n hx hb dX6_settle_55 rfl (lv_at hl 0 rfl) ?_
        refine lv_iload_n hx hb dX6_settle_56 rfl (lv_at hl 3 rfl) ?_
        refine g_iast (k := r) hx hb hK hθ hB (by decide) rfl (by omega) (Nat.lt_of_lt_of_eq (by omega : r < 8) (Eq.symm rfl)) (by decide) ⟨by omega, by omega⟩ dX6_settle_57 (fun H locs hB => ?_)
        obtain ⟨σ1, hσ1⟩ : ∃ x_ : gS, x_ = up2 σ 124 r is := ⟨_, rfl⟩
        rw [← hσ1] at hB
        have hR := hB.1.2
        refine lv_iconst (v := iZ 1) hx hb dX6_settle_58 rfl ?_
        exact g_zret hx hb hr hlk hB dX6_settle_59 (by decide) (⟨Or.inl ⟨(w.1, upn w.2 r is), by rw [mSet, ← hrr, if_neg (by omega), if_neg hnm], rfl, by rw [hσ1]; exact mA_set hA r is⟩, by rw [hσ1]; exact fr.up rfl, rfl⟩)
      · have hym : 0 ≤ is ∧ metB w.1 w.2 r (is / 10).toNat = true := by
          rcases hmt with ⟨h1, h2⟩ | ⟨h1, h2⟩
          · exact ⟨by omega, h2⟩
          · omega
        refine lv_iconst (v := iZ 0) hx hb dX6_settle_49 rfl ?_
        exact g_zret hx hb hr hlk hB dX6_settle_50 (by decide) (⟨Or.inr ⟨by rw [mSet, ← hrr, if_neg (by omega), if_pos hym], rfl⟩, fr.rf, rfl⟩)
  · refine lv_aload_n hx hb dX6_settle_17 rfl (lv_at hl 1 rfl) ?_
    refine g_getr (k := 18) (j := 124) hx hb hts hown hK hθ hB cf6 (by decide) rfl (by decide) kw_677 rfl rfl dX6_settle_18 ?_
    refine lv_iload_n hx hb dX6_settle_21 rfl (lv_at hl 0 rfl) ?_
    refine g_iald (k := r) hx hb hK hB (by decide) rfl (by omega) (Nat.lt_of_lt_of_eq (by omega : r < 8) (Eq.symm rfl)) (by decide) dX6_settle_22 ?_
    refine z_top (b := (w.2 r)) (hA.2 r hr8) ?_
    refine lv_iload_n hx hb dX6_settle_23 rfl (lv_at hl 3 rfl) ?_
    refine z_icmp_ne (tgt := 31) hx hb dX6_settle_24 (by decide) ⟨by omega, by omega⟩ ⟨by omega, by omega⟩ (fun c_10 => ?_) (fun c_10 => ?_)
    · refine lv_iconst (v := iZ 0) hx hb dX6_settle_31 rfl ?_
      exact g_zret hx hb hr hlk hB dX6_settle_32 (by decide) (by first | exact ⟨Or.inl ⟨w, by rw [mSet, ← hrr, if_pos (by omega), if_pos (by omega)], rfl, hA⟩, fr.rf, rfl⟩ | exact ⟨Or.inr ⟨by rw [mSet, ← hrr, if_pos (by omega), if_neg (by omega)], rfl⟩, fr.rf, rfl⟩)
    · refine lv_iconst (v := iZ 1) hx hb dX6_settle_27 rfl ?_
      refine lv_goto (tgt := 32) hx hb dX6_settle_28 (by decide) ?_
      exact g_zret hx hb hr hlk hB dX6_settle_32 (by decide) (by first | exact ⟨Or.inl ⟨w, by rw [mSet, ← hrr, if_pos (by omega), if_pos (by omega)], rfl, hA⟩, fr.rf, rfl⟩ | exact ⟨Or.inr ⟨by rw [mSet, ← hrr, if_pos (by omega), if_neg (by omega)], rfl⟩, fr.rf, rfl⟩)
set_option maxHeartbeats 4000000 in
set_option maxRecDepth 100000 in
theorem mX6_like (l : Launch) (θ : gT) (hθ : gOK θ) (σ : gS) (z : gZ) (w : mC) (hA : mA σ w) (ho : mOK w) (a0 b0 : Nat) (ha : a0 < 8) (hb0 : b0 < 8) : GI l θ yX6_like cX6_like 7 (some .boolean) 2 45 [.ref (tad θ 111), .int (iZ ((a0 : Nat) : Int)), .int (iZ ((b0 : Nat) : Int))] σ z (fun q σ' z' => oP (mLike w a0 b0) q σ' ∧ fr wClk σ σ' ∧ z' = z) := by
  refine g_enter (ret := (some .boolean)) (by decide +kernel) (Nat.le_of_ble_eq_true rfl) ?_
  intro p e s m args below meth c ls F hB hl
  obtain ⟨hx, hb, hr, hml, hown, hts, hlk, hK, hst⟩ := F
  have hR := hB.1.2
  have hl : lv_has ls 7 [(0, .ref (tad θ 111)), (1, .int (iZ ((a0 : Nat) : Int))), (2, .int (iZ ((b0 : Nat) : Int)))] := hl
  obtain ⟨x, hxx⟩ : ∃ r, r = rt w.1 a0 := ⟨_, rfl⟩
  have hx8 : x < 8 := by rw [hxx]; exact rt_lt ho.1 ha
  have htx := ho.2.1 x hx8
  obtain ⟨y, hyy⟩ : ∃ r, r = rt w.1 b0 := ⟨_, rfl⟩
  have hy8 : y < 8 := by rw [hyy]; exact rt_lt ho.1 hb0
  have hty := ho.2.1 y hy8
  refine lv_aload_n hx hb dX6_like_0 rfl (lv_at hl 0 rfl) ?_
  refine lv_iload_n hx hb dX6_like_1 rfl (lv_at hl 1 rfl) ?_
  refine g_calli (g_runV (i := 111) (As := [.int (iZ ((a0 : Nat) : Int))]) (rest := []) hx hb hml hown hts hK hst hB (mX6_root l θ hθ σ z w.1 hA.1 ho.1 a0 (ha)) mv_X6_root kw_809 cf6 (by decide) rfl rfl hl.1 rfl (Nat.le_of_ble_eq_true rfl) ⟨by decide, by decide⟩ ⟨Nat.le_refl _, Nat.le_refl _⟩ dX6_like_2) hB (fun q_3 σ_1 z_2 H locs hq_3 pq_3 hB => ?_)
  obtain ⟨pq_3, e1_, e2_⟩ := pq_3
  rw [e1_, e2_] at hB
  clear e1_ e2_
  subst pq_3
  refine z_top (b := ((x : Nat) : Int)) (by rw [hxx]) ?_
  refine lv_istore_n (lv' := [(3, .int (iZ ((x : Nat) : Int))), (0, .ref (tad θ 111)), (1, .int (iZ ((a0 : Nat) : Int))), (2, .int (iZ ((b0 : Nat) : Int)))]) hx hb dX6_like_5 rfl hl (by decide) rfl (fun ls hl => ?_)
  refine lv_aload_n hx hb dX6_like_6 rfl (lv_at hl 1 rfl) ?_
  refine lv_iload_n hx hb dX6_like_7 rfl (lv_at hl 3 rfl) ?_
  refine g_calli (g_runV (i := 111) (As := [.int (iZ ((b0 : Nat) : Int))]) (rest := []) hx hb hml hown hts hK hst hB (mX6_root l θ hθ σ z w.1 hA.1 ho.1 b0 (hb0)) mv_X6_root kw_809 cf6 (by decide) rfl rfl hl.1 rfl (Nat.le_of_ble_eq_true rfl) ⟨by decide, by decide⟩ ⟨Nat.le_refl _, Nat.le_refl _⟩ dX6_like_8) hB (fun q_6 σ_4 z_5 H locs hq_6 pq_6 hB => ?_)
  obtain ⟨pq_6, e1_, e2_⟩ := pq_6
  rw [e1_, e2_] at hB
  clear e1_ e2_
  subst pq_6
  refine z_top (b := ((y : Nat) : Int)) (by rw [hyy]) ?_
  refine lv_istore (lv' := [(4, .int (iZ ((y : Nat) : Int))), (3, .int (iZ ((x : Nat) : Int))), (0, .ref (tad θ 111)), (1, .int (iZ ((a0 : Nat) : Int))), (2, .int (iZ ((b0 : Nat) : Int)))]) hx hb dX6_like_11 hl (by decide) rfl (fun ls hl => ?_)
  refine lv_iload_n hx hb dX6_like_13 rfl (lv_at hl 1 rfl) ?_
  refine lv_iload hx hb dX6_like_14 (lv_at hl 0 rfl) ?_
  refine z_icmp_ne (tgt := 21) hx hb dX6_like_16 (by decide) ⟨by omega, by omega⟩ ⟨by omega, by omega⟩ (fun c_7 => ?_) (fun c_7 => ?_)
  · refine lv_aload_n hx hb dX6_like_21 rfl (lv_at hl 2 rfl) ?_
    refine g_getr (k := 18) (j := 124) hx hb hts hown hK hθ hB cf6 (by decide) rfl (by decide) kw_677 rfl rfl dX6_like_22 ?_
    refine lv_iload_n hx hb dX6_like_25 rfl (lv_at hl 1 rfl) ?_
    refine g_iald (k := x) hx hb hK hB (by decide) rfl (by omega) (Nat.lt_of_lt_of_eq (by omega : x < 8) (Eq.symm rfl)) (by decide) dX6_like_26 ?_
    refine z_top (b := (w.2 x)) (hA.2 x hx8) ?_
    refine lv_bipush (v := iZ (-9)) hx hb dX6_like_27 (by decide) ?_
    refine z_icmp_eq (tgt := 66) hx hb dX6_like_29 (by decide) ⟨by omega, by omega⟩ ⟨by decide, by decide⟩ (fun c_8 => ?_) (fun c_8 => ?_)
    · refine lv_aload_n hx hb dX6_like_66 rfl (lv_at hl 2 rfl) ?_
      refine g_getr (k := 18) (j := 124) hx hb hts hown hK hθ hB cf6 (by decide) rfl (by decide) kw_677 rfl rfl dX6_like_67 ?_
      refine lv_iload_n hx hb dX6_like_70 rfl (lv_at hl 1 rfl) ?_
      refine g_iald (k := x) hx hb hK hB (by decide) rfl (by omega) (Nat.lt_of_lt_of_eq (by omega : x < 8) (Eq.symm rfl)) (by decide) dX6_like_71 ?_
      refine z_top (b := (w.2 x)) (hA.2 x hx8) ?_
      refine lv_bipush (v := iZ (-9)) hx hb dX6_like_72 (by decide) ?_
      refine z_icmp_ne (tgt := 81) hx hb dX6_like_74 (by decide) ⟨by omega, by omega⟩ ⟨by decide, by decide⟩ (fun c_9 => ?_) (fun c_9 => ?_)
      · (exfalso; omega)
      · refine lv_iload_n hx hb dX6_like_77 rfl (lv_at hl 1 rfl) ?_
        refine lv_goto (tgt := 83) hx hb dX6_like_78 (by decide) ?_
        refine lv_istore (lv' := [(5, .int (iZ ((x : Nat) : Int))), (4, .int (iZ ((y : Nat) : Int))), (3, .int (iZ ((x : Nat) : Int))), (0, .ref (tad θ 111)), (1, .int (iZ ((a0 : Nat) : Int))), (2, .int (iZ ((b0 : Nat) : Int)))]) hx hb dX6_like_83 hl (by decide) rfl (fun ls hl => ?_)
        refine lv_iload hx hb dX6_like_85 (lv_at hl 0 rfl) ?_
        refine lv_iload_n hx hb dX6_like_87 rfl (lv_at hl 2 rfl) ?_
        refine z_icmp_ne (tgt := 96) hx hb dX6_like_88 (by decide) ⟨by omega, by omega⟩ ⟨by omega, by omega⟩ (fun c_10 => ?_) (fun c_10 => ?_)
        · (exfalso; omega)
        · refine lv_iload hx hb dX6_like_91 (lv_at hl 1 rfl) ?_
          refine lv_goto (tgt := 97) hx hb dX6_like_93 (by decide) ?_
          refine lv_istore (lv' := [(6, .int (iZ ((y : Nat) : Int))), (5, .int (iZ ((x : Nat) : Int))), (4, .int (iZ ((y : Nat) : Int))), (3, .int (iZ ((x : Nat) : Int))), (0, .ref (tad θ 111)), (1, .int (iZ ((a0 : Nat) : Int))), (2, .int (iZ ((b0 : Nat) : Int)))]) hx hb dX6_like_97 hl (by decide) rfl (fun ls hl => ?_)
          refine lv_aload_n hx hb dX6_like_99 rfl (lv_at hl 4 rfl) ?_
          refine g_getr (k := 18) (j := 124) hx hb hts hown hK hθ hB cf6 (by decide) rfl (by decide) kw_677 rfl rfl dX6_like_100 ?_
          refine lv_iload hx hb dX6_like_103 (lv_at hl 0 rfl) ?_
          refine g_iald (k := y) hx hb hK hB (by decide) rfl (by omega) (Nat.lt_of_lt_of_eq (by omega : y < 8) (Eq.symm rfl)) (by decide) dX6_like_105 ?_
          refine z_top (b := (w.2 y)) (hA.2 y hy8) ?_
          refine z_if_lt (tgt := 130) hx hb dX6_like_106 (by decide) ⟨by omega, by omega⟩ (fun c_11 => ?_) (fun c_11 => ?_)
          · have hnm : ¬ (0 ≤ w.2 y ∧ metB w.1 w.2 x (w.2 y / 10).toNat = true) := fun q => by have := q.1; omega
            refine lv_aload_n hx hb dX6_like_130 rfl (lv_at hl 4 rfl) ?_
            refine g_getr (k := 17) (j := 123) hx hb hts hown hK hθ hB cf6 (by decide) rfl (by decide) kw_676 rfl rfl dX6_like_131 ?_
            refine lv_iload hx hb dX6_like_134 (lv_at hl 1 rfl) ?_
            refine lv_iload hx hb dX6_like_136 (lv_at hl 0 rfl) ?_
            refine g_iast (k := x) hx hb hK hθ hB (by decide) rfl (by omega) (Nat.lt_of_lt_of_eq (by omega : x < 8) (Eq.symm rfl)) (by decide) ⟨by omega, by omega⟩ dX6_like_138 (fun H locs hB => ?_)
            obtain ⟨σ1, hσ1⟩ : ∃ x_ : gS, x_ = up2 σ 123 x ((y : Nat) : Int) := ⟨_, rfl⟩
            rw [← hσ1] at hB
            have hR := hB.1.2
            refine lv_iconst (v := iZ 1) hx hb dX6_like_139 rfl ?_
            exact g_zret hx hb hr hlk hB dX6_like_140 (by decide) (⟨Or.inl ⟨(upn w.1 x y, w.2), by rw [mLike, ← hxx, ← hyy, if_neg (by omega), if_neg (by omega), if_pos (by omega), if_neg hnm], rfl, by rw [hσ1]; exact mA_link hA x y hy8⟩, by rw [hσ1]; exact fr.up rfl, rfl⟩)
          · refine lv_aload_n hx hb dX6_like_109 rfl (lv_at hl 4 rfl) ?_
            refine lv_iload hx hb dX6_like_110 (lv_at hl 1 rfl) ?_
            refine lv_aload_n hx hb dX6_like_112 rfl (lv_at hl 4 rfl) ?_
            refine g_getr (k := 18) (j := 124) hx hb hts hown hK hθ hB cf6 (by decide) rfl (by decide) kw_677 rfl rfl dX6_like_113 ?_
            refine lv_iload hx hb dX6_like_116 (lv_at hl 0 rfl) ?_
            refine g_iald (k := y) hx hb hK hB (by decide) rfl (by omega) (Nat.lt_of_lt_of_eq (by omega : y < 8) (Eq.symm rfl)) (by decide) dX6_like_118 ?_
            refine z_top (b := (w.2 y)) (hA.2 y hy8) ?_
            refine lv_bipush (v := iZ 10) hx hb dX6_like_119 (by decide) ?_
            refine z_idiv hx hb dX6_like_121 ⟨by omega, by omega⟩ (by omega) ⟨by decide, by decide⟩ (by decide) ?_
            refine z_top (b := (((w.2 y / 10).toNat : Nat) : Int)) (by omega) ?_
            refine g_calli (g_runV (i := 111) (As := [.int (iZ ((x : Nat) : Int)), .int (iZ (((w.2 y / 10).toNat : Nat) : Int))]) (rest := []) hx hb hml hown hts hK hst hB (mX6_isMet l θ hθ σ z w hA ho x (w.2 y / 10).toNat (by omega) (by omega)) mv_X6_isMet kw_813 cf6 (by decide) rfl rfl hl.1 rfl (Nat.le_of_ble_eq_true rfl) ⟨by decide, by decide⟩ ⟨Nat.le_refl _, Nat.le_refl _⟩ dX6_like_122) hB (fun q_14 σ_12 z_13 H locs hq_14 hmt hB => ?_)
            obtain ⟨hmt, e1_, e2_⟩ := hmt
            rw [e1_, e2_] at hB
            clear e1_ e2_
            refine z_if_eq (tgt := 130) hx hb dX6_like_125 (by decide) ⟨by omega, by omega⟩ (fun c_15 => ?_) (fun c_15 => ?_)
            · have hnm : ¬ (0 ≤ w.2 y ∧ metB w.1 w.2 x (w.2 y / 10).toNat = true) := fun q => by
                rcases hmt with ⟨h1, h2⟩ | ⟨h1, h2⟩
                · omega
                · exact h2 q.2
              refine lv_aload_n hx hb dX6_like_130 rfl (lv_at hl 4 rfl) ?_
              refine g_getr (k := 17) (j := 123) hx hb hts hown hK hθ hB cf6 (by decide) rfl (by decide) kw_676 rfl rfl dX6_like_131 ?_
              refine lv_iload hx hb dX6_like_134 (lv_at hl 1 rfl) ?_
              refine lv_iload hx hb dX6_like_136 (lv_at hl 0 rfl) ?_
              refine g_iast (k := x) hx hb hK hθ hB (by decide) rfl (by omega) (Nat.lt_of_lt_of_eq (by omega : x < 8) (Eq.symm rfl)) (by decide) ⟨by omega, by omega⟩ dX6_like_138 (fun H locs hB => ?_)
              obtain ⟨σ1, hσ1⟩ : ∃ x_ : gS, x_ = up2 σ 123 x ((y : Nat) : Int) := ⟨_, rfl⟩
              rw [← hσ1] at hB
              have hR := hB.1.2
              refine lv_iconst (v := iZ 1) hx hb dX6_like_139 rfl ?_
              exact g_zret hx hb hr hlk hB dX6_like_140 (by decide) (⟨Or.inl ⟨(upn w.1 x y, w.2), by rw [mLike, ← hxx, ← hyy, if_neg (by omega), if_neg (by omega), if_pos (by omega), if_neg hnm], rfl, by rw [hσ1]; exact mA_link hA x y hy8⟩, by rw [hσ1]; exact fr.up rfl, rfl⟩)
            · have hym : 0 ≤ w.2 y ∧ metB w.1 w.2 x (w.2 y / 10).toNat = true := by
                rcases hmt with ⟨h1, h2⟩ | ⟨h1, h2⟩
                · exact ⟨by omega, h2⟩
                · omega
              refine lv_iconst (v := iZ 0) hx hb dX6_like_128 rfl ?_
              exact g_zret hx hb hr hlk hB dX6_like_129 (by decide) (⟨Or.inr ⟨by rw [mLike, ← hxx, ← hyy, if_neg (by omega), if_neg (by omega), if_pos (by omega), if_pos hym], rfl⟩, fr.rf, rfl⟩)
    · refine lv_aload_n hx hb dX6_like_32 rfl (lv_at hl 2 rfl) ?_
      refine g_getr (k := 18) (j := 124) hx hb hts hown hK hθ hB cf6 (by decide) rfl (by decide) kw_677 rfl rfl dX6_like_33 ?_
      refine lv_iload hx hb dX6_like_36 (lv_at hl 0 rfl) ?_
      refine g_iald (k := y) hx hb hK hB (by decide) rfl (by omega) (Nat.lt_of_lt_of_eq (by omega : y < 8) (Eq.symm rfl)) (by decide) dX6_like_38 ?_
      refine z_top (b := (w.2 y)) (hA.2 y hy8) ?_
      refine lv_bipush (v := iZ (-9)) hx hb dX6_like_39 (by decide) ?_
      refine z_icmp_eq (tgt := 66) hx hb dX6_like_41 (by decide) ⟨by omega, by omega⟩ ⟨by decide, by decide⟩ (fun c_16 => ?_) (fun c_16 => ?_)
      · refine lv_aload_n hx hb dX6_like_66 rfl (lv_at hl 2 rfl) ?_
        refine g_getr (k := 18) (j := 124) hx hb hts hown hK hθ hB cf6 (by decide) rfl (by decide) kw_677 rfl rfl dX6_like_67 ?_
        refine lv_iload_n hx hb dX6_like_70 rfl (lv_at hl 1 rfl) ?_
        refine g_iald (k := x) hx hb hK hB (by decide) rfl (by omega) (Nat.lt_of_lt_of_eq (by omega : x < 8) (Eq.symm rfl)) (by decide) dX6_like_71 ?_
        refine z_top (b := (w.2 x)) (hA.2 x hx8) ?_
        refine lv_bipush (v := iZ (-9)) hx hb dX6_like_72 (by decide) ?_
        refine z_icmp_ne (tgt := 81) hx hb dX6_like_74 (by decide) ⟨by omega, by omega⟩ ⟨by decide, by decide⟩ (fun c_17 => ?_) (fun c_17 => ?_)
        · refine lv_iload hx hb dX6_like_81 (lv_at hl 0 rfl) ?_
          refine lv_istore (lv' := [(5, .int (iZ ((y : Nat) : Int))), (4, .int (iZ ((y : Nat) : Int))), (3, .int (iZ ((x : Nat) : Int))), (0, .ref (tad θ 111)), (1, .int (iZ ((a0 : Nat) : Int))), (2, .int (iZ ((b0 : Nat) : Int)))]) hx hb dX6_like_83 hl (by decide) rfl (fun ls hl => ?_)
          refine lv_iload hx hb dX6_like_85 (lv_at hl 0 rfl) ?_
          refine lv_iload_n hx hb dX6_like_87 rfl (lv_at hl 2 rfl) ?_
          refine z_icmp_ne (tgt := 96) hx hb dX6_like_88 (by decide) ⟨by omega, by omega⟩ ⟨by omega, by omega⟩ (fun c_18 => ?_) (fun c_18 => ?_)
          · refine lv_iload_n hx hb dX6_like_96 rfl (lv_at hl 2 rfl) ?_
            refine lv_istore (lv' := [(6, .int (iZ ((x : Nat) : Int))), (5, .int (iZ ((y : Nat) : Int))), (4, .int (iZ ((y : Nat) : Int))), (3, .int (iZ ((x : Nat) : Int))), (0, .ref (tad θ 111)), (1, .int (iZ ((a0 : Nat) : Int))), (2, .int (iZ ((b0 : Nat) : Int)))]) hx hb dX6_like_97 hl (by decide) rfl (fun ls hl => ?_)
            refine lv_aload_n hx hb dX6_like_99 rfl (lv_at hl 4 rfl) ?_
            refine g_getr (k := 18) (j := 124) hx hb hts hown hK hθ hB cf6 (by decide) rfl (by decide) kw_677 rfl rfl dX6_like_100 ?_
            refine lv_iload hx hb dX6_like_103 (lv_at hl 0 rfl) ?_
            refine g_iald (k := x) hx hb hK hB (by decide) rfl (by omega) (Nat.lt_of_lt_of_eq (by omega : x < 8) (Eq.symm rfl)) (by decide) dX6_like_105 ?_
            refine z_top (b := (w.2 x)) (hA.2 x hx8) ?_
            refine z_if_lt (tgt := 130) hx hb dX6_like_106 (by decide) ⟨by omega, by omega⟩ (fun c_19 => ?_) (fun c_19 => ?_)
            · have hnm : ¬ (0 ≤ w.2 x ∧ metB w.1 w.2 y (w.2 x / 10).toNat = true) := fun q => by have := q.1; omega
              refine lv_aload_n hx hb dX6_like_130 rfl (lv_at hl 4 rfl) ?_
              refine g_getr (k := 17) (j := 123) hx hb hts hown hK hθ hB cf6 (by decide) rfl (by decide) kw_676 rfl rfl dX6_like_131 ?_
              refine lv_iload hx hb dX6_like_134 (lv_at hl 1 rfl) ?_
              refine lv_iload hx hb dX6_like_136 (lv_at hl 0 rfl) ?_
              refine g_iast (k := y) hx hb hK hθ hB (by decide) rfl (by omega) (Nat.lt_of_lt_of_eq (by omega : y < 8) (Eq.symm rfl)) (by decide) ⟨by omega, by omega⟩ dX6_like_138 (fun H locs hB => ?_)
              obtain ⟨σ1, hσ1⟩ : ∃ x_ : gS, x_ = up2 σ 123 y ((x : Nat) : Int) := ⟨_, rfl⟩
              rw [← hσ1] at hB
              have hR := hB.1.2
              refine lv_iconst (v := iZ 1) hx hb dX6_like_139 rfl ?_
              exact g_zret hx hb hr hlk hB dX6_like_140 (by decide) (⟨Or.inl ⟨(upn w.1 y x, w.2), by rw [mLike, ← hxx, ← hyy, if_neg (by omega), if_neg (by omega), if_neg (by omega), if_neg hnm], rfl, by rw [hσ1]; exact mA_link hA y x hx8⟩, by rw [hσ1]; exact fr.up rfl, rfl⟩)
            · refine lv_aload_n hx hb dX6_like_109 rfl (lv_at hl 4 rfl) ?_
              refine lv_iload hx hb dX6_like_110 (lv_at hl 1 rfl) ?_
              refine lv_aload_n hx hb dX6_like_112 rfl (lv_at hl 4 rfl) ?_
              refine g_getr (k := 18) (j := 124) hx hb hts hown hK hθ hB cf6 (by decide) rfl (by decide) kw_677 rfl rfl dX6_like_113 ?_
              refine lv_iload hx hb dX6_like_116 (lv_at hl 0 rfl) ?_
              refine g_iald (k := x) hx hb hK hB (by decide) rfl (by omega) (Nat.lt_of_lt_of_eq (by omega : x < 8) (Eq.symm rfl)) (by decide) dX6_like_118 ?_
              refine z_top (b := (w.2 x)) (hA.2 x hx8) ?_
              refine lv_bipush (v := iZ 10) hx hb dX6_like_119 (by decide) ?_
              refine z_idiv hx hb dX6_like_121 ⟨by omega, by omega⟩ (by omega) ⟨by decide, by decide⟩ (by decide) ?_
              refine z_top (b := (((w.2 x / 10).toNat : Nat) : Int)) (by omega) ?_
              refine g_calli (g_runV (i := 111) (As := [.int (iZ ((y : Nat) : Int)), .int (iZ (((w.2 x / 10).toNat : Nat) : Int))]) (rest := []) hx hb hml hown hts hK hst hB (mX6_isMet l θ hθ σ z w hA ho y (w.2 x / 10).toNat (by omega) (by omega)) mv_X6_isMet kw_813 cf6 (by decide) rfl rfl hl.1 rfl (Nat.le_of_ble_eq_true rfl) ⟨by decide, by decide⟩ ⟨Nat.le_refl _, Nat.le_refl _⟩ dX6_like_122) hB (fun q_22 σ_20 z_21 H locs hq_22 hmt hB => ?_)
              obtain ⟨hmt, e1_, e2_⟩ := hmt
              rw [e1_, e2_] at hB
              clear e1_ e2_
              refine z_if_eq (tgt := 130) hx hb dX6_like_125 (by decide) ⟨by omega, by omega⟩ (fun c_23 => ?_) (fun c_23 => ?_)
              · have hnm : ¬ (0 ≤ w.2 x ∧ metB w.1 w.2 y (w.2 x / 10).toNat = true) := fun q => by
                  rcases hmt with ⟨h1, h2⟩ | ⟨h1, h2⟩
                  · omega
                  · exact h2 q.2
                refine lv_aload_n hx hb dX6_like_130 rfl (lv_at hl 4 rfl) ?_
                refine g_getr (k := 17) (j := 123) hx hb hts hown hK hθ hB cf6 (by decide) rfl (by decide) kw_676 rfl rfl dX6_like_131 ?_
                refine lv_iload hx hb dX6_like_134 (lv_at hl 1 rfl) ?_
                refine lv_iload hx hb dX6_like_136 (lv_at hl 0 rfl) ?_
                refine g_iast (k := y) hx hb hK hθ hB (by decide) rfl (by omega) (Nat.lt_of_lt_of_eq (by omega : y < 8) (Eq.symm rfl)) (by decide) ⟨by omega, by omega⟩ dX6_like_138 (fun H locs hB => ?_)
                obtain ⟨σ1, hσ1⟩ : ∃ x_ : gS, x_ = up2 σ 123 y ((x : Nat) : Int) := ⟨_, rfl⟩
                rw [← hσ1] at hB
                have hR := hB.1.2
                refine lv_iconst (v := iZ 1) hx hb dX6_like_139 rfl ?_
                exact g_zret hx hb hr hlk hB dX6_like_140 (by decide) (⟨Or.inl ⟨(upn w.1 y x, w.2), by rw [mLike, ← hxx, ← hyy, if_neg (by omega), if_neg (by omega), if_neg (by omega), if_neg hnm], rfl, by rw [hσ1]; exact mA_link hA y x hx8⟩, by rw [hσ1]; exact fr.up rfl, rfl⟩)
              · have hym : 0 ≤ w.2 x ∧ metB w.1 w.2 y (w.2 x / 10).toNat = true := by
                  rcases hmt with ⟨h1, h2⟩ | ⟨h1, h2⟩
                  · exact ⟨by omega, h2⟩
                  · omega
                refine lv_iconst (v := iZ 0) hx hb dX6_like_128 rfl ?_
                exact g_zret hx hb hr hlk hB dX6_like_129 (by decide) (⟨Or.inr ⟨by rw [mLike, ← hxx, ← hyy, if_neg (by omega), if_neg (by omega), if_neg (by omega), if_pos hym], rfl⟩, fr.rf, rfl⟩)
          · (exfalso; omega)
        · (exfalso; omega)
      · refine lv_aload_n hx hb dX6_like_44 rfl (lv_at hl 2 rfl) ?_
        refine g_getr (k := 18) (j := 124) hx hb hts hown hK hθ hB cf6 (by decide) rfl (by decide) kw_677 rfl rfl dX6_like_45 ?_
        refine lv_iload_n hx hb dX6_like_48 rfl (lv_at hl 1 rfl) ?_
        refine g_iald (k := x) hx hb hK hB (by decide) rfl (by omega) (Nat.lt_of_lt_of_eq (by omega : x < 8) (Eq.symm rfl)) (by decide) dX6_like_49 ?_
        refine z_top (b := (w.2 x)) (hA.2 x hx8) ?_
        refine lv_aload_n hx hb dX6_like_50 rfl (lv_at hl 2 rfl) ?_
        refine g_getr (k := 18) (j := 124) hx hb hts hown hK hθ hB cf6 (by decide) rfl (by decide) kw_677 rfl rfl dX6_like_51 ?_
        refine lv_iload hx hb dX6_like_54 (lv_at hl 0 rfl) ?_
        refine g_iald (k := y) hx hb hK hB (by decide) rfl (by omega) (Nat.lt_of_lt_of_eq (by omega : y < 8) (Eq.symm rfl)) (by decide) dX6_like_56 ?_
        refine z_top (b := (w.2 y)) (hA.2 y hy8) ?_
        refine z_icmp_ne (tgt := 64) hx hb dX6_like_57 (by decide) ⟨by omega, by omega⟩ ⟨by omega, by omega⟩ (fun c_24 => ?_) (fun c_24 => ?_)
        · refine lv_iconst (v := iZ 0) hx hb dX6_like_64 rfl ?_
          exact g_zret hx hb hr hlk hB dX6_like_65 (by decide) (by first | exact ⟨Or.inl ⟨w, by rw [mLike, ← hxx, ← hyy, if_neg (by omega), if_pos (by omega), if_pos (by omega)], rfl, hA⟩, fr.rf, rfl⟩ | exact ⟨Or.inr ⟨by rw [mLike, ← hxx, ← hyy, if_neg (by omega), if_pos (by omega), if_neg (by omega)], rfl⟩, fr.rf, rfl⟩)
        · refine lv_iconst (v := iZ 1) hx hb dX6_like_60 rfl ?_
          refine lv_goto (tgt := 65) hx hb dX6_like_61 (by decide) ?_
          exact g_zret hx hb hr hlk hB dX6_like_65 (by decide) (by first | exact ⟨Or.inl ⟨w, by rw [mLike, ← hxx, ← hyy, if_neg (by omega), if_pos (by omega), if_pos (by omega)], rfl, hA⟩, fr.rf, rfl⟩ | exact ⟨Or.inr ⟨by rw [mLike, ← hxx, ← hyy, if_neg (by omega), if_pos (by omega), if_neg (by omega)], rfl⟩, fr.rf, rfl⟩)
  · refine lv_iconst (v := iZ 1) hx hb dX6_like_19 rfl ?_
    exact g_zret hx hb hr hlk hB dX6_like_20 (by decide) (⟨Or.inl ⟨w, by rw [mLike, ← hxx, ← hyy, if_pos (by omega)], rfl, hA⟩, fr.rf, rfl⟩)
