set_option maxHeartbeats 4000000 in
set_option maxRecDepth 100000 in
theorem mX6_isMet (l : Launch) (θ : gT) (hθ : gOK θ) (σ : gS) (z : gZ) (w : mC) (hA : mA σ w) (ho : mOK w) (r s0 : Nat) (hr8 : r < 8) (hs : s0 < 8) : GI l θ yX6_isMet cX6_isMet 4 (some .boolean) 1 22 [.ref (tad θ 111), .int (iZ ((r : Nat) : Int)), .int (iZ ((s0 : Nat) : Int))] σ z (fun q σ' z' => ((q = 1 ∧ (metB w.1 w.2 r s0 = true)) ∨ (q = 0 ∧ ¬ (metB w.1 w.2 r s0 = true))) ∧ σ' = σ ∧ z' = z) := by
  refine g_enter (ret := (some .boolean)) (by decide +kernel) (Nat.le_of_ble_eq_true rfl) ?_
  intro p e s m args below meth c ls F hB hl
  obtain ⟨hx, hb, hr, hml, hown, hts, hlk, hK, hst⟩ := F
  have hR := hB.1.2
  have hl : lv_has ls 4 [(0, .ref (tad θ 111)), (1, .int (iZ ((r : Nat) : Int))), (2, .int (iZ ((s0 : Nat) : Int)))] := hl
  have ht := ho.2.1
  refine lv_aload_n hx hb dX6_isMet_0 rfl (lv_at hl 0 rfl) ?_
  refine lv_iload_n hx hb dX6_isMet_1 rfl (lv_at hl 2 rfl) ?_
  refine g_calli (g_runV (i := 111) (As := [.int (iZ ((s0 : Nat) : Int))]) (rest := []) hx hb hml hown hts hK hst hB (mX6_root l θ hθ σ z w.1 hA.1 ho.1 s0 (hs)) mv_X6_root kw_799 cf6 (by decide) rfl rfl hl.1 rfl (Nat.le_of_ble_eq_true rfl) ⟨by decide, by decide⟩ ⟨Nat.le_refl _, Nat.le_refl _⟩ dX6_isMet_2) hB (fun q_3 σ_1 z_2 H locs hq_3 pq_3 hB => ?_)
  obtain ⟨pq_3, e1_, e2_⟩ := pq_3
  rw [e1_, e2_] at hB
  clear e1_ e2_
  subst pq_3
  refine lv_istore_n (lv' := [(3, .int (iZ (((rt w.1 s0) : Nat) : Int))), (0, .ref (tad θ 111)), (1, .int (iZ ((r : Nat) : Int))), (2, .int (iZ ((s0 : Nat) : Int)))]) hx hb dX6_isMet_5 rfl hl (by decide) rfl (fun ls hl => ?_)
  have loop_6 : ∀ (n_4 : Nat) (x : Nat) (j : Nat) (H : Heap) (locs : List Loc) (ls : Array Slot), 8 - j < n_4 → (x < 8) → (x = itr (nx w.1 w.2) j (rt w.1 s0)) → (j ≤ 8) → (∀ i, i < j → itr (nx w.1 w.2) i (rt w.1 s0) ≠ r) →  gB θ σ z s.heap H locs → lv_has ls 4 [(3, .int (iZ ((x : Nat) : Int))), (0, .ref (tad θ 111)), (1, .int (iZ ((r : Nat) : Int))), (2, .int (iZ ((s0 : Nat) : Int)))] → W p l e (gRm 1 22) s m args below meth c H locs 0 0 (MQ below (gQi θ (fun q σ' z' => ((q = 1 ∧ (metB w.1 w.2 r s0 = true)) ∨ (q = 0 ∧ ¬ (metB w.1 w.2 r s0 = true))) ∧ σ' = σ ∧ z' = z)) args s 0 0 (tA θ)) (F0 m 6 ls []) := by
    intro n_4
    induction n_4 with
    | zero => intro x j H locs ls hmu; exact absurd hmu (Nat.not_lt_zero _)
    | succ n_4 ih_5 =>
      intro x j H locs ls hmu hx8 hxj hj8 hbf hB hl
      have hR := hB.1.2
      have htx := ht x hx8
      have hlast : j = 8 → w.2 x < 0 := fun e => by subst e; rw [hxj]; exact ho.2.2 _ (rt_lt ho.1 hs)
      refine lv_iload_n hx hb dX6_isMet_6 rfl (lv_at hl 0 rfl) ?_
      refine lv_iload_n hx hb dX6_isMet_7 rfl (lv_at hl 2 rfl) ?_
      refine z_icmp_eq (tgt := 37) hx hb dX6_isMet_8 (by decide) ⟨by omega, by omega⟩ ⟨by omega, by omega⟩ (fun c_7 => ?_) (fun c_7 => ?_)
      · have hm : metB w.1 w.2 r s0 = true := (metB_iff ho.1 ho.2 hs).mpr ⟨j, by rw [← hxj]; omega⟩
        refine lv_iload_n hx hb dX6_isMet_37 rfl (lv_at hl 0 rfl) ?_
        refine lv_iload_n hx hb dX6_isMet_38 rfl (lv_at hl 2 rfl) ?_
        refine z_icmp_ne (tgt := 46) hx hb dX6_isMet_39 (by decide) ⟨by omega, by omega⟩ ⟨by omega, by omega⟩ (fun c_8 => ?_) (fun c_8 => ?_)
        · refine lv_iconst (v := iZ 0) hx hb dX6_isMet_46 rfl ?_
          exact g_zret hx hb hr hlk hB dX6_isMet_47 (by decide) (by first | exact ⟨Or.inl ⟨rfl, hm⟩, rfl, rfl⟩ | exact ⟨Or.inr ⟨rfl, hm⟩, rfl, rfl⟩ | (exfalso; omega))
        · refine lv_iconst (v := iZ 1) hx hb dX6_isMet_42 rfl ?_
          refine lv_goto (tgt := 47) hx hb dX6_isMet_43 (by decide) ?_
          exact g_zret hx hb hr hlk hB dX6_isMet_47 (by decide) (by first | exact ⟨Or.inl ⟨rfl, hm⟩, rfl, rfl⟩ | exact ⟨Or.inr ⟨rfl, hm⟩, rfl, rfl⟩ | (exfalso; omega))
      · refine lv_aload_n hx hb dX6_isMet_11 rfl (lv_at hl 1 rfl) ?_
        refine g_getr (k := 18) (j := 124) hx hb hts hown hK hθ hB cf6 (by decide) rfl (by decide) kw_667 rfl rfl dX6_isMet_12 ?_
        refine lv_iload_n hx hb dX6_isMet_15 rfl (lv_at hl 0 rfl) ?_
        refine g_iald (k := x) hx hb hK hB (by decide) rfl (by omega) (Nat.lt_of_lt_of_eq (by omega : x < 8) (Eq.symm rfl)) (by decide) dX6_isMet_16 ?_
        refine z_top (b := (w.2 x)) (hA.2 x hx8) ?_
        refine z_if_lt (tgt := 37) hx hb dX6_isMet_17 (by decide) ⟨by omega, by omega⟩ (fun c_9 => ?_) (fun c_9 => ?_)
        · have hm : ¬ metB w.1 w.2 r s0 = true := fun q => by
            obtain ⟨i, hi⟩ := (metB_iff ho.1 ho.2 hs).mp q
            rcases Nat.lt_or_ge i j with h | h
            · exact hbf i h hi
            · have e := itr_fix' (f := nx w.1 w.2) (j := j) (k := i) (s := rt w.1 s0) (by rw [← hxj]; exact nx_end (by omega)) h
              rw [hi, ← hxj] at e
              omega
          refine lv_iload_n hx hb dX6_isMet_37 rfl (lv_at hl 0 rfl) ?_
          refine lv_iload_n hx hb dX6_isMet_38 rfl (lv_at hl 2 rfl) ?_
          refine z_icmp_ne (tgt := 46) hx hb dX6_isMet_39 (by decide) ⟨by omega, by omega⟩ ⟨by omega, by omega⟩ (fun c_10 => ?_) (fun c_10 => ?_)
          · refine lv_iconst (v := iZ 0) hx hb dX6_isMet_46 rfl ?_
            exact g_zret hx hb hr hlk hB dX6_isMet_47 (by decide) (by first | exact ⟨Or.inl ⟨rfl, hm⟩, rfl, rfl⟩ | exact ⟨Or.inr ⟨rfl, hm⟩, rfl, rfl⟩ | (exfalso; omega))
          · refine lv_iconst (v := iZ 1) hx hb dX6_isMet_42 rfl ?_
            refine lv_goto (tgt := 47) hx hb dX6_isMet_43 (by decide) ?_
            exact g_zret hx hb hr hlk hB dX6_isMet_47 (by decide) (by first | exact ⟨Or.inl ⟨rfl, hm⟩, rfl, rfl⟩ | exact ⟨Or.inr ⟨rfl, hm⟩, rfl, rfl⟩ | (exfalso; omega))
        · refine lv_aload_n hx hb dX6_isMet_20 rfl (lv_at hl 1 rfl) ?_
          refine lv_aload_n hx hb dX6_isMet_21 rfl (lv_at hl 1 rfl) ?_
          refine g_getr (k := 18) (j := 124) hx hb hts hown hK hθ hB cf6 (by decide) rfl (by decide) kw_667 rfl rfl dX6_isMet_22 ?_
          refine lv_iload_n hx hb dX6_isMet_25 rfl (lv_at hl 0 rfl) ?_
          refine g_iald (k := x) hx hb hK hB (by decide) rfl (by omega) (Nat.lt_of_lt_of_eq (by omega : x < 8) (Eq.symm rfl)) (by decide) dX6_isMet_26 ?_
          refine z_top (b := (w.2 x)) (hA.2 x hx8) ?_
          refine lv_bipush (v := iZ 10) hx hb dX6_isMet_27 (by decide) ?_
          refine z_idiv hx hb dX6_isMet_29 ⟨by omega, by omega⟩ (by omega) ⟨by decide, by decide⟩ (by decide) ?_
          refine z_top (b := (((w.2 x / 10).toNat : Nat) : Int)) (by omega) ?_
          refine g_calli (g_runV (i := 111) (As := [.int (iZ (((w.2 x / 10).toNat : Nat) : Int))]) (rest := []) hx hb hml hown hts hK hst hB (mX6_root l θ hθ σ z w.1 hA.1 ho.1 (w.2 x / 10).toNat (by omega)) mv_X6_root kw_799 cf6 (by decide) rfl rfl hl.1 rfl (Nat.le_of_ble_eq_true rfl) ⟨by decide, by decide⟩ ⟨Nat.le_refl _, Nat.le_refl _⟩ dX6_isMet_30) hB (fun q_13 σ_11 z_12 H locs hq_13 pq_13 hB => ?_)
          obtain ⟨pq_13, e1_, e2_⟩ := pq_13
          rw [e1_, e2_] at hB
          clear e1_ e2_
          subst pq_13
          refine z_top (b := (((nx w.1 w.2 x) : Nat) : Int)) (by rw [nx_pos (by omega)]) ?_
          refine lv_istore_n (lv' := [(3, .int (iZ (((nx w.1 w.2 x) : Nat) : Int))), (0, .ref (tad θ 111)), (1, .int (iZ ((r : Nat) : Int))), (2, .int (iZ ((s0 : Nat) : Int)))]) hx hb dX6_isMet_33 rfl hl (by decide) rfl (fun ls hl => ?_)
          refine lv_goto (tgt := 6) hx hb dX6_isMet_34 (by decide) ?_
          exact ih_5 (nx w.1 w.2 x) (j + 1) _ _ _ (by omega) (nx_lt ho.1 ht hx8) (by rw [hxj]; rfl) (by omega) (lt_s hbf (by rw [← hxj]; omega)) hB (lv_sub hl [0, 1, 2, 3] rfl)
  exact loop_6 _ (rt w.1 s0) 0 _ _ _ (Nat.lt_succ_self _) (rt_lt ho.1 hs) rfl (by omega) (fun i hi => absurd hi (by omega)) hB (lv_sub hl [0, 1, 2, 3] rfl)
