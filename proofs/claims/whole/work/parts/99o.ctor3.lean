theorem dfX0 : ∀ j, j < 3 → defaultValue (tyX0 j) = gd0 0 j := fun j hj => by
  rcases (show j = 0 ∨ j = 1 ∨ j = 2 by omega) with rfl | rfl | rfl <;> rfl
theorem dfX1 : ∀ j, j < 6 → defaultValue (tyX1 j) = gd0 1 j := fun j hj => by
  rcases (show j = 0 ∨ j = 1 ∨ j = 2 ∨ j = 3 ∨ j = 4 ∨ j = 5 by omega) with rfl | rfl | rfl | rfl | rfl | rfl <;> rfl
theorem dfX2 : ∀ j, j < 11 → defaultValue (tyX2 j) = gd0 2 j := fun j hj => by
  rcases (show j = 0 ∨ j = 1 ∨ j = 2 ∨ j = 3 ∨ j = 4 ∨ j = 5 ∨ j = 6 ∨ j = 7 ∨ j = 8 ∨ j = 9 ∨ j = 10 by omega) with rfl | rfl | rfl | rfl | rfl | rfl | rfl | rfl | rfl | rfl | rfl <;> rfl
theorem dfX3 : ∀ j, j < 5 → defaultValue (tyX3 j) = gd0 3 j := fun j hj => by
  rcases (show j = 0 ∨ j = 1 ∨ j = 2 ∨ j = 3 ∨ j = 4 by omega) with rfl | rfl | rfl | rfl | rfl <;> rfl
theorem dfX4 : ∀ j, j < 2 → defaultValue (tyX4 j) = gd0 4 j := fun j hj => by
  rcases (show j = 0 ∨ j = 1 by omega) with rfl | rfl <;> rfl
theorem dfX5 : ∀ j, j < 10 → defaultValue (tyX5 j) = gd0 5 j := fun j hj => by
  rcases (show j = 0 ∨ j = 1 ∨ j = 2 ∨ j = 3 ∨ j = 4 ∨ j = 5 ∨ j = 6 ∨ j = 7 ∨ j = 8 ∨ j = 9 by omega) with rfl | rfl | rfl | rfl | rfl | rfl | rfl | rfl | rfl | rfl <;> rfl
theorem dfX6 : ∀ j, j < 28 → defaultValue (tyX6 j) = gd0 6 j := fun j hj => by
  rcases (show j = 0 ∨ j = 1 ∨ j = 2 ∨ j = 3 ∨ j = 4 ∨ j = 5 ∨ j = 6 ∨ j = 7 ∨ j = 8 ∨ j = 9 ∨ j = 10 ∨ j = 11 ∨ j = 12 ∨ j = 13 ∨ j = 14 ∨ j = 15 ∨ j = 16 ∨ j = 17 ∨ j = 18 ∨ j = 19 ∨ j = 20 ∨ j = 21 ∨ j = 22 ∨ j = 23 ∨ j = 24 ∨ j = 25 ∨ j = 26 ∨ j = 27 by omega) with rfl | rfl | rfl | rfl | rfl | rfl | rfl | rfl | rfl | rfl | rfl | rfl | rfl | rfl | rfl | rfl | rfl | rfl | rfl | rfl | rfl | rfl | rfl | rfl | rfl | rfl | rfl | rfl <;> rfl
def S00 (_i _k : Nat) : Int := 0
theorem σI_F0 : ∀ f ∈ flL, (vlL.contains f = false ∧ f ≠ 13) ∧ (vlL.contains (f + 1) = false ∧ f + 1 ≠ 13) ∧ (vlL.contains (f + 2) = false ∧ f + 2 ≠ 13) ∧ (vlL.contains (f + 3) = false ∧ f + 3 ≠ 13) ∧ vlL.contains (f + 4) = true := by decide
theorem σI_0 {i : Nat} (h : vlL.contains i = false ∧ i ≠ 13) (k : Nat) : σI i k = 0 := by
  unfold σI; rw [h.1, if_neg (by decide), if_neg (fun q => h.2 q.1)]
theorem σI_v {i : Nat} (h : vlL.contains i = true) (k : Nat) : σI i k = if k < 8 then -9 else 0 := by
  unfold σI; rw [h, if_pos rfl]
theorem clF0 : ∀ f ∈ flL, ∀ i, i < 129 → f ≤ i → i < f + 5 → ∀ k, k < 28 → isr i k = true → tg i k < f + 5 := by decide +kernel
theorem pr22 : ∀ j : Fin 14, ∀ d : Fin 5, pr (23 + 5 * j.val + d.val) = (22, j.val) ∨ 23 + 5 * j.val ≤ (pr (23 + 5 * j.val + d.val)).1 := by decide +kernel
theorem cl22 (j : Nat) (hj : j < 14) (t : Nat) (h1 : t < 23 + 5 * j + 5) (h2 : 23 + 5 * j ≤ t) : pr t = (22, j) ∨ 23 + 5 * j ≤ (pr t).1 := by
  have b : pr (23 + 5 * j + (t - (23 + 5 * j))) = (22, j) ∨ 23 + 5 * j ≤ (pr (23 + 5 * j + (t - (23 + 5 * j)))).1 := pr22 ⟨j, hj⟩ ⟨t - (23 + 5 * j), by omega⟩
  rw [show 23 + 5 * j + (t - (23 + 5 * j)) = t by omega] at b
  exact b
theorem pr98 : ∀ j : Fin 2, ∀ d : Fin 5, pr (101 + 5 * j.val + d.val) = (98, j.val) ∨ 101 + 5 * j.val ≤ (pr (101 + 5 * j.val + d.val)).1 := by decide +kernel
theorem cl98 (j : Nat) (hj : j < 2) (t : Nat) (h1 : t < 101 + 5 * j + 5) (h2 : 101 + 5 * j ≤ t) : pr t = (98, j) ∨ 101 + 5 * j ≤ (pr t).1 := by
  have b : pr (101 + 5 * j + (t - (101 + 5 * j))) = (98, j) ∨ 101 + 5 * j ≤ (pr (101 + 5 * j + (t - (101 + 5 * j)))).1 := pr98 ⟨j, hj⟩ ⟨t - (101 + 5 * j), by omega⟩
  rw [show 101 + 5 * j + (t - (101 + 5 * j)) = t by omega] at b
  exact b
set_option maxHeartbeats 4000000 in
set_option maxRecDepth 100000 in
theorem qFill (l : Launch) (D : va_G) (cs : ClassId × ClassId × ClassId) (A : Nat → Prop) (N j n : Nat) (hj : j < N) (hcj : ck j = 7) (hcn : cn j = n) (hn9 : n < 1000) (v : Int) (hv : rg v) (ad : Nat → Nat) (ρ : gQ) (σ : gS) (z : gZ) : Met l yJ7_fill_53178 (.code yJ7_fill_53178 cJ7_fill_53178 4 none :: gws) (gRm 0 0) (va_Pc [.ref (ad j), .int (iZ v)] (qPre D cs A N ad ρ σ z)) (va_Qv (S := gS) (fun σ' => (∀ k, σ' j k = if k < n then v else σ j k) ∧ ∀ i, i ≠ j → σ' i = σ i) (fun σ' t => qW D cs A N ad ρ σ' z t.heap) A) 0 0 A := by
  refine q_enter (by decide +kernel) (Nat.le_of_ble_eq_true rfl) ?_
  intro p e s m args below meth c ls F hin hB hA hl
  obtain ⟨hx, hb, hr, hml, hown, hts, hlk, hK, hO⟩ := F
  have hl : lv_has ls 4 [(0, .ref (ad j)), (1, .int (iZ v))] := hl
  refine lv_iconst (v := iZ ((0 : Nat) : Int)) hx hb dJ7_fill_53178_0 rfl ?_
  refine lv_istore_n (lv' := [(2, .int (iZ ((0 : Nat) : Int))), (0, .ref (ad j)), (1, .int (iZ v))]) hx hb dJ7_fill_53178_1 rfl hl (by decide) rfl (fun ls hl => ?_)
  refine lv_aload_n hx hb dJ7_fill_53178_2 rfl (lv_at hl 1 rfl) ?_
  refine q_len hx hb hK hB hj hcj hcn dJ7_fill_53178_3 ?_
  refine lv_istore_n (lv' := [(3, .int (iZ ((n : Nat) : Int))), (2, .int (iZ ((0 : Nat) : Int))), (0, .ref (ad j)), (1, .int (iZ v))]) hx hb dJ7_fill_53178_4 rfl hl (by decide) rfl (fun ls hl => ?_)
  have loop5 : ∀ (n5 : Nat) (i : Nat) (σ1 : gS) (H : Heap) (locs : List Loc) (ls : Array Slot), n - i < n5 → (i ≤ n) → (∀ k, σ1 j k = if k < i then v else σ j k) → (∀ i, i ≠ j → σ1 i = σ i) → qB D cs A N ad ρ σ1 z s.heap H locs → lv_has ls 4 [(3, .int (iZ ((n : Nat) : Int))), (2, .int (iZ ((i : Nat) : Int))), (0, .ref (ad j)), (1, .int (iZ v))] → W p l e (gRm 0 0) s m args below meth c H locs 0 0 (MQ below (va_Qv (S := gS) (fun σ' => (∀ k, σ' j k = if k < n then v else σ j k) ∧ ∀ i, i ≠ j → σ' i = σ i) (fun σ' t => qW D cs A N ad ρ σ' z t.heap) A) args s 0 0 A) (F0 m 5 ls []) := by
    intro n5
    induction n5 with
    | zero => intro i σ1 H locs ls hmu; exact absurd hmu (Nat.not_lt_zero _)
    | succ n5 ih5 =>
      intro i σ1 H locs ls hmu hi hg hf hB hl
      refine lv_iload_n hx hb dJ7_fill_53178_5 rfl (lv_at hl 1 rfl) ?_
      refine lv_iload_n hx hb dJ7_fill_53178_6 rfl (lv_at hl 0 rfl) ?_
      refine z_icmp_ge (tgt := 20) hx hb dJ7_fill_53178_7 (by decide) ⟨by omega, by omega⟩ ⟨by omega, by omega⟩ (fun c_1 => ?_) (fun c_1 => ?_)
      · exact W.vret hx hb hr (fun t ht hW => ⟨⟨σ1, rfl, ⟨fun k => by rw [hg k, show i = n by omega], hf⟩, by dsimp only; rw [ht]; exact hB.1⟩, hB.2.F ht⟩) hB.2.2.2 dJ7_fill_53178_20 hlk
      · refine lv_aload_n hx hb dJ7_fill_53178_10 rfl (lv_at hl 2 rfl) ?_
        refine lv_iload_n hx hb dJ7_fill_53178_11 rfl (lv_at hl 1 rfl) ?_
        refine lv_iload_n hx hb dJ7_fill_53178_12 rfl (lv_at hl 3 rfl) ?_
        refine q_iast (j := i) hx hb hK hB hj hcj (by omega) (by omega) dJ7_fill_53178_13 (fun H locs hB => ?_)
        refine z_iinc (k := 1) (lv' := [(2, .int (iZ (((i : Nat) : Int) + 1))), (3, .int (iZ ((n : Nat) : Int))), (0, .ref (ad j)), (1, .int (iZ v))]) hx hb dJ7_fill_53178_14 hl rfl (by decide) rfl (fun ls hl => ?_)
        have hl : lv_has ls 4 [(2, .int (iZ (((i + 1) : Nat) : Int))), (3, .int (iZ ((n : Nat) : Int))), (0, .ref (ad j)), (1, .int (iZ v))] := by have e9 : (((i : Nat) : Int) + 1) = (((i + 1) : Nat) : Int) := (by omega); rw [e9] at hl; exact hl
        refine lv_goto (tgt := 5) hx hb dJ7_fill_53178_17 (by decide) ?_
        refine ih5 (i + 1) _ _ _ _ (by omega) (by omega) (fun k => ?_) (fun a ha => ?_) hB (lv_sub hl [1, 0, 2, 3] rfl)
        · by_cases q : k = i
          · subst q; rw [up2_eq, if_pos (by omega)]
          · rw [up2_k _ _ q, hg k]
            by_cases q2 : k < i
            · rw [if_pos q2, if_pos (by omega)]
            · rw [if_neg q2, if_neg (by omega)]
        · rw [up2_row _ _ ha]; exact hf a ha
  exact loop5 _ 0 σ _ _ _ (Nat.lt_succ_self _) (by omega) (fun k => by rw [if_neg (Nat.not_lt_zero _)]) (fun _ _ => rfl) hB (lv_sub hl [0, 1, 2, 3] rfl)
set_option maxHeartbeats 4000000 in
set_option maxRecDepth 100000 in
theorem iX4 (l : Launch) (D : va_G) (cs : ClassId × ClassId × ClassId) (A : Nat → Prop) : IC l D cs A yX4_init cX4_init 1 1 12 1 40 1 3 := by
  intro ad0 ρ0 σ0 z h0 hz0
  refine q_enter (by decide +kernel) (Nat.le_of_ble_eq_true rfl) ?_
  intro p e s m args below meth c ls F hin hB hA hl
  obtain ⟨hx, hb, hr, hml, hown, hts, hlk, hK, hO⟩ := F
  have hl : lv_has ls 1 [(0, .ref (ad0 1))] := hl
  refine lv_aload_n hx hb dX4_init_0 rfl (lv_at hl 0 rfl) ?_
  refine W.objInit hx hb hown (hts _ kw_30) (hts _ kw_23) (hts _ kw_24) rfl (by rw [hml]; exact hl.1) rfl dX4_init_1 (Nat.le_of_ble_eq_true rfl) (Nat.le_of_ble_eq_true rfl) ?_
  refine W.eq (g2 := F0 m 4 ls []) rfl ?_
  have hq := PQ.start (Sg := σI) (f := 1) (ad := ad0) (ρ := ρ0) (σ := σ0) (by decide) h0
  refine lv_aload_n hx hb dX4_init_4 rfl (lv_at hl 0 rfl) ?_
  refine lv_bipush (v := iZ ((40 : Nat) : Int)) hx hb dX4_init_5 (by decide) ?_
  refine q_mkI (k := 0) (L := 40) (N := 2) (cells' := 1) (slots' := 40) hx hb hts hown hK hin hA hB hq (by decide) (by decide) rfl rfl (by decide) (fun _ => rfl) cf4 tyX4 tyX4_ok rfl rfl (by decide) kw_31 rfl rfl rfl rfl rfl rfl (Nat.le_of_ble_eq_true rfl) (Nat.le_of_ble_eq_true rfl) dX4_init_7 dX4_init_9 (fun ad ρ σ H locs hB hq => ?_)
  refine lv_aload_n hx hb dX4_init_12 rfl (lv_at hl 0 rfl) ?_
  refine lv_iconst (v := iZ (0)) hx hb dX4_init_13 rfl ?_
  refine q_putI (k := 1) (v := 0) (i := 1) hx hb hts hown hK hB cf4 tyX4 tyX4_ok (by decide) (hq.1 _ (Nat.le_refl _)).symm rfl (by decide) kw_32 rfl rfl rfl dX4_init_14 (fun H locs hB => ?_)
  have hq := hq.int 1 (0)
  have hf := hq.fin (by decide) (fun k => by show upn (fun _ => 0) 1 0 k = 0; unfold upn; split <;> rfl) (by decide +kernel)
  exact W.vret hx hb hr (fun t ht hW => ⟨⟨(_, _, _), rfl, hf, by dsimp only; rw [ht]; exact hB.1⟩, hB.2.F ht⟩) hB.2.2.2 dX4_init_17 hlk
set_option maxHeartbeats 4000000 in
set_option maxRecDepth 100000 in
theorem iX1 (l : Launch) (D : va_G) (cs : ClassId × ClassId × ClassId) (A : Nat → Prop) (f : Nat) (hF : isF f) : IC l D cs A yX1_init cX1_init 1 1 23 4 48 f (f + 5) := by
  intro ad0 ρ0 σ0 z h0 hz0
  refine q_enter (by decide +kernel) (Nat.le_of_ble_eq_true rfl) ?_
  intro p e s m args below meth c ls F hin hB hA hl
  obtain ⟨hx, hb, hr, hml, hown, hts, hlk, hK, hO⟩ := F
  have hl : lv_has ls 1 [(0, .ref (ad0 f))] := hl
  refine lv_aload_n hx hb dX1_init_0 rfl (lv_at hl 0 rfl) ?_
  refine W.objInit hx hb hown (hts _ kw_45) (hts _ kw_23) (hts _ kw_24) rfl (by rw [hml]; exact hl.1) rfl dX1_init_1 (Nat.le_of_ble_eq_true rfl) (Nat.le_of_ble_eq_true rfl) ?_
  refine W.eq (g2 := F0 m 4 ls []) rfl ?_
  have hq := PQ.start (Sg := S00) (f := f) (ad := ad0) (ρ := ρ0) (σ := σ0) (hF.lt0) h0
  refine lv_aload_n hx hb dX1_init_4 rfl (lv_at hl 0 rfl) ?_
  refine lv_iconst (v := iZ (0)) hx hb dX1_init_5 rfl ?_
  refine q_putI (k := 0) (v := 0) (i := f) hx hb hts hown hK hB cf1 tyX1 tyX1_ok (by omega) (hq.1 _ (Nat.le_refl _)).symm hF.ck0 (by decide) kw_49 rfl rfl rfl dX1_init_6 (fun H locs hB => ?_)
  have hq := hq.int 0 (0)
  refine lv_aload_n hx hb dX1_init_9 rfl (lv_at hl 0 rfl) ?_
  refine lv_iconst (v := iZ (0)) hx hb dX1_init_10 rfl ?_
  refine q_putI (k := 1) (v := 0) (i := f) hx hb hts hown hK hB cf1 tyX1 tyX1_ok (by omega) (hq.1 _ (Nat.le_refl _)).symm hF.ck0 (by decide) kw_53 rfl rfl rfl dX1_init_11 (fun H locs hB => ?_)
  have hq := hq.int 1 (0)
  refine lv_aload_n hx hb dX1_init_14 rfl (lv_at hl 0 rfl) ?_
  refine lv_bipush (v := iZ ((8 : Nat) : Int)) hx hb dX1_init_15 (by decide) ?_
  refine q_mkI (k := 2) (L := 8) (N := (f + 1)) (cells' := 1) (slots' := 8) hx hb hts hown hK hin hA hB hq (by omega) hF.lt1 hF.ck1 hF.cn1 (by decide) (fun _ => rfl) cf1 tyX1 tyX1_ok hF.ck0 rfl (by decide) kw_55 rfl hF.tg2 rfl rfl rfl rfl (Nat.le_of_ble_eq_true rfl) (Nat.le_of_ble_eq_true rfl) dX1_init_17 dX1_init_19 (fun ad ρ σ H locs hB hq => ?_)
  refine lv_aload_n hx hb dX1_init_22 rfl (lv_at hl 0 rfl) ?_
  refine lv_bipush (v := iZ ((24 : Nat) : Int)) hx hb dX1_init_23 (by decide) ?_
  refine q_mkI (k := 3) (L := 24) (N := (f + 2)) (cells' := 2) (slots' := 32) hx hb hts hown hK hin hA hB hq (by omega) hF.lt2 hF.ck2 hF.cn2 (by decide) (fun _ => rfl) cf1 tyX1 tyX1_ok hF.ck0 rfl (by decide) kw_56 rfl hF.tg3 rfl rfl rfl rfl (Nat.le_of_ble_eq_true rfl) (Nat.le_of_ble_eq_true rfl) dX1_init_25 dX1_init_27 (fun ad ρ σ H locs hB hq => ?_)
  refine lv_aload_n hx hb dX1_init_30 rfl (lv_at hl 0 rfl) ?_
  refine lv_bipush (v := iZ ((8 : Nat) : Int)) hx hb dX1_init_31 (by decide) ?_
  refine q_mkI (k := 4) (L := 8) (N := (f + 3)) (cells' := 3) (slots' := 40) hx hb hts hown hK hin hA hB hq (by omega) hF.lt3 hF.ck3 hF.cn3 (by decide) (fun _ => rfl) cf1 tyX1 tyX1_ok hF.ck0 rfl (by decide) kw_57 rfl hF.tg4 rfl rfl rfl rfl (Nat.le_of_ble_eq_true rfl) (Nat.le_of_ble_eq_true rfl) dX1_init_33 dX1_init_35 (fun ad ρ σ H locs hB hq => ?_)
  refine lv_aload_n hx hb dX1_init_38 rfl (lv_at hl 0 rfl) ?_
  refine lv_bipush (v := iZ ((8 : Nat) : Int)) hx hb dX1_init_39 (by decide) ?_
  refine q_mkI (k := 5) (L := 8) (N := (f + 4)) (cells' := 4) (slots' := 48) hx hb hts hown hK hin hA hB hq (by omega) hF.lt4 hF.ck4 hF.cn4 (by decide) (fun _ => rfl) cf1 tyX1 tyX1_ok hF.ck0 rfl (by decide) kw_59 rfl hF.tg5 rfl rfl rfl rfl (Nat.le_of_ble_eq_true rfl) (Nat.le_of_ble_eq_true rfl) dX1_init_41 dX1_init_43 (fun ad ρ σ H locs hB hq => ?_)
  refine lv_aload_n hx hb dX1_init_46 rfl (lv_at hl 0 rfl) ?_
  have hr5 : ρ f 5 = some (ad (f + 4)) := by
    have h9 := hq.2.2.2.2 f (Nat.le_refl f) (by omega) 5 (isr_fld hF.ck0 (by decide) rfl) (by rw [hF.tg5]; omega)
    rw [hF.tg5] at h9; exact h9
  refine q_getr (k := 5) (i := f) hx hb hts hown hK hB cf1 (by omega) (hq.1 _ (Nat.le_refl _)).symm hF.ck0 (by decide) kw_59 rfl hr5 dX1_init_47 ?_
  refine lv_bipush (v := iZ (-9)) hx hb dX1_init_50 (by decide) ?_
  obtain ⟨v1, v2, v3, v4⟩ := ms_J7_fill_53178
  refine va_callv (va_runS (As := [.ref (ad (f + 4)), .int (iZ (-9))]) (rest := []) ⟨hx, hb, hml, hown, hts⟩ (qFill l D cs A (f + 5) (f + 4) 8 (by omega) hF.ck4 hF.cn4 (by decide) (-9) ⟨by decide, by decide⟩ ad ρ σ z) ⟨callB_of 2 hts (gws_ws (gws_code v3)) rfl rfl rfl (hts _ v2) (hts _ kw_46) v4 ⟨Nat.le_of_ble_eq_true rfl, Nat.le_of_ble_eq_true rfl⟩, hts _ v1⟩ ⟨q_blind, fun U hU hW => ⟨rfl, q_pre hK hO hA hB hU hW⟩⟩ rfl rfl hl.1 rfl (lv_room (Nat.le_of_ble_eq_true rfl)) dX1_init_52 ⟨Nat.le_of_ble_eq_true rfl, Nat.le_of_ble_eq_true rfl⟩) hB.2 (fun _ _ h => h) (fun _ h => h) (fun u t H2 locs2 ht hvm hw hB3 hz1 hk1 hS => ?_)
  have hB : qB D cs A (f + 5) ad ρ u z s.heap H2 locs2 := ⟨by rw [← ht]; exact hB3, hS⟩
  obtain ⟨q1, q2, q3, q4, q5⟩ := hq
  have hI := σI_F0 f hF
  have h4 : f + 4 < 129 := hF.lt4
  have hf : pI f (f + 5) ad0 ρ0 σ0 ad ρ u := by
    refine ⟨q1, fun i hi => ⟨(q2 i hi).1, by rw [hw.2 i (by omega)]; exact (q2 i hi).2⟩, fun i a b => ⟨fun k => ?_, fun k hk => q5 i a b k hk (clF0 f hF i (by omega) a b k (isr_28 (by omega) hk) hk)⟩⟩
    rcases (show i = f ∨ i = f + 1 ∨ i = f + 2 ∨ i = f + 3 ∨ i = f + 4 by omega) with rfl | rfl | rfl | rfl | rfl
    · rw [hw.2 _ (by omega), q4 k, σI_0 hI.1]; unfold upn; (repeat' split) <;> rfl
    · rw [hw.2 _ (by omega), q3 _ (by omega) (by omega), σI_0 hI.2.1]; rfl
    · rw [hw.2 _ (by omega), q3 _ (by omega) (by omega), σI_0 hI.2.2.1]; rfl
    · rw [hw.2 _ (by omega), q3 _ (by omega) (by omega), σI_0 hI.2.2.2.1]; rfl
    · rw [hw.1 k, q3 _ (by omega) (by omega), σI_v hI.2.2.2.2]; rfl
  exact W.vret hx hb hr (fun t ht hW => ⟨⟨(ad, ρ, u), rfl, hf, by dsimp only; rw [ht]; exact hB.1⟩, hB.2.F ht⟩) hB.2.2.2 dX1_init_55 hlk
set_option maxHeartbeats 4000000 in
set_option maxRecDepth 100000 in
theorem iX2 (l : Launch) (D : va_G) (cs : ClassId × ClassId × ClassId) (A : Nat → Prop) : IC l D cs A yX2_init cX2_init 1 1 12 7 56 13 21 := by
  intro ad0 ρ0 σ0 z h0 hz0
  refine q_enter (by decide +kernel) (Nat.le_of_ble_eq_true rfl) ?_
  intro p e s m args below meth c ls F hin hB hA hl
  obtain ⟨hx, hb, hr, hml, hown, hts, hlk, hK, hO⟩ := F
  have hl : lv_has ls 1 [(0, .ref (ad0 13))] := hl
  refine lv_aload_n hx hb dX2_init_0 rfl (lv_at hl 0 rfl) ?_
  refine W.objInit hx hb hown (hts _ kw_78) (hts _ kw_23) (hts _ kw_24) rfl (by rw [hml]; exact hl.1) rfl dX2_init_1 (Nat.le_of_ble_eq_true rfl) (Nat.le_of_ble_eq_true rfl) ?_
  refine W.eq (g2 := F0 m 4 ls []) rfl ?_
  have hq := PQ.start (Sg := σI) (f := 13) (ad := ad0) (ρ := ρ0) (σ := σ0) (by decide) h0
  refine lv_aload_n hx hb dX2_init_4 rfl (lv_at hl 0 rfl) ?_
  refine lv_bipush (v := iZ (-9)) hx hb dX2_init_5 (by decide) ?_
  refine q_putI (k := 0) (v := -9) (i := 13) hx hb hts hown hK hB cf2 tyX2 tyX2_ok (by decide) (hq.1 _ (Nat.le_refl _)).symm rfl (by decide) kw_79 rfl rfl rfl dX2_init_7 (fun H locs hB => ?_)
  have hq := hq.int 0 (-9)
  refine lv_aload_n hx hb dX2_init_10 rfl (lv_at hl 0 rfl) ?_
  refine lv_iconst (v := iZ (0)) hx hb dX2_init_11 rfl ?_
  refine q_putI (k := 1) (v := 0) (i := 13) hx hb hts hown hK hB cf2 tyX2 tyX2_ok (by decide) (hq.1 _ (Nat.le_refl _)).symm rfl (by decide) kw_81 rfl rfl rfl dX2_init_12 (fun H locs hB => ?_)
  have hq := hq.int 1 (0)
  refine lv_aload_n hx hb dX2_init_15 rfl (lv_at hl 0 rfl) ?_
  refine lv_bipush (v := iZ (-9)) hx hb dX2_init_16 (by decide) ?_
  refine q_putI (k := 2) (v := -9) (i := 13) hx hb hts hown hK hB cf2 tyX2 tyX2_ok (by decide) (hq.1 _ (Nat.le_refl _)).symm rfl (by decide) kw_83 rfl rfl rfl dX2_init_18 (fun H locs hB => ?_)
  have hq := hq.int 2 (-9)
  refine lv_aload_n hx hb dX2_init_21 rfl (lv_at hl 0 rfl) ?_
  refine lv_iconst (v := iZ (0)) hx hb dX2_init_22 rfl ?_
  refine q_putI (k := 3) (v := 0) (i := 13) hx hb hts hown hK hB cf2 tyX2 tyX2_ok (by decide) (hq.1 _ (Nat.le_refl _)).symm rfl (by decide) kw_85 rfl rfl rfl dX2_init_23 (fun H locs hB => ?_)
  have hq := hq.int 3 (0)
  refine lv_aload_n hx hb dX2_init_26 rfl (lv_at hl 0 rfl) ?_
  refine lv_bipush (v := iZ ((8 : Nat) : Int)) hx hb dX2_init_27 (by decide) ?_
  refine q_mkI (k := 4) (L := 8) (N := 14) (cells' := 1) (slots' := 8) hx hb hts hown hK hin hA hB hq (by decide) (by decide) rfl rfl (by decide) (fun _ => rfl) cf2 tyX2 tyX2_ok rfl rfl (by decide) kw_86 rfl rfl rfl rfl rfl rfl (Nat.le_of_ble_eq_true rfl) (Nat.le_of_ble_eq_true rfl) dX2_init_29 dX2_init_31 (fun ad ρ σ H locs hB hq => ?_)
  refine lv_aload_n hx hb dX2_init_34 rfl (lv_at hl 0 rfl) ?_
  refine lv_bipush (v := iZ ((8 : Nat) : Int)) hx hb dX2_init_35 (by decide) ?_
  refine q_mkI (k := 5) (L := 8) (N := 15) (cells' := 2) (slots' := 16) hx hb hts hown hK hin hA hB hq (by decide) (by decide) rfl rfl (by decide) (fun _ => rfl) cf2 tyX2 tyX2_ok rfl rfl (by decide) kw_87 rfl rfl rfl rfl rfl rfl (Nat.le_of_ble_eq_true rfl) (Nat.le_of_ble_eq_true rfl) dX2_init_37 dX2_init_39 (fun ad ρ σ H locs hB hq => ?_)
  refine lv_aload_n hx hb dX2_init_42 rfl (lv_at hl 0 rfl) ?_
  refine lv_bipush (v := iZ ((8 : Nat) : Int)) hx hb dX2_init_43 (by decide) ?_
  refine q_mkI (k := 6) (L := 8) (N := 16) (cells' := 3) (slots' := 24) hx hb hts hown hK hin hA hB hq (by decide) (by decide) rfl rfl (by decide) (fun _ => rfl) cf2 tyX2 tyX2_ok rfl rfl (by decide) kw_88 rfl rfl rfl rfl rfl rfl (Nat.le_of_ble_eq_true rfl) (Nat.le_of_ble_eq_true rfl) dX2_init_45 dX2_init_47 (fun ad ρ σ H locs hB hq => ?_)
  refine lv_aload_n hx hb dX2_init_50 rfl (lv_at hl 0 rfl) ?_
  refine lv_bipush (v := iZ ((8 : Nat) : Int)) hx hb dX2_init_51 (by decide) ?_
  refine q_mkI (k := 7) (L := 8) (N := 17) (cells' := 4) (slots' := 32) hx hb hts hown hK hin hA hB hq (by decide) (by decide) rfl rfl (by decide) (fun _ => rfl) cf2 tyX2 tyX2_ok rfl rfl (by decide) kw_91 rfl rfl rfl rfl rfl rfl (Nat.le_of_ble_eq_true rfl) (Nat.le_of_ble_eq_true rfl) dX2_init_53 dX2_init_55 (fun ad ρ σ H locs hB hq => ?_)
  refine lv_aload_n hx hb dX2_init_58 rfl (lv_at hl 0 rfl) ?_
  refine lv_bipush (v := iZ ((8 : Nat) : Int)) hx hb dX2_init_59 (by decide) ?_
  refine q_mkI (k := 8) (L := 8) (N := 18) (cells' := 5) (slots' := 40) hx hb hts hown hK hin hA hB hq (by decide) (by decide) rfl rfl (by decide) (fun _ => rfl) cf2 tyX2 tyX2_ok rfl rfl (by decide) kw_93 rfl rfl rfl rfl rfl rfl (Nat.le_of_ble_eq_true rfl) (Nat.le_of_ble_eq_true rfl) dX2_init_61 dX2_init_63 (fun ad ρ σ H locs hB hq => ?_)
  refine lv_aload_n hx hb dX2_init_66 rfl (lv_at hl 0 rfl) ?_
  refine lv_bipush (v := iZ ((8 : Nat) : Int)) hx hb dX2_init_67 (by decide) ?_
  refine q_mkI (k := 9) (L := 8) (N := 19) (cells' := 6) (slots' := 48) hx hb hts hown hK hin hA hB hq (by decide) (by decide) rfl rfl (by decide) (fun _ => rfl) cf2 tyX2 tyX2_ok rfl rfl (by decide) kw_95 rfl rfl rfl rfl rfl rfl (Nat.le_of_ble_eq_true rfl) (Nat.le_of_ble_eq_true rfl) dX2_init_69 dX2_init_71 (fun ad ρ σ H locs hB hq => ?_)
  refine lv_aload_n hx hb dX2_init_74 rfl (lv_at hl 0 rfl) ?_
  refine lv_bipush (v := iZ ((8 : Nat) : Int)) hx hb dX2_init_75 (by decide) ?_
  refine q_mkI (k := 10) (L := 8) (N := 20) (cells' := 7) (slots' := 56) hx hb hts hown hK hin hA hB hq (by decide) (by decide) rfl rfl (by decide) (fun _ => rfl) cf2 tyX2 tyX2_ok rfl rfl (by decide) kw_97 rfl rfl rfl rfl rfl rfl (Nat.le_of_ble_eq_true rfl) (Nat.le_of_ble_eq_true rfl) dX2_init_77 dX2_init_79 (fun ad ρ σ H locs hB hq => ?_)
  have hf := hq.fin (by decide) (fun k => by
    show upn (upn (upn (upn (fun _ => 0) 0 (-9)) 1 0) 2 (-9)) 3 0 k = if (13 : Nat) = 13 ∧ (k = 0 ∨ k = 2) then -9 else 0
    unfold upn
    by_cases h : k = 0 ∨ k = 2
    · rw [show (if (13 : Nat) = 13 ∧ (k = 0 ∨ k = 2) then (-9 : Int) else 0) = -9 from if_pos ⟨rfl, h⟩]; rcases h with rfl | rfl <;> rfl
    · rw [show (if (13 : Nat) = 13 ∧ (k = 0 ∨ k = 2) then (-9 : Int) else 0) = 0 from if_neg (fun q => h q.2)]
      (repeat' split) <;> first | rfl | omega) (by decide +kernel)
  exact W.vret hx hb hr (fun t ht hW => ⟨⟨(_, _, _), rfl, hf, by dsimp only; rw [ht]; exact hB.1⟩, hB.2.F ht⟩) hB.2.2.2 dX2_init_82 hlk
set_option maxHeartbeats 4000000 in
set_option maxRecDepth 100000 in
theorem iX3 (l : Launch) (D : va_G) (cs : ClassId × ClassId × ClassId) (A : Nat → Prop) : IC l D cs A yX3_init cX3_init 1 1 12 4 24 93 98 := by
  intro ad0 ρ0 σ0 z h0 hz0
  refine q_enter (by decide +kernel) (Nat.le_of_ble_eq_true rfl) ?_
  intro p e s m args below meth c ls F hin hB hA hl
  obtain ⟨hx, hb, hr, hml, hown, hts, hlk, hK, hO⟩ := F
  have hl : lv_has ls 1 [(0, .ref (ad0 93))] := hl
  refine lv_aload_n hx hb dX3_init_0 rfl (lv_at hl 0 rfl) ?_
  refine W.objInit hx hb hown (hts _ kw_147) (hts _ kw_23) (hts _ kw_24) rfl (by rw [hml]; exact hl.1) rfl dX3_init_1 (Nat.le_of_ble_eq_true rfl) (Nat.le_of_ble_eq_true rfl) ?_
  refine W.eq (g2 := F0 m 4 ls []) rfl ?_
  have hq := PQ.start (Sg := σI) (f := 93) (ad := ad0) (ρ := ρ0) (σ := σ0) (by decide) h0
  refine lv_aload_n hx hb dX3_init_4 rfl (lv_at hl 0 rfl) ?_
  refine lv_iconst (v := iZ (0)) hx hb dX3_init_5 rfl ?_
  refine q_putI (k := 0) (v := 0) (i := 93) hx hb hts hown hK hB cf3 tyX3 tyX3_ok (by decide) (hq.1 _ (Nat.le_refl _)).symm rfl (by decide) kw_148 rfl rfl rfl dX3_init_6 (fun H locs hB => ?_)
  have hq := hq.int 0 (0)
  refine lv_aload_n hx hb dX3_init_9 rfl (lv_at hl 0 rfl) ?_
  refine lv_bipush (v := iZ ((6 : Nat) : Int)) hx hb dX3_init_10 (by decide) ?_
  refine q_mkI (k := 1) (L := 6) (N := 94) (cells' := 1) (slots' := 6) hx hb hts hown hK hin hA hB hq (by decide) (by decide) rfl rfl (by decide) (fun _ => rfl) cf3 tyX3 tyX3_ok rfl rfl (by decide) kw_150 rfl rfl rfl rfl rfl rfl (Nat.le_of_ble_eq_true rfl) (Nat.le_of_ble_eq_true rfl) dX3_init_12 dX3_init_14 (fun ad ρ σ H locs hB hq => ?_)
  refine lv_aload_n hx hb dX3_init_17 rfl (lv_at hl 0 rfl) ?_
  refine lv_bipush (v := iZ ((6 : Nat) : Int)) hx hb dX3_init_18 (by decide) ?_
  refine q_mkI (k := 2) (L := 6) (N := 95) (cells' := 2) (slots' := 12) hx hb hts hown hK hin hA hB hq (by decide) (by decide) rfl rfl (by decide) (fun _ => rfl) cf3 tyX3 tyX3_ok rfl rfl (by decide) kw_151 rfl rfl rfl rfl rfl rfl (Nat.le_of_ble_eq_true rfl) (Nat.le_of_ble_eq_true rfl) dX3_init_20 dX3_init_22 (fun ad ρ σ H locs hB hq => ?_)
  refine lv_aload_n hx hb dX3_init_25 rfl (lv_at hl 0 rfl) ?_
  refine lv_bipush (v := iZ ((6 : Nat) : Int)) hx hb dX3_init_26 (by decide) ?_
  refine q_mkI (k := 3) (L := 6) (N := 96) (cells' := 3) (slots' := 18) hx hb hts hown hK hin hA hB hq (by decide) (by decide) rfl rfl (by decide) (fun _ => rfl) cf3 tyX3 tyX3_ok rfl rfl (by decide) kw_152 rfl rfl rfl rfl rfl rfl (Nat.le_of_ble_eq_true rfl) (Nat.le_of_ble_eq_true rfl) dX3_init_28 dX3_init_30 (fun ad ρ σ H locs hB hq => ?_)
  refine lv_aload_n hx hb dX3_init_33 rfl (lv_at hl 0 rfl) ?_
  refine lv_bipush (v := iZ ((6 : Nat) : Int)) hx hb dX3_init_34 (by decide) ?_
  refine q_mkZ (k := 4) (L := 6) (N := 97) (cells' := 4) (slots' := 24) hx hb hts hown hK hin hA hB hq (by decide) (by decide) rfl rfl (by decide) (fun _ => rfl) cf3 tyX3 tyX3_ok rfl rfl (by decide) kw_153 rfl rfl rfl rfl rfl rfl (Nat.le_of_ble_eq_true rfl) (Nat.le_of_ble_eq_true rfl) dX3_init_36 dX3_init_38 (fun ad ρ σ H locs hB hq => ?_)
  have hf := hq.fin (by decide) (fun k => by show upn (fun _ => 0) 0 0 k = 0; unfold upn; split <;> rfl) (by decide +kernel)
  exact W.vret hx hb hr (fun t ht hW => ⟨⟨(_, _, _), rfl, hf, by dsimp only; rw [ht]; exact hB.1⟩, hB.2.F ht⟩) hB.2.2.2 dX3_init_41 hlk
set_option maxHeartbeats 4000000 in
set_option maxRecDepth 100000 in
theorem iX6 (l : Launch) (D : va_G) (cs : ClassId × ClassId × ClassId) (A : Nat → Prop) : IC l D cs A yX6_init cX6_init 1 1 12 17 1384 111 129 := by
  intro ad0 ρ0 σ0 z h0 hz0
  refine q_enter (by decide +kernel) (Nat.le_of_ble_eq_true rfl) ?_
  intro p e s m args below meth c ls F hin hB hA hl
  obtain ⟨hx, hb, hr, hml, hown, hts, hlk, hK, hO⟩ := F
  have hl : lv_has ls 1 [(0, .ref (ad0 111))] := hl
  refine lv_aload_n hx hb dX6_init_0 rfl (lv_at hl 0 rfl) ?_
  refine W.objInit hx hb hown (hts _ kw_658) (hts _ kw_23) (hts _ kw_24) rfl (by rw [hml]; exact hl.1) rfl dX6_init_1 (Nat.le_of_ble_eq_true rfl) (Nat.le_of_ble_eq_true rfl) ?_
  refine W.eq (g2 := F0 m 4 ls []) rfl ?_
  have hq := PQ.start (Sg := σI) (f := 111) (ad := ad0) (ρ := ρ0) (σ := σ0) (by decide) h0
  refine lv_aload_n hx hb dX6_init_4 rfl (lv_at hl 0 rfl) ?_
  refine lv_bipush (v := iZ ((40 : Nat) : Int)) hx hb dX6_init_5 (by decide) ?_
  refine q_mkI (k := 1) (L := 40) (N := 112) (cells' := 1) (slots' := 40) hx hb hts hown hK hin hA hB hq (by decide) (by decide) rfl rfl (by decide) (fun _ => rfl) cf6 tyX6 tyX6_ok rfl rfl (by decide) kw_660 rfl rfl rfl rfl rfl rfl (Nat.le_of_ble_eq_true rfl) (Nat.le_of_ble_eq_true rfl) dX6_init_7 dX6_init_9 (fun ad ρ σ H locs hB hq => ?_)
  refine lv_aload_n hx hb dX6_init_12 rfl (lv_at hl 0 rfl) ?_
  refine lv_bipush (v := iZ ((50 : Nat) : Int)) hx hb dX6_init_13 (by decide) ?_
  refine q_mkI (k := 4) (L := 50) (N := 113) (cells' := 2) (slots' := 90) hx hb hts hown hK hin hA hB hq (by decide) (by decide) rfl rfl (by decide) (fun _ => rfl) cf6 tyX6 tyX6_ok rfl rfl (by decide) kw_663 rfl rfl rfl rfl rfl rfl (Nat.le_of_ble_eq_true rfl) (Nat.le_of_ble_eq_true rfl) dX6_init_15 dX6_init_17 (fun ad ρ σ H locs hB hq => ?_)
  refine lv_aload_n hx hb dX6_init_20 rfl (lv_at hl 0 rfl) ?_
  refine lv_bipush (v := iZ ((50 : Nat) : Int)) hx hb dX6_init_21 (by decide) ?_
  refine q_mkI (k := 5) (L := 50) (N := 114) (cells' := 3) (slots' := 140) hx hb hts hown hK hin hA hB hq (by decide) (by decide) rfl rfl (by decide) (fun _ => rfl) cf6 tyX6 tyX6_ok rfl rfl (by decide) kw_664 rfl rfl rfl rfl rfl rfl (Nat.le_of_ble_eq_true rfl) (Nat.le_of_ble_eq_true rfl) dX6_init_23 dX6_init_25 (fun ad ρ σ H locs hB hq => ?_)
  refine lv_aload_n hx hb dX6_init_28 rfl (lv_at hl 0 rfl) ?_
  refine lv_bipush (v := iZ ((50 : Nat) : Int)) hx hb dX6_init_29 (by decide) ?_
  refine q_mkI (k := 6) (L := 50) (N := 115) (cells' := 4) (slots' := 190) hx hb hts hown hK hin hA hB hq (by decide) (by decide) rfl rfl (by decide) (fun _ => rfl) cf6 tyX6 tyX6_ok rfl rfl (by decide) kw_665 rfl rfl rfl rfl rfl rfl (Nat.le_of_ble_eq_true rfl) (Nat.le_of_ble_eq_true rfl) dX6_init_31 dX6_init_33 (fun ad ρ σ H locs hB hq => ?_)
  refine lv_aload_n hx hb dX6_init_36 rfl (lv_at hl 0 rfl) ?_
  refine lv_sipush (v := iZ ((700 : Nat) : Int)) hx hb dX6_init_37 (by decide) ?_
  refine q_mkI (k := 7) (L := 700) (N := 116) (cells' := 5) (slots' := 890) hx hb hts hown hK hin hA hB hq (by decide) (by decide) rfl rfl (by decide) (fun _ => rfl) cf6 tyX6 tyX6_ok rfl rfl (by decide) kw_666 rfl rfl rfl rfl rfl rfl (Nat.le_of_ble_eq_true rfl) (Nat.le_of_ble_eq_true rfl) dX6_init_40 dX6_init_42 (fun ad ρ σ H locs hB hq => ?_)
  refine lv_aload_n hx hb dX6_init_45 rfl (lv_at hl 0 rfl) ?_
  refine lv_bipush (v := iZ ((100 : Nat) : Int)) hx hb dX6_init_46 (by decide) ?_
  refine q_mkI (k := 9) (L := 100) (N := 117) (cells' := 6) (slots' := 990) hx hb hts hown hK hin hA hB hq (by decide) (by decide) rfl rfl (by decide) (fun _ => rfl) cf6 tyX6 tyX6_ok rfl rfl (by decide) kw_668 rfl rfl rfl rfl rfl rfl (Nat.le_of_ble_eq_true rfl) (Nat.le_of_ble_eq_true rfl) dX6_init_48 dX6_init_50 (fun ad ρ σ H locs hB hq => ?_)
  refine lv_aload_n hx hb dX6_init_53 rfl (lv_at hl 0 rfl) ?_
  refine lv_iconst (v := iZ ((2 : Nat) : Int)) hx hb dX6_init_54 rfl ?_
  refine q_mkZ (k := 10) (L := 2) (N := 118) (cells' := 7) (slots' := 992) hx hb hts hown hK hin hA hB hq (by decide) (by decide) rfl rfl (by decide) (fun _ => rfl) cf6 tyX6 tyX6_ok rfl rfl (by decide) kw_669 rfl rfl rfl rfl rfl rfl (Nat.le_of_ble_eq_true rfl) (Nat.le_of_ble_eq_true rfl) dX6_init_55 dX6_init_57 (fun ad ρ σ H locs hB hq => ?_)
  refine lv_aload_n hx hb dX6_init_60 rfl (lv_at hl 0 rfl) ?_
  refine lv_bipush (v := iZ ((6 : Nat) : Int)) hx hb dX6_init_61 (by decide) ?_
  refine q_mkI (k := 12) (L := 6) (N := 119) (cells' := 8) (slots' := 998) hx hb hts hown hK hin hA hB hq (by decide) (by decide) rfl rfl (by decide) (fun _ => rfl) cf6 tyX6 tyX6_ok rfl rfl (by decide) kw_671 rfl rfl rfl rfl rfl rfl (Nat.le_of_ble_eq_true rfl) (Nat.le_of_ble_eq_true rfl) dX6_init_63 dX6_init_65 (fun ad ρ σ H locs hB hq => ?_)
  refine lv_aload_n hx hb dX6_init_68 rfl (lv_at hl 0 rfl) ?_
  refine lv_bipush (v := iZ ((6 : Nat) : Int)) hx hb dX6_init_69 (by decide) ?_
  refine q_mkI (k := 13) (L := 6) (N := 120) (cells' := 9) (slots' := 1004) hx hb hts hown hK hin hA hB hq (by decide) (by decide) rfl rfl (by decide) (fun _ => rfl) cf6 tyX6 tyX6_ok rfl rfl (by decide) kw_672 rfl rfl rfl rfl rfl rfl (Nat.le_of_ble_eq_true rfl) (Nat.le_of_ble_eq_true rfl) dX6_init_71 dX6_init_73 (fun ad ρ σ H locs hB hq => ?_)
  refine lv_aload_n hx hb dX6_init_76 rfl (lv_at hl 0 rfl) ?_
  refine lv_bipush (v := iZ ((6 : Nat) : Int)) hx hb dX6_init_77 (by decide) ?_
  refine q_mkI (k := 14) (L := 6) (N := 121) (cells' := 10) (slots' := 1010) hx hb hts hown hK hin hA hB hq (by decide) (by decide) rfl rfl (by decide) (fun _ => rfl) cf6 tyX6 tyX6_ok rfl rfl (by decide) kw_673 rfl rfl rfl rfl rfl rfl (Nat.le_of_ble_eq_true rfl) (Nat.le_of_ble_eq_true rfl) dX6_init_79 dX6_init_81 (fun ad ρ σ H locs hB hq => ?_)
  refine lv_aload_n hx hb dX6_init_84 rfl (lv_at hl 0 rfl) ?_
  refine lv_bipush (v := iZ ((6 : Nat) : Int)) hx hb dX6_init_85 (by decide) ?_
  refine q_mkI (k := 15) (L := 6) (N := 122) (cells' := 11) (slots' := 1016) hx hb hts hown hK hin hA hB hq (by decide) (by decide) rfl rfl (by decide) (fun _ => rfl) cf6 tyX6 tyX6_ok rfl rfl (by decide) kw_674 rfl rfl rfl rfl rfl rfl (Nat.le_of_ble_eq_true rfl) (Nat.le_of_ble_eq_true rfl) dX6_init_87 dX6_init_89 (fun ad ρ σ H locs hB hq => ?_)
  refine lv_aload_n hx hb dX6_init_92 rfl (lv_at hl 0 rfl) ?_
  refine lv_bipush (v := iZ ((8 : Nat) : Int)) hx hb dX6_init_93 (by decide) ?_
  refine q_mkI (k := 17) (L := 8) (N := 123) (cells' := 12) (slots' := 1024) hx hb hts hown hK hin hA hB hq (by decide) (by decide) rfl rfl (by decide) (fun _ => rfl) cf6 tyX6 tyX6_ok rfl rfl (by decide) kw_676 rfl rfl rfl rfl rfl rfl (Nat.le_of_ble_eq_true rfl) (Nat.le_of_ble_eq_true rfl) dX6_init_95 dX6_init_97 (fun ad ρ σ H locs hB hq => ?_)
  refine lv_aload_n hx hb dX6_init_100 rfl (lv_at hl 0 rfl) ?_
  refine lv_bipush (v := iZ ((8 : Nat) : Int)) hx hb dX6_init_101 (by decide) ?_
  refine q_mkI (k := 18) (L := 8) (N := 124) (cells' := 13) (slots' := 1032) hx hb hts hown hK hin hA hB hq (by decide) (by decide) rfl rfl (by decide) (fun _ => rfl) cf6 tyX6 tyX6_ok rfl rfl (by decide) kw_677 rfl rfl rfl rfl rfl rfl (Nat.le_of_ble_eq_true rfl) (Nat.le_of_ble_eq_true rfl) dX6_init_103 dX6_init_105 (fun ad ρ σ H locs hB hq => ?_)
  refine lv_aload_n hx hb dX6_init_108 rfl (lv_at hl 0 rfl) ?_
  refine lv_bipush (v := iZ ((8 : Nat) : Int)) hx hb dX6_init_109 (by decide) ?_
  refine q_mkI (k := 22) (L := 8) (N := 125) (cells' := 14) (slots' := 1040) hx hb hts hown hK hin hA hB hq (by decide) (by decide) rfl rfl (by decide) (fun _ => rfl) cf6 tyX6 tyX6_ok rfl rfl (by decide) kw_681 rfl rfl rfl rfl rfl rfl (Nat.le_of_ble_eq_true rfl) (Nat.le_of_ble_eq_true rfl) dX6_init_111 dX6_init_113 (fun ad ρ σ H locs hB hq => ?_)
  refine lv_aload_n hx hb dX6_init_116 rfl (lv_at hl 0 rfl) ?_
  refine lv_bipush (v := iZ ((8 : Nat) : Int)) hx hb dX6_init_117 (by decide) ?_
  refine q_mkI (k := 23) (L := 8) (N := 126) (cells' := 15) (slots' := 1048) hx hb hts hown hK hin hA hB hq (by decide) (by decide) rfl rfl (by decide) (fun _ => rfl) cf6 tyX6 tyX6_ok rfl rfl (by decide) kw_682 rfl rfl rfl rfl rfl rfl (Nat.le_of_ble_eq_true rfl) (Nat.le_of_ble_eq_true rfl) dX6_init_119 dX6_init_121 (fun ad ρ σ H locs hB hq => ?_)
  refine lv_aload_n hx hb dX6_init_124 rfl (lv_at hl 0 rfl) ?_
  refine lv_bipush (v := iZ ((8 : Nat) : Int)) hx hb dX6_init_125 (by decide) ?_
  refine q_mkI (k := 24) (L := 8) (N := 127) (cells' := 16) (slots' := 1056) hx hb hts hown hK hin hA hB hq (by decide) (by decide) rfl rfl (by decide) (fun _ => rfl) cf6 tyX6 tyX6_ok rfl rfl (by decide) kw_683 rfl rfl rfl rfl rfl rfl (Nat.le_of_ble_eq_true rfl) (Nat.le_of_ble_eq_true rfl) dX6_init_127 dX6_init_129 (fun ad ρ σ H locs hB hq => ?_)
  refine lv_aload_n hx hb dX6_init_132 rfl (lv_at hl 0 rfl) ?_
  refine lv_sipush (v := iZ ((328 : Nat) : Int)) hx hb dX6_init_133 (by decide) ?_
  refine q_mkI (k := 25) (L := 328) (N := 128) (cells' := 17) (slots' := 1384) hx hb hts hown hK hin hA hB hq (by decide) (by decide) rfl rfl (by decide) (fun _ => rfl) cf6 tyX6 tyX6_ok rfl rfl (by decide) kw_684 rfl rfl rfl rfl rfl rfl (Nat.le_of_ble_eq_true rfl) (Nat.le_of_ble_eq_true rfl) dX6_init_136 dX6_init_138 (fun ad ρ σ H locs hB hq => ?_)
  have hf := hq.fin (by decide) (fun k => rfl) (by decide +kernel)
  exact W.vret hx hb hr (fun t ht hW => ⟨⟨(_, _, _), rfl, hf, by dsimp only; rw [ht]; exact hB.1⟩, hB.2.F ht⟩) hB.2.2.2 dX6_init_141 hlk
