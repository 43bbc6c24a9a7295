set_option maxHeartbeats 4000000 in
set_option maxRecDepth 100000 in
theorem iX0 (l : Launch) (D : va_G) (cs : ClassId × ClassId × ClassId) (A : Nat → Prop) : IC l D cs A yX0_init cX0_init 2 2 43 71 770 21 93 := by
  intro ad0 ρ0 σ0 z h0 hz0
  refine q_enter (by decide +kernel) (Nat.le_of_ble_eq_true rfl) ?_
  intro p e s m args below meth c ls F hin hB hA hl
  obtain ⟨hx, hb, hr, hml, hown, hts, hlk, hK, hO⟩ := F
  have hl : lv_has ls 2 [(0, .ref (ad0 21))] := hl
  refine lv_aload_n hx hb dX0_init_0 rfl (lv_at hl 0 rfl) ?_
  refine W.objInit hx hb hown (hts _ kw_127) (hts _ kw_23) (hts _ kw_24) rfl (by rw [hml]; exact hl.1) rfl dX0_init_1 (Nat.le_of_ble_eq_true rfl) (Nat.le_of_ble_eq_true rfl) ?_
  refine W.eq (g2 := F0 m 4 ls []) rfl ?_
  have hq := PQ.start (Sg := σI) (f := 21) (ad := ad0) (ρ := ρ0) (σ := σ0) (by decide) h0
  refine lv_aload_n hx hb dX0_init_4 rfl (lv_at hl 0 rfl) ?_
  refine lv_iconst (v := iZ (0)) hx hb dX0_init_5 rfl ?_
  refine q_putI (k := 0) (v := 0) (i := 21) hx hb hts hown hK hB cf0 tyX0 tyX0_ok (by decide) (hq.1 _ (Nat.le_refl _)).symm rfl (by decide) kw_131 rfl rfl rfl dX0_init_6 (fun H locs hB => ?_)
  have hq := hq.int 0 (0)
  refine lv_aload_n hx hb dX0_init_9 rfl (lv_at hl 0 rfl) ?_
  refine lv_iconst (v := iZ (0)) hx hb dX0_init_10 rfl ?_
  refine q_putI (k := 1) (v := 0) (i := 21) hx hb hts hown hK hB cf0 tyX0 tyX0_ok (by decide) (hq.1 _ (Nat.le_refl _)).symm rfl (by decide) kw_133 rfl rfl rfl dX0_init_11 (fun H locs hB => ?_)
  have hq := hq.int 1 (0)
  refine lv_aload_n hx hb dX0_init_14 rfl (lv_at hl 0 rfl) ?_
  refine lv_bipush (v := iZ ((14 : Nat) : Int)) hx hb dX0_init_15 (by decide) ?_
  refine q_mkQ (k := 2) (L := 14) (N := 22) (cells' := 1) (slots' := 14) hx hb hts hown hK hO hin hA hB hq (by decide) (by decide) rfl rfl (by decide) (fun _ => rfl) cf0 tyX0 tyX0_ok rfl rfl (by decide) kw_128 kw_134 rfl rfl rfl rfl rfl rfl (Nat.le_of_ble_eq_true rfl) (Nat.le_of_ble_eq_true rfl) dX0_init_17 dX0_init_20 (fun ad ρ σ H locs hB hq => ?_)
  refine lv_iconst (v := iZ ((0 : Nat) : Int)) hx hb dX0_init_23 rfl ?_
  refine lv_istore_n (lv' := [(1, .int (iZ ((0 : Nat) : Int))), (0, .ref (ad0 21))]) hx hb dX0_init_24 rfl hl (by decide) rfl (fun ls hl => ?_)
  have loop : ∀ (n9 j : Nat) (ad : Nat → Nat) (ρ : gQ) (σ : gS) (H : Heap) (locs : List Loc) (ls : Array Slot), 14 - j < n9 → j ≤ 14 → PQ σI 21 (23 + 5 * j) ad0 ρ0 σ0 (upn (upn (fun _ => 0) 0 0) 1 0) ad ρ σ → qB D cs A (23 + 5 * j) ad ρ σ z s.heap H locs → lv_has ls 2 [(1, .int (iZ ((j : Nat) : Int))), (0, .ref (ad0 21))] → W p l e { frames := 2, cells := 71, slots := 770, locals := 43 } s m args below meth c H locs (1 + 5 * j) (14 + 54 * j) (MQ below (va_Qv (S := (Nat → Nat) × gQ × gS) (fun u => pI 21 93 ad0 ρ0 σ0 u.1 u.2.1 u.2.2) (fun u t => qW D cs A 93 u.1 u.2.1 u.2.2 z t.heap) A) args s 71 770 A) (F0 m 25 ls []) := by
    intro n9
    induction n9 with
    | zero => intro j ad ρ σ H locs ls hmu; exact absurd hmu (Nat.not_lt_zero _)
    | succ n9 ih =>
      intro j ad ρ σ H locs ls hmu hj hq hB hl
      refine lv_iload_n hx hb dX0_init_25 rfl (lv_at hl 0 rfl) ?_
      refine lv_bipush (v := iZ ((14 : Nat) : Int)) hx hb dX0_init_26 (by decide) ?_
      refine z_icmp_ge (tgt := 50) hx hb dX0_init_28 (by decide) ⟨by omega, by omega⟩ ⟨by decide, by decide⟩ (fun c_1 => ?_) (fun c_1 => ?_)
      · have e9 : j = 14 := by omega
        subst e9
        have hf := hq.fin (by decide) (fun k => by show upn (upn (fun _ => 0) 0 0) 1 0 k = 0; unfold upn; (repeat' split) <;> rfl) (by decide +kernel)
        exact W.vret hx hb hr (fun t ht hW => ⟨⟨(ad, ρ, σ), rfl, hf, by dsimp only; rw [ht]; exact hB.1⟩, hB.2.F ht⟩) hB.2.2.2 dX0_init_50 hlk
      · have hj2 : j < 14 := by omega
        refine lv_aload_n hx hb dX0_init_31 rfl (lv_at hl 1 rfl) ?_
        have hr9 : ρ 21 2 = some (ad 22) := hq.2.2.2.2 21 (Nat.le_refl _) (by omega) 2 rfl (by show 22 < _; omega)
        refine q_getr (k := 2) (i := 21) hx hb hts hown hK hB cf0 (by omega) (hq.1 _ (Nat.le_refl _)).symm rfl (by decide) kw_134 rfl hr9 dX0_init_32 ?_
        refine lv_iload_n hx hb dX0_init_35 rfl (lv_at hl 0 rfl) ?_
        have hFj : isF (23 + 5 * j) := isF_row hj2
        refine q_mkN (N := (23 + 5 * j)) (M := ((23 + 5 * j) + 5)) (cells' := (1 + 5 * (j + 1))) (slots' := (14 + 54 * (j + 1))) hx hb hml hts hown hK hO hA hB hl.1 cf1 tyX1 tyX1_ok dfX1 hFj.ck0 (by decide) kw_128 kw_41 kw_3 (iX1 l D cs A (23 + 5 * j) hFj) rfl rfl (by decide +kernel) kw_130 kw_43 kw_44 (Nat.le_of_ble_eq_true rfl) ⟨Nat.le_of_ble_eq_true rfl, Nat.le_of_ble_eq_true rfl⟩ (by omega) (by omega) (show 1 + 5 * (j + 1) ≤ 71 by omega) (show 14 + 54 * (j + 1) ≤ 770 by omega) dX0_init_36 dX0_init_39 dX0_init_40 (fun q ad2 ρ2 σ2 H locs hB hp => ?_)
        have eq : ad2 (23 + 5 * j) = q := by rw [hp.1 _ (Nat.le_refl _), upr_eq]
        have ea : ad2 22 = ad 22 := by rw [hp.1 _ (by omega), upr_c _ _ (by omega)]
        rw [← eq, ← ea]
        refine q_ast (i := 22) (j := j) (t := (23 + 5 * j)) hx hb hK hB (by omega) rfl (by show j < 14; omega) (by decide) (by omega) hFj.ck0 dX0_init_43 (fun H locs hB => ?_)
        rw [eq] at hB
        have hq := hq.obj (n := (23 + 5 * j) + 5) (i0 := 22) (k0 := j) (by omega) (by omega) hp (by omega) (by omega) (by decide) (tg_22 j) (cl22 j hj2)
        refine z_iinc (k := 0) (lv' := [(1, .int (iZ (((j : Nat) : Int) + 1))), (0, .ref (ad0 21))]) hx hb dX0_init_44 hl rfl (by decide) rfl (fun ls hl => ?_)
        have hl : lv_has ls 2 [(1, .int (iZ (((j + 1) : Nat) : Int))), (0, .ref (ad0 21))] := by have e9 : (((j : Nat) : Int) + 1) = (((j + 1) : Nat) : Int) := (by omega); rw [e9] at hl; exact hl
        refine lv_goto (tgt := 25) hx hb dX0_init_47 (by decide) ?_
        exact ih (j + 1) _ _ _ _ _ _ (by omega) (by omega) hq hB hl
  exact loop _ 0 _ _ _ _ _ _ (Nat.lt_succ_self _) (by decide) hq hB hl
set_option maxHeartbeats 4000000 in
set_option maxRecDepth 100000 in
theorem iX5 (l : Launch) (D : va_G) (cs : ClassId × ClassId × ClassId) (A : Nat → Prop) : IC l D cs A yX5_init cX5_init 2 3 64 110 1459 0 111 := by
  intro ad0 ρ0 σ0 z h0 hz0
  refine q_enter (by decide +kernel) (Nat.le_of_ble_eq_true rfl) ?_
  intro p e s m args below meth c ls F hin hB hA hl
  obtain ⟨hx, hb, hr, hml, hown, hts, hlk, hK, hO⟩ := F
  have hl : lv_has ls 2 [(0, .ref (ad0 0))] := hl
  refine lv_aload_n hx hb dX5_init_0 rfl (lv_at hl 0 rfl) ?_
  refine W.objInit hx hb hown (hts _ kw_22) (hts _ kw_23) (hts _ kw_24) rfl (by rw [hml]; exact hl.1) rfl dX5_init_1 (Nat.le_of_ble_eq_true rfl) (Nat.le_of_ble_eq_true rfl) ?_
  refine W.eq (g2 := F0 m 4 ls []) rfl ?_
  have hq := PQ.start (Sg := σI) (f := 0) (ad := ad0) (ρ := ρ0) (σ := σ0) (by decide) h0
  refine lv_aload_n hx hb dX5_init_4 rfl (lv_at hl 0 rfl) ?_
  refine q_mkP (N := 1) (M := 3) (cells' := 2) (slots' := 42) hx hb hml hts hown hK hO hA hB hl.1 cf4 tyX4 tyX4_ok dfX4 rfl (by decide) kw_25 kw_26 kw_2 (iX4 l D cs A) rfl rfl (by decide +kernel) hO.2.1 kw_28 kw_29 (Nat.le_of_ble_eq_true rfl) ⟨Nat.le_of_ble_eq_true rfl, Nat.le_of_ble_eq_true rfl⟩ rfl rfl (Nat.le_of_ble_eq_true rfl) (Nat.le_of_ble_eq_true rfl) dX5_init_5 dX5_init_8 dX5_init_9 (fun q ad2 ρ2 σ2 H locs hB hp => ?_)
  refine q_putF (k := 0) (i := 0) hx hb hts hown hK hB cf5 tyX5 tyX5_ok (by decide) (((hp.1 0 (by decide)).trans (upr_c _ _ (by decide))).trans (hq.1 _ (Nat.le_refl _))).symm rfl (by decide) kw_166 rfl rfl hin rfl rfl dX5_init_12 (fun H locs hB => ?_)
  have hq := hq.obj (n := 3) (i0 := 0) (k0 := 0) (by decide) (by decide) hp (by decide) (by decide) (by decide) rfl (by decide +kernel)
  refine lv_aload_n hx hb dX5_init_15 rfl (lv_at hl 0 rfl) ?_
  refine q_mkN (N := 3) (M := 8) (cells' := 7) (slots' := 96) hx hb hml hts hown hK hO hA hB hl.1 cf1 tyX1 tyX1_ok dfX1 rfl (by decide) kw_40 kw_41 kw_3 (iX1 l D cs A 3 (by unfold isF; decide)) rfl rfl (by decide +kernel) kw_42 kw_43 kw_44 (Nat.le_of_ble_eq_true rfl) ⟨Nat.le_of_ble_eq_true rfl, Nat.le_of_ble_eq_true rfl⟩ rfl rfl (Nat.le_of_ble_eq_true rfl) (Nat.le_of_ble_eq_true rfl) dX5_init_16 dX5_init_19 dX5_init_20 (fun q ad2 ρ2 σ2 H locs hB hp => ?_)
  refine q_putF (k := 1) (i := 0) hx hb hts hown hK hB cf5 tyX5 tyX5_ok (by decide) (((hp.1 0 (by decide)).trans (upr_c _ _ (by decide))).trans (hq.1 _ (Nat.le_refl _))).symm rfl (by decide) kw_167 rfl rfl hin rfl rfl dX5_init_23 (fun H locs hB => ?_)
  have hq := hq.obj (n := 8) (i0 := 0) (k0 := 1) (by decide) (by decide) hp (by decide) (by decide) (by decide) rfl (by decide +kernel)
  refine lv_aload_n hx hb dX5_init_26 rfl (lv_at hl 0 rfl) ?_
  refine q_mkN (N := 8) (M := 13) (cells' := 12) (slots' := 150) hx hb hml hts hown hK hO hA hB hl.1 cf1 tyX1 tyX1_ok dfX1 rfl (by decide) kw_40 kw_41 kw_3 (iX1 l D cs A 8 (by unfold isF; decide)) rfl rfl (by decide +kernel) kw_42 kw_43 kw_44 (Nat.le_of_ble_eq_true rfl) ⟨Nat.le_of_ble_eq_true rfl, Nat.le_of_ble_eq_true rfl⟩ rfl rfl (Nat.le_of_ble_eq_true rfl) (Nat.le_of_ble_eq_true rfl) dX5_init_27 dX5_init_30 dX5_init_31 (fun q ad2 ρ2 σ2 H locs hB hp => ?_)
  refine q_putF (k := 2) (i := 0) hx hb hts hown hK hB cf5 tyX5 tyX5_ok (by decide) (((hp.1 0 (by decide)).trans (upr_c _ _ (by decide))).trans (hq.1 _ (Nat.le_refl _))).symm rfl (by decide) kw_168 rfl rfl hin rfl rfl dX5_init_34 (fun H locs hB => ?_)
  have hq := hq.obj (n := 13) (i0 := 0) (k0 := 2) (by decide) (by decide) hp (by decide) (by decide) (by decide) rfl (by decide +kernel)
  refine lv_aload_n hx hb dX5_init_37 rfl (lv_at hl 0 rfl) ?_
  refine q_mkP (N := 13) (M := 21) (cells' := 20) (slots' := 217) hx hb hml hts hown hK hO hA hB hl.1 cf2 tyX2 tyX2_ok dfX2 rfl (by decide) kw_73 kw_74 kw_5 (iX2 l D cs A) rfl rfl (by decide +kernel) hO.2.2.1 kw_76 kw_77 (Nat.le_of_ble_eq_true rfl) ⟨Nat.le_of_ble_eq_true rfl, Nat.le_of_ble_eq_true rfl⟩ rfl rfl (Nat.le_of_ble_eq_true rfl) (Nat.le_of_ble_eq_true rfl) dX5_init_38 dX5_init_41 dX5_init_42 (fun q ad2 ρ2 σ2 H locs hB hp => ?_)
  refine q_putF (k := 3) (i := 0) hx hb hts hown hK hB cf5 tyX5 tyX5_ok (by decide) (((hp.1 0 (by decide)).trans (upr_c _ _ (by decide))).trans (hq.1 _ (Nat.le_refl _))).symm rfl (by decide) kw_169 rfl rfl hin rfl rfl dX5_init_45 (fun H locs hB => ?_)
  have hq := hq.obj (n := 21) (i0 := 0) (k0 := 3) (by decide) (by decide) hp (by decide) (by decide) (by decide) rfl (by decide +kernel)
  refine lv_aload_n hx hb dX5_init_48 rfl (lv_at hl 0 rfl) ?_
  refine q_mkN (N := 21) (M := 93) (cells' := 92) (slots' := 990) hx hb hml hts hown hK hO hA hB hl.1 cf0 tyX0 tyX0_ok dfX0 rfl (by decide) kw_122 kw_123 kw_6 (iX0 l D cs A) rfl rfl (by decide +kernel) kw_124 kw_125 kw_126 (Nat.le_of_ble_eq_true rfl) ⟨Nat.le_of_ble_eq_true rfl, Nat.le_of_ble_eq_true rfl⟩ rfl rfl (Nat.le_of_ble_eq_true rfl) (Nat.le_of_ble_eq_true rfl) dX5_init_49 dX5_init_52 dX5_init_53 (fun q ad2 ρ2 σ2 H locs hB hp => ?_)
  refine q_putF (k := 4) (i := 0) hx hb hts hown hK hB cf5 tyX5 tyX5_ok (by decide) (((hp.1 0 (by decide)).trans (upr_c _ _ (by decide))).trans (hq.1 _ (Nat.le_refl _))).symm rfl (by decide) kw_170 rfl rfl hin rfl rfl dX5_init_56 (fun H locs hB => ?_)
  have hq := hq.obj (n := 93) (i0 := 0) (k0 := 4) (by decide) (by decide) hp (by decide) (by decide) (by decide) rfl (by decide +kernel)
  refine lv_aload_n hx hb dX5_init_59 rfl (lv_at hl 0 rfl) ?_
  refine q_mkP (N := 93) (M := 98) (cells' := 97) (slots' := 1019) hx hb hml hts hown hK hO hA hB hl.1 cf3 tyX3 tyX3_ok dfX3 rfl (by decide) kw_142 kw_143 kw_7 (iX3 l D cs A) rfl rfl (by decide +kernel) hO.2.2.2 kw_145 kw_146 (Nat.le_of_ble_eq_true rfl) ⟨Nat.le_of_ble_eq_true rfl, Nat.le_of_ble_eq_true rfl⟩ rfl rfl (Nat.le_of_ble_eq_true rfl) (Nat.le_of_ble_eq_true rfl) dX5_init_60 dX5_init_63 dX5_init_64 (fun q ad2 ρ2 σ2 H locs hB hp => ?_)
  refine q_putF (k := 5) (i := 0) hx hb hts hown hK hB cf5 tyX5 tyX5_ok (by decide) (((hp.1 0 (by decide)).trans (upr_c _ _ (by decide))).trans (hq.1 _ (Nat.le_refl _))).symm rfl (by decide) kw_171 rfl rfl hin rfl rfl dX5_init_67 (fun H locs hB => ?_)
  have hq := hq.obj (n := 98) (i0 := 0) (k0 := 5) (by decide) (by decide) hp (by decide) (by decide) (by decide) rfl (by decide +kernel)
  refine lv_aload_n hx hb dX5_init_70 rfl (lv_at hl 0 rfl) ?_
  refine lv_iconst (v := iZ ((2 : Nat) : Int)) hx hb dX5_init_71 rfl ?_
  refine q_mkQ (k := 6) (L := 2) (N := 98) (cells' := 98) (slots' := 1021) hx hb hts hown hK hO hin hA hB hq (by decide) (by decide) rfl rfl (by decide) (fun _ => rfl) cf5 tyX5 tyX5_ok rfl rfl (by decide) kw_40 kw_172 rfl rfl rfl rfl rfl rfl (Nat.le_of_ble_eq_true rfl) (Nat.le_of_ble_eq_true rfl) dX5_init_72 dX5_init_75 (fun ad ρ σ H locs hB hq => ?_)
  refine lv_aload_n hx hb dX5_init_78 rfl (lv_at hl 0 rfl) ?_
  refine lv_iconst (v := iZ ((2 : Nat) : Int)) hx hb dX5_init_79 rfl ?_
  refine q_mkZ (k := 7) (L := 2) (N := 99) (cells' := 99) (slots' := 1023) hx hb hts hown hK hin hA hB hq (by decide) (by decide) rfl rfl (by decide) (fun _ => rfl) cf5 tyX5 tyX5_ok rfl rfl (by decide) kw_173 rfl rfl rfl rfl rfl rfl (Nat.le_of_ble_eq_true rfl) (Nat.le_of_ble_eq_true rfl) dX5_init_80 dX5_init_82 (fun ad ρ σ H locs hB hq => ?_)
  refine lv_aload_n hx hb dX5_init_85 rfl (lv_at hl 0 rfl) ?_
  refine lv_sipush (v := iZ ((328 : Nat) : Int)) hx hb dX5_init_86 (by decide) ?_
  refine q_mkI (k := 8) (L := 328) (N := 100) (cells' := 100) (slots' := 1351) hx hb hts hown hK hin hA hB hq (by decide) (by decide) rfl rfl (by decide) (fun _ => rfl) cf5 tyX5 tyX5_ok rfl rfl (by decide) kw_174 rfl rfl rfl rfl rfl rfl (Nat.le_of_ble_eq_true rfl) (Nat.le_of_ble_eq_true rfl) dX5_init_89 dX5_init_91 (fun ad ρ σ H locs hB hq => ?_)
  refine lv_aload_n hx hb dX5_init_94 rfl (lv_at hl 0 rfl) ?_
  refine lv_lconst (v := 0) hx hb dX5_init_95 (by decide) ?_
  refine q_putL (k := 9) (v := 0) (i := 0) hx hb hts hown hK hB cf5 tyX5 tyX5_ok (by decide) (hq.1 _ (Nat.le_refl _)).symm rfl (by decide) kw_175 rfl (hz0 rfl) rfl rfl dX5_init_96 (fun H locs hB => ?_)
  refine lv_iconst (v := iZ ((0 : Nat) : Int)) hx hb dX5_init_99 rfl ?_
  refine lv_istore_n (lv' := [(1, .int (iZ ((0 : Nat) : Int))), (0, .ref (ad0 0))]) hx hb dX5_init_100 rfl hl (by decide) rfl (fun ls hl => ?_)
  have loop : ∀ (n9 j : Nat) (ad : Nat → Nat) (ρ : gQ) (σ : gS) (H : Heap) (locs : List Loc) (ls : Array Slot), 2 - j < n9 → j ≤ 2 → PQ σI 0 (101 + 5 * j) ad0 ρ0 σ0 (fun _ => 0) ad ρ σ → qB D cs A (101 + 5 * j) ad ρ σ z s.heap H locs → lv_has ls 2 [(1, .int (iZ ((j : Nat) : Int))), (0, .ref (ad0 0))] → W p l e { frames := 3, cells := 110, slots := 1459, locals := 64 } s m args below meth c H locs (100 + 5 * j) (1351 + 54 * j) (MQ below (va_Qv (S := (Nat → Nat) × gQ × gS) (fun u => pI 0 111 ad0 ρ0 σ0 u.1 u.2.1 u.2.2) (fun u t => qW D cs A 111 u.1 u.2.1 u.2.2 z t.heap) A) args s 110 1459 A) (F0 m 101 ls []) := by
    intro n9
    induction n9 with
    | zero => intro j ad ρ σ H locs ls hmu; exact absurd hmu (Nat.not_lt_zero _)
    | succ n9 ih =>
      intro j ad ρ σ H locs ls hmu hj hq hB hl
      refine lv_iload_n hx hb dX5_init_101 rfl (lv_at hl 0 rfl) ?_
      refine lv_iconst (v := iZ ((2 : Nat) : Int)) hx hb dX5_init_102 rfl ?_
      refine z_icmp_ge (tgt := 125) hx hb dX5_init_103 (by decide) ⟨by omega, by omega⟩ ⟨by decide, by decide⟩ (fun c_1 => ?_) (fun c_1 => ?_)
      · have e9 : j = 2 := by omega
        subst e9
        have hf := hq.fin (by decide) (fun k => rfl) (by decide +kernel)
        exact W.vret hx hb hr (fun t ht hW => ⟨⟨(ad, ρ, σ), rfl, hf, by dsimp only; rw [ht]; exact hB.1⟩, hB.2.F ht⟩) hB.2.2.2 dX5_init_125 hlk
      · have hj2 : j < 2 := by omega
        refine lv_aload_n hx hb dX5_init_106 rfl (lv_at hl 1 rfl) ?_
        have hr9 : ρ 0 6 = some (ad 98) := hq.2.2.2.2 0 (Nat.le_refl _) (by omega) 6 rfl (by show 98 < _; omega)
        refine q_getr (k := 6) (i := 0) hx hb hts hown hK hB cf5 (by omega) (hq.1 _ (Nat.le_refl _)).symm rfl (by decide) kw_172 rfl hr9 dX5_init_107 ?_
        refine lv_iload_n hx hb dX5_init_110 rfl (lv_at hl 0 rfl) ?_
        have hFj : isF (101 + 5 * j) := isF_slot hj2
        refine q_mkN (N := (101 + 5 * j)) (M := ((101 + 5 * j) + 5)) (cells' := (100 + 5 * (j + 1))) (slots' := (1351 + 54 * (j + 1))) hx hb hml hts hown hK hO hA hB hl.1 cf1 tyX1 tyX1_ok dfX1 hFj.ck0 (by decide) kw_40 kw_41 kw_3 (iX1 l D cs A (101 + 5 * j) hFj) rfl rfl (by decide +kernel) kw_42 kw_43 kw_44 (Nat.le_of_ble_eq_true rfl) ⟨Nat.le_of_ble_eq_true rfl, Nat.le_of_ble_eq_true rfl⟩ (by omega) (by omega) (show 100 + 5 * (j + 1) ≤ 110 by omega) (show 1351 + 54 * (j + 1) ≤ 1459 by omega) dX5_init_111 dX5_init_114 dX5_init_115 (fun q ad2 ρ2 σ2 H locs hB hp => ?_)
        have eq : ad2 (101 + 5 * j) = q := by rw [hp.1 _ (Nat.le_refl _), upr_eq]
        have ea : ad2 98 = ad 98 := by rw [hp.1 _ (by omega), upr_c _ _ (by omega)]
        rw [← eq, ← ea]
        refine q_ast (i := 98) (j := j) (t := (101 + 5 * j)) hx hb hK hB (by omega) rfl (by show j < 2; omega) (by decide) (by omega) hFj.ck0 dX5_init_118 (fun H locs hB => ?_)
        rw [eq] at hB
        have hq := hq.obj (n := (101 + 5 * j) + 5) (i0 := 98) (k0 := j) (by omega) (by omega) hp (by omega) (by omega) (by decide) (tg_98 j) (cl98 j hj2)
        refine z_iinc (k := 0) (lv' := [(1, .int (iZ (((j : Nat) : Int) + 1))), (0, .ref (ad0 0))]) hx hb dX5_init_119 hl rfl (by decide) rfl (fun ls hl => ?_)
        have hl : lv_has ls 2 [(1, .int (iZ (((j + 1) : Nat) : Int))), (0, .ref (ad0 0))] := by have e9 : (((j : Nat) : Int) + 1) = (((j + 1) : Nat) : Int) := (by omega); rw [e9] at hl; exact hl
        refine lv_goto (tgt := 101) hx hb dX5_init_122 (by decide) ?_
        exact ih (j + 1) _ _ _ _ _ _ (by omega) (by omega) hq hB hl
  exact loop _ 0 _ _ _ _ _ _ (Nat.lt_succ_self _) (by decide) hq hB hl
