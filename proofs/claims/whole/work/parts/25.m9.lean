def wPub (i k : Nat) : Bool := i == 113 || (i == 111 && (k == 3 || k == 0))
set_option maxHeartbeats 4000000 in
set_option maxRecDepth 100000 in
theorem mX6_letterAt (l : Launch) (θ : gT) (hθ : gOK θ) (σ : gS) (z : gZ) (len : Nat) (hlen : σ 111 2 = (len : Int)) (hx0 : txOK (σ 112) len) (p0 : Nat) (hp0 : p0 < 1000) : GI l θ yX6_letterAt cX6_letterAt 2 (some .int) 0 0 [.ref (tad θ 111), .int (iZ ((p0 : Nat) : Int))] σ z (fun q σ' z' => (q = ltr (σ 112) len p0) ∧ σ' = σ ∧ z' = z) := by
  refine g_enter (ret := (some .int)) (by decide +kernel) (Nat.le_of_ble_eq_true rfl) ?_
  intro p e s m args below meth c ls F hB hl
  obtain ⟨hx, hb, hr, hml, hown, hts, hlk, hK, hst⟩ := F
  have hR := hB.1.2
  have hl : lv_has ls 2 [(0, .ref (tad θ 111)), (1, .int (iZ ((p0 : Nat) : Int)))] := hl
  have hlen40 := hx0.1
  refine lv_iload_n hx hb dX6_letterAt_0 rfl (lv_at hl 1 rfl) ?_
  refine lv_aload_n hx hb dX6_letterAt_1 rfl (lv_at hl 0 rfl) ?_
  refine g_geti (k := 2) hx hb hts hown hK hB cf6 (by decide) rfl (by decide) kw_661 rfl dX6_letterAt_2 ?_
  refine z_top (b := ((len : Nat) : Int)) (hlen) ?_
  refine z_icmp_ge (tgt := 17) hx hb dX6_letterAt_5 (by decide) ⟨by omega, by omega⟩ ⟨by omega, by omega⟩ (fun c_1 => ?_) (fun c_1 => ?_)
  · refine lv_bipush (v := iZ (-9)) hx hb dX6_letterAt_17 (by decide) ?_
    exact g_iret hx hb hr hlk hB dX6_letterAt_19 ⟨by decide, by decide⟩ (⟨by rw [ltr, if_neg (by omega)], rfl, rfl⟩)
  · refine lv_aload_n hx hb dX6_letterAt_8 rfl (lv_at hl 0 rfl) ?_
    refine g_getr (k := 1) (j := 112) hx hb hts hown hK hθ hB cf6 (by decide) rfl (by decide) kw_660 rfl rfl dX6_letterAt_9 ?_
    refine lv_iload_n hx hb dX6_letterAt_12 rfl (lv_at hl 1 rfl) ?_
    refine g_iald (k := p0) hx hb hK hB (by decide) rfl (by omega) (Nat.lt_of_lt_of_eq (by omega : p0 < 40) (Eq.symm rfl)) (by decide) dX6_letterAt_13 ?_
    have hr_2 := hR 112 p0
    have hlt := hx0.2 p0 (by omega)
    refine lv_goto (tgt := 19) hx hb dX6_letterAt_14 (by decide) ?_
    exact g_iret hx hb hr hlk hB dX6_letterAt_19 ⟨by omega, by omega⟩ (⟨by rw [ltr, if_pos (by omega)], rfl, rfl⟩)
set_option maxHeartbeats 4000000 in
set_option maxRecDepth 100000 in
theorem mX6_kindOf (l : Launch) (θ : gT) (hθ : gOK θ) (σ : gS) (z : gZ) (x0 : Int) (hx0 : rg x0) : GI l θ yX6_kindOf cX6_kindOf 1 (some .int) 0 0 [.int (iZ x0)] σ z (fun q σ' z' => (q = kOf x0) ∧ σ' = σ ∧ z' = z) := by
  refine g_enter (ret := (some .int)) (by decide +kernel) (Nat.le_of_ble_eq_true rfl) ?_
  intro p e s m args below meth c ls F hB hl
  obtain ⟨hx, hb, hr, hml, hown, hts, hlk, hK, hst⟩ := F
  have hR := hB.1.2
  have hl : lv_has ls 1 [(0, .int (iZ x0))] := hl
  refine lv_iload_n hx hb dX6_kindOf_0 rfl (lv_at hl 0 rfl) ?_
  rcases (show (x0 < 43 ∨ 87 < x0) ∨ x0 = 43 ∨ x0 = 44 ∨ x0 = 45 ∨ x0 = 46 ∨ x0 = 47 ∨ x0 = 48 ∨ x0 = 49 ∨ x0 = 50 ∨ x0 = 51 ∨ x0 = 52 ∨ x0 = 53 ∨ x0 = 54 ∨ x0 = 55 ∨ x0 = 56 ∨ x0 = 57 ∨ x0 = 58 ∨ x0 = 59 ∨ x0 = 60 ∨ x0 = 61 ∨ x0 = 62 ∨ x0 = 63 ∨ x0 = 64 ∨ x0 = 65 ∨ x0 = 66 ∨ x0 = 67 ∨ x0 = 68 ∨ x0 = 69 ∨ x0 = 70 ∨ x0 = 71 ∨ x0 = 72 ∨ x0 = 73 ∨ x0 = 74 ∨ x0 = 75 ∨ x0 = 76 ∨ x0 = 77 ∨ x0 = 78 ∨ x0 = 79 ∨ x0 = 80 ∨ x0 = 81 ∨ x0 = 82 ∨ x0 = 83 ∨ x0 = 84 ∨ x0 = 85 ∨ x0 = 86 ∨ x0 = 87 by omega) with c_1 | c_1 | c_1 | c_1 | c_1 | c_1 | c_1 | c_1 | c_1 | c_1 | c_1 | c_1 | c_1 | c_1 | c_1 | c_1 | c_1 | c_1 | c_1 | c_1 | c_1 | c_1 | c_1 | c_1 | c_1 | c_1 | c_1 | c_1 | c_1 | c_1 | c_1 | c_1 | c_1 | c_1 | c_1 | c_1 | c_1 | c_1 | c_1 | c_1 | c_1 | c_1 | c_1 | c_1 | c_1 | c_1
  · refine z_tabOut (tgt := 226) hx hb dX6_kindOf_1 ⟨by omega, by omega⟩ c_1 (by decide) ?_
    refine lv_bipush (v := iZ (-9)) hx hb dX6_kindOf_226 (by decide) ?_
    exact g_iret hx hb hr hlk hB dX6_kindOf_228 ⟨by decide, by decide⟩ (⟨by unfold kOf; rw [if_neg (by omega), if_neg (by omega), if_neg (by omega), if_neg (by omega), if_neg (by omega), if_neg (by omega), if_neg (by omega), if_neg (by omega), if_neg (by omega), if_neg (by omega), if_neg (by omega), if_neg (by omega)], rfl, rfl⟩)
  · refine z_tabIn (v := 43) (off := 199) (tgt := 200) hx hb dX6_kindOf_1 c_1 ⟨by decide, by decide⟩ (by decide) (by decide) rfl (by decide) ?_
    have hxk := c_1
    refine lv_iconst (v := iZ 2) hx hb dX6_kindOf_200 rfl ?_
    exact g_iret hx hb hr hlk hB dX6_kindOf_201 ⟨by decide, by decide⟩ (⟨by rw [hxk]; rfl, rfl, rfl⟩)
  · refine z_tabIn (v := 44) (off := 225) (tgt := 226) hx hb dX6_kindOf_1 c_1 ⟨by decide, by decide⟩ (by decide) (by decide) rfl (by decide) ?_
    have hxk := c_1
    refine lv_bipush (v := iZ (-9)) hx hb dX6_kindOf_226 (by decide) ?_
    exact g_iret hx hb hr hlk hB dX6_kindOf_228 ⟨by decide, by decide⟩ (⟨by rw [hxk]; rfl, rfl, rfl⟩)
  · refine z_tabIn (v := 45) (off := 201) (tgt := 202) hx hb dX6_kindOf_1 c_1 ⟨by decide, by decide⟩ (by decide) (by decide) rfl (by decide) ?_
    have hxk := c_1
    refine lv_iconst (v := iZ 3) hx hb dX6_kindOf_202 rfl ?_
    exact g_iret hx hb hr hlk hB dX6_kindOf_203 ⟨by decide, by decide⟩ (⟨by rw [hxk]; rfl, rfl, rfl⟩)
  · refine z_tabIn (v := 46) (off := 225) (tgt := 226) hx hb dX6_kindOf_1 c_1 ⟨by decide, by decide⟩ (by decide) (by decide) rfl (by decide) ?_
    have hxk := c_1
    refine lv_bipush (v := iZ (-9)) hx hb dX6_kindOf_226 (by decide) ?_
    exact g_iret hx hb hr hlk hB dX6_kindOf_228 ⟨by decide, by decide⟩ (⟨by rw [hxk]; rfl, rfl, rfl⟩)
  · refine z_tabIn (v := 47) (off := 225) (tgt := 226) hx hb dX6_kindOf_1 c_1 ⟨by decide, by decide⟩ (by decide) (by decide) rfl (by decide) ?_
    have hxk := c_1
    refine lv_bipush (v := iZ (-9)) hx hb dX6_kindOf_226 (by decide) ?_
    exact g_iret hx hb hr hlk hB dX6_kindOf_228 ⟨by decide, by decide⟩ (⟨by rw [hxk]; rfl, rfl, rfl⟩)
  · refine z_tabIn (v := 48) (off := 225) (tgt := 226) hx hb dX6_kindOf_1 c_1 ⟨by decide, by decide⟩ (by decide) (by decide) rfl (by decide) ?_
    have hxk := c_1
    refine lv_bipush (v := iZ (-9)) hx hb dX6_kindOf_226 (by decide) ?_
    exact g_iret hx hb hr hlk hB dX6_kindOf_228 ⟨by decide, by decide⟩ (⟨by rw [hxk]; rfl, rfl, rfl⟩)
  · refine z_tabIn (v := 49) (off := 225) (tgt := 226) hx hb dX6_kindOf_1 c_1 ⟨by decide, by decide⟩ (by decide) (by decide) rfl (by decide) ?_
    have hxk := c_1
    refine lv_bipush (v := iZ (-9)) hx hb dX6_kindOf_226 (by decide) ?_
    exact g_iret hx hb hr hlk hB dX6_kindOf_228 ⟨by decide, by decide⟩ (⟨by rw [hxk]; rfl, rfl, rfl⟩)
  · refine z_tabIn (v := 50) (off := 225) (tgt := 226) hx hb dX6_kindOf_1 c_1 ⟨by decide, by decide⟩ (by decide) (by decide) rfl (by decide) ?_
    have hxk := c_1
    refine lv_bipush (v := iZ (-9)) hx hb dX6_kindOf_226 (by decide) ?_
    exact g_iret hx hb hr hlk hB dX6_kindOf_228 ⟨by decide, by decide⟩ (⟨by rw [hxk]; rfl, rfl, rfl⟩)
  · refine z_tabIn (v := 51) (off := 225) (tgt := 226) hx hb dX6_kindOf_1 c_1 ⟨by decide, by decide⟩ (by decide) (by decide) rfl (by decide) ?_
    have hxk := c_1
    refine lv_bipush (v := iZ (-9)) hx hb dX6_kindOf_226 (by decide) ?_
    exact g_iret hx hb hr hlk hB dX6_kindOf_228 ⟨by decide, by decide⟩ (⟨by rw [hxk]; rfl, rfl, rfl⟩)
  · refine z_tabIn (v := 52) (off := 225) (tgt := 226) hx hb dX6_kindOf_1 c_1 ⟨by decide, by decide⟩ (by decide) (by decide) rfl (by decide) ?_
    have hxk := c_1
    refine lv_bipush (v := iZ (-9)) hx hb dX6_kindOf_226 (by decide) ?_
    exact g_iret hx hb hr hlk hB dX6_kindOf_228 ⟨by decide, by decide⟩ (⟨by rw [hxk]; rfl, rfl, rfl⟩)
  · refine z_tabIn (v := 53) (off := 225) (tgt := 226) hx hb dX6_kindOf_1 c_1 ⟨by decide, by decide⟩ (by decide) (by decide) rfl (by decide) ?_
    have hxk := c_1
    refine lv_bipush (v := iZ (-9)) hx hb dX6_kindOf_226 (by decide) ?_
    exact g_iret hx hb hr hlk hB dX6_kindOf_228 ⟨by decide, by decide⟩ (⟨by rw [hxk]; rfl, rfl, rfl⟩)
  · refine z_tabIn (v := 54) (off := 225) (tgt := 226) hx hb dX6_kindOf_1 c_1 ⟨by decide, by decide⟩ (by decide) (by decide) rfl (by decide) ?_
    have hxk := c_1
    refine lv_bipush (v := iZ (-9)) hx hb dX6_kindOf_226 (by decide) ?_
    exact g_iret hx hb hr hlk hB dX6_kindOf_228 ⟨by decide, by decide⟩ (⟨by rw [hxk]; rfl, rfl, rfl⟩)
  · refine z_tabIn (v := 55) (off := 225) (tgt := 226) hx hb dX6_kindOf_1 c_1 ⟨by decide, by decide⟩ (by decide) (by decide) rfl (by decide) ?_
    have hxk := c_1
    refine lv_bipush (v := iZ (-9)) hx hb dX6_kindOf_226 (by decide) ?_
    exact g_iret hx hb hr hlk hB dX6_kindOf_228 ⟨by decide, by decide⟩ (⟨by rw [hxk]; rfl, rfl, rfl⟩)
  · refine z_tabIn (v := 56) (off := 225) (tgt := 226) hx hb dX6_kindOf_1 c_1 ⟨by decide, by decide⟩ (by decide) (by decide) rfl (by decide) ?_
    have hxk := c_1
    refine lv_bipush (v := iZ (-9)) hx hb dX6_kindOf_226 (by decide) ?_
    exact g_iret hx hb hr hlk hB dX6_kindOf_228 ⟨by decide, by decide⟩ (⟨by rw [hxk]; rfl, rfl, rfl⟩)
  · refine z_tabIn (v := 57) (off := 225) (tgt := 226) hx hb dX6_kindOf_1 c_1 ⟨by decide, by decide⟩ (by decide) (by decide) rfl (by decide) ?_
    have hxk := c_1
    refine lv_bipush (v := iZ (-9)) hx hb dX6_kindOf_226 (by decide) ?_
    exact g_iret hx hb hr hlk hB dX6_kindOf_228 ⟨by decide, by decide⟩ (⟨by rw [hxk]; rfl, rfl, rfl⟩)
  · refine z_tabIn (v := 58) (off := 225) (tgt := 226) hx hb dX6_kindOf_1 c_1 ⟨by decide, by decide⟩ (by decide) (by decide) rfl (by decide) ?_
    have hxk := c_1
    refine lv_bipush (v := iZ (-9)) hx hb dX6_kindOf_226 (by decide) ?_
    exact g_iret hx hb hr hlk hB dX6_kindOf_228 ⟨by decide, by decide⟩ (⟨by rw [hxk]; rfl, rfl, rfl⟩)
  · refine z_tabIn (v := 59) (off := 225) (tgt := 226) hx hb dX6_kindOf_1 c_1 ⟨by decide, by decide⟩ (by decide) (by decide) rfl (by decide) ?_
    have hxk := c_1
    refine lv_bipush (v := iZ (-9)) hx hb dX6_kindOf_226 (by decide) ?_
    exact g_iret hx hb hr hlk hB dX6_kindOf_228 ⟨by decide, by decide⟩ (⟨by rw [hxk]; rfl, rfl, rfl⟩)
  · refine z_tabIn (v := 60) (off := 203) (tgt := 204) hx hb dX6_kindOf_1 c_1 ⟨by decide, by decide⟩ (by decide) (by decide) rfl (by decide) ?_
    have hxk := c_1
    refine lv_iconst (v := iZ 4) hx hb dX6_kindOf_204 rfl ?_
    exact g_iret hx hb hr hlk hB dX6_kindOf_205 ⟨by decide, by decide⟩ (⟨by rw [hxk]; rfl, rfl, rfl⟩)
  · refine z_tabIn (v := 61) (off := 225) (tgt := 226) hx hb dX6_kindOf_1 c_1 ⟨by decide, by decide⟩ (by decide) (by decide) rfl (by decide) ?_
    have hxk := c_1
    refine lv_bipush (v := iZ (-9)) hx hb dX6_kindOf_226 (by decide) ?_
    exact g_iret hx hb hr hlk hB dX6_kindOf_228 ⟨by decide, by decide⟩ (⟨by rw [hxk]; rfl, rfl, rfl⟩)
  · refine z_tabIn (v := 62) (off := 225) (tgt := 226) hx hb dX6_kindOf_1 c_1 ⟨by decide, by decide⟩ (by decide) (by decide) rfl (by decide) ?_
    have hxk := c_1
    refine lv_bipush (v := iZ (-9)) hx hb dX6_kindOf_226 (by decide) ?_
    exact g_iret hx hb hr hlk hB dX6_kindOf_228 ⟨by decide, by decide⟩ (⟨by rw [hxk]; rfl, rfl, rfl⟩)
  · refine z_tabIn (v := 63) (off := 205) (tgt := 206) hx hb dX6_kindOf_1 c_1 ⟨by decide, by decide⟩ (by decide) (by decide) rfl (by decide) ?_
    have hxk := c_1
    refine lv_iconst (v := iZ 5) hx hb dX6_kindOf_206 rfl ?_
    exact g_iret hx hb hr hlk hB dX6_kindOf_207 ⟨by decide, by decide⟩ (⟨by rw [hxk]; rfl, rfl, rfl⟩)
  · refine z_tabIn (v := 64) (off := 225) (tgt := 226) hx hb dX6_kindOf_1 c_1 ⟨by decide, by decide⟩ (by decide) (by decide) rfl (by decide) ?_
    have hxk := c_1
    refine lv_bipush (v := iZ (-9)) hx hb dX6_kindOf_226 (by decide) ?_
    exact g_iret hx hb hr hlk hB dX6_kindOf_228 ⟨by decide, by decide⟩ (⟨by rw [hxk]; rfl, rfl, rfl⟩)
  · refine z_tabIn (v := 65) (off := 213) (tgt := 214) hx hb dX6_kindOf_1 c_1 ⟨by decide, by decide⟩ (by decide) (by decide) rfl (by decide) ?_
    have hxk := c_1
    refine lv_bipush (v := iZ 8) hx hb dX6_kindOf_214 (by decide) ?_
    exact g_iret hx hb hr hlk hB dX6_kindOf_216 ⟨by decide, by decide⟩ (⟨by rw [hxk]; rfl, rfl, rfl⟩)
  · refine z_tabIn (v := 66) (off := 225) (tgt := 226) hx hb dX6_kindOf_1 c_1 ⟨by decide, by decide⟩ (by decide) (by decide) rfl (by decide) ?_
    have hxk := c_1
    refine lv_bipush (v := iZ (-9)) hx hb dX6_kindOf_226 (by decide) ?_
    exact g_iret hx hb hr hlk hB dX6_kindOf_228 ⟨by decide, by decide⟩ (⟨by rw [hxk]; rfl, rfl, rfl⟩)
  · refine z_tabIn (v := 67) (off := 225) (tgt := 226) hx hb dX6_kindOf_1 c_1 ⟨by decide, by decide⟩ (by decide) (by decide) rfl (by decide) ?_
    have hxk := c_1
    refine lv_bipush (v := iZ (-9)) hx hb dX6_kindOf_226 (by decide) ?_
    exact g_iret hx hb hr hlk hB dX6_kindOf_228 ⟨by decide, by decide⟩ (⟨by rw [hxk]; rfl, rfl, rfl⟩)
  · refine z_tabIn (v := 68) (off := 225) (tgt := 226) hx hb dX6_kindOf_1 c_1 ⟨by decide, by decide⟩ (by decide) (by decide) rfl (by decide) ?_
    have hxk := c_1
    refine lv_bipush (v := iZ (-9)) hx hb dX6_kindOf_226 (by decide) ?_
    exact g_iret hx hb hr hlk hB dX6_kindOf_228 ⟨by decide, by decide⟩ (⟨by rw [hxk]; rfl, rfl, rfl⟩)
  · refine z_tabIn (v := 69) (off := 225) (tgt := 226) hx hb dX6_kindOf_1 c_1 ⟨by decide, by decide⟩ (by decide) (by decide) rfl (by decide) ?_
    have hxk := c_1
    refine lv_bipush (v := iZ (-9)) hx hb dX6_kindOf_226 (by decide) ?_
    exact g_iret hx hb hr hlk hB dX6_kindOf_228 ⟨by decide, by decide⟩ (⟨by rw [hxk]; rfl, rfl, rfl⟩)
  · refine z_tabIn (v := 70) (off := 207) (tgt := 208) hx hb dX6_kindOf_1 c_1 ⟨by decide, by decide⟩ (by decide) (by decide) rfl (by decide) ?_
    have hxk := c_1
    refine lv_bipush (v := iZ 6) hx hb dX6_kindOf_208 (by decide) ?_
    exact g_iret hx hb hr hlk hB dX6_kindOf_210 ⟨by decide, by decide⟩ (⟨by rw [hxk]; rfl, rfl, rfl⟩)
  · refine z_tabIn (v := 71) (off := 225) (tgt := 226) hx hb dX6_kindOf_1 c_1 ⟨by decide, by decide⟩ (by decide) (by decide) rfl (by decide) ?_
    have hxk := c_1
    refine lv_bipush (v := iZ (-9)) hx hb dX6_kindOf_226 (by decide) ?_
    exact g_iret hx hb hr hlk hB dX6_kindOf_228 ⟨by decide, by decide⟩ (⟨by rw [hxk]; rfl, rfl, rfl⟩)
  · refine z_tabIn (v := 72) (off := 225) (tgt := 226) hx hb dX6_kindOf_1 c_1 ⟨by decide, by decide⟩ (by decide) (by decide) rfl (by decide) ?_
    have hxk := c_1
    refine lv_bipush (v := iZ (-9)) hx hb dX6_kindOf_226 (by decide) ?_
    exact g_iret hx hb hr hlk hB dX6_kindOf_228 ⟨by decide, by decide⟩ (⟨by rw [hxk]; rfl, rfl, rfl⟩)
  · refine z_tabIn (v := 73) (off := 195) (tgt := 196) hx hb dX6_kindOf_1 c_1 ⟨by decide, by decide⟩ (by decide) (by decide) rfl (by decide) ?_
    have hxk := c_1
    refine lv_iconst (v := iZ 0) hx hb dX6_kindOf_196 rfl ?_
    exact g_iret hx hb hr hlk hB dX6_kindOf_197 ⟨by decide, by decide⟩ (⟨by rw [hxk]; rfl, rfl, rfl⟩)
  · refine z_tabIn (v := 74) (off := 225) (tgt := 226) hx hb dX6_kindOf_1 c_1 ⟨by decide, by decide⟩ (by decide) (by decide) rfl (by decide) ?_
    have hxk := c_1
    refine lv_bipush (v := iZ (-9)) hx hb dX6_kindOf_226 (by decide) ?_
    exact g_iret hx hb hr hlk hB dX6_kindOf_228 ⟨by decide, by decide⟩ (⟨by rw [hxk]; rfl, rfl, rfl⟩)
  · refine z_tabIn (v := 75) (off := 197) (tgt := 198) hx hb dX6_kindOf_1 c_1 ⟨by decide, by decide⟩ (by decide) (by decide) rfl (by decide) ?_
    have hxk := c_1
    refine lv_iconst (v := iZ 1) hx hb dX6_kindOf_198 rfl ?_
    exact g_iret hx hb hr hlk hB dX6_kindOf_199 ⟨by decide, by decide⟩ (⟨by rw [hxk]; rfl, rfl, rfl⟩)
  · refine z_tabIn (v := 76) (off := 225) (tgt := 226) hx hb dX6_kindOf_1 c_1 ⟨by decide, by decide⟩ (by decide) (by decide) rfl (by decide) ?_
    have hxk := c_1
    refine lv_bipush (v := iZ (-9)) hx hb dX6_kindOf_226 (by decide) ?_
    exact g_iret hx hb hr hlk hB dX6_kindOf_228 ⟨by decide, by decide⟩ (⟨by rw [hxk]; rfl, rfl, rfl⟩)
  · refine z_tabIn (v := 77) (off := 222) (tgt := 223) hx hb dX6_kindOf_1 c_1 ⟨by decide, by decide⟩ (by decide) (by decide) rfl (by decide) ?_
    have hxk := c_1
    refine lv_bipush (v := iZ 11) hx hb dX6_kindOf_223 (by decide) ?_
    exact g_iret hx hb hr hlk hB dX6_kindOf_225 ⟨by decide, by decide⟩ (⟨by rw [hxk]; rfl, rfl, rfl⟩)
  · refine z_tabIn (v := 78) (off := 219) (tgt := 220) hx hb dX6_kindOf_1 c_1 ⟨by decide, by decide⟩ (by decide) (by decide) rfl (by decide) ?_
    have hxk := c_1
    refine lv_bipush (v := iZ 10) hx hb dX6_kindOf_220 (by decide) ?_
    exact g_iret hx hb hr hlk hB dX6_kindOf_222 ⟨by decide, by decide⟩ (⟨by rw [hxk]; rfl, rfl, rfl⟩)
  · refine z_tabIn (v := 79) (off := 225) (tgt := 226) hx hb dX6_kindOf_1 c_1 ⟨by decide, by decide⟩ (by decide) (by decide) rfl (by decide) ?_
    have hxk := c_1
    refine lv_bipush (v := iZ (-9)) hx hb dX6_kindOf_226 (by decide) ?_
    exact g_iret hx hb hr hlk hB dX6_kindOf_228 ⟨by decide, by decide⟩ (⟨by rw [hxk]; rfl, rfl, rfl⟩)
  · refine z_tabIn (v := 80) (off := 210) (tgt := 211) hx hb dX6_kindOf_1 c_1 ⟨by decide, by decide⟩ (by decide) (by decide) rfl (by decide) ?_
    have hxk := c_1
    refine lv_bipush (v := iZ 7) hx hb dX6_kindOf_211 (by decide) ?_
    exact g_iret hx hb hr hlk hB dX6_kindOf_213 ⟨by decide, by decide⟩ (⟨by rw [hxk]; rfl, rfl, rfl⟩)
  · refine z_tabIn (v := 81) (off := 225) (tgt := 226) hx hb dX6_kindOf_1 c_1 ⟨by decide, by decide⟩ (by decide) (by decide) rfl (by decide) ?_
    have hxk := c_1
    refine lv_bipush (v := iZ (-9)) hx hb dX6_kindOf_226 (by decide) ?_
    exact g_iret hx hb hr hlk hB dX6_kindOf_228 ⟨by decide, by decide⟩ (⟨by rw [hxk]; rfl, rfl, rfl⟩)
  · refine z_tabIn (v := 82) (off := 225) (tgt := 226) hx hb dX6_kindOf_1 c_1 ⟨by decide, by decide⟩ (by decide) (by decide) rfl (by decide) ?_
    have hxk := c_1
    refine lv_bipush (v := iZ (-9)) hx hb dX6_kindOf_226 (by decide) ?_
    exact g_iret hx hb hr hlk hB dX6_kindOf_228 ⟨by decide, by decide⟩ (⟨by rw [hxk]; rfl, rfl, rfl⟩)
  · refine z_tabIn (v := 83) (off := 225) (tgt := 226) hx hb dX6_kindOf_1 c_1 ⟨by decide, by decide⟩ (by decide) (by decide) rfl (by decide) ?_
    have hxk := c_1
    refine lv_bipush (v := iZ (-9)) hx hb dX6_kindOf_226 (by decide) ?_
    exact g_iret hx hb hr hlk hB dX6_kindOf_228 ⟨by decide, by decide⟩ (⟨by rw [hxk]; rfl, rfl, rfl⟩)
  · refine z_tabIn (v := 84) (off := 225) (tgt := 226) hx hb dX6_kindOf_1 c_1 ⟨by decide, by decide⟩ (by decide) (by decide) rfl (by decide) ?_
    have hxk := c_1
    refine lv_bipush (v := iZ (-9)) hx hb dX6_kindOf_226 (by decide) ?_
    exact g_iret hx hb hr hlk hB dX6_kindOf_228 ⟨by decide, by decide⟩ (⟨by rw [hxk]; rfl, rfl, rfl⟩)
  · refine z_tabIn (v := 85) (off := 225) (tgt := 226) hx hb dX6_kindOf_1 c_1 ⟨by decide, by decide⟩ (by decide) (by decide) rfl (by decide) ?_
    have hxk := c_1
    refine lv_bipush (v := iZ (-9)) hx hb dX6_kindOf_226 (by decide) ?_
    exact g_iret hx hb hr hlk hB dX6_kindOf_228 ⟨by decide, by decide⟩ (⟨by rw [hxk]; rfl, rfl, rfl⟩)
  · refine z_tabIn (v := 86) (off := 225) (tgt := 226) hx hb dX6_kindOf_1 c_1 ⟨by decide, by decide⟩ (by decide) (by decide) rfl (by decide) ?_
    have hxk := c_1
    refine lv_bipush (v := iZ (-9)) hx hb dX6_kindOf_226 (by decide) ?_
    exact g_iret hx hb hr hlk hB dX6_kindOf_228 ⟨by decide, by decide⟩ (⟨by rw [hxk]; rfl, rfl, rfl⟩)
  · refine z_tabIn (v := 87) (off := 216) (tgt := 217) hx hb dX6_kindOf_1 c_1 ⟨by decide, by decide⟩ (by decide) (by decide) rfl (by decide) ?_
    have hxk := c_1
    refine lv_bipush (v := iZ 9) hx hb dX6_kindOf_217 (by decide) ?_
    exact g_iret hx hb hr hlk hB dX6_kindOf_219 ⟨by decide, by decide⟩ (⟨by rw [hxk]; rfl, rfl, rfl⟩)
set_option maxHeartbeats 4000000 in
set_option maxRecDepth 100000 in
theorem mX6_readEquation (l : Launch) (θ : gT) (hθ : gOK θ) (σ : gS) (z : gZ) (len : Nat) (hlen : σ 111 2 = (len : Int)) (hx0 : txOK (σ 112) len) (s0 n : Nat) (hs : s0 < 8) (hn : 1 ≤ n ∧ n ≤ 8) (p0 : Nat) (hp0 : σ 111 3 = (p0 : Int)) (hp9 : p0 < 500) : GI l θ yX6_readEquation cX6_readEquation 6 (some .boolean) 1 25 [.ref (tad θ 111), .int (iZ ((s0 : Nat) : Int)), .int (iZ ((n : Nat) : Int))] σ z (fun q σ' z' => (((q = 1 ∧ (eQ (σ 112) len n s0 p0 (σ 113)).1 = -9) ∨ (q = 0 ∧ (eQ (σ 112) len n s0 p0 (σ 113)).1 ≠ -9)) ∧ σ' 111 3 = ((eQ (σ 112) len n s0 p0 (σ 113)).2.1 : Int) ∧ σ' 113 = (eQ (σ 112) len n s0 p0 (σ 113)).2.2) ∧ fr wRd σ σ' ∧ z' = z) := by
  refine g_enter (ret := (some .boolean)) (by decide +kernel) (Nat.le_of_ble_eq_true rfl) ?_
  intro p e s m args below meth c ls F hB hl
  obtain ⟨hx, hb, hr, hml, hown, hts, hlk, hK, hst⟩ := F
  have hR := hB.1.2
  have hl : lv_has ls 6 [(0, .ref (tad θ 111)), (1, .int (iZ ((s0 : Nat) : Int))), (2, .int (iZ ((n : Nat) : Int)))] := hl
  obtain ⟨K, hKe⟩ : ∃ K, K = kOf (ltr (σ 112) len p0) := ⟨_, rfl⟩
  have hKin := kOf_in (ltr (σ 112) len p0)
  rw [← hKe] at hKin
  have hfzi := fgz_in K
  have hltp := ltr_in hx0 p0
  refine lv_aload_n hx hb dX6_readEquation_0 rfl (lv_at hl 0 rfl) ?_
  refine lv_aload_n hx hb dX6_readEquation_1 rfl (lv_at hl 0 rfl) ?_
  refine g_geti (k := 3) hx hb hts hown hK hB cf6 (by decide) rfl (by decide) kw_662 rfl dX6_readEquation_2 ?_
  refine z_top (b := ((p0 : Nat) : Int)) (hp0) ?_
  refine g_calli (g_runV (i := 111) (As := [.int (iZ ((p0 : Nat) : Int))]) (rest := []) hx hb hml hown hts hK hst hB (mX6_letterAt l θ hθ σ z len hlen hx0 p0 (by omega)) mv_X6_letterAt kw_764 cf6 (by decide) rfl rfl hl.1 rfl (Nat.le_of_ble_eq_true rfl) ⟨by decide, by decide⟩ ⟨Nat.le_refl _, Nat.le_refl _⟩ dX6_readEquation_5) hB (fun q_3 σ_1 z_2 H locs hq_3 pq_3 hB => ?_)
  obtain ⟨pq_3, e1_, e2_⟩ := pq_3
  rw [e1_, e2_] at hB
  clear e1_ e2_
  subst pq_3
  refine g_calli (g_runS (As := [.int (iZ (ltr (σ 112) len p0))]) (rest := []) hx hb hml hown hts hK hst hB (mX6_kindOf l θ hθ σ z (ltr (σ 112) len p0) ⟨by omega, by omega⟩) ms_X6_kindOf kw_773 rfl hl.1 rfl (Nat.le_of_ble_eq_true rfl) ⟨by decide, by decide⟩ ⟨Nat.le_refl _, Nat.le_refl _⟩ dX6_readEquation_8) hB (fun q_6 σ_4 z_5 H locs hq_6 pq_6 hB => ?_)
  obtain ⟨pq_6, e1_, e2_⟩ := pq_6
  rw [e1_, e2_] at hB
  clear e1_ e2_
  subst pq_6
  refine z_top (b := K) (by rw [hKe]) ?_
  refine lv_istore_n (lv' := [(3, .int (iZ K)), (0, .ref (tad θ 111)), (1, .int (iZ ((s0 : Nat) : Int))), (2, .int (iZ ((n : Nat) : Int)))]) hx hb dX6_readEquation_11 rfl hl (by decide) rfl (fun ls hl => ?_)
  refine lv_iload_n hx hb dX6_readEquation_12 rfl (lv_at hl 0 rfl) ?_
  refine lv_bipush (v := iZ (-9)) hx hb dX6_readEquation_13 (by decide) ?_
  refine z_icmp_ne (tgt := 20) hx hb dX6_readEquation_15 (by decide) ⟨by omega, by omega⟩ ⟨by decide, by decide⟩ (fun c_7 => ?_) (fun c_7 => ?_)
  · have heq : eQ (σ 112) len n s0 p0 (σ 113) = (eS (σ 112) len n s0 K (p0 + 1) (upn (σ 113) (1 + s0) K) (fgz K)) := by rw [eQ, ← hKe, if_neg c_7]
    refine lv_aload_n hx hb dX6_readEquation_20 rfl (lv_at hl 1 rfl) ?_
    refine g_getr (k := 4) (j := 113) hx hb hts hown hK hθ hB cf6 (by decide) rfl (by decide) kw_663 rfl rfl dX6_readEquation_21 ?_
    refine lv_iconst (v := iZ 1) hx hb dX6_readEquation_24 rfl ?_
    refine lv_iload_n hx hb dX6_readEquation_25 rfl (lv_at hl 2 rfl) ?_
    refine z_iadd hx hb dX6_readEquation_26 ?_
    refine lv_iload_n hx hb dX6_readEquation_27 rfl (lv_at hl 0 rfl) ?_
    refine g_iast (k := (1 + s0)) hx hb hK hθ hB (by decide) rfl (by omega) (Nat.lt_of_lt_of_eq (by omega : (1 + s0) < 50) (Eq.symm rfl)) (by decide) ⟨by omega, by omega⟩ dX6_readEquation_28 (fun H locs hB => ?_)
    obtain ⟨σ1, hσ1⟩ : ∃ x_ : gS, x_ = up2 σ 113 (1 + s0) K := ⟨_, rfl⟩
    rw [← hσ1] at hB
    have hR := hB.1.2
    refine lv_aload_n hx hb dX6_readEquation_29 rfl (lv_at hl 1 rfl) ?_
    refine lv_dup hx hb dX6_readEquation_30 rfl ?_
    refine g_geti (k := 3) hx hb hts hown hK hB cf6 (by decide) rfl (by decide) kw_662 rfl dX6_readEquation_31 ?_
    refine z_top (b := ((p0 : Nat) : Int)) (by rw [hσ1, up2_c _ _ (by decide)]; exact hp0) ?_
    refine lv_iconst (v := iZ 1) hx hb dX6_readEquation_34 rfl ?_
    refine z_iadd hx hb dX6_readEquation_35 ?_
    refine g_putI (k := 3) hx hb hts hown hK hθ hB cf6 tyX6 tyX6_ok (by decide) rfl (by decide) kw_662 rfl rfl rfl ⟨by omega, by omega⟩ dX6_readEquation_36 (fun H locs hB => ?_)
    obtain ⟨σ2, hσ2⟩ : ∃ x_ : gS, x_ = up2 σ1 111 3 (((p0 : Nat) : Int) + 1) := ⟨_, rfl⟩
    rw [← hσ2] at hB
    have hR := hB.1.2
    refine lv_iconst (v := iZ 0) hx hb dX6_readEquation_39 rfl ?_
    refine lv_istore (lv' := [(4, .int (iZ 0)), (3, .int (iZ K)), (0, .ref (tad θ 111)), (1, .int (iZ ((s0 : Nat) : Int))), (2, .int (iZ ((n : Nat) : Int)))]) hx hb dX6_readEquation_40 hl (by decide) rfl (fun ls hl => ?_)
    have loop42 : ∀ (n42 : Nat) (i : Nat) (σ3 : gS) (H : Heap) (locs : List Loc) (ls : Array Slot), fgz K - i < n42 → (i ≤ fgz K) → ((eS (σ 112) len n s0 K (p0 + 1) (upn (σ 113) (1 + s0) K) i).1 = -9) → ((eS (σ 112) len n s0 K (p0 + 1) (upn (σ 113) (1 + s0) K) i).2.1 = p0 + 1 + i) → (σ3 111 3 = ((p0 + 1 + i : Nat) : Int)) → (σ3 113 = (eS (σ 112) len n s0 K (p0 + 1) (upn (σ 113) (1 + s0) K) i).2.2) → (fr wRd σ σ3) →  gB θ σ3 z s.heap H locs → lv_has ls 6 [(4, .int (iZ ((i : Nat) : Int))), (3, .int (iZ K)), (0, .ref (tad θ 111)), (1, .int (iZ ((s0 : Nat) : Int))), (2, .int (iZ ((n : Nat) : Int)))] → W p l e (gRm 1 25) s m args below meth c H locs 0 0 (MQ below (gQi θ (fun q σ' z' => (((q = 1 ∧ (eQ (σ 112) len n s0 p0 (σ 113)).1 = -9) ∨ (q = 0 ∧ (eQ (σ 112) len n s0 p0 (σ 113)).1 ≠ -9)) ∧ σ' 111 3 = ((eQ (σ 112) len n s0 p0 (σ 113)).2.1 : Int) ∧ σ' 113 = (eQ (σ 112) len n s0 p0 (σ 113)).2.2) ∧ fr wRd σ σ' ∧ z' = z)) args s 0 0 (tA θ)) (F0 m 42 ls []) := by
      intro n42
      induction n42 with
      | zero => intro i σ3 H locs ls hmu; exact absurd hmu (Nat.not_lt_zero _)
      | succ n42 ih42 =>
        intro i σ3 H locs ls hmu hi hE hPl h3 hrow hf hB hl
        have hR := hB.1.2
        have h112 : σ3 112 = σ 112 := hf.row (fun k => rfl)
        have hl3 : σ3 111 2 = (len : Int) := by rw [hf 111 2 rfl]; exact hlen
        have hlti := ltr_in hx0 (p0 + 1 + i)
        have hrow9 : σ3 113 = σ3 113 := rfl
        refine lv_iload hx hb dX6_readEquation_42 (lv_at hl 0 rfl) ?_
        refine lv_iload_n hx hb dX6_readEquation_44 rfl (lv_at hl 1 rfl) ?_
        refine g_calli (g_runS (As := [.int (iZ K)]) (rest := [.int (iZ ((i : Nat) : Int))]) hx hb hml hown hts hK hst hB (mX6_figures l θ hθ σ3 z K ⟨by omega, by omega⟩) ms_X6_figures kw_776 rfl hl.1 rfl (Nat.le_of_ble_eq_true rfl) ⟨by decide, by decide⟩ ⟨Nat.le_refl _, Nat.le_refl _⟩ dX6_readEquation_45) hB (fun qz σ_8 z_9 H locs hqz hpz hB => ?_)
        obtain ⟨hpz, e1_, e2_⟩ := hpz
        rw [e1_, e2_] at hB
        clear e1_ e2_
        have hfz := fgz_of hpz
        subst hfz
        refine z_icmp_ge (tgt := 116) hx hb dX6_readEquation_48 (by decide) ⟨by omega, by omega⟩ ⟨by omega, by omega⟩ (fun c_10 => ?_) (fun c_10 => ?_)
        · refine lv_iconst (v := iZ 1) hx hb dX6_readEquation_116 rfl ?_
          exact g_zret hx hb hr hlk hB dX6_readEquation_117 (by decide) (⟨⟨Or.inl ⟨rfl, by rw [heq, show fgz K = i by omega]; exact hE⟩, by rw [heq, show fgz K = i by omega, h3, hPl], by rw [heq, show fgz K = i by omega]; exact hrow⟩, hf, rfl⟩)
        · refine lv_aload_n hx hb dX6_readEquation_51 rfl (lv_at hl 2 rfl) ?_
          refine lv_aload_n hx hb dX6_readEquation_52 rfl (lv_at hl 2 rfl) ?_
          refine g_geti (k := 3) hx hb hts hown hK hB cf6 (by decide) rfl (by decide) kw_662 rfl dX6_readEquation_53 ?_
          refine z_top (b := (((p0 + 1 + i) : Nat) : Int)) (h3) ?_
          refine g_calli (g_runV (i := 111) (As := [.int (iZ (((p0 + 1 + i) : Nat) : Int))]) (rest := []) hx hb hml hown hts hK hst hB (mX6_letterAt l θ hθ σ3 z len hl3 (by rw [h112]; exact hx0) (p0 + 1 + i) (by omega)) mv_X6_letterAt kw_764 cf6 (by decide) rfl rfl hl.1 rfl (Nat.le_of_ble_eq_true rfl) ⟨by decide, by decide⟩ ⟨Nat.le_refl _, Nat.le_refl _⟩ dX6_readEquation_56) hB (fun q_13 σ_11 z_12 H locs hq_13 pq_13 hB => ?_)
          obtain ⟨pq_13, e1_, e2_⟩ := pq_13
          rw [e1_, e2_] at hB
          clear e1_ e2_
          subst pq_13
          refine z_top (b := (ltr (σ 112) len (p0 + 1 + i))) (by rw [h112]) ?_
          refine lv_bipush (v := iZ 48) hx hb dX6_readEquation_59 (by decide) ?_
          refine z_isub hx hb dX6_readEquation_61 ?_
          refine lv_istore (lv' := [(5, .int (iZ ((ltr (σ 112) len (p0 + 1 + i)) - 48))), (4, .int (iZ ((i : Nat) : Int))), (3, .int (iZ K)), (0, .ref (tad θ 111)), (1, .int (iZ ((s0 : Nat) : Int))), (2, .int (iZ ((n : Nat) : Int)))]) hx hb dX6_readEquation_62 hl (by decide) rfl (fun ls hl => ?_)
          refine lv_iload hx hb dX6_readEquation_64 (lv_at hl 0 rfl) ?_
          refine z_i2l hx hb ⟨by omega, by omega⟩ dX6_readEquation_66 ?_
          refine lv_lconst (v := lZ 0) hx hb dX6_readEquation_67 (by decide) ?_
          refine lv_iload_n hx hb dX6_readEquation_68 rfl (lv_at hl 2 rfl) ?_
          refine lv_iload hx hb dX6_readEquation_69 (lv_at hl 1 rfl) ?_
          refine lv_iload_n hx hb dX6_readEquation_71 rfl (lv_at hl 5 rfl) ?_
          refine g_calli (g_runS (As := [.int (iZ K), .int (iZ ((i : Nat) : Int)), .int (iZ ((n : Nat) : Int))]) (rest := [.long (lZ 0), .long (lZ ((ltr (σ 112) len (p0 + 1 + i)) - 48))]) hx hb hml hown hts hK hst hB (mX6_most l θ hθ σ3 z K (i : Int) (n : Int) ⟨by omega, by omega⟩ ⟨by omega, by omega⟩ ⟨by omega, by omega⟩) ms_X6_most kw_779 rfl hl.1 rfl (Nat.le_of_ble_eq_true rfl) ⟨by decide, by decide⟩ ⟨Nat.le_refl _, Nat.le_refl _⟩ dX6_readEquation_72) hB (fun qm σ_14 z_15 H locs hqm hpm hB => ?_)
          obtain ⟨hpm, e1_, e2_⟩ := hpm
          rw [e1_, e2_] at hB
          clear e1_ e2_
          have hmm := mst_of hpm
          refine z_i2l hx hb ⟨by omega, by omega⟩ dX6_readEquation_75 ?_
          refine g_calli (g_runS (As := [.long (lZ ((ltr (σ 112) len (p0 + 1 + i)) - 48)), .long (lZ 0), .long (lZ qm)]) (rest := []) hx hb hml hown hts hK hst hB (mX6_in l θ hθ σ3 z ((ltr (σ 112) len (p0 + 1 + i)) - 48) 0 qm ⟨by omega, by omega⟩ ⟨by omega, by omega⟩ ⟨by omega, by omega⟩) ms_X6_in kw_749 rfl hl.1 rfl (Nat.le_of_ble_eq_true rfl) ⟨by decide, by decide⟩ ⟨Nat.le_refl _, Nat.le_refl _⟩ dX6_readEquation_76) hB (fun q_18 σ_16 z_17 H locs hq_18 pq_18 hB => ?_)
          obtain ⟨pq_18, e1_, e2_⟩ := pq_18
          rw [e1_, e2_] at hB
          clear e1_ e2_
          refine z_if_ne (tgt := 84) hx hb dX6_readEquation_79 (by decide) ⟨by omega, by omega⟩ (fun c_19 => ?_) (fun c_19 => ?_)
          · have hstep : (eS (σ 112) len n s0 K (p0 + 1) (upn (σ 113) (1 + s0) K) (i + 1)) = (-9, p0 + 1 + i + 1, upn (eS (σ 112) len n s0 K (p0 + 1) (upn (σ 113) (1 + s0) K) i).2.2 (9 + 3 * s0 + i) ((ltr (σ 112) len (p0 + 1 + i)) - 48)) := by rw [eS, if_pos hE, hPl, if_pos ⟨by omega, by omega⟩]
            refine lv_aload_n hx hb dX6_readEquation_84 rfl (lv_at hl 3 rfl) ?_
            refine g_getr (k := 4) (j := 113) hx hb hts hown hK hθ hB cf6 (by decide) rfl (by decide) kw_663 rfl rfl dX6_readEquation_85 ?_
            refine lv_bipush (v := iZ 9) hx hb dX6_readEquation_88 (by decide) ?_
            refine lv_iconst (v := iZ 3) hx hb dX6_readEquation_90 rfl ?_
            refine lv_iload_n hx hb dX6_readEquation_91 rfl (lv_at hl 4 rfl) ?_
            refine z_imul hx hb dX6_readEquation_92 ?_
            refine z_iadd hx hb dX6_readEquation_93 ?_
            refine lv_iload hx hb dX6_readEquation_94 (lv_at hl 1 rfl) ?_
            refine z_iadd hx hb dX6_readEquation_96 ?_
            refine lv_iload hx hb dX6_readEquation_97 (lv_at hl 0 rfl) ?_
            refine g_iast (k := ((9 + (3 * s0)) + i)) hx hb hK hθ hB (by decide) rfl (by omega) (Nat.lt_of_lt_of_eq (by omega : ((9 + (3 * s0)) + i) < 50) (Eq.symm rfl)) (by decide) ⟨by omega, by omega⟩ dX6_readEquation_99 (fun H locs hB => ?_)
            obtain ⟨σ4, hσ4⟩ : ∃ x_ : gS, x_ = up2 σ3 113 ((9 + (3 * s0)) + i) ((ltr (σ 112) len (p0 + 1 + i)) - 48) := ⟨_, rfl⟩
            rw [← hσ4] at hB
            have hR := hB.1.2
            refine lv_aload_n hx hb dX6_readEquation_100 rfl (lv_at hl 3 rfl) ?_
            refine lv_dup hx hb dX6_readEquation_101 rfl ?_
            refine g_geti (k := 3) hx hb hts hown hK hB cf6 (by decide) rfl (by decide) kw_662 rfl dX6_readEquation_102 ?_
            refine z_top (b := (((p0 + 1 + i) : Nat) : Int)) (by rw [hσ4, up2_c _ _ (by decide)]; exact h3) ?_
            refine lv_iconst (v := iZ 1) hx hb dX6_readEquation_105 rfl ?_
            refine z_iadd hx hb dX6_readEquation_106 ?_
            refine g_putI (k := 3) hx hb hts hown hK hθ hB cf6 tyX6 tyX6_ok (by decide) rfl (by decide) kw_662 rfl rfl rfl ⟨by omega, by omega⟩ dX6_readEquation_107 (fun H locs hB => ?_)
            obtain ⟨σ5, hσ5⟩ : ∃ x_ : gS, x_ = up2 σ4 111 3 ((((p0 + 1 + i) : Nat) : Int) + 1) := ⟨_, rfl⟩
            rw [← hσ5] at hB
            have hR := hB.1.2
            refine z_iinc (k := 1) (lv' := [(4, .int (iZ (((i : Nat) : Int) + 1))), (5, .int (iZ ((ltr (σ 112) len (p0 + 1 + i)) - 48))), (3, .int (iZ K)), (0, .ref (tad θ 111)), (1, .int (iZ ((s0 : Nat) : Int))), (2, .int (iZ ((n : Nat) : Int)))]) hx hb dX6_readEquation_110 hl rfl (by decide) rfl (fun ls hl => ?_)
            have hl : lv_has ls 6 [(4, .int (iZ (((i + 1) : Nat) : Int))), (5, .int (iZ ((ltr (σ 112) len (p0 + 1 + i)) - 48))), (3, .int (iZ K)), (0, .ref (tad θ 111)), (1, .int (iZ ((s0 : Nat) : Int))), (2, .int (iZ ((n : Nat) : Int)))] := by have e9 : (((i : Nat) : Int) + 1) = (((i + 1) : Nat) : Int) := (by omega); rw [e9] at hl; exact hl
            refine lv_goto (tgt := 42) hx hb dX6_readEquation_113 (by decide) ?_
            exact ih42 (i + 1) σ5 _ _ _ (by omega) (by omega) (by rw [hstep]) (by rw [hstep]; show p0 + 1 + i + 1 = _; omega) (by rw [hσ5, up2_eq]; omega) (by rw [hσ5, up2_row _ _ (by decide), hσ4, up2_row_eq, hstep, hrow]) (by rw [hσ5, hσ4]; exact (hf.tr (fr.up rfl)).tr (fr.up rfl)) hB (lv_sub hl [0, 2, 3, 4, 5] rfl)
          · have hbad : (eS (σ 112) len n s0 K (p0 + 1) (upn (σ 113) (1 + s0) K) (i + 1)) = (((p0 + 1 + i : Nat) : Int), p0 + 1 + i, (eS (σ 112) len n s0 K (p0 + 1) (upn (σ 113) (1 + s0) K) i).2.2) := by rw [eS, if_pos hE, hPl, if_neg (by omega), ← hPl]
            have hall : (eS (σ 112) len n s0 K (p0 + 1) (upn (σ 113) (1 + s0) K) (fgz K)) = (((p0 + 1 + i : Nat) : Int), p0 + 1 + i, (eS (σ 112) len n s0 K (p0 + 1) (upn (σ 113) (1 + s0) K) i).2.2) := by
              have := eS_stop (i := i + 1) (by rw [hbad]; show ((p0 + 1 + i : Nat) : Int) ≠ -9; omega) (fgz K - (i + 1))
              rw [show i + 1 + (fgz K - (i + 1)) = fgz K by omega] at this
              rw [this, hbad]
            refine lv_iconst (v := iZ 0) hx hb dX6_readEquation_82 rfl ?_
            exact g_zret hx hb hr hlk hB dX6_readEquation_83 (by decide) (⟨⟨Or.inr ⟨rfl, by rw [heq, hall]; show ((p0 + 1 + i : Nat) : Int) ≠ -9; omega⟩, by rw [heq, hall]; exact h3, by rw [heq, hall]; exact hrow⟩, hf, rfl⟩)
    exact loop42 _ 0 σ2 _ _ _ (Nat.lt_succ_self _) (by omega) rfl rfl (by rw [hσ2, up2_eq]; omega) (by rw [hσ2, up2_row _ _ (by decide), hσ1, up2_row_eq]; rfl) (by rw [hσ2, hσ1]; exact (fr.rf.tr (fr.up rfl)).tr (fr.up rfl)) hB (lv_sub hl [0, 1, 2, 3, 4] rfl)
  · have heq : eQ (σ 112) len n s0 p0 (σ 113) = ((p0 : Int), p0, σ 113) := by rw [eQ, ← hKe, if_pos c_7]
    refine lv_iconst (v := iZ 0) hx hb dX6_readEquation_18 rfl ?_
    exact g_zret hx hb hr hlk hB dX6_readEquation_19 (by decide) (⟨⟨Or.inr ⟨rfl, by rw [heq]; show (p0 : Int) ≠ -9; omega⟩, by rw [heq]; exact hp0, by rw [heq]⟩, fr.rf, rfl⟩)
set_option maxHeartbeats 4000000 in
set_option maxRecDepth 100000 in
theorem mX6_readProgram (l : Launch) (θ : gT) (hθ : gOK θ) (σ : gS) (z : gZ) (len : Nat) (hlen : σ 111 2 = (len : Int)) (hx0 : txOK (σ 112) len) : GI l θ yX6_readProgram cX6_readProgram 3 (some .int) 2 50 [.ref (tad θ 111)] σ z (fun q σ' z' => (q = fltT (σ 112) len ∧ (q = -9 → σ' 113 = rowT (σ 112) len (zr (σ 113) 50))) ∧ fr wRd σ σ' ∧ z' = z) := by
  refine g_enter (ret := (some .int)) (by decide +kernel) (Nat.le_of_ble_eq_true rfl) ?_
  intro p e s m args below meth c ls F hB hl
  obtain ⟨hx, hb, hr, hml, hown, hts, hlk, hK, hst⟩ := F
  have hR := hB.1.2
  have hl : lv_has ls 3 [(0, .ref (tad θ 111))] := hl
  have hlt0 := ltr_in hx0 0
  have hlt1 := ltr_in hx0 1
  have hlen40 := hx0.1
  refine lv_aload_n hx hb dX6_readProgram_0 rfl (lv_at hl 0 rfl) ?_
  refine lv_iconst (v := iZ 0) hx hb dX6_readProgram_1 rfl ?_
  refine g_putI (k := 3) hx hb hts hown hK hθ hB cf6 tyX6 tyX6_ok (by decide) rfl (by decide) kw_662 rfl rfl rfl ⟨by decide, by decide⟩ dX6_readProgram_2 (fun H locs hB => ?_)
  obtain ⟨σ1, hσ1⟩ : ∃ x_ : gS, x_ = up2 σ 111 3 0 := ⟨_, rfl⟩
  rw [← hσ1] at hB
  have hR := hB.1.2
  refine lv_iconst (v := iZ 0) hx hb dX6_readProgram_5 rfl ?_
  refine lv_istore_n (lv' := [(1, .int (iZ 0)), (0, .ref (tad θ 111))]) hx hb dX6_readProgram_6 rfl hl (by decide) rfl (fun ls hl => ?_)
  have loop7 : ∀ (n7 : Nat) (i : Nat) (σ2 : gS) (H : Heap) (locs : List Loc) (ls : Array Slot), 50 - i < n7 → (i ≤ 50) → (σ2 113 = zr (σ 113) i) → (fr wRd σ σ2) →  gB θ σ2 z s.heap H locs → lv_has ls 3 [(1, .int (iZ ((i : Nat) : Int))), (0, .ref (tad θ 111))] → W p l e (gRm 2 50) s m args below meth c H locs 0 0 (MQ below (gQi θ (fun q σ' z' => (q = fltT (σ 112) len ∧ (q = -9 → σ' 113 = rowT (σ 112) len (zr (σ 113) 50))) ∧ fr wRd σ σ' ∧ z' = z)) args s 0 0 (tA θ)) (F0 m 7 ls []) := by
    intro n7
    induction n7 with
    | zero => intro i σ2 H locs ls hmu; exact absurd hmu (Nat.not_lt_zero _)
    | succ n7 ih7 =>
      intro i σ2 H locs ls hmu hi hrow hf hB hl
      have hR := hB.1.2
      refine lv_iload_n hx hb dX6_readProgram_7 rfl (lv_at hl 0 rfl) ?_
      refine lv_bipush (v := iZ 50) hx hb dX6_readProgram_8 (by decide) ?_
      refine z_icmp_ge (tgt := 26) hx hb dX6_readProgram_10 (by decide) ⟨by omega, by omega⟩ ⟨by decide, by decide⟩ (fun c_1 => ?_) (fun c_1 => ?_)
      · refine lv_aload_n hx hb dX6_readProgram_26 rfl (lv_at hl 1 rfl) ?_
        refine lv_iconst (v := iZ 0) hx hb dX6_readProgram_27 rfl ?_
        refine z_top (b := ((0 : Nat) : Int)) (rfl) ?_
        refine g_calli (g_runV (i := 111) (As := [.int (iZ ((0 : Nat) : Int))]) (rest := []) hx hb hml hown hts hK hst hB (mX6_letterAt l θ hθ σ2 z len (by rw [hf 111 2 rfl]; exact hlen) (by rw [hf.row (fun k => rfl)]; exact hx0) 0 (by omega)) mv_X6_letterAt kw_764 cf6 (by decide) rfl rfl hl.1 rfl (Nat.le_of_ble_eq_true rfl) ⟨by decide, by decide⟩ ⟨Nat.le_refl _, Nat.le_refl _⟩ dX6_readProgram_28) hB (fun q_4 σ_2 z_3 H locs hq_4 pq_4 hB => ?_)
        obtain ⟨pq_4, e1_, e2_⟩ := pq_4
        rw [e1_, e2_] at hB
        clear e1_ e2_
        subst pq_4
        refine z_top (b := (ltr (σ 112) len 0)) (by rw [hf.row (fun k => rfl)]) ?_
        refine lv_bipush (v := iZ 83) hx hb dX6_readProgram_31 (by decide) ?_
        refine z_icmp_eq (tgt := 38) hx hb dX6_readProgram_33 (by decide) ⟨by omega, by omega⟩ ⟨by decide, by decide⟩ (fun c_5 => ?_) (fun c_5 => ?_)
        · refine lv_aload_n hx hb dX6_readProgram_38 rfl (lv_at hl 1 rfl) ?_
          refine lv_iconst (v := iZ 1) hx hb dX6_readProgram_39 rfl ?_
          refine z_top (b := ((1 : Nat) : Int)) (rfl) ?_
          refine g_calli (g_runV (i := 111) (As := [.int (iZ ((1 : Nat) : Int))]) (rest := []) hx hb hml hown hts hK hst hB (mX6_letterAt l θ hθ σ2 z len (by rw [hf 111 2 rfl]; exact hlen) (by rw [hf.row (fun k => rfl)]; exact hx0) 1 (by omega)) mv_X6_letterAt kw_764 cf6 (by decide) rfl rfl hl.1 rfl (Nat.le_of_ble_eq_true rfl) ⟨by decide, by decide⟩ ⟨Nat.le_refl _, Nat.le_refl _⟩ dX6_readProgram_40) hB (fun q_8 σ_6 z_7 H locs hq_8 pq_8 hB => ?_)
          obtain ⟨pq_8, e1_, e2_⟩ := pq_8
          rw [e1_, e2_] at hB
          clear e1_ e2_
          subst pq_8
          refine z_top (b := (ltr (σ 112) len 1)) (by rw [hf.row (fun k => rfl)]) ?_
          refine lv_bipush (v := iZ 48) hx hb dX6_readProgram_43 (by decide) ?_
          refine z_isub hx hb dX6_readProgram_45 ?_
          have hnO : nOf (σ 112) len = ltr (σ 112) len 1 - 48 := rfl
          refine z_top (b := (nOf (σ 112) len)) (rfl) ?_
          refine lv_istore_n (lv' := [(1, .int (iZ (nOf (σ 112) len))), (0, .ref (tad θ 111))]) hx hb dX6_readProgram_46 rfl hl (by decide) rfl (fun ls hl => ?_)
          refine lv_iload_n hx hb dX6_readProgram_47 rfl (lv_at hl 0 rfl) ?_
          refine z_i2l hx hb ⟨by omega, by omega⟩ dX6_readProgram_48 ?_
          refine lv_lconst (v := lZ 1) hx hb dX6_readProgram_49 (by decide) ?_
          refine lv_ldc2 (v := lZ 8) hx hb hown (hts _ kw_768) dX6_readProgram_50 ?_
          refine g_calli (g_runS (As := [.long (lZ (nOf (σ 112) len)), .long (lZ 1), .long (lZ 8)]) (rest := []) hx hb hml hown hts hK hst hB (mX6_in l θ hθ σ2 z (nOf (σ 112) len) 1 8 ⟨by omega, by omega⟩ ⟨by omega, by omega⟩ ⟨by omega, by omega⟩) ms_X6_in kw_749 rfl hl.1 rfl (Nat.le_of_ble_eq_true rfl) ⟨by decide, by decide⟩ ⟨Nat.le_refl _, Nat.le_refl _⟩ dX6_readProgram_53) hB (fun q_11 σ_9 z_10 H locs hq_11 pq_11 hB => ?_)
          obtain ⟨pq_11, e1_, e2_⟩ := pq_11
          rw [e1_, e2_] at hB
          clear e1_ e2_
          refine z_if_ne (tgt := 61) hx hb dX6_readProgram_56 (by decide) ⟨by omega, by omega⟩ (fun c_12 => ?_) (fun c_12 => ?_)
          · obtain ⟨n, hnn⟩ : ∃ n : Nat, nOf (σ 112) len = (n : Int) := ⟨(nOf (σ 112) len).toNat, by omega⟩
            have hnt : (nOf (σ 112) len).toNat = n := by omega
            have hl : lv_has ls 3 [(1, .int (iZ ((n : Nat) : Int))), (0, .ref (tad θ 111))] := by rw [hnn] at hl; exact hl
            refine lv_aload_n hx hb dX6_readProgram_61 rfl (lv_at hl 1 rfl) ?_
            refine lv_iconst (v := iZ 2) hx hb dX6_readProgram_62 rfl ?_
            refine g_putI (k := 3) hx hb hts hown hK hθ hB cf6 tyX6 tyX6_ok (by decide) rfl (by decide) kw_662 rfl rfl rfl ⟨by decide, by decide⟩ dX6_readProgram_63 (fun H locs hB => ?_)
            obtain ⟨σ4, hσ4⟩ : ∃ x_ : gS, x_ = up2 σ2 111 3 2 := ⟨_, rfl⟩
            rw [← hσ4] at hB
            have hR := hB.1.2
            refine lv_iconst (v := iZ 0) hx hb dX6_readProgram_66 rfl ?_
            refine lv_istore_n (lv' := [(2, .int (iZ 0)), (1, .int (iZ ((n : Nat) : Int))), (0, .ref (tad θ 111))]) hx hb dX6_readProgram_67 rfl hl (by decide) rfl (fun ls hl => ?_)
            have loop68 : ∀ (n68 : Nat) (j : Nat) (σ5 : gS) (H : Heap) (locs : List Loc) (ls : Array Slot), n - j < n68 → (j ≤ n) → ((pS (σ 112) len n (zr (σ 113) 50) j).1 = -9) → (σ5 111 3 = ((pS (σ 112) len n (zr (σ 113) 50) j).2.1 : Int)) → (σ5 113 = (pS (σ 112) len n (zr (σ 113) 50) j).2.2) → (fr wRd σ σ5) →  gB θ σ5 z s.heap H locs → lv_has ls 3 [(2, .int (iZ ((j : Nat) : Int))), (1, .int (iZ ((n : Nat) : Int))), (0, .ref (tad θ 111))] → W p l e (gRm 2 50) s m args below meth c H locs 0 0 (MQ below (gQi θ (fun q σ' z' => (q = fltT (σ 112) len ∧ (q = -9 → σ' 113 = rowT (σ 112) len (zr (σ 113) 50))) ∧ fr wRd σ σ' ∧ z' = z)) args s 0 0 (tA θ)) (F0 m 68 ls []) := by
              intro n68
              induction n68 with
              | zero => intro j σ5 H locs ls hmu; exact absurd hmu (Nat.not_lt_zero _)
              | succ n68 ih68 =>
                intro j σ5 H locs ls hmu hj hE h3 hrow hf hB hl
                have hR := hB.1.2
                have h112 : σ5 112 = σ 112 := hf.row (fun k => rfl)
                have hl5 : σ5 111 2 = (len : Int) := by rw [hf 111 2 rfl]; exact hlen
                have hpl := pS_pl (txt := σ 112) (len := len) (n := n) (g0 := zr (σ 113) 50) j
                refine lv_iload_n hx hb dX6_readProgram_68 rfl (lv_at hl 0 rfl) ?_
                refine lv_iload_n hx hb dX6_readProgram_69 rfl (lv_at hl 1 rfl) ?_
                refine z_icmp_ge (tgt := 93) hx hb dX6_readProgram_70 (by decide) ⟨by omega, by omega⟩ ⟨by omega, by omega⟩ (fun c_13 => ?_) (fun c_13 => ?_)
                · refine lv_aload_n hx hb dX6_readProgram_93 rfl (lv_at hl 2 rfl) ?_
                  refine g_getr (k := 4) (j := 113) hx hb hts hown hK hθ hB cf6 (by decide) rfl (by decide) kw_663 rfl rfl dX6_readProgram_94 ?_
                  refine lv_iconst (v := iZ 0) hx hb dX6_readProgram_97 rfl ?_
                  refine lv_iload_n hx hb dX6_readProgram_98 rfl (lv_at hl 1 rfl) ?_
                  have hind := pS_ind (txt := σ 112) (len := len) (n := n) z0 (zr (σ 113) 50) n
                  have hjn : n = j := by omega
                  subst hjn
                  refine g_iast (k := 0) hx hb hK hθ hB (by decide) rfl (by omega) (Nat.lt_of_lt_of_eq (by omega : 0 < 50) (Eq.symm rfl)) (by decide) ⟨by omega, by omega⟩ dX6_readProgram_99 (fun H locs hB => ?_)
                  obtain ⟨σ7, hσ7⟩ : ∃ x_ : gS, x_ = up2 σ5 113 0 ((n : Nat) : Int) := ⟨_, rfl⟩
                  rw [← hσ7] at hB
                  have hR := hB.1.2
                  refine lv_aload_n hx hb dX6_readProgram_100 rfl (lv_at hl 2 rfl) ?_
                  refine g_geti (k := 3) hx hb hts hown hK hB cf6 (by decide) rfl (by decide) kw_662 rfl dX6_readProgram_101 ?_
                  refine z_top (b := (((pS (σ 112) len n (zr (σ 113) 50) n).2.1 : Nat) : Int)) (by rw [hσ7, up2_c _ _ (by decide)]; exact h3) ?_
                  refine lv_aload_n hx hb dX6_readProgram_104 rfl (lv_at hl 2 rfl) ?_
                  refine g_geti (k := 2) hx hb hts hown hK hB cf6 (by decide) rfl (by decide) kw_661 rfl dX6_readProgram_105 ?_
                  refine z_top (b := ((len : Nat) : Int)) (by rw [hσ7, up2_c _ _ (by decide)]; exact hl5) ?_
                  refine z_icmp_ne (tgt := 116) hx hb dX6_readProgram_108 (by decide) ⟨by omega, by omega⟩ ⟨by omega, by omega⟩ (fun c_14 => ?_) (fun c_14 => ?_)
                  · refine lv_aload_n hx hb dX6_readProgram_116 rfl (lv_at hl 2 rfl) ?_
                    refine g_geti (k := 3) hx hb hts hown hK hB cf6 (by decide) rfl (by decide) kw_662 rfl dX6_readProgram_117 ?_
                    refine z_top (b := (((pS (σ 112) len n (zr (σ 113) 50) n).2.1 : Nat) : Int)) (by rw [hσ7, up2_c _ _ (by decide)]; exact h3) ?_
                    exact g_iret hx hb hr hlk hB dX6_readProgram_120 ⟨by omega, by omega⟩ (⟨⟨by rw [fltT, if_pos (by omega), if_pos (by omega), hnt, hind.1, if_pos hE, hind.2, if_neg (by omega)], fun _ => by rw [hσ7, up2_row_eq, hrow, rowT, hnt, hnn]⟩, by rw [hσ7]; exact hf.tr (fr.up rfl), rfl⟩)
                  · refine lv_bipush (v := iZ (-9)) hx hb dX6_readProgram_111 (by decide) ?_
                    refine lv_goto (tgt := 120) hx hb dX6_readProgram_113 (by decide) ?_
                    exact g_iret hx hb hr hlk hB dX6_readProgram_120 ⟨by omega, by omega⟩ (⟨⟨by rw [fltT, if_pos (by omega), if_pos (by omega), hnt, hind.1, if_pos hE, hind.2, if_pos (by omega)], fun _ => by rw [hσ7, up2_row_eq, hrow, rowT, hnt, hnn]⟩, by rw [hσ7]; exact hf.tr (fr.up rfl), rfl⟩)
                · refine lv_aload_n hx hb dX6_readProgram_73 rfl (lv_at hl 2 rfl) ?_
                  refine lv_iload_n hx hb dX6_readProgram_74 rfl (lv_at hl 0 rfl) ?_
                  refine lv_iload_n hx hb dX6_readProgram_75 rfl (lv_at hl 1 rfl) ?_
                  refine g_calli (g_runV (i := 111) (As := [.int (iZ ((j : Nat) : Int)), .int (iZ ((n : Nat) : Int))]) (rest := []) hx hb hml hown hts hK hst hB (mX6_readEquation l θ hθ σ5 z len hl5 (by rw [h112]; exact hx0) j n (by omega) (by omega) (pS (σ 112) len n (zr (σ 113) 50) j).2.1 h3 (by omega)) mv_X6_readEquation kw_769 cf6 (by decide) rfl rfl hl.1 rfl (Nat.le_of_ble_eq_true rfl) ⟨by decide, by decide⟩ ⟨Nat.le_refl _, Nat.le_refl _⟩ dX6_readProgram_76) hB (fun q6 σ6 z_15 H locs hq6 hp6 hB => ?_)
                  obtain ⟨hp6, hf6, e2_⟩ := hp6
                  rw [e2_] at hB
                  clear e2_
                  have hR := hB.1.2
                  rw [h112, hrow] at hp6
                  have hnx : (pS (σ 112) len n (zr (σ 113) 50) (j + 1)) = eQ (σ 112) len n j (pS (σ 112) len n (zr (σ 113) 50) j).2.1 (pS (σ 112) len n (zr (σ 113) 50) j).2.2 := by rw [pS, if_pos hE]
                  refine z_if_ne (tgt := 87) hx hb dX6_readProgram_79 (by decide) ⟨by omega, by omega⟩ (fun c_16 => ?_) (fun c_16 => ?_)
                  · have hok : (eQ (σ 112) len n j (pS (σ 112) len n (zr (σ 113) 50) j).2.1 (pS (σ 112) len n (zr (σ 113) 50) j).2.2).1 = -9 := by
                      rcases hp6.1 with h | h
                      · exact h.2
                      · omega
                    refine z_iinc (k := 0) (lv' := [(2, .int (iZ (((j : Nat) : Int) + 1))), (1, .int (iZ ((n : Nat) : Int))), (0, .ref (tad θ 111))]) hx hb dX6_readProgram_87 hl rfl (by decide) rfl (fun ls hl => ?_)
                    have hl : lv_has ls 3 [(2, .int (iZ (((j + 1) : Nat) : Int))), (1, .int (iZ ((n : Nat) : Int))), (0, .ref (tad θ 111))] := by have e9 : (((j : Nat) : Int) + 1) = (((j + 1) : Nat) : Int) := (by omega); rw [e9] at hl; exact hl
                    refine lv_goto (tgt := 68) hx hb dX6_readProgram_90 (by decide) ?_
                    exact ih68 (j + 1) σ6 _ _ _ (by omega) (by omega) (by rw [hnx]; exact hok) (by rw [hnx]; exact hp6.2.1) (by rw [hnx]; exact hp6.2.2) (hf.tr hf6) hB (lv_sub hl [0, 1, 2] rfl)
                  · have hno : (pS (σ 112) len n (zr (σ 113) 50) (j + 1)).1 ≠ -9 := by
                      rw [hnx]
                      rcases hp6.1 with h | h
                      · omega
                      · exact h.2
                    have hst : (pS (σ 112) len n (zr (σ 113) 50) n) = (pS (σ 112) len n (zr (σ 113) 50) (j + 1)) := by
                      have := pS_stop hno (n - (j + 1))
                      rw [show j + 1 + (n - (j + 1)) = n by omega] at this
                      exact this
                    have hpl1 := pS_pl (txt := σ 112) (len := len) (n := n) (g0 := zr (σ 113) 50) (j + 1)
                    have hind := pS_ind (txt := σ 112) (len := len) (n := n) z0 (zr (σ 113) 50) n
                    rw [hst] at hind
                    have hfl : fltT (σ 112) len = (pS (σ 112) len n (zr (σ 113) 50) (j + 1)).1 := by rw [fltT, if_pos (by omega), if_pos (by omega), hnt, hind.1, if_neg hno]
                    refine lv_aload_n hx hb dX6_readProgram_82 rfl (lv_at hl 2 rfl) ?_
                    refine g_geti (k := 3) hx hb hts hown hK hB cf6 (by decide) rfl (by decide) kw_662 rfl dX6_readProgram_83 ?_
                    refine z_top (b := (pS (σ 112) len n (zr (σ 113) 50) (j + 1)).1) (by rw [hpl1.2 hno, hnx]; exact hp6.2.1) ?_
                    exact g_iret hx hb hr hlk hB dX6_readProgram_86 (by have := hpl1.2 hno; constructor <;> omega) (⟨⟨hfl.symm, fun h => absurd h hno⟩, hf.tr hf6, rfl⟩)
            exact loop68 _ 0 σ4 _ _ _ (Nat.lt_succ_self _) (by omega) rfl (by rw [hσ4, up2_eq]; rfl) (by rw [hσ4, up2_row _ _ (by decide), hrow, show i = 50 by omega]; rfl) (by rw [hσ4]; exact hf.tr (fr.up rfl)) hB (lv_sub hl [0, 1, 2] rfl)
          · refine lv_iconst (v := iZ 1) hx hb dX6_readProgram_59 rfl ?_
            exact g_iret hx hb hr hlk hB dX6_readProgram_60 ⟨by decide, by decide⟩ (⟨⟨by rw [fltT, if_pos (by omega), if_neg (by omega)], fun h => absurd h (by decide)⟩, hf, rfl⟩)
        · refine lv_iconst (v := iZ 0) hx hb dX6_readProgram_36 rfl ?_
          exact g_iret hx hb hr hlk hB dX6_readProgram_37 ⟨by decide, by decide⟩ (⟨⟨by rw [fltT, if_neg (by omega)], fun h => absurd h (by decide)⟩, hf, rfl⟩)
      · refine lv_aload_n hx hb dX6_readProgram_13 rfl (lv_at hl 1 rfl) ?_
        refine g_getr (k := 4) (j := 113) hx hb hts hown hK hθ hB cf6 (by decide) rfl (by decide) kw_663 rfl rfl dX6_readProgram_14 ?_
        refine lv_iload_n hx hb dX6_readProgram_17 rfl (lv_at hl 0 rfl) ?_
        refine lv_iconst (v := iZ 0) hx hb dX6_readProgram_18 rfl ?_
        refine g_iast (k := i) hx hb hK hθ hB (by decide) rfl (by omega) (Nat.lt_of_lt_of_eq (by omega : i < 50) (Eq.symm rfl)) (by decide) ⟨by decide, by decide⟩ dX6_readProgram_19 (fun H locs hB => ?_)
        obtain ⟨σ3, hσ3⟩ : ∃ x_ : gS, x_ = up2 σ2 113 i 0 := ⟨_, rfl⟩
        rw [← hσ3] at hB
        have hR := hB.1.2
        refine z_iinc (k := 0) (lv' := [(1, .int (iZ (((i : Nat) : Int) + 1))), (0, .ref (tad θ 111))]) hx hb dX6_readProgram_20 hl rfl (by decide) rfl (fun ls hl => ?_)
        have hl : lv_has ls 3 [(1, .int (iZ (((i + 1) : Nat) : Int))), (0, .ref (tad θ 111))] := by have e9 : (((i : Nat) : Int) + 1) = (((i + 1) : Nat) : Int) := (by omega); rw [e9] at hl; exact hl
        refine lv_goto (tgt := 7) hx hb dX6_readProgram_23 (by decide) ?_
        exact ih7 (i + 1) σ3 _ _ _ (by omega) (by omega) (by rw [hσ3, up2_row_eq, hrow, zr_step]) (by rw [hσ3]; exact hf.tr (fr.up rfl)) hB (lv_sub hl [0, 1] rfl)
  exact loop7 _ 0 σ1 _ _ _ (Nat.lt_succ_self _) (by omega) (by rw [hσ1, up2_row _ _ (by decide), zr_0]) (by rw [hσ1]; exact fr.up rfl) hB (lv_sub hl [0, 1] rfl)
set_option maxHeartbeats 4000000 in
set_option maxRecDepth 100000 in
theorem mX6_fault (l : Launch) (θ : gT) (hθ : gOK θ) (σ : gS) (z : gZ) (len : Nat) (hlen : σ 111 2 = (len : Int)) (hx0 : txOK (σ 112) len) : GI l θ yX6_fault cX6_fault 1 (some .int) 3 72 [.ref (tad θ 111)] σ z (fun q σ' z' => (q = fltT (σ 112) len ∧ (q = -9 → σ' 113 = rowT (σ 112) len (zr (σ 113) 50))) ∧ fr wPub σ σ' ∧ z' = z) := by
  refine g_enter (ret := (some .int)) (by decide +kernel) (Nat.le_of_ble_eq_true rfl) ?_
  intro p e s m args below meth c ls F hB hl
  obtain ⟨hx, hb, hr, hml, hown, hts, hlk, hK, hst⟩ := F
  have hR := hB.1.2
  have hl : lv_has ls 1 [(0, .ref (tad θ 111))] := hl
  refine lv_aload_n hx hb dX6_fault_0 rfl (lv_at hl 0 rfl) ?_
  refine lv_iconst (v := iZ 0) hx hb dX6_fault_1 rfl ?_
  refine g_putI (k := 0) hx hb hts hown hK hθ hB cf6 tyX6 tyX6_ok (by decide) rfl (by decide) kw_659 rfl rfl rfl ⟨by decide, by decide⟩ dX6_fault_2 (fun H locs hB => ?_)
  obtain ⟨σ1, hσ1⟩ : ∃ x_ : gS, x_ = up2 σ 111 0 0 := ⟨_, rfl⟩
  rw [← hσ1] at hB
  have hR := hB.1.2
  refine lv_aload_n hx hb dX6_fault_5 rfl (lv_at hl 0 rfl) ?_
  refine g_calli (g_runV (i := 111) (As := []) (rest := []) hx hb hml hown hts hK hst hB (mX6_readProgram l θ hθ σ1 z len (by rw [hσ1, up2_k _ _ (by decide)]; exact hlen) (by rw [hσ1, up2_row _ _ (by decide)]; exact hx0)) mv_X6_readProgram kw_760 cf6 (by decide) rfl rfl hl.1 rfl (Nat.le_of_ble_eq_true rfl) ⟨by decide, by decide⟩ ⟨Nat.le_refl _, Nat.le_refl _⟩ dX6_fault_6) hB (fun q_2 σ2 z_1 H locs hq_2 hp2 hB => ?_)
  obtain ⟨hp2, hf2, e2_⟩ := hp2
  rw [e2_] at hB
  clear e2_
  have hR := hB.1.2
  rw [hσ1, up2_row _ _ (by decide), up2_row _ _ (by decide)] at hp2
  exact g_iret hx hb hr hlk hB dX6_fault_9 ⟨by omega, by omega⟩ (⟨hp2, by rw [hσ1] at hf2; exact (fr.up rfl : fr wPub σ (up2 σ 111 0 0)).tr (hf2.mono (fun i k h => by simp [wRd] at h; simp [wPub]; omega)), rfl⟩)
