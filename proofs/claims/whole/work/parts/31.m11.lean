set_option maxHeartbeats 4000000 in
set_option maxRecDepth 100000 in
theorem mX6_about (l : Launch) (θ : gT) (hθ : gOK θ) (σ : gS) (z : gZ) (hW : Wf (σ 114)) (N : Nat) (hN : σ 114 0 = (N : Int)) (what : Int) (hwr : rg what) : GI l θ yX6_about cX6_about 2 (some .int) 6 141 [.ref (tad θ 111), .int (iZ what)] σ z (fun q σ' z' => abP (σ 114) N (σ 111 8) (σ 111 11) (σ 111 2) what q ∧ fr wSc σ σ' ∧ z' = z) := by
  refine g_enter (ret := (some .int)) (by decide +kernel) (Nat.le_of_ble_eq_true rfl) ?_
  intro p e s m args below meth c ls F hB hl
  obtain ⟨hx, hb, hr, hml, hown, hts, hlk, hK, hst⟩ := F
  have hR := hB.1.2
  have hl : lv_has ls 2 [(0, .ref (tad θ 111)), (1, .int (iZ what))] := hl
  refine lv_aload_n hx hb dX6_about_0 rfl (lv_at hl 0 rfl) ?_
  refine lv_iconst (v := iZ 0) hx hb dX6_about_1 rfl ?_
  refine g_putI (k := 0) hx hb hts hown hK hθ hB cf6 tyX6 tyX6_ok (by decide) rfl (by decide) kw_659 rfl rfl rfl ⟨by decide, by decide⟩ dX6_about_2 (fun H locs hB => ?_)
  obtain ⟨σ1, hσ1⟩ : ∃ x_ : gS, x_ = up2 σ 111 0 0 := ⟨_, rfl⟩
  rw [← hσ1] at hB
  have hR := hB.1.2
  refine lv_aload_n hx hb dX6_about_5 rfl (lv_at hl 0 rfl) ?_
  refine lv_aload_n hx hb dX6_about_6 rfl (lv_at hl 0 rfl) ?_
  refine g_getr (k := 5) (j := 114) hx hb hts hown hK hθ hB cf6 (by decide) rfl (by decide) kw_664 rfl rfl dX6_about_7 ?_
  refine g_callv (g_runV (i := 111) (As := [.ref (tad θ 114)]) (rest := []) hx hb hml hown hts hK hst hB (mX6_find l θ hθ σ1 z (by rw [hσ1, up2_row _ _ (by decide)]; exact hW) N (by rw [hσ1, up2_row _ _ (by decide)]; exact hN)) mv_X6_find kw_793 cf6 (by decide) rfl rfl hl.1 rfl (Nat.le_of_ble_eq_true rfl) ⟨by decide, by decide⟩ ⟨Nat.le_refl _, Nat.le_refl _⟩ dX6_about_10) hB (fun σ2 z_1 H locs hp2 hB => ?_)
  obtain ⟨hp2, hf2, e2_⟩ := hp2
  rw [e2_] at hB
  clear e2_
  have hR := hB.1.2
  rw [hσ1, up2_row _ _ (by decide)] at hp2
  have hfs : fr wSc σ σ2 := ((by rw [hσ1]; exact fr.up rfl : fr wSc σ σ1)).tr (hf2.mono sc_an)
  have hg2 : σ2 114 = σ 114 := by rw [hf2.row (fun k => rfl), hσ1, up2_row _ _ (by decide)]
  have hgr := hW.1
  refine lv_iload_n hx hb dX6_about_13 rfl (lv_at hl 1 rfl) ?_
  rcases (show (what < 0 ∨ 9 < what) ∨ what = 0 ∨ what = 1 ∨ what = 2 ∨ what = 3 ∨ what = 4 ∨ what = 5 ∨ what = 6 ∨ what = 7 ∨ what = 8 ∨ what = 9 by omega) with c_3 | c_3 | c_3 | c_3 | c_3 | c_3 | c_3 | c_3 | c_3 | c_3 | c_3
  · refine z_tabOut (tgt := 131) hx hb dX6_about_14 ⟨by omega, by omega⟩ c_3 (by decide) ?_
    refine lv_bipush (v := iZ (-2)) hx hb dX6_about_131 (by decide) ?_
    exact g_iret hx hb hr hlk hB dX6_about_133 ⟨by decide, by decide⟩ (⟨⟨_, _, _, hp2.v, Or.inr (Or.inr (Or.inr (Or.inr (Or.inr (Or.inr (Or.inr (Or.inr (Or.inr (Or.inr (⟨by omega, rfl⟩))))))))))⟩, hfs, rfl⟩)
  · refine z_tabIn (v := 0) (off := 54) (tgt := 68) hx hb dX6_about_14 c_3 ⟨by decide, by decide⟩ (by decide) (by decide) rfl (by decide) ?_
    have hxk := c_3
    subst hxk
    refine lv_aload_n hx hb dX6_about_68 rfl (lv_at hl 0 rfl) ?_
    refine g_getr (k := 5) (j := 114) hx hb hts hown hK hθ hB cf6 (by decide) rfl (by decide) kw_664 rfl rfl dX6_about_69 ?_
    refine lv_iconst (v := iZ 0) hx hb dX6_about_72 rfl ?_
    refine g_iald (k := 0) hx hb hK hB (by decide) rfl (by omega) (Nat.lt_of_lt_of_eq (by omega : 0 < 50) (Eq.symm rfl)) (by decide) dX6_about_73 ?_
    refine z_top (b := (σ 114 0)) (by rw [hg2]) ?_
    exact g_iret hx hb hr hlk hB dX6_about_74 ⟨by omega, by omega⟩ (⟨⟨_, _, _, hp2.v, Or.inl ⟨rfl, rfl⟩⟩, hfs, rfl⟩)
  · refine z_tabIn (v := 1) (off := 61) (tgt := 75) hx hb dX6_about_14 c_3 ⟨by decide, by decide⟩ (by decide) (by decide) rfl (by decide) ?_
    have hxk := c_3
    subst hxk
    refine lv_aload_n hx hb dX6_about_75 rfl (lv_at hl 0 rfl) ?_
    refine g_geti (k := 19) hx hb hts hown hK hB cf6 (by decide) rfl (by decide) kw_678 rfl dX6_about_76 ?_
    have hr_4 := hR 111 19
    exact g_iret hx hb hr hlk hB dX6_about_79 ⟨by omega, by omega⟩ (⟨⟨_, _, _, hp2.v, Or.inr (Or.inl ⟨rfl, rfl⟩)⟩, hfs, rfl⟩)
  · refine z_tabIn (v := 2) (off := 66) (tgt := 80) hx hb dX6_about_14 c_3 ⟨by decide, by decide⟩ (by decide) (by decide) rfl (by decide) ?_
    have hxk := c_3
    subst hxk
    refine lv_aload_n hx hb dX6_about_80 rfl (lv_at hl 0 rfl) ?_
    refine g_geti (k := 20) hx hb hts hown hK hB cf6 (by decide) rfl (by decide) kw_679 rfl dX6_about_81 ?_
    have hr_5 := hR 111 20
    exact g_iret hx hb hr hlk hB dX6_about_84 ⟨by omega, by omega⟩ (⟨⟨_, _, _, hp2.v, Or.inr (Or.inr (Or.inl ⟨rfl, rfl⟩))⟩, hfs, rfl⟩)
  · refine z_tabIn (v := 3) (off := 71) (tgt := 85) hx hb dX6_about_14 c_3 ⟨by decide, by decide⟩ (by decide) (by decide) rfl (by decide) ?_
    have hxk := c_3
    subst hxk
    refine lv_aload_n hx hb dX6_about_85 rfl (lv_at hl 0 rfl) ?_
    refine g_geti (k := 21) hx hb hts hown hK hB cf6 (by decide) rfl (by decide) kw_680 rfl dX6_about_86 ?_
    have hr_6 := hR 111 21
    exact g_iret hx hb hr hlk hB dX6_about_89 ⟨by omega, by omega⟩ (⟨⟨_, _, _, hp2.v, Or.inr (Or.inr (Or.inr (Or.inl ⟨rfl, rfl⟩)))⟩, hfs, rfl⟩)
  · refine z_tabIn (v := 4) (off := 76) (tgt := 90) hx hb dX6_about_14 c_3 ⟨by decide, by decide⟩ (by decide) (by decide) rfl (by decide) ?_
    have hxk := c_3
    subst hxk
    refine lv_aload_n hx hb dX6_about_90 rfl (lv_at hl 0 rfl) ?_
    refine g_calli (g_runV (i := 111) (As := []) (rest := []) hx hb hml hown hts hK hst hB (mX6_isSound l θ hθ σ2 z ) mv_X6_isSound kw_853 cf6 (by decide) rfl rfl hl.1 rfl (Nat.le_of_ble_eq_true rfl) ⟨by decide, by decide⟩ ⟨Nat.le_refl _, Nat.le_refl _⟩ dX6_about_91) hB (fun qs σ_7 z_8 H locs hqs hps hB => ?_)
    obtain ⟨hps, e1_, e2_⟩ := hps
    rw [e1_, e2_] at hB
    clear e1_ e2_
    rcases hps with ⟨hqa, hsn⟩ | ⟨hqa, hsn⟩
    · subst hqa
      refine z_if_eq (tgt := 101) hx hb dX6_about_94 (by decide) ⟨by decide, by decide⟩ (fun c_9 => ?_) (fun c_9 => ?_)
      · exact absurd c_9 (by decide)
      · refine lv_iconst (v := iZ 1) hx hb dX6_about_97 rfl ?_
        refine lv_goto (tgt := 102) hx hb dX6_about_98 (by decide) ?_
        exact g_iret hx hb hr hlk hB dX6_about_102 ⟨by decide, by decide⟩ (⟨⟨_, _, _, hp2.v, Or.inr (Or.inr (Or.inr (Or.inr (Or.inl ⟨rfl, Or.inl ⟨rfl, (mAn_iff hp2).mp hsn⟩⟩))))⟩, hfs, rfl⟩)
    · subst hqa
      refine z_if_eq (tgt := 101) hx hb dX6_about_94 (by decide) ⟨by decide, by decide⟩ (fun c_10 => ?_) (fun c_10 => ?_)
      · refine lv_iconst (v := iZ 0) hx hb dX6_about_101 rfl ?_
        exact g_iret hx hb hr hlk hB dX6_about_102 ⟨by decide, by decide⟩ (⟨⟨_, _, _, hp2.v, Or.inr (Or.inr (Or.inr (Or.inr (Or.inl ⟨rfl, Or.inr ⟨rfl, fun q => hsn ((mAn_iff hp2).mpr q)⟩⟩))))⟩, hfs, rfl⟩)
      · exact absurd (by decide) c_10
  · refine z_tabIn (v := 5) (off := 89) (tgt := 103) hx hb dX6_about_14 c_3 ⟨by decide, by decide⟩ (by decide) (by decide) rfl (by decide) ?_
    have hxk := c_3
    subst hxk
    refine lv_aload_n hx hb dX6_about_103 rfl (lv_at hl 0 rfl) ?_
    refine g_getr (k := 5) (j := 114) hx hb hts hown hK hθ hB cf6 (by decide) rfl (by decide) kw_664 rfl rfl dX6_about_104 ?_
    refine lv_bipush (v := iZ 49) hx hb dX6_about_107 (by decide) ?_
    refine g_iald (k := 49) hx hb hK hB (by decide) rfl (by omega) (Nat.lt_of_lt_of_eq (by omega : 49 < 50) (Eq.symm rfl)) (by decide) dX6_about_109 ?_
    refine z_top (b := (σ 114 49)) (by rw [hg2]) ?_
    have hr49 := hR 114 49
    rw [hg2] at hr49
    exact g_iret hx hb hr hlk hB dX6_about_110 ⟨by omega, by omega⟩ (⟨⟨_, _, _, hp2.v, Or.inr (Or.inr (Or.inr (Or.inr (Or.inr (Or.inl ⟨rfl, rfl⟩)))))⟩, hfs, rfl⟩)
  · refine z_tabIn (v := 6) (off := 97) (tgt := 111) hx hb dX6_about_14 c_3 ⟨by decide, by decide⟩ (by decide) (by decide) rfl (by decide) ?_
    have hxk := c_3
    subst hxk
    refine lv_aload_n hx hb dX6_about_111 rfl (lv_at hl 0 rfl) ?_
    refine g_calli (g_runV (i := 111) (As := []) (rest := []) hx hb hml hown hts hK hst hB (mX6_there l θ hθ σ2 z (by rw [hg2]; exact hW) N (by rw [hg2]; exact hN)) mv_X6_there kw_861 cf6 (by decide) rfl rfl hl.1 rfl (Nat.le_of_ble_eq_true rfl) ⟨by decide, by decide⟩ ⟨Nat.le_refl _, Nat.le_refl _⟩ dX6_about_112) hB (fun q_13 σ_11 z_12 H locs hq_13 pq_13 hB => ?_)
    obtain ⟨pq_13, e1_, e2_⟩ := pq_13
    rw [e1_, e2_] at hB
    clear e1_ e2_
    subst pq_13
    refine z_top (b := (((thb (σ 114) N) : Nat) : Int)) (by rw [hg2]) ?_
    have htl := thb_lt (σ 114) (s := N) (by omega)
    exact g_iret hx hb hr hlk hB dX6_about_115 ⟨by omega, by omega⟩ (⟨⟨_, _, _, hp2.v, Or.inr (Or.inr (Or.inr (Or.inr (Or.inr (Or.inr (Or.inl ⟨rfl, rfl⟩))))))⟩, hfs, rfl⟩)
  · refine z_tabIn (v := 7) (off := 102) (tgt := 116) hx hb dX6_about_14 c_3 ⟨by decide, by decide⟩ (by decide) (by decide) rfl (by decide) ?_
    have hxk := c_3
    subst hxk
    refine lv_aload_n hx hb dX6_about_116 rfl (lv_at hl 0 rfl) ?_
    refine g_geti (k := 8) hx hb hts hown hK hB cf6 (by decide) rfl (by decide) kw_667 rfl dX6_about_117 ?_
    refine z_top (b := (σ 111 8)) (hfs 111 8 rfl) ?_
    have hr8 := hR 111 8
    rw [hfs 111 8 rfl] at hr8
    exact g_iret hx hb hr hlk hB dX6_about_120 ⟨by omega, by omega⟩ (⟨⟨_, _, _, hp2.v, Or.inr (Or.inr (Or.inr (Or.inr (Or.inr (Or.inr (Or.inr (Or.inl ⟨rfl, rfl⟩)))))))⟩, hfs, rfl⟩)
  · refine z_tabIn (v := 8) (off := 107) (tgt := 121) hx hb dX6_about_14 c_3 ⟨by decide, by decide⟩ (by decide) (by decide) rfl (by decide) ?_
    have hxk := c_3
    subst hxk
    refine lv_aload_n hx hb dX6_about_121 rfl (lv_at hl 0 rfl) ?_
    refine g_geti (k := 11) hx hb hts hown hK hB cf6 (by decide) rfl (by decide) kw_670 rfl dX6_about_122 ?_
    refine z_top (b := (σ 111 11)) (hfs 111 11 rfl) ?_
    have hr8 := hR 111 11
    rw [hfs 111 11 rfl] at hr8
    exact g_iret hx hb hr hlk hB dX6_about_125 ⟨by omega, by omega⟩ (⟨⟨_, _, _, hp2.v, Or.inr (Or.inr (Or.inr (Or.inr (Or.inr (Or.inr (Or.inr (Or.inr (Or.inl ⟨rfl, rfl⟩))))))))⟩, hfs, rfl⟩)
  · refine z_tabIn (v := 9) (off := 112) (tgt := 126) hx hb dX6_about_14 c_3 ⟨by decide, by decide⟩ (by decide) (by decide) rfl (by decide) ?_
    have hxk := c_3
    subst hxk
    refine lv_aload_n hx hb dX6_about_126 rfl (lv_at hl 0 rfl) ?_
    refine g_geti (k := 2) hx hb hts hown hK hB cf6 (by decide) rfl (by decide) kw_661 rfl dX6_about_127 ?_
    refine z_top (b := (σ 111 2)) (hfs 111 2 rfl) ?_
    have hr8 := hR 111 2
    rw [hfs 111 2 rfl] at hr8
    exact g_iret hx hb hr hlk hB dX6_about_130 ⟨by omega, by omega⟩ (⟨⟨_, _, _, hp2.v, Or.inr (Or.inr (Or.inr (Or.inr (Or.inr (Or.inr (Or.inr (Or.inr (Or.inr (Or.inl ⟨rfl, rfl⟩)))))))))⟩, hfs, rfl⟩)
set_option maxHeartbeats 4000000 in
set_option maxRecDepth 100000 in
theorem mX6_stream (l : Launch) (θ : gT) (hθ : gOK θ) (σ : gS) (z : gZ) (hW : Wf (σ 114)) (N : Nat) (hN : σ 114 0 = (N : Int)) (x what : Int) (hxr : rg x) (hwr : rg what) : GI l θ yX6_stream cX6_stream 3 (some .int) 6 141 [.ref (tad θ 111), .int (iZ x), .int (iZ what)] σ z (fun q σ' z' => stP (σ 114) N x what q ∧ fr wSc σ σ' ∧ z' = z) := by
  refine g_enter (ret := (some .int)) (by decide +kernel) (Nat.le_of_ble_eq_true rfl) ?_
  intro p e s m args below meth c ls F hB hl
  obtain ⟨hx, hb, hr, hml, hown, hts, hlk, hK, hst⟩ := F
  have hR := hB.1.2
  have hl : lv_has ls 3 [(0, .ref (tad θ 111)), (1, .int (iZ x)), (2, .int (iZ what))] := hl
  refine lv_aload_n hx hb dX6_stream_0 rfl (lv_at hl 0 rfl) ?_
  refine lv_iconst (v := iZ 0) hx hb dX6_stream_1 rfl ?_
  refine g_putI (k := 0) hx hb hts hown hK hθ hB cf6 tyX6 tyX6_ok (by decide) rfl (by decide) kw_659 rfl rfl rfl ⟨by decide, by decide⟩ dX6_stream_2 (fun H locs hB => ?_)
  obtain ⟨σ1, hσ1⟩ : ∃ x_ : gS, x_ = up2 σ 111 0 0 := ⟨_, rfl⟩
  rw [← hσ1] at hB
  have hR := hB.1.2
  refine lv_aload_n hx hb dX6_stream_5 rfl (lv_at hl 0 rfl) ?_
  refine lv_iload_n hx hb dX6_stream_6 rfl (lv_at hl 1 rfl) ?_
  refine g_calli (g_runV (i := 111) (As := [.int (iZ x)]) (rest := []) hx hb hml hown hts hK hst hB (mX6_noStream l θ hθ σ1 z x ⟨by omega, by omega⟩ (by rw [hσ1, up2_row _ _ (by decide)]; exact hW.1)) mv_X6_noStream kw_869 cf6 (by decide) rfl rfl hl.1 rfl (Nat.le_of_ble_eq_true rfl) ⟨by decide, by decide⟩ ⟨Nat.le_refl _, Nat.le_refl _⟩ dX6_stream_7) hB (fun qn σ_1 z_2 H locs hqn hpn hB => ?_)
  obtain ⟨hpn, e1_, e2_⟩ := hpn
  rw [e1_, e2_] at hB
  clear e1_ e2_
  rw [hσ1, up2_row _ _ (by decide)] at hpn
  have hgr := hW.1
  refine z_if_eq (tgt := 15) hx hb dX6_stream_10 (by decide) ⟨by omega, by omega⟩ (fun c_3 => ?_) (fun c_3 => ?_)
  · obtain ⟨s0, hs0⟩ : ∃ s0 : Nat, x = (s0 : Int) := ⟨x.toNat, by omega⟩
    subst hs0
    have hs8 : s0 < 8 := by omega
    refine lv_aload_n hx hb dX6_stream_15 rfl (lv_at hl 0 rfl) ?_
    refine lv_aload_n hx hb dX6_stream_16 rfl (lv_at hl 0 rfl) ?_
    refine g_getr (k := 5) (j := 114) hx hb hts hown hK hθ hB cf6 (by decide) rfl (by decide) kw_664 rfl rfl dX6_stream_17 ?_
    refine g_callv (g_runV (i := 111) (As := [.ref (tad θ 114)]) (rest := []) hx hb hml hown hts hK hst hB (mX6_find l θ hθ σ1 z (by rw [hσ1, up2_row _ _ (by decide)]; exact hW) N (by rw [hσ1, up2_row _ _ (by decide)]; exact hN)) mv_X6_find kw_793 cf6 (by decide) rfl rfl hl.1 rfl (Nat.le_of_ble_eq_true rfl) ⟨by decide, by decide⟩ ⟨Nat.le_refl _, Nat.le_refl _⟩ dX6_stream_20) hB (fun σ2 z_4 H locs hp2 hB => ?_)
    obtain ⟨hp2, hf2, e2_⟩ := hp2
    rw [e2_] at hB
    clear e2_
    have hR := hB.1.2
    rw [hσ1, up2_row _ _ (by decide)] at hp2
    have hfs : fr wSc σ σ2 := ((by rw [hσ1]; exact fr.up rfl : fr wSc σ σ1)).tr (hf2.mono sc_an)
    have hg2 : σ2 114 = σ 114 := by rw [hf2.row (fun k => rfl), hσ1, up2_row _ _ (by decide)]
    have hgr := hW.1
    refine lv_iload_n hx hb dX6_stream_23 rfl (lv_at hl 2 rfl) ?_
    rcases (show (what < 0 ∨ 4 < what) ∨ what = 0 ∨ what = 1 ∨ what = 2 ∨ what = 3 ∨ what = 4 by omega) with c_6 | c_6 | c_6 | c_6 | c_6 | c_6
    · refine z_tabOut (tgt := 141) hx hb dX6_stream_24 ⟨by omega, by omega⟩ c_6 (by decide) ?_
      refine lv_bipush (v := iZ (-2)) hx hb dX6_stream_141 (by decide) ?_
      exact g_iret hx hb hr hlk hB dX6_stream_143 ⟨by decide, by decide⟩ (⟨Or.inr ⟨s0, rfl, by omega, Or.inr (Or.inr (Or.inl ⟨by omega, rfl⟩))⟩, hfs, rfl⟩)
    · refine z_tabIn (v := 0) (off := 36) (tgt := 60) hx hb dX6_stream_24 c_6 ⟨by decide, by decide⟩ (by decide) (by decide) rfl (by decide) ?_
      have hxk := c_6
      subst hxk
      refine lv_aload_n hx hb dX6_stream_60 rfl (lv_at hl 0 rfl) ?_
      refine g_getr (k := 5) (j := 114) hx hb hts hown hK hθ hB cf6 (by decide) rfl (by decide) kw_664 rfl rfl dX6_stream_61 ?_
      refine lv_iconst (v := iZ 1) hx hb dX6_stream_64 rfl ?_
      refine lv_iload_n hx hb dX6_stream_65 rfl (lv_at hl 1 rfl) ?_
      refine z_iadd hx hb dX6_stream_66 ?_
      refine g_iald (k := (1 + s0)) hx hb hK hB (by decide) rfl (by omega) (Nat.lt_of_lt_of_eq (by omega : (1 + s0) < 50) (Eq.symm rfl)) (by decide) dX6_stream_67 ?_
      refine z_top (b := (σ 114 (1 + s0))) (by rw [hg2]) ?_
      have hr1 := (hW.2 s0 hs8).1
      exact g_iret hx hb hr hlk hB dX6_stream_68 ⟨by omega, by omega⟩ (⟨Or.inr ⟨s0, rfl, by omega, Or.inl ⟨rfl, rfl⟩⟩, hfs, rfl⟩)
    · refine z_tabIn (v := 1) (off := 45) (tgt := 69) hx hb dX6_stream_24 c_6 ⟨by decide, by decide⟩ (by decide) (by decide) rfl (by decide) ?_
      have hxk := c_6
      subst hxk
      refine lv_aload_n hx hb dX6_stream_69 rfl (lv_at hl 0 rfl) ?_
      refine g_geti (k := 19) hx hb hts hown hK hB cf6 (by decide) rfl (by decide) kw_678 rfl dX6_stream_70 ?_
      have hr_7 := hR 111 19
      refine lv_bipush (v := iZ (-9)) hx hb dX6_stream_73 (by decide) ?_
      refine z_icmp_ne (tgt := 86) hx hb dX6_stream_75 (by decide) ⟨by omega, by omega⟩ ⟨by decide, by decide⟩ (fun c_8 => ?_) (fun c_8 => ?_)
      · have hno := hp2.no c_8
        refine lv_bipush (v := iZ (-9)) hx hb dX6_stream_86 (by decide) ?_
        exact g_iret hx hb hr hlk hB dX6_stream_88 ⟨by decide, by decide⟩ (⟨Or.inr ⟨s0, rfl, by omega, Or.inr (Or.inr (Or.inr (Or.inl ⟨by omega, hno, rfl⟩)))⟩, hfs, rfl⟩)
      · obtain ⟨w, ew, hA, hod, hlv⟩ := hp2.w c_8
        have ho := mClk_ok hW (show (N : Int) ≤ σ 114 0 by omega) ew
        refine lv_aload_n hx hb dX6_stream_78 rfl (lv_at hl 0 rfl) ?_
        refine lv_iload_n hx hb dX6_stream_79 rfl (lv_at hl 1 rfl) ?_
        refine g_calli (g_runV (i := 111) (As := [.int (iZ ((s0 : Nat) : Int))]) (rest := []) hx hb hml hown hts hK hst hB (mX6_clocks l θ hθ σ2 z w hA ho s0 hs8) mv_X6_clocks kw_835 cf6 (by decide) rfl rfl hl.1 rfl (Nat.le_of_ble_eq_true rfl) ⟨by decide, by decide⟩ ⟨Nat.le_refl _, Nat.le_refl _⟩ dX6_stream_80) hB (fun q3 σ3 z_9 H locs hq3 hp3 hB => ?_)
        obtain ⟨hp3, hf3, e2_⟩ := hp3
        rw [e2_] at hB
        clear e2_
        have hR := hB.1.2
        obtain ⟨hqd, -⟩ := hp3
        have hdle := dN_le w s0
        have hfs : fr wSc σ σ3 := hfs.tr (hf3.mono sc_127)
        refine lv_goto (tgt := 88) hx hb dX6_stream_83 (by decide) ?_
        exact g_iret hx hb hr hlk hB dX6_stream_88 ⟨by omega, by omega⟩ (⟨Or.inr ⟨s0, rfl, by omega, Or.inr (Or.inr (Or.inr (Or.inr ⟨w, ew, Or.inl ⟨rfl, hqd⟩⟩)))⟩, hfs, rfl⟩)
    · refine z_tabIn (v := 2) (off := 65) (tgt := 89) hx hb dX6_stream_24 c_6 ⟨by decide, by decide⟩ (by decide) (by decide) rfl (by decide) ?_
      have hxk := c_6
      subst hxk
      refine lv_aload_n hx hb dX6_stream_89 rfl (lv_at hl 0 rfl) ?_
      refine g_geti (k := 19) hx hb hts hown hK hB cf6 (by decide) rfl (by decide) kw_678 rfl dX6_stream_90 ?_
      have hr_10 := hR 111 19
      refine lv_bipush (v := iZ (-9)) hx hb dX6_stream_93 (by decide) ?_
      refine z_icmp_ne (tgt := 107) hx hb dX6_stream_95 (by decide) ⟨by omega, by omega⟩ ⟨by decide, by decide⟩ (fun c_11 => ?_) (fun c_11 => ?_)
      · have hno := hp2.no c_11
        refine lv_bipush (v := iZ (-9)) hx hb dX6_stream_107 (by decide) ?_
        exact g_iret hx hb hr hlk hB dX6_stream_109 ⟨by decide, by decide⟩ (⟨Or.inr ⟨s0, rfl, by omega, Or.inr (Or.inr (Or.inr (Or.inl ⟨by omega, hno, rfl⟩)))⟩, hfs, rfl⟩)
      · obtain ⟨w, ew, hA, hod, hlv⟩ := hp2.w c_11
        refine lv_aload_n hx hb dX6_stream_98 rfl (lv_at hl 0 rfl) ?_
        refine g_getr (k := 22) (j := 125) hx hb hts hown hK hθ hB cf6 (by decide) rfl (by decide) kw_681 rfl rfl dX6_stream_99 ?_
        refine lv_iload_n hx hb dX6_stream_102 rfl (lv_at hl 1 rfl) ?_
        refine g_iald (k := s0) hx hb hK hB (by decide) rfl (by omega) (Nat.lt_of_lt_of_eq (by omega : s0 < 8) (Eq.symm rfl)) (by decide) dX6_stream_103 ?_
        refine z_top (b := ((oS (wtN (σ 114) w) N N).2 s0)) (hod s0 hs8) ?_
        have hr1 := hR 125 s0
        rw [hod s0 hs8] at hr1
        refine lv_goto (tgt := 109) hx hb dX6_stream_104 (by decide) ?_
        exact g_iret hx hb hr hlk hB dX6_stream_109 ⟨by omega, by omega⟩ (⟨Or.inr ⟨s0, rfl, by omega, Or.inr (Or.inr (Or.inr (Or.inr ⟨w, ew, Or.inr (Or.inl ⟨rfl, rfl⟩)⟩)))⟩, hfs, rfl⟩)
    · refine z_tabIn (v := 3) (off := 86) (tgt := 110) hx hb dX6_stream_24 c_6 ⟨by decide, by decide⟩ (by decide) (by decide) rfl (by decide) ?_
      have hxk := c_6
      subst hxk
      refine lv_aload_n hx hb dX6_stream_110 rfl (lv_at hl 0 rfl) ?_
      refine g_geti (k := 19) hx hb hts hown hK hB cf6 (by decide) rfl (by decide) kw_678 rfl dX6_stream_111 ?_
      have hr_12 := hR 111 19
      refine lv_bipush (v := iZ (-9)) hx hb dX6_stream_114 (by decide) ?_
      refine z_icmp_ne (tgt := 128) hx hb dX6_stream_116 (by decide) ⟨by omega, by omega⟩ ⟨by decide, by decide⟩ (fun c_13 => ?_) (fun c_13 => ?_)
      · have hno := hp2.no c_13
        refine lv_bipush (v := iZ (-9)) hx hb dX6_stream_128 (by decide) ?_
        exact g_iret hx hb hr hlk hB dX6_stream_130 ⟨by decide, by decide⟩ (⟨Or.inr ⟨s0, rfl, by omega, Or.inr (Or.inr (Or.inr (Or.inl ⟨by omega, hno, rfl⟩)))⟩, hfs, rfl⟩)
      · obtain ⟨w, ew, hA, hod, hlv⟩ := hp2.w c_13
        refine lv_aload_n hx hb dX6_stream_119 rfl (lv_at hl 0 rfl) ?_
        refine g_getr (k := 23) (j := 126) hx hb hts hown hK hθ hB cf6 (by decide) rfl (by decide) kw_682 rfl rfl dX6_stream_120 ?_
        refine lv_iload_n hx hb dX6_stream_123 rfl (lv_at hl 1 rfl) ?_
        refine g_iald (k := s0) hx hb hK hB (by decide) rfl (by omega) (Nat.lt_of_lt_of_eq (by omega : s0 < 8) (Eq.symm rfl)) (by decide) dX6_stream_124 ?_
        refine z_top (b := (lvP (σ 114) N 8 s0)) (hlv s0 hs8) ?_
        have hr1 := hR 126 s0
        rw [hlv s0 hs8] at hr1
        refine lv_goto (tgt := 130) hx hb dX6_stream_125 (by decide) ?_
        exact g_iret hx hb hr hlk hB dX6_stream_130 ⟨by omega, by omega⟩ (⟨Or.inr ⟨s0, rfl, by omega, Or.inr (Or.inr (Or.inr (Or.inr ⟨w, ew, Or.inr (Or.inr ⟨rfl, rfl⟩)⟩)))⟩, hfs, rfl⟩)
    · refine z_tabIn (v := 4) (off := 107) (tgt := 131) hx hb dX6_stream_24 c_6 ⟨by decide, by decide⟩ (by decide) (by decide) rfl (by decide) ?_
      have hxk := c_6
      subst hxk
      refine lv_aload_n hx hb dX6_stream_131 rfl (lv_at hl 0 rfl) ?_
      refine g_getr (k := 5) (j := 114) hx hb hts hown hK hθ hB cf6 (by decide) rfl (by decide) kw_664 rfl rfl dX6_stream_132 ?_
      refine lv_bipush (v := iZ 41) hx hb dX6_stream_135 (by decide) ?_
      refine lv_iload_n hx hb dX6_stream_137 rfl (lv_at hl 1 rfl) ?_
      refine z_iadd hx hb dX6_stream_138 ?_
      refine g_iald (k := (41 + s0)) hx hb hK hB (by decide) rfl (by omega) (Nat.lt_of_lt_of_eq (by omega : (41 + s0) < 50) (Eq.symm rfl)) (by decide) dX6_stream_139 ?_
      refine z_top (b := (σ 114 (41 + s0))) (by rw [hg2]) ?_
      have hr1 := hR 114 (41 + s0)
      rw [hg2] at hr1
      exact g_iret hx hb hr hlk hB dX6_stream_140 ⟨by omega, by omega⟩ (⟨Or.inr ⟨s0, rfl, by omega, Or.inr (Or.inl ⟨rfl, rfl⟩)⟩, hfs, rfl⟩)
  · refine lv_iconst (v := iZ (-1)) hx hb dX6_stream_13 rfl ?_
    exact g_iret hx hb hr hlk hB dX6_stream_14 ⟨by decide, by decide⟩ (⟨Or.inl ⟨by omega, rfl⟩, (by rw [hσ1]; exact fr.up rfl : fr wSc σ σ1), rfl⟩)
set_option maxHeartbeats 4000000 in
set_option maxRecDepth 100000 in
theorem mX6_figure (l : Launch) (θ : gT) (hθ : gOK θ) (σ : gS) (z : gZ) (hW : Wf (σ 114)) (N : Nat) (hN : σ 114 0 = (N : Int)) (x y : Int) (hxr : rg x) (hyr : rg y) : GI l θ yX6_figure cX6_figure 3 (some .int) 2 46 [.ref (tad θ 111), .int (iZ x), .int (iZ y)] σ z (fun q σ' z' => ((¬ (0 ≤ x ∧ x < σ 114 0) ∧ q = -1) ∨ ∃ s : Nat, x = (s : Int) ∧ (s : Int) < σ 114 0 ∧ ((¬ (0 ≤ y ∧ y < (fgz (σ 114 (1 + s)) : Int)) ∧ q = -1) ∨ ∃ i : Nat, y = (i : Int) ∧ i < fgz (σ 114 (1 + s)) ∧ q = σ 114 (9 + 3 * s + i))) ∧ fr wSc σ σ' ∧ z' = z) := by
  refine g_enter (ret := (some .int)) (by decide +kernel) (Nat.le_of_ble_eq_true rfl) ?_
  intro p e s m args below meth c ls F hB hl
  obtain ⟨hx, hb, hr, hml, hown, hts, hlk, hK, hst⟩ := F
  have hR := hB.1.2
  have hl : lv_has ls 3 [(0, .ref (tad θ 111)), (1, .int (iZ x)), (2, .int (iZ y))] := hl
  refine lv_aload_n hx hb dX6_figure_0 rfl (lv_at hl 0 rfl) ?_
  refine lv_iconst (v := iZ 0) hx hb dX6_figure_1 rfl ?_
  refine g_putI (k := 0) hx hb hts hown hK hθ hB cf6 tyX6 tyX6_ok (by decide) rfl (by decide) kw_659 rfl rfl rfl ⟨by decide, by decide⟩ dX6_figure_2 (fun H locs hB => ?_)
  obtain ⟨σ1, hσ1⟩ : ∃ x_ : gS, x_ = up2 σ 111 0 0 := ⟨_, rfl⟩
  rw [← hσ1] at hB
  have hR := hB.1.2
  refine lv_aload_n hx hb dX6_figure_5 rfl (lv_at hl 0 rfl) ?_
  refine lv_iload_n hx hb dX6_figure_6 rfl (lv_at hl 1 rfl) ?_
  refine g_calli (g_runV (i := 111) (As := [.int (iZ x)]) (rest := []) hx hb hml hown hts hK hst hB (mX6_noStream l θ hθ σ1 z x ⟨by omega, by omega⟩ (by rw [hσ1, up2_row _ _ (by decide)]; exact hW.1)) mv_X6_noStream kw_869 cf6 (by decide) rfl rfl hl.1 rfl (Nat.le_of_ble_eq_true rfl) ⟨by decide, by decide⟩ ⟨Nat.le_refl _, Nat.le_refl _⟩ dX6_figure_7) hB (fun qn σ_1 z_2 H locs hqn hpn hB => ?_)
  obtain ⟨hpn, e1_, e2_⟩ := hpn
  rw [e1_, e2_] at hB
  clear e1_ e2_
  rw [hσ1, up2_row _ _ (by decide)] at hpn
  have hgr := hW.1
  refine z_if_ne (tgt := 36) hx hb dX6_figure_10 (by decide) ⟨by omega, by omega⟩ (fun c_3 => ?_) (fun c_3 => ?_)
  · refine lv_iconst (v := iZ (-1)) hx hb dX6_figure_36 rfl ?_
    refine lv_goto (tgt := 53) hx hb dX6_figure_37 (by decide) ?_
    exact g_iret hx hb hr hlk hB dX6_figure_53 ⟨by decide, by decide⟩ (⟨Or.inl ⟨by omega, rfl⟩, (by rw [hσ1]; exact fr.up rfl : fr wSc σ σ1), rfl⟩)
  · obtain ⟨s0, hs0⟩ : ∃ s0 : Nat, x = (s0 : Int) := ⟨x.toNat, by omega⟩
    subst hs0
    have hs8 : s0 < 8 := by omega
    refine lv_iload_n hx hb dX6_figure_13 rfl (lv_at hl 2 rfl) ?_
    refine z_i2l hx hb ⟨by omega, by omega⟩ dX6_figure_14 ?_
    refine lv_lconst (v := lZ 0) hx hb dX6_figure_15 (by decide) ?_
    refine lv_aload_n hx hb dX6_figure_16 rfl (lv_at hl 0 rfl) ?_
    refine g_getr (k := 5) (j := 114) hx hb hts hown hK hθ hB cf6 (by decide) rfl (by decide) kw_664 rfl rfl dX6_figure_17 ?_
    refine lv_iconst (v := iZ 1) hx hb dX6_figure_20 rfl ?_
    refine lv_iload_n hx hb dX6_figure_21 rfl (lv_at hl 1 rfl) ?_
    refine z_iadd hx hb dX6_figure_22 ?_
    refine g_iald (k := (1 + s0)) hx hb hK hB (by decide) rfl (by omega) (Nat.lt_of_lt_of_eq (by omega : (1 + s0) < 50) (Eq.symm rfl)) (by decide) dX6_figure_23 ?_
    refine z_top (b := (σ 114 (1 + s0))) (by rw [hσ1, up2_row _ _ (by decide)]) ?_
    have hKr := (hW.2 s0 hs8).1
    refine g_calli (g_runS (As := [.int (iZ (σ 114 (1 + s0)))]) (rest := [.long (lZ 0), .long (lZ y)]) hx hb hml hown hts hK hst hB (mX6_figures l θ hθ σ1 z (σ 114 (1 + s0)) ⟨by omega, by omega⟩) ms_X6_figures kw_776 rfl hl.1 rfl (Nat.le_of_ble_eq_true rfl) ⟨by decide, by decide⟩ ⟨Nat.le_refl _, Nat.le_refl _⟩ dX6_figure_24) hB (fun qz σ_4 z_5 H locs hqz hpz hB => ?_)
    obtain ⟨hpz, e1_, e2_⟩ := hpz
    rw [e1_, e2_] at hB
    clear e1_ e2_
    have hfz := fgz_of hpz
    have hfi := fgz_in (σ 114 (1 + s0))
    subst hfz
    refine lv_iconst (v := iZ 1) hx hb dX6_figure_27 rfl ?_
    refine z_isub hx hb dX6_figure_28 ?_
    refine z_i2l hx hb ⟨by omega, by omega⟩ dX6_figure_29 ?_
    refine g_calli (g_runS (As := [.long (lZ y), .long (lZ 0), .long (lZ ((((fgz (σ 114 (1 + s0))) : Nat) : Int) - 1))]) (rest := []) hx hb hml hown hts hK hst hB (mX6_in l θ hθ σ1 z y 0 ((((fgz (σ 114 (1 + s0))) : Nat) : Int) - 1) ⟨by omega, by omega⟩ ⟨by omega, by omega⟩ ⟨by omega, by omega⟩) ms_X6_in kw_749 rfl hl.1 rfl (Nat.le_of_ble_eq_true rfl) ⟨by decide, by decide⟩ ⟨Nat.le_refl _, Nat.le_refl _⟩ dX6_figure_30) hB (fun q_8 σ_6 z_7 H locs hq_8 pq_8 hB => ?_)
    obtain ⟨pq_8, e1_, e2_⟩ := pq_8
    rw [e1_, e2_] at hB
    clear e1_ e2_
    refine z_if_ne (tgt := 40) hx hb dX6_figure_33 (by decide) ⟨by omega, by omega⟩ (fun c_9 => ?_) (fun c_9 => ?_)
    · obtain ⟨i0, hi0⟩ : ∃ i0 : Nat, y = (i0 : Int) := ⟨y.toNat, by omega⟩
      subst hi0
      refine lv_aload_n hx hb dX6_figure_40 rfl (lv_at hl 0 rfl) ?_
      refine g_getr (k := 5) (j := 114) hx hb hts hown hK hθ hB cf6 (by decide) rfl (by decide) kw_664 rfl rfl dX6_figure_41 ?_
      refine lv_bipush (v := iZ 9) hx hb dX6_figure_44 (by decide) ?_
      refine lv_iconst (v := iZ 3) hx hb dX6_figure_46 rfl ?_
      refine lv_iload_n hx hb dX6_figure_47 rfl (lv_at hl 1 rfl) ?_
      refine z_imul hx hb dX6_figure_48 ?_
      refine z_iadd hx hb dX6_figure_49 ?_
      refine lv_iload_n hx hb dX6_figure_50 rfl (lv_at hl 2 rfl) ?_
      refine z_iadd hx hb dX6_figure_51 ?_
      refine g_iald (k := ((9 + (3 * s0)) + i0)) hx hb hK hB (by decide) rfl (by omega) (Nat.lt_of_lt_of_eq (by omega : ((9 + (3 * s0)) + i0) < 50) (Eq.symm rfl)) (by decide) dX6_figure_52 ?_
      refine z_top (b := (σ 114 (9 + 3 * s0 + i0))) (by rw [hσ1, up2_row _ _ (by decide)]) ?_
      have hFr := ((hW.2 s0 hs8).2 i0 (by omega)).1
      exact g_iret hx hb hr hlk hB dX6_figure_53 ⟨by omega, by omega⟩ (⟨Or.inr ⟨s0, rfl, by omega, Or.inr ⟨i0, rfl, by omega, rfl⟩⟩, (by rw [hσ1]; exact fr.up rfl : fr wSc σ σ1), rfl⟩)
    · refine lv_iconst (v := iZ (-1)) hx hb dX6_figure_36 rfl ?_
      refine lv_goto (tgt := 53) hx hb dX6_figure_37 (by decide) ?_
      exact g_iret hx hb hr hlk hB dX6_figure_53 ⟨by decide, by decide⟩ (⟨Or.inr ⟨s0, rfl, by omega, Or.inl ⟨by omega, rfl⟩⟩, (by rw [hσ1]; exact fr.up rfl : fr wSc σ σ1), rfl⟩)
set_option maxHeartbeats 4000000 in
set_option maxRecDepth 100000 in
theorem mX6_clock (l : Launch) (θ : gT) (hθ : gOK θ) (σ : gS) (z : gZ) (hW : Wf (σ 114)) (N : Nat) (hN : σ 114 0 = (N : Int)) (x y : Int) (hxr : rg x) (hyr : rg y) : GI l θ yX6_clock cX6_clock 4 (some .int) 6 141 [.ref (tad θ 111), .int (iZ x), .int (iZ y)] σ z (fun q σ' z' => ckP (σ 114) N x y q ∧ fr wSc σ σ' ∧ z' = z) := by
  refine g_enter (ret := (some .int)) (by decide +kernel) (Nat.le_of_ble_eq_true rfl) ?_
  intro p e s m args below meth c ls F hB hl
  obtain ⟨hx, hb, hr, hml, hown, hts, hlk, hK, hst⟩ := F
  have hR := hB.1.2
  have hl : lv_has ls 4 [(0, .ref (tad θ 111)), (1, .int (iZ x)), (2, .int (iZ y))] := hl
  refine lv_aload_n hx hb dX6_clock_0 rfl (lv_at hl 0 rfl) ?_
  refine lv_iconst (v := iZ 0) hx hb dX6_clock_1 rfl ?_
  refine g_putI (k := 0) hx hb hts hown hK hθ hB cf6 tyX6 tyX6_ok (by decide) rfl (by decide) kw_659 rfl rfl rfl ⟨by decide, by decide⟩ dX6_clock_2 (fun H locs hB => ?_)
  obtain ⟨σ1, hσ1⟩ : ∃ x_ : gS, x_ = up2 σ 111 0 0 := ⟨_, rfl⟩
  rw [← hσ1] at hB
  have hR := hB.1.2
  refine lv_aload_n hx hb dX6_clock_5 rfl (lv_at hl 0 rfl) ?_
  refine lv_iload_n hx hb dX6_clock_6 rfl (lv_at hl 1 rfl) ?_
  refine g_calli (g_runV (i := 111) (As := [.int (iZ x)]) (rest := []) hx hb hml hown hts hK hst hB (mX6_noStream l θ hθ σ1 z x ⟨by omega, by omega⟩ (by rw [hσ1, up2_row _ _ (by decide)]; exact hW.1)) mv_X6_noStream kw_869 cf6 (by decide) rfl rfl hl.1 rfl (Nat.le_of_ble_eq_true rfl) ⟨by decide, by decide⟩ ⟨Nat.le_refl _, Nat.le_refl _⟩ dX6_clock_7) hB (fun qn σ_1 z_2 H locs hqn hpn hB => ?_)
  obtain ⟨hpn, e1_, e2_⟩ := hpn
  rw [e1_, e2_] at hB
  clear e1_ e2_
  rw [hσ1, up2_row _ _ (by decide)] at hpn
  have hgr := hW.1
  refine z_if_eq (tgt := 15) hx hb dX6_clock_10 (by decide) ⟨by omega, by omega⟩ (fun c_3 => ?_) (fun c_3 => ?_)
  · obtain ⟨s0, hs0⟩ : ∃ s0 : Nat, x = (s0 : Int) := ⟨x.toNat, by omega⟩
    subst hs0
    have hs8 : s0 < 8 := by omega
    refine lv_aload_n hx hb dX6_clock_15 rfl (lv_at hl 0 rfl) ?_
    refine lv_aload_n hx hb dX6_clock_16 rfl (lv_at hl 0 rfl) ?_
    refine g_getr (k := 5) (j := 114) hx hb hts hown hK hθ hB cf6 (by decide) rfl (by decide) kw_664 rfl rfl dX6_clock_17 ?_
    refine g_callv (g_runV (i := 111) (As := [.ref (tad θ 114)]) (rest := []) hx hb hml hown hts hK hst hB (mX6_find l θ hθ σ1 z (by rw [hσ1, up2_row _ _ (by decide)]; exact hW) N (by rw [hσ1, up2_row _ _ (by decide)]; exact hN)) mv_X6_find kw_793 cf6 (by decide) rfl rfl hl.1 rfl (Nat.le_of_ble_eq_true rfl) ⟨by decide, by decide⟩ ⟨Nat.le_refl _, Nat.le_refl _⟩ dX6_clock_20) hB (fun σ2 z_4 H locs hp2 hB => ?_)
    obtain ⟨hp2, hf2, e2_⟩ := hp2
    rw [e2_] at hB
    clear e2_
    have hR := hB.1.2
    rw [hσ1, up2_row _ _ (by decide)] at hp2
    have hfs : fr wSc σ σ2 := ((by rw [hσ1]; exact fr.up rfl : fr wSc σ σ1)).tr (hf2.mono sc_an)
    have hg2 : σ2 114 = σ 114 := by rw [hf2.row (fun k => rfl), hσ1, up2_row _ _ (by decide)]
    have hgr := hW.1
    refine lv_aload_n hx hb dX6_clock_23 rfl (lv_at hl 0 rfl) ?_
    refine g_geti (k := 19) hx hb hts hown hK hB cf6 (by decide) rfl (by decide) kw_678 rfl dX6_clock_24 ?_
    have hr_6 := hR 111 19
    refine lv_bipush (v := iZ (-9)) hx hb dX6_clock_27 (by decide) ?_
    refine z_icmp_ne (tgt := 40) hx hb dX6_clock_29 (by decide) ⟨by omega, by omega⟩ ⟨by decide, by decide⟩ (fun c_7 => ?_) (fun c_7 => ?_)
    · have hno := hp2.no c_7
      refine lv_iconst (v := iZ 0) hx hb dX6_clock_40 rfl ?_
      refine lv_istore_n (lv' := [(3, .int (iZ 0)), (0, .ref (tad θ 111)), (1, .int (iZ ((s0 : Nat) : Int))), (2, .int (iZ y))]) hx hb dX6_clock_41 rfl hl (by decide) rfl (fun ls hl => ?_)
      refine lv_iload_n hx hb dX6_clock_42 rfl (lv_at hl 3 rfl) ?_
      refine z_i2l hx hb ⟨by omega, by omega⟩ dX6_clock_43 ?_
      refine lv_lconst (v := lZ 0) hx hb dX6_clock_44 (by decide) ?_
      refine lv_iload_n hx hb dX6_clock_45 rfl (lv_at hl 0 rfl) ?_
      refine lv_iconst (v := iZ 1) hx hb dX6_clock_46 rfl ?_
      refine z_isub hx hb dX6_clock_47 ?_
      refine z_i2l hx hb ⟨by omega, by omega⟩ dX6_clock_48 ?_
      refine g_calli (g_runS (As := [.long (lZ y), .long (lZ 0), .long (lZ (0 - 1))]) (rest := []) hx hb hml hown hts hK hst hB (mX6_in l θ hθ σ2 z y 0 (0 - 1) ⟨by omega, by omega⟩ ⟨by omega, by omega⟩ ⟨by omega, by omega⟩) ms_X6_in kw_749 rfl hl.1 rfl (Nat.le_of_ble_eq_true rfl) ⟨by decide, by decide⟩ ⟨Nat.le_refl _, Nat.le_refl _⟩ dX6_clock_49) hB (fun q_10 σ_8 z_9 H locs hq_10 pq_10 hB => ?_)
      obtain ⟨pq_10, e1_, e2_⟩ := pq_10
      rw [e1_, e2_] at hB
      clear e1_ e2_
      refine z_if_eq (tgt := 68) hx hb dX6_clock_52 (by decide) ⟨by omega, by omega⟩ (fun c_11 => ?_) (fun c_11 => ?_)
      · refine lv_iconst (v := iZ (-1)) hx hb dX6_clock_68 rfl ?_
        exact g_iret hx hb hr hlk hB dX6_clock_69 ⟨by decide, by decide⟩ (⟨Or.inr ⟨s0, rfl, by omega, Or.inl ⟨hno, rfl⟩⟩, hfs, rfl⟩)
      · (exfalso; omega)
    · obtain ⟨w, ew, hA, hod, hlv⟩ := hp2.w c_7
      have ho := mClk_ok hW (show (N : Int) ≤ σ 114 0 by omega) ew
      refine lv_aload_n hx hb dX6_clock_32 rfl (lv_at hl 0 rfl) ?_
      refine lv_iload_n hx hb dX6_clock_33 rfl (lv_at hl 1 rfl) ?_
      refine g_calli (g_runV (i := 111) (As := [.int (iZ ((s0 : Nat) : Int))]) (rest := []) hx hb hml hown hts hK hst hB (mX6_clocks l θ hθ σ2 z w hA ho s0 hs8) mv_X6_clocks kw_835 cf6 (by decide) rfl rfl hl.1 rfl (Nat.le_of_ble_eq_true rfl) ⟨by decide, by decide⟩ ⟨Nat.le_refl _, Nat.le_refl _⟩ dX6_clock_34) hB (fun q3 σ3 z_12 H locs hq3 hp3 hB => ?_)
      obtain ⟨hp3, hf3, e2_⟩ := hp3
      rw [e2_] at hB
      clear e2_
      have hR := hB.1.2
      obtain ⟨hqd, hch⟩ := hp3
      have hdle := dN_le w s0
      subst hqd
      have hfs : fr wSc σ σ3 := hfs.tr (hf3.mono sc_127)
      refine lv_goto (tgt := 41) hx hb dX6_clock_37 (by decide) ?_
      refine lv_istore_n (lv' := [(3, .int (iZ (((dN w s0) : Nat) : Int))), (0, .ref (tad θ 111)), (1, .int (iZ ((s0 : Nat) : Int))), (2, .int (iZ y))]) hx hb dX6_clock_41 rfl hl (by decide) rfl (fun ls hl => ?_)
      refine lv_iload_n hx hb dX6_clock_42 rfl (lv_at hl 3 rfl) ?_
      refine z_i2l hx hb ⟨by omega, by omega⟩ dX6_clock_43 ?_
      refine lv_lconst (v := lZ 0) hx hb dX6_clock_44 (by decide) ?_
      refine lv_iload_n hx hb dX6_clock_45 rfl (lv_at hl 0 rfl) ?_
      refine lv_iconst (v := iZ 1) hx hb dX6_clock_46 rfl ?_
      refine z_isub hx hb dX6_clock_47 ?_
      refine z_i2l hx hb ⟨by omega, by omega⟩ dX6_clock_48 ?_
      refine g_calli (g_runS (As := [.long (lZ y), .long (lZ 0), .long (lZ ((((dN w s0) : Nat) : Int) - 1))]) (rest := []) hx hb hml hown hts hK hst hB (mX6_in l θ hθ σ3 z y 0 ((((dN w s0) : Nat) : Int) - 1) ⟨by omega, by omega⟩ ⟨by omega, by omega⟩ ⟨by omega, by omega⟩) ms_X6_in kw_749 rfl hl.1 rfl (Nat.le_of_ble_eq_true rfl) ⟨by decide, by decide⟩ ⟨Nat.le_refl _, Nat.le_refl _⟩ dX6_clock_49) hB (fun q_15 σ_13 z_14 H locs hq_15 pq_15 hB => ?_)
      obtain ⟨pq_15, e1_, e2_⟩ := pq_15
      rw [e1_, e2_] at hB
      clear e1_ e2_
      refine z_if_eq (tgt := 68) hx hb dX6_clock_52 (by decide) ⟨by omega, by omega⟩ (fun c_16 => ?_) (fun c_16 => ?_)
      · refine lv_iconst (v := iZ (-1)) hx hb dX6_clock_68 rfl ?_
        exact g_iret hx hb hr hlk hB dX6_clock_69 ⟨by decide, by decide⟩ (⟨Or.inr ⟨s0, rfl, by omega, Or.inr ⟨w, ew, Or.inl ⟨by omega, rfl⟩⟩⟩, hfs, rfl⟩)
      · obtain ⟨e0, he0⟩ : ∃ e0 : Nat, y = (e0 : Int) := ⟨y.toNat, by omega⟩
        subst he0
        refine lv_aload_n hx hb dX6_clock_55 rfl (lv_at hl 1 rfl) ?_
        refine g_getr (k := 24) (j := 127) hx hb hts hown hK hθ hB cf6 (by decide) rfl (by decide) kw_683 rfl rfl dX6_clock_56 ?_
        refine lv_iload_n hx hb dX6_clock_59 rfl (lv_at hl 0 rfl) ?_
        refine lv_iconst (v := iZ 1) hx hb dX6_clock_60 rfl ?_
        refine z_isub hx hb dX6_clock_61 ?_
        refine lv_iload_n hx hb dX6_clock_62 rfl (lv_at hl 3 rfl) ?_
        refine z_isub hx hb dX6_clock_63 ?_
        refine g_iald (k := (dN w s0 - 1 - e0)) hx hb hK hB (by decide) rfl (by omega) (Nat.lt_of_lt_of_eq (by omega : (dN w s0 - 1 - e0) < 8) (Eq.symm rfl)) (by decide) dX6_clock_64 ?_
        refine z_top (b := (w.2 (xs w s0 (dN w s0 - 1 - e0)))) (hch _ (by omega)) ?_
        have hxr2 := ho.2.1 _ (xs_lt ho hs8 (dN w s0 - 1 - e0))
        refine lv_goto (tgt := 69) hx hb dX6_clock_65 (by decide) ?_
        exact g_iret hx hb hr hlk hB dX6_clock_69 ⟨by omega, by omega⟩ (⟨Or.inr ⟨s0, rfl, by omega, Or.inr ⟨w, ew, Or.inr ⟨e0, rfl, by omega, rfl⟩⟩⟩, hfs, rfl⟩)
  · refine lv_iconst (v := iZ (-1)) hx hb dX6_clock_13 rfl ?_
    exact g_iret hx hb hr hlk hB dX6_clock_14 ⟨by decide, by decide⟩ (⟨Or.inl ⟨by omega, rfl⟩, (by rw [hσ1]; exact fr.up rfl : fr wSc σ σ1), rfl⟩)
