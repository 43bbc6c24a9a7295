set_option maxHeartbeats 4000000 in
set_option maxRecDepth 100000 in
theorem mX4_readEquation (l : Launch) (θ : gT) (hθ : gOK θ) (σ : gS) (z : gZ) (len : Nat) (hlen : σ 1 1 = (len : Int)) (hx0 : txOK (σ 2) len) (s0 n : Nat) (hs : s0 < 8) (hn : 1 ≤ n ∧ n ≤ 8) (h08 : fp σ 8 0 = (n : Int)) (p0 : Nat) (hp0 : p0 ≤ len) : GI l θ yX4_readEquation cX4_readEquation 8 (some .int) 4 91 [.ref (tad θ 1), .ref (tad θ 8), .int (iZ ((s0 : Nat) : Int)), .int (iZ ((p0 : Nat) : Int))] σ z (fun q σ' z' => (q = (eQc (σ 2) len n s0 p0 (fp σ 8)).1 ∧ fp σ' 8 = (eQc (σ 2) len n s0 p0 (fp σ 8)).2.2) ∧ fr (wF 8) σ σ' ∧ z' = z) := by
  refine g_enter (ret := (some .int)) (by decide +kernel) (Nat.le_of_ble_eq_true rfl) ?_
  intro p e s m args below meth c ls F hB hl
  obtain ⟨hx, hb, hr, hml, hown, hts, hlk, hK, hst⟩ := F
  have hR := hB.1.2
  have hl : lv_has ls 8 [(0, .ref (tad θ 1)), (1, .ref (tad θ 8)), (2, .int (iZ ((s0 : Nat) : Int))), (3, .int (iZ ((p0 : Nat) : Int)))] := hl
  have hl40 := hx0.1
  refine lv_iload_n hx hb dX4_readEquation_0 rfl (lv_at hl 3 rfl) ?_
  refine lv_aload_n hx hb dX4_readEquation_1 rfl (lv_at hl 0 rfl) ?_
  refine g_geti (k := 1) hx hb hts hown hK hB cf4 (by decide) rfl (by decide) kw_32 rfl dX4_readEquation_2 ?_
  refine z_top (b := ((len : Nat) : Int)) (hlen) ?_
  refine z_icmp_lt (tgt := 13) hx hb dX4_readEquation_5 (by decide) ⟨by omega, by omega⟩ ⟨by omega, by omega⟩ (fun c_1 => ?_) (fun c_1 => ?_)
  · have hpl : p0 < len := by omega
    have hlt := hx0.2 p0 hpl
    have hlp := ltr_in1 (txt := σ 2) hpl
    refine g_kld hx hb hown hst dX4_readEquation_13 ?_
    refine lv_aload_n hx hb dX4_readEquation_15 rfl (lv_at hl 0 rfl) ?_
    refine lv_iload_n hx hb dX4_readEquation_16 rfl (lv_at hl 3 rfl) ?_
    refine g_calli (g_runV (i := 1) (As := [.int (iZ ((p0 : Nat) : Int))]) (rest := [.ref (tK θ 0)]) hx hb hml hown hts hK hst hB (mX4_letterAt l θ hθ σ z p0 (by omega)) mv_X4_letterAt kw_217 cf4 (by decide) rfl rfl hl.1 rfl (Nat.le_of_ble_eq_true rfl) ⟨by decide, by decide⟩ ⟨Nat.le_refl _, Nat.le_refl _⟩ dX4_readEquation_17) hB (fun q_4 σ_2 z_3 H locs hq_4 pq_4 hB => ?_)
    obtain ⟨pq_4, e1_, e2_⟩ := pq_4
    rw [e1_, e2_] at hB
    clear e1_ e2_
    subst pq_4
    refine z_i2c hx hb hlt dX4_readEquation_20 ?_
    refine g_calli (g_runK (As := [.int (iZ (σ 2 p0))]) (rest := []) hx hb hml hown hts hK hst hB (mJ0_indexOf_0f7a4 l θ hθ σ z (σ 2 p0) hlt) mv_J0_indexOf_0f7a4 kw_226 rfl hl.1 rfl (Nat.le_of_ble_eq_true rfl) ⟨by decide, by decide⟩ ⟨Nat.le_refl _, Nat.le_refl _⟩ dX4_readEquation_21) hB (fun q_7 σ_5 z_6 H locs hq_7 pq_7 hB => ?_)
    obtain ⟨pq_7, e1_, e2_⟩ := pq_7
    rw [e1_, e2_] at hB
    clear e1_ e2_
    subst pq_7
    have hix := ixC_in (σ 2 p0)
    refine lv_istore (lv' := [(4, .int (iZ (ixC (σ 2 p0)))), (0, .ref (tad θ 1)), (1, .ref (tad θ 8)), (2, .int (iZ ((s0 : Nat) : Int))), (3, .int (iZ ((p0 : Nat) : Int)))]) hx hb dX4_readEquation_24 hl (by decide) rfl (fun ls hl => ?_)
    refine lv_iload hx hb dX4_readEquation_26 (lv_at hl 0 rfl) ?_
    refine z_if_ge (tgt := 33) hx hb dX4_readEquation_28 (by decide) ⟨by omega, by omega⟩ (fun c_8 => ?_) (fun c_8 => ?_)
    · have hxp := ixC_pos c_8
      obtain ⟨K0, hK0⟩ : ∃ K0, K0 = kOf (σ 2 p0) := ⟨_, rfl⟩
      rw [← hK0] at hxp
      have hgo : (eQc (σ 2) len n s0 p0 (fp σ 8)) = (eS (σ 2) len n s0 K0 (p0 + 1) (eqC (fp σ 8) s0 K0 0 0 0) (fgz K0)) := eQc_go (by rw [hlp, hK0]) (by omega)
      have hfz := fgz_in K0
      have hl : lv_has ls 8 [(4, .int (iZ K0)), (0, .ref (tad θ 1)), (1, .ref (tad θ 8)), (2, .int (iZ ((s0 : Nat) : Int))), (3, .int (iZ ((p0 : Nat) : Int)))] := by rw [hxp.1] at hl; exact hl
      refine lv_aload_n hx hb dX4_readEquation_33 rfl (lv_at hl 2 rfl) ?_
      refine lv_iload_n hx hb dX4_readEquation_34 rfl (lv_at hl 3 rfl) ?_
      refine lv_iload hx hb dX4_readEquation_35 (lv_at hl 0 rfl) ?_
      refine lv_iconst (v := iZ 0) hx hb dX4_readEquation_37 rfl ?_
      refine lv_iconst (v := iZ 0) hx hb dX4_readEquation_38 rfl ?_
      refine lv_iconst (v := iZ 0) hx hb dX4_readEquation_39 rfl ?_
      refine g_callv (g_runV (i := 8) (As := [.int (iZ ((s0 : Nat) : Int)), .int (iZ K0), .int (iZ 0), .int (iZ 0), .int (iZ 0)]) (rest := []) hx hb hml hown hts hK hst hB (mX1_equate l θ hθ σ z 8 isF_8 s0 hs K0 0 0 0 ⟨by omega, by omega⟩ ⟨by decide, by decide⟩ ⟨by decide, by decide⟩ ⟨by decide, by decide⟩) mv_X1_equate kw_312 cf1 (by decide) rfl rfl hl.1 rfl (Nat.le_of_ble_eq_true rfl) ⟨by decide, by decide⟩ ⟨Nat.le_refl _, Nat.le_refl _⟩ dX4_readEquation_40) hB (fun σ1 z_9 H locs hp1 hB => ?_)
      obtain ⟨hp1, hf1, e2_⟩ := hp1
      rw [e2_] at hB
      clear e2_
      have hR := hB.1.2
      refine lv_iconst (v := iZ 0) hx hb dX4_readEquation_43 rfl ?_
      refine lv_istore (lv' := [(5, .int (iZ 0)), (4, .int (iZ K0)), (0, .ref (tad θ 1)), (1, .ref (tad θ 8)), (2, .int (iZ ((s0 : Nat) : Int))), (3, .int (iZ ((p0 : Nat) : Int)))]) hx hb dX4_readEquation_44 hl (by decide) rfl (fun ls hl => ?_)
      have loop46 : ∀ (n46 : Nat) (i : Nat) (σ2 : gS) (H : Heap) (locs : List Loc) (ls : Array Slot), 4 - i < n46 → (i ≤ fgz K0) → ((eS (σ 2) len n s0 K0 (p0 + 1) (eqC (fp σ 8) s0 K0 0 0 0) i).1 = -9) → (fp σ2 8 = (eS (σ 2) len n s0 K0 (p0 + 1) (eqC (fp σ 8) s0 K0 0 0 0) i).2.2) → (fr (wF 8) σ σ2) → (p0 + 1 + i ≤ len) →  gB θ σ2 z s.heap H locs → lv_has ls 8 [(5, .int (iZ ((i : Nat) : Int))), (4, .int (iZ K0)), (0, .ref (tad θ 1)), (1, .ref (tad θ 8)), (2, .int (iZ ((s0 : Nat) : Int))), (3, .int (iZ ((p0 : Nat) : Int)))] → W p l e (gRm 4 91) s m args below meth c H locs 0 0 (MQ below (gQi θ (fun q σ' z' => (q = (eQc (σ 2) len n s0 p0 (fp σ 8)).1 ∧ fp σ' 8 = (eQc (σ 2) len n s0 p0 (fp σ 8)).2.2) ∧ fr (wF 8) σ σ' ∧ z' = z)) args s 0 0 (tA θ)) (F0 m 46 ls []) := by
        intro n46
        induction n46 with
        | zero => intro i σ2 H locs ls hmu; exact absurd hmu (Nat.not_lt_zero _)
        | succ n46 ih46 =>
          intro i σ2 H locs ls hmu hi he hg hf hpi hB hl
          have hR := hB.1.2
          have h28 : σ2 8 0 = (n : Int) := by rw [← fp_0 σ2 8, hg, (eS_row i he).1 0 (by omega), eqC_ne (by omega) (by omega)]; exact h08
          refine lv_iload hx hb dX4_readEquation_46 (lv_at hl 0 rfl) ?_
          refine lv_iload hx hb dX4_readEquation_48 (lv_at hl 1 rfl) ?_
          refine g_calli (g_runSN (As := [.int (iZ K0)]) (rest := [.int (iZ ((i : Nat) : Int))]) hx hb hml hown hts hK hst hB (mX5_figuresOf l θ hθ σ2 z K0 ⟨by omega, by omega⟩) ms_X5_figuresOf hst.2.2.1 rfl hl.1 rfl (Nat.le_of_ble_eq_true rfl) ⟨by decide, by decide⟩ ⟨Nat.le_refl _, Nat.le_refl _⟩ dX4_readEquation_50) hB (fun q50 σ_11 z_12 H locs hq50 p50 hB => ?_)
          obtain ⟨p50, e1_, e2_⟩ := p50
          rw [e1_, e2_] at hB
          clear e1_ e2_
          have hq50 : q50 = ((fgz K0 : Nat) : Int) := by omega
          rw [hq50]
          refine z_icmp_ge (tgt := 123) hx hb dX4_readEquation_53 (by decide) ⟨by omega, by omega⟩ ⟨by omega, by omega⟩ (fun c_13 => ?_) (fun c_13 => ?_)
          · refine lv_bipush (v := iZ (-9)) hx hb dX4_readEquation_123 (by decide) ?_
            exact g_iret hx hb hr hlk hB dX4_readEquation_125 ⟨by decide, by decide⟩ (⟨⟨by rw [hgo, show fgz K0 = i by omega, he], by rw [hgo, show fgz K0 = i by omega]; exact hg⟩, hf, rfl⟩)
          · refine lv_iload_n hx hb dX4_readEquation_56 rfl (lv_at hl 5 rfl) ?_
            refine lv_iconst (v := iZ 1) hx hb dX4_readEquation_57 rfl ?_
            refine z_iadd hx hb dX4_readEquation_58 ?_
            refine lv_iload hx hb dX4_readEquation_59 (lv_at hl 0 rfl) ?_
            refine z_iadd hx hb dX4_readEquation_61 ?_
            refine lv_istore (lv' := [(6, .int (iZ ((((p0 : Nat) : Int) + 1) + ((i : Nat) : Int)))), (5, .int (iZ ((i : Nat) : Int))), (4, .int (iZ K0)), (0, .ref (tad θ 1)), (1, .ref (tad θ 8)), (2, .int (iZ ((s0 : Nat) : Int))), (3, .int (iZ ((p0 : Nat) : Int)))]) hx hb dX4_readEquation_62 hl (by decide) rfl (fun ls hl => ?_)
            refine lv_iload hx hb dX4_readEquation_64 (lv_at hl 0 rfl) ?_
            refine lv_aload_n hx hb dX4_readEquation_66 rfl (lv_at hl 3 rfl) ?_
            refine g_geti (k := 1) hx hb hts hown hK hB cf4 (by decide) rfl (by decide) kw_32 rfl dX4_readEquation_67 ?_
            refine z_top (b := ((len : Nat) : Int)) ((hf 1 1 rfl).trans hlen) ?_
            refine z_icmp_lt (tgt := 78) hx hb dX4_readEquation_70 (by decide) ⟨by omega, by omega⟩ ⟨by omega, by omega⟩ (fun c_14 => ?_) (fun c_14 => ?_)
            · have hal : p0 + 1 + i < len := by omega
              have hlt2 := hx0.2 (p0 + 1 + i) hal
              have hlv := ltr_in1 (txt := σ 2) hal
              refine lv_aload_n hx hb dX4_readEquation_78 rfl (lv_at hl 3 rfl) ?_
              refine lv_iload hx hb dX4_readEquation_79 (lv_at hl 0 rfl) ?_
              refine g_calli (g_runV (i := 1) (As := [.int (iZ ((((p0 : Nat) : Int) + 1) + ((i : Nat) : Int)))]) (rest := []) hx hb hml hown hts hK hst hB (mX4_letterAt l θ hθ σ2 z (p0 + 1 + i) (by omega)) mv_X4_letterAt kw_217 cf4 (by decide) rfl rfl hl.1 rfl (Nat.le_of_ble_eq_true rfl) ⟨by decide, by decide⟩ ⟨Nat.le_refl _, Nat.le_refl _⟩ dX4_readEquation_81) hB (fun q_17 σ_15 z_16 H locs hq_17 pq_17 hB => ?_)
              obtain ⟨pq_17, e1_, e2_⟩ := pq_17
              rw [e1_, e2_] at hB
              clear e1_ e2_
              subst pq_17
              refine z_top (b := (σ 2 (p0 + 1 + i))) (hf 2 _ rfl) ?_
              refine lv_bipush (v := iZ 48) hx hb dX4_readEquation_84 (by decide) ?_
              refine z_isub hx hb dX4_readEquation_86 ?_
              refine lv_istore (lv' := [(7, .int (iZ ((σ 2 (p0 + 1 + i)) - 48))), (6, .int (iZ ((((p0 : Nat) : Int) + 1) + ((i : Nat) : Int)))), (5, .int (iZ ((i : Nat) : Int))), (4, .int (iZ K0)), (0, .ref (tad θ 1)), (1, .ref (tad θ 8)), (2, .int (iZ ((s0 : Nat) : Int))), (3, .int (iZ ((p0 : Nat) : Int)))]) hx hb dX4_readEquation_87 hl (by decide) rfl (fun ls hl => ?_)
              refine lv_iload hx hb dX4_readEquation_89 (lv_at hl 3 rfl) ?_
              refine lv_iload hx hb dX4_readEquation_91 (lv_at hl 2 rfl) ?_
              refine lv_iload hx hb dX4_readEquation_93 (lv_at hl 0 rfl) ?_
              refine lv_aload_n hx hb dX4_readEquation_95 rfl (lv_at hl 5 rfl) ?_
              refine g_geti (k := 0) hx hb hts hown hK hB cf1 (by decide) rfl (by decide) kw_51 rfl dX4_readEquation_96 ?_
              refine z_top (b := ((n : Nat) : Int)) (h28) ?_
              refine g_calli (g_runSN (As := [.int (iZ K0), .int (iZ ((i : Nat) : Int)), .int (iZ ((σ 2 (p0 + 1 + i)) - 48)), .int (iZ ((n : Nat) : Int))]) (rest := []) hx hb hml hown hts hK hst hB (mX5_isFigure l θ hθ σ2 z K0 (by omega) i (by omega) (σ 2 (p0 + 1 + i) - 48) (n : Int) ⟨by omega, by omega⟩ (by omega)) ms_X5_isFigure hst.2.2.2.1 rfl hl.1 rfl (Nat.le_of_ble_eq_true rfl) ⟨by decide, by decide⟩ ⟨Nat.le_refl _, Nat.le_refl _⟩ dX4_readEquation_99) hB (fun qf σ_18 z_19 H locs hqf hpf hB => ?_)
              obtain ⟨hpf, e1_, e2_⟩ := hpf
              rw [e1_, e2_] at hB
              clear e1_ e2_
              rcases hpf with ⟨hqf, hfig⟩ | ⟨hqf, hfig⟩
              · subst hqf
                have hv : 0 ≤ ltr (σ 2) len (p0 + 1 + i) - 48 ∧ ltr (σ 2) len (p0 + 1 + i) - 48 ≤ mst K0 (i : Int) (n : Int) := by rw [hlv, ← fgL_mst (show i < fgz K0 by omega)]; exact hfig
                have hfi := fgL_in (K := K0) (i := i) hn
                refine z_if_ne (tgt := 108) hx hb dX4_readEquation_102 (by decide) ⟨by decide, by decide⟩ (fun c_20 => ?_) (fun c_20 => ?_)
                · refine lv_aload_n hx hb dX4_readEquation_108 rfl (lv_at hl 5 rfl) ?_
                  refine lv_iload_n hx hb dX4_readEquation_109 rfl (lv_at hl 6 rfl) ?_
                  refine lv_iload hx hb dX4_readEquation_110 (lv_at hl 2 rfl) ?_
                  refine lv_iload hx hb dX4_readEquation_112 (lv_at hl 0 rfl) ?_
                  refine g_callv (g_runV (i := 8) (As := [.int (iZ ((s0 : Nat) : Int)), .int (iZ ((i : Nat) : Int)), .int (iZ ((σ 2 (p0 + 1 + i)) - 48))]) (rest := []) hx hb hml hown hts hK hst hB (mX1_setPart l θ hθ σ2 z 8 isF_8 s0 hs i (by omega) (σ 2 (p0 + 1 + i) - 48) ⟨by omega, by omega⟩) mv_X1_setPart kw_332 cf1 (by decide) rfl rfl hl.1 rfl (Nat.le_of_ble_eq_true rfl) ⟨by decide, by decide⟩ ⟨Nat.le_refl _, Nat.le_refl _⟩ dX4_readEquation_114) hB (fun σ3 z_21 H locs hp3 hB => ?_)
                  obtain ⟨hp3, hf3, e2_⟩ := hp3
                  rw [e2_] at hB
                  clear e2_
                  have hR := hB.1.2
                  refine z_iinc (k := 2) (lv' := [(5, .int (iZ (((i : Nat) : Int) + 1))), (7, .int (iZ ((σ 2 (p0 + 1 + i)) - 48))), (6, .int (iZ ((((p0 : Nat) : Int) + 1) + ((i : Nat) : Int)))), (4, .int (iZ K0)), (0, .ref (tad θ 1)), (1, .ref (tad θ 8)), (2, .int (iZ ((s0 : Nat) : Int))), (3, .int (iZ ((p0 : Nat) : Int)))]) hx hb dX4_readEquation_117 hl rfl (by decide) rfl (fun ls hl => ?_)
                  have hl : lv_has ls 8 [(5, .int (iZ (((i + 1) : Nat) : Int))), (7, .int (iZ ((σ 2 (p0 + 1 + i)) - 48))), (6, .int (iZ ((((p0 : Nat) : Int) + 1) + ((i : Nat) : Int)))), (4, .int (iZ K0)), (0, .ref (tad θ 1)), (1, .ref (tad θ 8)), (2, .int (iZ ((s0 : Nat) : Int))), (3, .int (iZ ((p0 : Nat) : Int)))] := by have e9 : (((i : Nat) : Int) + 1) = (((i + 1) : Nat) : Int) := (by omega); rw [e9] at hl; exact hl
                  refine lv_goto (tgt := 46) hx hb dX4_readEquation_120 (by decide) ?_
                  exact ih46 (i + 1) σ3 _ _ _ (by omega) (by omega) (by rw [eS_s1 he hv]) (by rw [hp3, hg, eS_s1 he hv, hlv]) (hf.tr hf3) (by omega) hB (lv_sub hl [0, 3, 4, 5, 6, 7] rfl)
                · exact absurd c_20 (by decide)
              · subst hqf
                have hbad := eS_f1 (m := fgz K0) he (by rw [hlv, ← fgL_mst (show i < fgz K0 by omega)]; exact hfig) (by omega)
                refine z_if_ne (tgt := 108) hx hb dX4_readEquation_102 (by decide) ⟨by decide, by decide⟩ (fun c_23 => ?_) (fun c_23 => ?_)
                · exact absurd (by decide) c_23
                · refine lv_iload hx hb dX4_readEquation_105 (lv_at hl 1 rfl) ?_
                  exact g_iret hx hb hr hlk hB dX4_readEquation_107 ⟨by omega, by omega⟩ (⟨⟨by rw [hgo, hbad.1]; omega, by rw [hgo, hbad.2]; exact hg⟩, hf, rfl⟩)
            · have hbad := eS_f1 (m := fgz K0) he (by rw [ltr_out (show len ≤ p0 + 1 + i by omega)]; omega) (by omega)
              refine lv_aload_n hx hb dX4_readEquation_73 rfl (lv_at hl 3 rfl) ?_
              refine g_geti (k := 1) hx hb hts hown hK hB cf4 (by decide) rfl (by decide) kw_32 rfl dX4_readEquation_74 ?_
              refine z_top (b := ((len : Nat) : Int)) ((hf 1 1 rfl).trans hlen) ?_
              exact g_iret hx hb hr hlk hB dX4_readEquation_77 ⟨by omega, by omega⟩ (⟨⟨by rw [hgo, hbad.1]; omega, by rw [hgo, hbad.2]; exact hg⟩, hf, rfl⟩)
      exact loop46 _ 0 σ1 _ _ _ (Nat.lt_succ_self _) (by omega) rfl hp1 hf1 (by omega) hB (lv_sub hl [0, 1, 2, 3, 4, 5] rfl)
    · have hkn := ixC_neg (x := σ 2 p0) (by omega)
      refine lv_iload_n hx hb dX4_readEquation_31 rfl (lv_at hl 4 rfl) ?_
      exact g_iret hx hb hr hlk hB dX4_readEquation_32 ⟨by omega, by omega⟩ (⟨⟨by rw [eQc_end (by rw [hlp]; exact hkn)], by rw [eQc_end (by rw [hlp]; exact hkn)]⟩, fr.rf, rfl⟩)
  · refine lv_aload_n hx hb dX4_readEquation_8 rfl (lv_at hl 0 rfl) ?_
    refine g_geti (k := 1) hx hb hts hown hK hB cf4 (by decide) rfl (by decide) kw_32 rfl dX4_readEquation_9 ?_
    refine z_top (b := ((len : Nat) : Int)) (hlen) ?_
    exact g_iret hx hb hr hlk hB dX4_readEquation_12 ⟨by omega, by omega⟩ (⟨⟨by rw [eQc_end (by rw [ltr_out (by omega)]; exact kOf_9)]; show ((len : Nat) : Int) = ((p0 : Nat) : Int); omega, by rw [eQc_end (by rw [ltr_out (by omega)]; exact kOf_9)]⟩, fr.rf, rfl⟩)
set_option maxHeartbeats 4000000 in
set_option maxRecDepth 100000 in
theorem mX4_readInto (l : Launch) (θ : gT) (hθ : gOK θ) (σ : gS) (z : gZ) (len : Nat) (hlen : σ 1 1 = (len : Int)) (hx0 : txOK (σ 2) len) : GI l θ yX4_readInto cX4_readInto 6 (some .int) 5 118 [.ref (tad θ 1), .ref (tad θ 8)] σ z (fun q σ' z' => (q = fltT (σ 2) len ∧ (q = -9 → fp σ' 8 = rdC (σ 2) len (fp σ 8))) ∧ fr (wF 8) σ σ' ∧ z' = z) := by
  refine g_enter (ret := (some .int)) (by decide +kernel) (Nat.le_of_ble_eq_true rfl) ?_
  intro p e s m args below meth c ls F hB hl
  obtain ⟨hx, hb, hr, hml, hown, hts, hlk, hK, hst⟩ := F
  have hR := hB.1.2
  have hl : lv_has ls 6 [(0, .ref (tad θ 1)), (1, .ref (tad θ 8))] := hl
  have hl40 := hx0.1
  refine lv_aload_n hx hb dX4_readInto_0 rfl (lv_at hl 0 rfl) ?_
  refine g_geti (k := 1) hx hb hts hown hK hB cf4 (by decide) rfl (by decide) kw_32 rfl dX4_readInto_1 ?_
  refine z_top (b := ((len : Nat) : Int)) (hlen) ?_
  refine lv_iconst (v := iZ 1) hx hb dX4_readInto_4 rfl ?_
  refine z_icmp_lt (tgt := 18) hx hb dX4_readInto_5 (by decide) ⟨by omega, by omega⟩ ⟨by decide, by decide⟩ (fun c_1 => ?_) (fun c_1 => ?_)
  · refine lv_iconst (v := iZ 0) hx hb dX4_readInto_18 rfl ?_
    exact g_iret hx hb hr hlk hB dX4_readInto_19 ⟨by decide, by decide⟩ (⟨⟨by rw [flt_0 (ltr_ne (by decide) (Or.inl (by omega)))], fun h => absurd h (by decide)⟩, fr.rf, rfl⟩)
  · have hl0 := hx0.2 0 (by omega)
    refine lv_aload_n hx hb dX4_readInto_8 rfl (lv_at hl 0 rfl) ?_
    refine lv_iconst (v := iZ 0) hx hb dX4_readInto_9 rfl ?_
    refine g_calli (g_runV (i := 1) (As := [.int (iZ 0)]) (rest := []) hx hb hml hown hts hK hst hB (mX4_letterAt l θ hθ σ z 0 (by omega)) mv_X4_letterAt kw_217 cf4 (by decide) rfl rfl hl.1 rfl (Nat.le_of_ble_eq_true rfl) ⟨by decide, by decide⟩ ⟨Nat.le_refl _, Nat.le_refl _⟩ dX4_readInto_10) hB (fun q_4 σ_2 z_3 H locs hq_4 pq_4 hB => ?_)
    obtain ⟨pq_4, e1_, e2_⟩ := pq_4
    rw [e1_, e2_] at hB
    clear e1_ e2_
    subst pq_4
    refine lv_bipush (v := iZ 83) hx hb dX4_readInto_13 (by decide) ?_
    refine z_icmp_eq (tgt := 20) hx hb dX4_readInto_15 (by decide) ⟨by omega, by omega⟩ ⟨by decide, by decide⟩ (fun c_5 => ?_) (fun c_5 => ?_)
    · have hS : ltr (σ 2) len 0 = 83 := by rw [ltr_in1 (by omega)]; exact c_5
      refine lv_aload_n hx hb dX4_readInto_20 rfl (lv_at hl 0 rfl) ?_
      refine g_geti (k := 1) hx hb hts hown hK hB cf4 (by decide) rfl (by decide) kw_32 rfl dX4_readInto_21 ?_
      refine z_top (b := ((len : Nat) : Int)) (hlen) ?_
      refine lv_iconst (v := iZ 2) hx hb dX4_readInto_24 rfl ?_
      refine z_icmp_lt (tgt := 48) hx hb dX4_readInto_25 (by decide) ⟨by omega, by omega⟩ ⟨by decide, by decide⟩ (fun c_6 => ?_) (fun c_6 => ?_)
      · have hno : nOf (σ 2) len = -9 - 48 := by unfold nOf; rw [ltr_out (by omega)]
        refine lv_iconst (v := iZ 1) hx hb dX4_readInto_48 rfl ?_
        exact g_iret hx hb hr hlk hB dX4_readInto_49 ⟨by decide, by decide⟩ (⟨⟨by rw [flt_1 hS (by omega)], fun h => absurd h (by decide)⟩, fr.rf, rfl⟩)
      · have hl1 := hx0.2 1 (by omega)
        have hno : nOf (σ 2) len = σ 2 1 - 48 := by unfold nOf; rw [ltr_in1 (by omega)]
        refine lv_aload_n hx hb dX4_readInto_28 rfl (lv_at hl 0 rfl) ?_
        refine lv_iconst (v := iZ 1) hx hb dX4_readInto_29 rfl ?_
        refine g_calli (g_runV (i := 1) (As := [.int (iZ 1)]) (rest := []) hx hb hml hown hts hK hst hB (mX4_letterAt l θ hθ σ z 1 (by omega)) mv_X4_letterAt kw_217 cf4 (by decide) rfl rfl hl.1 rfl (Nat.le_of_ble_eq_true rfl) ⟨by decide, by decide⟩ ⟨Nat.le_refl _, Nat.le_refl _⟩ dX4_readInto_30) hB (fun q_9 σ_7 z_8 H locs hq_9 pq_9 hB => ?_)
        obtain ⟨pq_9, e1_, e2_⟩ := pq_9
        rw [e1_, e2_] at hB
        clear e1_ e2_
        subst pq_9
        refine lv_bipush (v := iZ 49) hx hb dX4_readInto_33 (by decide) ?_
        refine z_icmp_lt (tgt := 48) hx hb dX4_readInto_35 (by decide) ⟨by omega, by omega⟩ ⟨by decide, by decide⟩ (fun c_10 => ?_) (fun c_10 => ?_)
        · refine lv_iconst (v := iZ 1) hx hb dX4_readInto_48 rfl ?_
          exact g_iret hx hb hr hlk hB dX4_readInto_49 ⟨by decide, by decide⟩ (⟨⟨by rw [flt_1 hS (by omega)], fun h => absurd h (by decide)⟩, fr.rf, rfl⟩)
        · refine lv_aload_n hx hb dX4_readInto_38 rfl (lv_at hl 0 rfl) ?_
          refine lv_iconst (v := iZ 1) hx hb dX4_readInto_39 rfl ?_
          refine g_calli (g_runV (i := 1) (As := [.int (iZ 1)]) (rest := []) hx hb hml hown hts hK hst hB (mX4_letterAt l θ hθ σ z 1 (by omega)) mv_X4_letterAt kw_217 cf4 (by decide) rfl rfl hl.1 rfl (Nat.le_of_ble_eq_true rfl) ⟨by decide, by decide⟩ ⟨Nat.le_refl _, Nat.le_refl _⟩ dX4_readInto_40) hB (fun q_13 σ_11 z_12 H locs hq_13 pq_13 hB => ?_)
          obtain ⟨pq_13, e1_, e2_⟩ := pq_13
          rw [e1_, e2_] at hB
          clear e1_ e2_
          subst pq_13
          refine lv_bipush (v := iZ 56) hx hb dX4_readInto_43 (by decide) ?_
          refine z_icmp_le (tgt := 50) hx hb dX4_readInto_45 (by decide) ⟨by omega, by omega⟩ ⟨by decide, by decide⟩ (fun c_14 => ?_) (fun c_14 => ?_)
          · obtain ⟨n0, hn0⟩ : ∃ n0 : Nat, σ 2 1 - 48 = (n0 : Int) := ⟨(σ 2 1 - 48).toNat, by omega⟩
            have hnof : nOf (σ 2) len = (n0 : Int) := by omega
            have hnt : (nOf (σ 2) len).toNat = n0 := by omega
            refine lv_aload_n hx hb dX4_readInto_50 rfl (lv_at hl 0 rfl) ?_
            refine lv_iconst (v := iZ 1) hx hb dX4_readInto_51 rfl ?_
            refine g_calli (g_runV (i := 1) (As := [.int (iZ 1)]) (rest := []) hx hb hml hown hts hK hst hB (mX4_letterAt l θ hθ σ z 1 (by omega)) mv_X4_letterAt kw_217 cf4 (by decide) rfl rfl hl.1 rfl (Nat.le_of_ble_eq_true rfl) ⟨by decide, by decide⟩ ⟨Nat.le_refl _, Nat.le_refl _⟩ dX4_readInto_52) hB (fun q_17 σ_15 z_16 H locs hq_17 pq_17 hB => ?_)
            obtain ⟨pq_17, e1_, e2_⟩ := pq_17
            rw [e1_, e2_] at hB
            clear e1_ e2_
            subst pq_17
            refine lv_bipush (v := iZ 48) hx hb dX4_readInto_55 (by decide) ?_
            refine z_isub hx hb dX4_readInto_57 ?_
            refine z_top (b := ((n0 : Nat) : Int)) (hn0) ?_
            refine lv_istore_n (lv' := [(2, .int (iZ ((n0 : Nat) : Int))), (0, .ref (tad θ 1)), (1, .ref (tad θ 8))]) hx hb dX4_readInto_58 rfl hl (by decide) rfl (fun ls hl => ?_)
            refine lv_aload_n hx hb dX4_readInto_59 rfl (lv_at hl 2 rfl) ?_
            refine lv_iload_n hx hb dX4_readInto_60 rfl (lv_at hl 0 rfl) ?_
            refine g_putI (k := 0) hx hb hts hown hK hθ hB cf1 tyX1 tyX1_ok (by decide) rfl (by decide) kw_51 rfl rfl rfl ⟨by omega, by omega⟩ dX4_readInto_61 (fun H locs hB => ?_)
            obtain ⟨σ1, hσ1⟩ : ∃ x_ : gS, x_ = up2 σ 8 0 ((n0 : Nat) : Int) := ⟨_, rfl⟩
            rw [← hσ1] at hB
            have hR := hB.1.2
            refine lv_iconst (v := iZ 2) hx hb dX4_readInto_64 rfl ?_
            refine lv_istore_n (lv' := [(3, .int (iZ 2)), (2, .int (iZ ((n0 : Nat) : Int))), (0, .ref (tad θ 1)), (1, .ref (tad θ 8))]) hx hb dX4_readInto_65 rfl hl (by decide) rfl (fun ls hl => ?_)
            refine lv_iconst (v := iZ 0) hx hb dX4_readInto_66 rfl ?_
            refine lv_istore (lv' := [(4, .int (iZ 0)), (3, .int (iZ 2)), (2, .int (iZ ((n0 : Nat) : Int))), (0, .ref (tad θ 1)), (1, .ref (tad θ 8))]) hx hb dX4_readInto_67 hl (by decide) rfl (fun ls hl => ?_)
            have loop69 : ∀ (n69 : Nat) (s1 : Nat) (p1 : Nat) (σ2 : gS) (H : Heap) (locs : List Loc) (ls : Array Slot), n0 - s1 < n69 → (s1 ≤ n0) → ((pSc (σ 2) len n0 (upn (fp σ 8) 0 (n0 : Int)) s1).1 = -9) → (p1 = (pSc (σ 2) len n0 (upn (fp σ 8) 0 (n0 : Int)) s1).2.1) → (fp σ2 8 = (pSc (σ 2) len n0 (upn (fp σ 8) 0 (n0 : Int)) s1).2.2) → (fr (wF 8) σ σ2) →  gB θ σ2 z s.heap H locs → lv_has ls 6 [(4, .int (iZ ((s1 : Nat) : Int))), (3, .int (iZ ((p1 : Nat) : Int))), (2, .int (iZ ((n0 : Nat) : Int))), (0, .ref (tad θ 1)), (1, .ref (tad θ 8))] → W p l e (gRm 5 118) s m args below meth c H locs 0 0 (MQ below (gQi θ (fun q σ' z' => (q = fltT (σ 2) len ∧ (q = -9 → fp σ' 8 = rdC (σ 2) len (fp σ 8))) ∧ fr (wF 8) σ σ' ∧ z' = z)) args s 0 0 (tA θ)) (F0 m 69 ls []) := by
              intro n69
              induction n69 with
              | zero => intro s1 p1 σ2 H locs ls hmu; exact absurd hmu (Nat.not_lt_zero _)
              | succ n69 ih69 =>
                intro s1 p1 σ2 H locs ls hmu hs1 he hp1 hg hf hB hl
                have hR := hB.1.2
                have hok := pSc_ok (by omega) (show 2 ≤ len by omega) s1 hs1 he
                have h28 : σ2 8 0 = (n0 : Int) := by rw [← fp_0 σ2 8, hg, hok.2, upn_eq]
                have hpl : p1 ≤ len := by rw [hp1]; exact hok.1
                refine lv_iload hx hb dX4_readInto_69 (lv_at hl 0 rfl) ?_
                refine lv_iload_n hx hb dX4_readInto_71 rfl (lv_at hl 2 rfl) ?_
                refine z_icmp_ge (tgt := 115) hx hb dX4_readInto_72 (by decide) ⟨by omega, by omega⟩ ⟨by omega, by omega⟩ (fun c_18 => ?_) (fun c_18 => ?_)
                · refine lv_iload_n hx hb dX4_readInto_115 rfl (lv_at hl 1 rfl) ?_
                  refine lv_aload_n hx hb dX4_readInto_116 rfl (lv_at hl 3 rfl) ?_
                  refine g_geti (k := 1) hx hb hts hown hK hB cf4 (by decide) rfl (by decide) kw_32 rfl dX4_readInto_117 ?_
                  refine z_top (b := ((len : Nat) : Int)) ((hf 1 1 rfl).trans hlen) ?_
                  refine z_icmp_ge (tgt := 127) hx hb dX4_readInto_120 (by decide) ⟨by omega, by omega⟩ ⟨by omega, by omega⟩ (fun c_19 => ?_) (fun c_19 => ?_)
                  · have hfe := flt_end (upn (fp σ 8) 0 (n0 : Int)) hS hnof (by omega) (by rw [show n0 = s1 by omega] at he ⊢; exact he)
                    have hsn0 : s1 = n0 := by omega
                    have hp2 := hp1
                    rw [hsn0] at hp2
                    refine lv_bipush (v := iZ (-9)) hx hb dX4_readInto_127 (by decide) ?_
                    exact g_iret hx hb hr hlk hB dX4_readInto_129 ⟨by decide, by decide⟩ (⟨⟨by rw [hfe, ← hp2, if_pos (by omega)], fun _ => by rw [hg, hsn0]; unfold rdC; rw [hnt, hnof]⟩, hf, rfl⟩)
                  · have hfe := flt_end (upn (fp σ 8) 0 (n0 : Int)) hS hnof (by omega) (by rw [show n0 = s1 by omega] at he ⊢; exact he)
                    have hsn0 : s1 = n0 := by omega
                    have hp2 := hp1
                    rw [hsn0] at hp2
                    refine lv_iload_n hx hb dX4_readInto_123 rfl (lv_at hl 1 rfl) ?_
                    refine lv_goto (tgt := 129) hx hb dX4_readInto_124 (by decide) ?_
                    exact g_iret hx hb hr hlk hB dX4_readInto_129 ⟨by omega, by omega⟩ (⟨⟨by rw [hfe, ← hp2, if_neg (by omega)], fun h => by omega⟩, hf, rfl⟩)
                · refine lv_aload_n hx hb dX4_readInto_75 rfl (lv_at hl 3 rfl) ?_
                  refine lv_aload_n hx hb dX4_readInto_76 rfl (lv_at hl 4 rfl) ?_
                  refine lv_iload hx hb dX4_readInto_77 (lv_at hl 0 rfl) ?_
                  refine lv_iload_n hx hb dX4_readInto_79 rfl (lv_at hl 1 rfl) ?_
                  refine g_calli (g_runV (i := 1) (As := [.ref (tad θ 8), .int (iZ ((s1 : Nat) : Int)), .int (iZ ((p1 : Nat) : Int))]) (rest := []) hx hb hml hown hts hK hst hB (mX4_readEquation l θ hθ σ2 z len (by rw [hf 1 1 rfl]; exact hlen) (by rw [(hf.row (fun k => rfl) : σ2 2 = σ 2)]; exact hx0) s1 n0 (by omega) (by omega) h28 p1 hpl) mv_X4_readEquation kw_221 cf4 (by decide) rfl rfl hl.1 rfl (Nat.le_of_ble_eq_true rfl) ⟨by decide, by decide⟩ ⟨Nat.le_refl _, Nat.le_refl _⟩ dX4_readInto_80) hB (fun q3 σ3 z_20 H locs hq3 hp3 hB => ?_)
                  obtain ⟨hp3, hf3, e2_⟩ := hp3
                  rw [e2_] at hB
                  clear e2_
                  have hR := hB.1.2
                  rw [(hf.row (fun k => rfl) : σ2 2 = σ 2), hg] at hp3
                  have hst0 : (pSc (σ 2) len n0 (upn (fp σ 8) 0 (n0 : Int)) (s1 + 1)) = eQc (σ 2) len n0 s1 p1 (pSc (σ 2) len n0 (upn (fp σ 8) 0 (n0 : Int)) s1).2.2 := by rw [pSc, if_pos he, ← hp1]
                  rw [← hst0] at hp3
                  refine lv_istore (lv' := [(5, .int (iZ q3)), (4, .int (iZ ((s1 : Nat) : Int))), (3, .int (iZ ((p1 : Nat) : Int))), (2, .int (iZ ((n0 : Nat) : Int))), (0, .ref (tad θ 1)), (1, .ref (tad θ 8))]) hx hb dX4_readInto_83 hl (by decide) rfl (fun ls hl => ?_)
                  refine lv_iload hx hb dX4_readInto_85 (lv_at hl 0 rfl) ?_
                  refine lv_bipush (v := iZ (-9)) hx hb dX4_readInto_87 (by decide) ?_
                  refine z_icmp_eq (tgt := 95) hx hb dX4_readInto_89 (by decide) ⟨by omega, by omega⟩ ⟨by decide, by decide⟩ (fun c_21 => ?_) (fun c_21 => ?_)
                  · have h9 : q3 = -9 := c_21
                    have hqe := eQc_ok (show s1 < 8 by omega) hpl (show (eQc (σ 2) len n0 s1 p1 (pSc (σ 2) len n0 (upn (fp σ 8) 0 (n0 : Int)) s1).2.2).1 = -9 by rw [← hst0, ← hp3.1]; exact h9)
                    obtain ⟨K1, hK1⟩ : ∃ K1, K1 = kOf (ltr (σ 2) len p1) := ⟨_, rfl⟩
                    rw [← hst0, ← hK1] at hqe
                    have hfz := fgz_in K1
                    refine lv_iload_n hx hb dX4_readInto_95 rfl (lv_at hl 2 rfl) ?_
                    refine lv_iconst (v := iZ 1) hx hb dX4_readInto_96 rfl ?_
                    refine lv_aload_n hx hb dX4_readInto_97 rfl (lv_at hl 5 rfl) ?_
                    refine lv_iload hx hb dX4_readInto_98 (lv_at hl 1 rfl) ?_
                    refine g_calli (g_runV (i := 8) (As := [.int (iZ ((s1 : Nat) : Int))]) (rest := [.int (iZ 1), .int (iZ ((p1 : Nat) : Int))]) hx hb hml hown hts hK hst hB (mX1_kindOf l θ hθ σ3 z 8 isF_8 s1 (by omega)) mv_X1_kindOf kw_333 cf1 (by decide) rfl rfl hl.1 rfl (Nat.le_of_ble_eq_true rfl) ⟨by decide, by decide⟩ ⟨Nat.le_refl _, Nat.le_refl _⟩ dX4_readInto_100) hB (fun q_24 σ_22 z_23 H locs hq_24 pq_24 hB => ?_)
                    obtain ⟨pq_24, e1_, e2_⟩ := pq_24
                    rw [e1_, e2_] at hB
                    clear e1_ e2_
                    subst pq_24
                    refine z_top (b := K1) (by rw [hp3.2]; exact hqe.2.2.1) ?_
                    refine g_calli (g_runSN (As := [.int (iZ K1)]) (rest := [.int (iZ 1), .int (iZ ((p1 : Nat) : Int))]) hx hb hml hown hts hK hst hB (mX5_figuresOf l θ hθ σ3 z K1 ⟨by omega, by omega⟩) ms_X5_figuresOf hst.2.2.1 rfl hl.1 rfl (Nat.le_of_ble_eq_true rfl) ⟨by decide, by decide⟩ ⟨Nat.le_refl _, Nat.le_refl _⟩ dX4_readInto_103) hB (fun q10 σ_25 z_26 H locs hq10 p10 hB => ?_)
                    obtain ⟨p10, e1_, e2_⟩ := p10
                    rw [e1_, e2_] at hB
                    clear e1_ e2_
                    have hq10 : q10 = ((fgz K1 : Nat) : Int) := by have := hqe.2.1; omega
                    rw [hq10]
                    refine z_iadd hx hb dX4_readInto_106 ?_
                    refine z_iadd hx hb dX4_readInto_107 ?_
                    refine lv_istore_n (lv' := [(3, .int (iZ (((p1 : Nat) : Int) + (1 + (((fgz K1) : Nat) : Int))))), (5, .int (iZ q3)), (4, .int (iZ ((s1 : Nat) : Int))), (2, .int (iZ ((n0 : Nat) : Int))), (0, .ref (tad θ 1)), (1, .ref (tad θ 8))]) hx hb dX4_readInto_108 rfl hl (by decide) rfl (fun ls hl => ?_)
                    refine z_iinc (k := 2) (lv' := [(4, .int (iZ (((s1 : Nat) : Int) + 1))), (3, .int (iZ (((p1 : Nat) : Int) + (1 + (((fgz K1) : Nat) : Int))))), (5, .int (iZ q3)), (2, .int (iZ ((n0 : Nat) : Int))), (0, .ref (tad θ 1)), (1, .ref (tad θ 8))]) hx hb dX4_readInto_109 hl rfl (by decide) rfl (fun ls hl => ?_)
                    have hl : lv_has ls 6 [(4, .int (iZ (((s1 + 1) : Nat) : Int))), (3, .int (iZ (((p1 : Nat) : Int) + (1 + (((fgz K1) : Nat) : Int))))), (5, .int (iZ q3)), (2, .int (iZ ((n0 : Nat) : Int))), (0, .ref (tad θ 1)), (1, .ref (tad θ 8))] := by have e9 : (((s1 : Nat) : Int) + 1) = (((s1 + 1) : Nat) : Int) := (by omega); rw [e9] at hl; exact hl
                    refine lv_goto (tgt := 69) hx hb dX4_readInto_112 (by decide) ?_
                    exact ih69 (s1 + 1) (p1 + (1 + fgz K1)) σ3 _ _ _ (by omega) (by omega) (by rw [← hp3.1]; exact h9) (by rw [hqe.2.2.2.1]; omega) hp3.2 (hf.tr hf3) hB (lv_sub hl [0, 1, 3, 4, 5] rfl)
                  · refine lv_iload hx hb dX4_readInto_92 (lv_at hl 0 rfl) ?_
                    exact g_iret hx hb hr hlk hB dX4_readInto_94 ⟨by omega, by omega⟩ (⟨⟨by rw [flt_bad (upn (fp σ 8) 0 (n0 : Int)) hS hnof (by omega) (show s1 + 1 ≤ n0 by omega) (by rw [← hp3.1]; assumption)]; exact hp3.1, fun h => absurd h (by assumption)⟩, hf.tr hf3, rfl⟩)
            exact loop69 _ 0 2 σ1 _ _ _ (Nat.lt_succ_self _) (by omega) rfl rfl (by rw [hσ1, fp_up0]; rfl) (by rw [hσ1]; exact fr.up rfl) hB (lv_sub hl [0, 1, 2, 3, 4] rfl)
          · refine lv_iconst (v := iZ 1) hx hb dX4_readInto_48 rfl ?_
            exact g_iret hx hb hr hlk hB dX4_readInto_49 ⟨by decide, by decide⟩ (⟨⟨by rw [flt_1 hS (by omega)], fun h => absurd h (by decide)⟩, fr.rf, rfl⟩)
    · refine lv_iconst (v := iZ 0) hx hb dX4_readInto_18 rfl ?_
      exact g_iret hx hb hr hlk hB dX4_readInto_19 ⟨by decide, by decide⟩ (⟨⟨by rw [flt_0 (ltr_ne (by decide) (Or.inr (by omega)))], fun h => absurd h (by decide)⟩, fr.rf, rfl⟩)
set_option maxHeartbeats 4000000 in
set_option maxRecDepth 100000 in
theorem mX5_fault (l : Launch) (θ : gT) (hθ : gOK θ) (σ : gS) (z : gZ) (len : Nat) (hlen : σ 1 1 = (len : Int)) (hx0 : txOK (σ 2) len) : GI l θ yX5_fault cX5_fault 1 (some .int) 6 143 [.ref (tad θ 0)] σ z (fun q σ' z' => (q = fltT (σ 2) len) ∧ fr (wF 8) σ σ' ∧ z' = z) := by
  refine g_enter (ret := (some .int)) (by decide +kernel) (Nat.le_of_ble_eq_true rfl) ?_
  intro p e s m args below meth c ls F hB hl
  obtain ⟨hx, hb, hr, hml, hown, hts, hlk, hK, hst⟩ := F
  have hR := hB.1.2
  have hl : lv_has ls 1 [(0, .ref (tad θ 0))] := hl
  refine lv_aload_n hx hb dX5_fault_0 rfl (lv_at hl 0 rfl) ?_
  refine g_getr (k := 0) (j := 1) hx hb hts hown hK hθ hB cf5 (by decide) rfl (by decide) kw_166 rfl rfl dX5_fault_1 ?_
  refine lv_aload_n hx hb dX5_fault_4 rfl (lv_at hl 0 rfl) ?_
  refine g_getr (k := 2) (j := 8) hx hb hts hown hK hθ hB cf5 (by decide) rfl (by decide) kw_168 rfl rfl dX5_fault_5 ?_
  refine g_calli (g_runV (i := 1) (As := [.ref (tad θ 8)]) (rest := []) hx hb hml hown hts hK hst hB (mX4_readInto l θ hθ σ z len hlen hx0) mv_X4_readInto kw_213 cf4 (by decide) rfl rfl hl.1 rfl (Nat.le_of_ble_eq_true rfl) ⟨by decide, by decide⟩ ⟨Nat.le_refl _, Nat.le_refl _⟩ dX5_fault_8) hB (fun q1 σ1 z_1 H locs hq1 hp1 hB => ?_)
  obtain ⟨hp1, hf1, e2_⟩ := hp1
  rw [e2_] at hB
  clear e2_
  have hR := hB.1.2
  exact g_iret hx hb hr hlk hB dX5_fault_11 hq1 (⟨hp1.1, hf1, rfl⟩)
set_option maxHeartbeats 4000000 in
set_option maxRecDepth 100000 in
theorem mX5_program (l : Launch) (θ : gT) (hθ : gOK θ) (σ : gS) (z : gZ) (len : Nat) (hlen : σ 1 1 = (len : Int)) (hx0 : txOK (σ 2) len) : GI l θ yX5_program cX5_program 2 (some .int) 6 143 [.ref (tad θ 0)] σ z (fun q σ' z' => ((fltT (σ 2) len ≠ -9 ∧ q = -3 ∧ fr (wF 8) σ σ') ∨ (fltT (σ 2) len = -9 ∧ fp σ' 3 = (rsC (rdC (σ 2) len (fp σ 8))) ∧ cAn (rsC (rdC (σ 2) len (fp σ 8))) (nOf (σ 2) len).toNat σ' ∧ σ' 21 0 = 0 ∧ σ' 21 1 = σ 21 1 ∧ σ' 99 0 = 0 ∧ σ' 99 1 = 0 ∧ (((σ' 13 0 = -9 ∧ σ' 13 1 = 0 ∧ σ' 13 2 = -9) ∧ q = 1) ∨ (¬ (σ' 13 0 = -9 ∧ σ' 13 1 = 0 ∧ σ' 13 2 = -9) ∧ q = 0)))) ∧ fr wPg3 σ σ' ∧ z' = z) := by
  refine g_enter (ret := (some .int)) (by decide +kernel) (Nat.le_of_ble_eq_true rfl) ?_
  intro p e s m args below meth c ls F hB hl
  obtain ⟨hx, hb, hr, hml, hown, hts, hlk, hK, hst⟩ := F
  have hR := hB.1.2
  have hl : lv_has ls 2 [(0, .ref (tad θ 0))] := hl
  refine lv_aload_n hx hb dX5_program_0 rfl (lv_at hl 0 rfl) ?_
  refine g_getr (k := 0) (j := 1) hx hb hts hown hK hθ hB cf5 (by decide) rfl (by decide) kw_166 rfl rfl dX5_program_1 ?_
  refine lv_aload_n hx hb dX5_program_4 rfl (lv_at hl 0 rfl) ?_
  refine g_getr (k := 2) (j := 8) hx hb hts hown hK hθ hB cf5 (by decide) rfl (by decide) kw_168 rfl rfl dX5_program_5 ?_
  refine g_calli (g_runV (i := 1) (As := [.ref (tad θ 8)]) (rest := []) hx hb hml hown hts hK hst hB (mX4_readInto l θ hθ σ z len hlen hx0) mv_X4_readInto kw_213 cf4 (by decide) rfl rfl hl.1 rfl (Nat.le_of_ble_eq_true rfl) ⟨by decide, by decide⟩ ⟨Nat.le_refl _, Nat.le_refl _⟩ dX5_program_8) hB (fun q1 σ1 z_1 H locs hq1 hp1 hB => ?_)
  obtain ⟨hp1, hf1, e2_⟩ := hp1
  rw [e2_] at hB
  clear e2_
  have hR := hB.1.2
  refine lv_bipush (v := iZ (-9)) hx hb dX5_program_11 (by decide) ?_
  refine z_icmp_eq (tgt := 19) hx hb dX5_program_13 (by decide) ⟨by omega, by omega⟩ ⟨by decide, by decide⟩ (fun c_2 => ?_) (fun c_2 => ?_)
  · have h9 : q1 = -9 := c_2
    have hfl : fltT (σ 2) len = -9 := by rw [← hp1.1]; exact h9
    have hg1 := hp1.2 h9
    have hsk := rdC_sk hx0 hfl (fp σ 8) (g0 := z0) (fun k _ => rfl)
    have hcw := cW_rs (cW_of hsk.1 hsk.2)
    refine lv_aload_n hx hb dX5_program_19 rfl (lv_at hl 0 rfl) ?_
    refine g_getr (k := 1) (j := 3) hx hb hts hown hK hθ hB cf5 (by decide) rfl (by decide) kw_167 rfl rfl dX5_program_20 ?_
    refine lv_aload_n hx hb dX5_program_23 rfl (lv_at hl 0 rfl) ?_
    refine g_getr (k := 2) (j := 8) hx hb hts hown hK hθ hB cf5 (by decide) rfl (by decide) kw_168 rfl rfl dX5_program_24 ?_
    refine g_callv (g_runV (i := 3) (As := [.ref (tad θ 8)]) (rest := []) hx hb hml hown hts hK hst hB (mX1_become l θ hθ σ1 z 3 isF_3 8 isF_8 (by decide)) mv_X1_become kw_342 cf1 (by decide) rfl rfl hl.1 rfl (Nat.le_of_ble_eq_true rfl) ⟨by decide, by decide⟩ ⟨Nat.le_refl _, Nat.le_refl _⟩ dX5_program_27) hB (fun σ2 z_3 H locs hp2 hB => ?_)
    obtain ⟨hp2, hf2, e2_⟩ := hp2
    rw [e2_] at hB
    clear e2_
    have hR := hB.1.2
    refine lv_aload_n hx hb dX5_program_30 rfl (lv_at hl 0 rfl) ?_
    refine g_getr (k := 1) (j := 3) hx hb hts hown hK hθ hB cf5 (by decide) rfl (by decide) kw_167 rfl rfl dX5_program_31 ?_
    refine g_callv (g_runV (i := 3) (As := []) (rest := []) hx hb hml hown hts hK hst hB (mX1_restart l θ hθ σ2 z 3 isF_3) mv_X1_restart kw_349 cf1 (by decide) rfl rfl hl.1 rfl (Nat.le_of_ble_eq_true rfl) ⟨by decide, by decide⟩ ⟨Nat.le_refl _, Nat.le_refl _⟩ dX5_program_34) hB (fun σ3 z_5 H locs hp3 hB => ?_)
    obtain ⟨hp3, hf3, e2_⟩ := hp3
    rw [e2_] at hB
    clear e2_
    have hR := hB.1.2
    have hg3 : fp σ3 3 = (rsC (rdC (σ 2) len (fp σ 8))) := by rw [hp3, hp2, hg1]
    refine lv_aload_n hx hb dX5_program_37 rfl (lv_at hl 0 rfl) ?_
    refine g_getr (k := 4) (j := 21) hx hb hts hown hK hθ hB cf5 (by decide) rfl (by decide) kw_170 rfl rfl dX5_program_38 ?_
    refine g_callv (g_runV (i := 21) (As := []) (rest := []) hx hb hml hown hts hK hst hB (mX0_forget l θ hθ σ3 z ) mv_X0_forget kw_362 cf0 (by decide) rfl rfl hl.1 rfl (Nat.le_of_ble_eq_true rfl) ⟨by decide, by decide⟩ ⟨Nat.le_refl _, Nat.le_refl _⟩ dX5_program_41) hB (fun σ4 z_7 H locs hp4 hB => ?_)
    obtain ⟨hp4, hf4, e2_⟩ := hp4
    rw [e2_] at hB
    clear e2_
    have hR := hB.1.2
    refine lv_iconst (v := iZ 0) hx hb dX5_program_44 rfl ?_
    refine lv_istore_n (lv' := [(1, .int (iZ 0)), (0, .ref (tad θ 0))]) hx hb dX5_program_45 rfl hl (by decide) rfl (fun ls hl => ?_)
    have loop46 : ∀ (n46 : Nat) (i : Nat) (σ5 : gS) (H : Heap) (locs : List Loc) (ls : Array Slot), 2 - i < n46 → (i ≤ 2) → (fp σ5 3 = (rsC (rdC (σ 2) len (fp σ 8)))) → (σ5 21 0 = 0) → (σ5 21 1 = σ 21 1) → (∀ j, j < i → σ5 99 j = 0) → (fr wPg3 σ σ5) →  gB θ σ5 z s.heap H locs → lv_has ls 2 [(1, .int (iZ ((i : Nat) : Int))), (0, .ref (tad θ 0))] → W p l e (gRm 6 143) s m args below meth c H locs 0 0 (MQ below (gQi θ (fun q σ' z' => ((fltT (σ 2) len ≠ -9 ∧ q = -3 ∧ fr (wF 8) σ σ') ∨ (fltT (σ 2) len = -9 ∧ fp σ' 3 = (rsC (rdC (σ 2) len (fp σ 8))) ∧ cAn (rsC (rdC (σ 2) len (fp σ 8))) (nOf (σ 2) len).toNat σ' ∧ σ' 21 0 = 0 ∧ σ' 21 1 = σ 21 1 ∧ σ' 99 0 = 0 ∧ σ' 99 1 = 0 ∧ (((σ' 13 0 = -9 ∧ σ' 13 1 = 0 ∧ σ' 13 2 = -9) ∧ q = 1) ∨ (¬ (σ' 13 0 = -9 ∧ σ' 13 1 = 0 ∧ σ' 13 2 = -9) ∧ q = 0)))) ∧ fr wPg3 σ σ' ∧ z' = z)) args s 0 0 (tA θ)) (F0 m 46 ls []) := by
      intro n46
      induction n46 with
      | zero => intro i σ5 H locs ls hmu; exact absurd hmu (Nat.not_lt_zero _)
      | succ n46 ih46 =>
        intro i σ5 H locs ls hmu hi hg5 h210 h211 h99 hf5 hB hl
        have hR := hB.1.2
        refine lv_iload_n hx hb dX5_program_46 rfl (lv_at hl 0 rfl) ?_
        refine lv_iconst (v := iZ 2) hx hb dX5_program_47 rfl ?_
        refine z_icmp_ge (tgt := 64) hx hb dX5_program_48 (by decide) ⟨by omega, by omega⟩ ⟨by decide, by decide⟩ (fun c_9 => ?_) (fun c_9 => ?_)
        · refine lv_aload_n hx hb dX5_program_64 rfl (lv_at hl 1 rfl) ?_
          refine g_getr (k := 3) (j := 13) hx hb hts hown hK hθ hB cf5 (by decide) rfl (by decide) kw_169 rfl rfl dX5_program_65 ?_
          refine lv_aload_n hx hb dX5_program_68 rfl (lv_at hl 1 rfl) ?_
          refine g_getr (k := 1) (j := 3) hx hb hts hown hK hθ hB cf5 (by decide) rfl (by decide) kw_167 rfl rfl dX5_program_69 ?_
          refine g_callv (g_runV (i := 13) (As := [.ref (tad θ 3)]) (rest := []) hx hb hml hown hts hK hst hB (mX2_study l θ hθ σ5 z (nOf (σ 2) len).toNat (by rw [hg5]; exact hcw)) mv_X2_study kw_366 cf2 (by decide) rfl rfl hl.1 rfl (Nat.le_of_ble_eq_true rfl) ⟨by decide, by decide⟩ ⟨Nat.le_refl _, Nat.le_refl _⟩ dX5_program_72) hB (fun σ7 z_10 H locs hp7 hB => ?_)
          obtain ⟨hp7, hf7, e2_⟩ := hp7
          rw [e2_] at hB
          clear e2_
          have hR := hB.1.2
          rw [hg5] at hp7
          refine lv_aload_n hx hb dX5_program_75 rfl (lv_at hl 1 rfl) ?_
          refine g_calli (g_runV (i := 0) (As := []) (rest := []) hx hb hml hown hts hK hst hB (mX5_soundness l θ hθ σ7 z ) mv_X5_soundness kw_442 cf5 (by decide) rfl rfl hl.1 rfl (Nat.le_of_ble_eq_true rfl) ⟨by decide, by decide⟩ ⟨Nat.le_refl _, Nat.le_refl _⟩ dX5_program_76) hB (fun qs σ_12 z_13 H locs hqs hps hB => ?_)
          obtain ⟨hps, e1_, e2_⟩ := hps
          rw [e1_, e2_] at hB
          clear e1_ e2_
          exact g_iret hx hb hr hlk hB dX5_program_79 ⟨by omega, by omega⟩ (⟨Or.inr ⟨hfl, by rw [se_fp hf7 isF_3]; exact hg5, hp7, by rw [hf7 21 0 rfl]; exact h210, by rw [hf7 21 1 rfl]; exact h211, by rw [hf7 99 0 rfl]; exact h99 0 (by omega), by rw [hf7 99 1 rfl]; exact h99 1 (by omega), hps⟩, hf5.tr ((hf7.mono nw_se).mono (fun i k h => by simp [wPg3, h])), rfl⟩)
        · refine lv_aload_n hx hb dX5_program_51 rfl (lv_at hl 1 rfl) ?_
          refine g_getr (k := 7) (j := 99) hx hb hts hown hK hθ hB cf5 (by decide) rfl (by decide) kw_173 rfl rfl dX5_program_52 ?_
          refine lv_iload_n hx hb dX5_program_55 rfl (lv_at hl 0 rfl) ?_
          refine lv_iconst (v := iZ 0) hx hb dX5_program_56 rfl ?_
          refine g_zast (k := i) hx hb hK hθ hB (by decide) rfl (by omega) (Nat.lt_of_lt_of_eq (by omega : i < 2) (Eq.symm rfl)) (by decide) (by omega) dX5_program_57 (fun H locs hB => ?_)
          obtain ⟨σ6, hσ6⟩ : ∃ x_ : gS, x_ = up2 σ5 99 i 0 := ⟨_, rfl⟩
          rw [← hσ6] at hB
          have hR := hB.1.2
          refine z_iinc (k := 0) (lv' := [(1, .int (iZ (((i : Nat) : Int) + 1))), (0, .ref (tad θ 0))]) hx hb dX5_program_58 hl rfl (by decide) rfl (fun ls hl => ?_)
          have hl : lv_has ls 2 [(1, .int (iZ (((i + 1) : Nat) : Int))), (0, .ref (tad θ 0))] := by have e9 : (((i : Nat) : Int) + 1) = (((i + 1) : Nat) : Int) := (by omega); rw [e9] at hl; exact hl
          refine lv_goto (tgt := 46) hx hb dX5_program_61 (by decide) ?_
          exact ih46 (i + 1) σ6 _ _ _ (by omega) (by omega) (by rw [hσ6, fp_off (by omega)]; exact hg5) (by rw [hσ6, up2_c _ _ (by decide)]; exact h210) (by rw [hσ6, up2_c _ _ (by decide)]; exact h211) (by rw [hσ6]; exact lt_s (fun j hj => by rw [up2_k _ _ (by omega)]; exact h99 j hj) (up2_eq _ _ _ _)) (by rw [hσ6]; exact hf5.tr (fr.up rfl)) hB (lv_sub hl [0, 1] rfl)
    exact loop46 _ 0 σ4 _ _ _ (Nat.lt_succ_self _) (by omega) (by rw [fp_fr hf4 ⟨rfl, rfl, fun j k h1 h2 => by simp [w21]; omega⟩]; exact hg3) hp4 (by rw [hf4 21 1 rfl, hf3 21 1 rfl, hf2 21 1 rfl, hf1 21 1 rfl]) (fun j h => absurd h (Nat.not_lt_zero _)) ((((hf1.mono (fun i k h => by simp [wPg3, h])).tr ((hf2.mono nw_3).mono (fun i k h => by simp [wPg3, h]))).tr ((hf3.mono nw_3).mono (fun i k h => by simp [wPg3, h]))).tr (hf4.mono (fun i k h => by simp [w21] at h; simp [wPg3, wNw]; omega))) hB (lv_sub hl [0, 1] rfl)
  · refine lv_bipush (v := iZ (-3)) hx hb dX5_program_16 (by decide) ?_
    exact g_iret hx hb hr hlk hB dX5_program_18 ⟨by decide, by decide⟩ (⟨Or.inl ⟨by rw [← hp1.1]; assumption, rfl, hf1⟩, hf1.mono (fun i k h => by simp [wPg3, h]), rfl⟩)
