set_option maxHeartbeats 4000000 in
set_option maxRecDepth 100000 in
theorem mX6_findOrder (l : Launch) (θ : gT) (hθ : gOK θ) (σ : gS) (z : gZ) (w : mC) (hA : mA σ w) (ho : mOK w) (hW : Wf (σ 114)) (N : Nat) (hN : σ 114 0 = (N : Int)) : GV l θ yX6_findOrder cX6_findOrder 7 3 71 [.ref (tad θ 111), .ref (tad θ 114)] σ z (fun σ' z' => (σ' 111 20 = (((2 ^ N - 1) &&& ((oS (wtN (σ 114) w) N N).1 ^^^ 255) : Nat) : Int) ∧ ∀ k, k < 8 → σ' 125 k = (oS (wtN (σ 114) w) N N).2 k) ∧ fr wOrd σ σ' ∧ z' = z) := by
  refine g_enter (ret := none) (by decide +kernel) (Nat.le_of_ble_eq_true rfl) ?_
  intro p e s m args below meth c ls F hB hl
  obtain ⟨hx, hb, hr, hml, hown, hts, hlk, hK, hst⟩ := F
  have hR := hB.1.2
  have hl : lv_has ls 7 [(0, .ref (tad θ 111)), (1, .ref (tad θ 114))] := hl
  have hN8 : N ≤ 8 := by have := hW.1; omega
  have hpw := pow_N hN8
  refine lv_iconst (v := iZ 0) hx hb dX6_findOrder_0 rfl ?_
  refine lv_istore_n (lv' := [(2, .int (iZ 0)), (0, .ref (tad θ 111)), (1, .ref (tad θ 114))]) hx hb dX6_findOrder_1 rfl hl (by decide) rfl (fun ls hl => ?_)
  refine lv_iconst (v := iZ 0) hx hb dX6_findOrder_2 rfl ?_
  refine lv_istore_n (lv' := [(3, .int (iZ 0)), (2, .int (iZ 0)), (0, .ref (tad θ 111)), (1, .ref (tad θ 114))]) hx hb dX6_findOrder_3 rfl hl (by decide) rfl (fun ls hl => ?_)
  refine lv_iconst (v := iZ 0) hx hb dX6_findOrder_4 rfl ?_
  refine lv_istore (lv' := [(4, .int (iZ 0)), (3, .int (iZ 0)), (2, .int (iZ 0)), (0, .ref (tad θ 111)), (1, .ref (tad θ 114))]) hx hb dX6_findOrder_5 hl (by decide) rfl (fun ls hl => ?_)
  have loop7 : ∀ (n7 : Nat) (i : Nat) (σ1 : gS) (H : Heap) (locs : List Loc) (ls : Array Slot), 8 - i < n7 → (i ≤ 8) → (∀ k, k < i → σ1 125 k = -9) → (fr wOrd σ σ1) →  gB θ σ1 z s.heap H locs → lv_has ls 7 [(4, .int (iZ ((i : Nat) : Int))), (3, .int (iZ 0)), (2, .int (iZ 0)), (0, .ref (tad θ 111)), (1, .ref (tad θ 114))] → W p l e (gRm 3 71) s m args below meth c H locs 0 0 (MQ below (gQv θ (fun σ' z' => (σ' 111 20 = (((2 ^ N - 1) &&& ((oS (wtN (σ 114) w) N N).1 ^^^ 255) : Nat) : Int) ∧ ∀ k, k < 8 → σ' 125 k = (oS (wtN (σ 114) w) N N).2 k) ∧ fr wOrd σ σ' ∧ z' = z)) args s 0 0 (tA θ)) (F0 m 7 ls []) := by
    intro n7
    induction n7 with
    | zero => intro i σ1 H locs ls hmu; exact absurd hmu (Nat.not_lt_zero _)
    | succ n7 ih7 =>
      intro i σ1 H locs ls hmu hi h0 hf hB hl
      have hR := hB.1.2
      refine lv_iload hx hb dX6_findOrder_7 (lv_at hl 0 rfl) ?_
      refine lv_bipush (v := iZ 8) hx hb dX6_findOrder_9 (by decide) ?_
      refine z_icmp_ge (tgt := 29) hx hb dX6_findOrder_11 (by decide) ⟨by omega, by omega⟩ ⟨by decide, by decide⟩ (fun c_1 => ?_) (fun c_1 => ?_)
      · refine lv_iconst (v := iZ 1) hx hb dX6_findOrder_29 rfl ?_
        refine lv_istore (lv' := [(4, .int (iZ 1)), (3, .int (iZ 0)), (2, .int (iZ 0)), (0, .ref (tad θ 111)), (1, .ref (tad θ 114))]) hx hb dX6_findOrder_30 hl (by decide) rfl (fun ls hl => ?_)
        have loop32 : ∀ (n32 : Nat) (d : Nat) (j : Nat) (mo : Nat) (σ3 : gS) (H : Heap) (locs : List Loc) (ls : Array Slot), N - j + mo < n32 → (d = (oS (wtN (σ 114) w) N j).1) → (∀ k, k < 8 → σ3 125 k = (oS (wtN (σ 114) w) N j).2 k) → (∀ i, i < j → fsR (rdy (wtN (σ 114) w) (oS (wtN (σ 114) w) N i).1) N ≠ none) → (mo = 1 ∨ (mo = 0 ∧ fsR (rdy (wtN (σ 114) w) d) N = none)) → (fr wOrd σ σ3) →  gB θ σ3 z s.heap H locs → lv_has ls 7 [(4, .int (iZ ((mo : Nat) : Int))), (3, .int (iZ ((j : Nat) : Int))), (2, .int (iZ ((d : Nat) : Int))), (0, .ref (tad θ 111)), (1, .ref (tad θ 114))] → W p l e (gRm 3 71) s m args below meth c H locs 0 0 (MQ below (gQv θ (fun σ' z' => (σ' 111 20 = (((2 ^ N - 1) &&& ((oS (wtN (σ 114) w) N N).1 ^^^ 255) : Nat) : Int) ∧ ∀ k, k < 8 → σ' 125 k = (oS (wtN (σ 114) w) N N).2 k) ∧ fr wOrd σ σ' ∧ z' = z)) args s 0 0 (tA θ)) (F0 m 32 ls []) := by
          intro n32
          induction n32 with
          | zero => intro d j mo σ3 H locs ls hmu; exact absurd hmu (Nat.not_lt_zero _)
          | succ n32 ih32 =>
            intro d j mo σ3 H locs ls hmu hd hord hfd hmo hf hB hl
            have hR := hB.1.2
            have hg : σ3 114 = σ 114 := hf.row (fun k => rfl)
            have hd256 : d < 256 := by rw [hd]; exact oS_lt hN8 j
            have hcz := oS_cz hfd
            refine lv_iload hx hb dX6_findOrder_32 (lv_at hl 0 rfl) ?_
            refine z_if_eq (tgt := 131) hx hb dX6_findOrder_34 (by decide) ⟨by omega, by omega⟩ (fun c_2 => ?_) (fun c_2 => ?_)
            · have hno : fsR (rdy (wtN (σ 114) w) d) N = none := (hmo.resolve_left (by omega)).2
              have hend := oS_end hfd (by rw [← hd]; exact hno)
              refine lv_aload_n hx hb dX6_findOrder_131 rfl (lv_at hl 3 rfl) ?_
              refine lv_iconst (v := iZ 1) hx hb dX6_findOrder_132 rfl ?_
              refine lv_aload_n hx hb dX6_findOrder_133 rfl (lv_at hl 4 rfl) ?_
              refine lv_iconst (v := iZ 0) hx hb dX6_findOrder_134 rfl ?_
              refine g_iald (k := 0) hx hb hK hB (by decide) rfl (by omega) (Nat.lt_of_lt_of_eq (by omega : 0 < 50) (Eq.symm rfl)) (by decide) dX6_findOrder_135 ?_
              refine z_top (b := ((N : Nat) : Int)) (by rw [hg]; exact hN) ?_
              refine z_ishl1 (j := N) hx hb (by omega) dX6_findOrder_136 ?_
              refine lv_iconst (v := iZ 1) hx hb dX6_findOrder_137 rfl ?_
              refine z_isub hx hb dX6_findOrder_138 ?_
              refine z_top (b := (((2 ^ N - 1) : Nat) : Int)) (by omega) ?_
              refine lv_iload_n hx hb dX6_findOrder_139 rfl (lv_at hl 2 rfl) ?_
              refine lv_iconst (v := iZ (-1)) hx hb dX6_findOrder_140 rfl ?_
              refine lv_ixor hx hb dX6_findOrder_141 ?_
              refine z_iandnot (a := (2 ^ N - 1)) (b := d) hx hb (by omega) dX6_findOrder_142 ?_
              have hkb : ((2 ^ N - 1) &&& (d ^^^ 255)) < 256 := Nat.lt_of_le_of_lt Nat.and_le_left (by omega)
              refine g_putI (k := 20) hx hb hts hown hK hθ hB cf6 tyX6 tyX6_ok (by decide) rfl (by decide) kw_679 rfl rfl rfl ⟨by omega, by omega⟩ dX6_findOrder_143 (fun H locs hB => ?_)
              obtain ⟨σ7, hσ7⟩ : ∃ x_ : gS, x_ = up2 σ3 111 20 ((((2 ^ N - 1) &&& (d ^^^ 255)) : Nat) : Int) := ⟨_, rfl⟩
              rw [← hσ7] at hB
              have hR := hB.1.2
              exact g_vret hx hb hr hlk hB dX6_findOrder_146 (⟨⟨by rw [hσ7, up2_eq, hend, hd], fun k hk => by rw [hσ7, up2_c _ _ (by decide), hend]; exact hord k hk⟩, by rw [hσ7]; exact hf.tr (fr.up rfl), rfl⟩)
            · have hmo1 : mo = 1 := by omega
              have hmu1 : N - j + 1 < n32 + 1 := by rw [hmo1] at hmu; exact hmu
              refine lv_bipush (v := iZ (-9)) hx hb dX6_findOrder_37 (by decide) ?_
              refine lv_istore (lv' := [(5, .int (iZ (-9))), (4, .int (iZ ((mo : Nat) : Int))), (3, .int (iZ ((j : Nat) : Int))), (2, .int (iZ ((d : Nat) : Int))), (0, .ref (tad θ 111)), (1, .ref (tad θ 114))]) hx hb dX6_findOrder_39 hl (by decide) rfl (fun ls hl => ?_)
              refine lv_aload_n hx hb dX6_findOrder_41 rfl (lv_at hl 5 rfl) ?_
              refine lv_iconst (v := iZ 0) hx hb dX6_findOrder_42 rfl ?_
              refine g_iald (k := 0) hx hb hK hB (by decide) rfl (by omega) (Nat.lt_of_lt_of_eq (by omega : 0 < 50) (Eq.symm rfl)) (by decide) dX6_findOrder_43 ?_
              refine z_top (b := ((N : Nat) : Int)) (by rw [hg]; exact hN) ?_
              refine lv_iconst (v := iZ 1) hx hb dX6_findOrder_44 rfl ?_
              refine z_isub hx hb dX6_findOrder_45 ?_
              refine lv_istore (lv' := [(6, .int (iZ (((N : Nat) : Int) - 1))), (5, .int (iZ (-9))), (4, .int (iZ ((mo : Nat) : Int))), (3, .int (iZ ((j : Nat) : Int))), (2, .int (iZ ((d : Nat) : Int))), (0, .ref (tad θ 111)), (1, .ref (tad θ 114))]) hx hb dX6_findOrder_46 hl (by decide) rfl (fun ls hl => ?_)
              have loop48 : ∀ (n48 : Nat) (i : Nat) (v : Int) (σ4 : gS) (H : Heap) (locs : List Loc) (ls : Array Slot), i < n48 → (i ≤ N) → (lsP (rdy (wtN (σ 114) w) d) i N v) → (fr w127 σ3 σ4) →  gB θ σ4 z s.heap H locs → lv_has ls 7 [(6, .int (iZ (((i : Nat) : Int) - 1))), (5, .int (iZ v)), (4, .int (iZ ((mo : Nat) : Int))), (3, .int (iZ ((j : Nat) : Int))), (2, .int (iZ ((d : Nat) : Int))), (0, .ref (tad θ 111)), (1, .ref (tad θ 114))] → W p l e (gRm 3 71) s m args below meth c H locs 0 0 (MQ below (gQv θ (fun σ' z' => (σ' 111 20 = (((2 ^ N - 1) &&& ((oS (wtN (σ 114) w) N N).1 ^^^ 255) : Nat) : Int) ∧ ∀ k, k < 8 → σ' 125 k = (oS (wtN (σ 114) w) N N).2 k) ∧ fr wOrd σ σ' ∧ z' = z)) args s 0 0 (tA θ)) (F0 m 48 ls []) := by
                intro n48
                induction n48 with
                | zero => intro i v σ4 H locs ls hmu; exact absurd hmu (Nat.not_lt_zero _)
                | succ n48 ih48 =>
                  intro i v σ4 H locs ls hmu hi hv hf4 hB hl
                  have hR := hB.1.2
                  have hg4 : σ4 114 = σ3 114 := hf4.row (fun k => rfl)
                  have hvr : rg v := by rcases hv with ⟨h, _⟩ | ⟨k, _, h1, h2, _⟩ <;> (constructor <;> omega)
                  refine lv_iload hx hb dX6_findOrder_48 (lv_at hl 0 rfl) ?_
                  refine z_if_lt (tgt := 91) hx hb dX6_findOrder_50 (by decide) ⟨by omega, by omega⟩ (fun c_3 => ?_) (fun c_3 => ?_)
                  · have hv0 : v = nO (fsR (rdy (wtN (σ 114) w) d) N) := lsP_0 (by rw [show (0 : Nat) = i by omega]; exact hv)
                    have hnO := nO_in (R := rdy (wtN (σ 114) w) d) (N := N)
                    refine lv_iload hx hb dX6_findOrder_91 (lv_at hl 1 rfl) ?_
                    refine lv_bipush (v := iZ (-9)) hx hb dX6_findOrder_93 (by decide) ?_
                    refine z_icmp_eq (tgt := 102) hx hb dX6_findOrder_95 (by decide) ⟨by omega, by omega⟩ ⟨by decide, by decide⟩ (fun c_4 => ?_) (fun c_4 => ?_)
                    · have hnone : fsR (rdy (wtN (σ 114) w) d) N = none := by
                        rcases hnO with ⟨h1, h2⟩ | ⟨k, h1, h2, h3⟩
                        · exact h2
                        · omega
                      refine lv_iconst (v := iZ 0) hx hb dX6_findOrder_102 rfl ?_
                      refine lv_istore (lv' := [(4, .int (iZ 0)), (6, .int (iZ (((i : Nat) : Int) - 1))), (5, .int (iZ v)), (3, .int (iZ ((j : Nat) : Int))), (2, .int (iZ ((d : Nat) : Int))), (0, .ref (tad θ 111)), (1, .ref (tad θ 114))]) hx hb dX6_findOrder_103 hl (by decide) rfl (fun ls hl => ?_)
                      refine lv_iload hx hb dX6_findOrder_105 (lv_at hl 0 rfl) ?_
                      refine z_if_eq (tgt := 128) hx hb dX6_findOrder_107 (by decide) ⟨by decide, by decide⟩ (fun c_5 => ?_) (fun c_5 => ?_)
                      · refine lv_goto (tgt := 32) hx hb dX6_findOrder_128 (by decide) ?_
                        have hm0 : N - j + 0 < n32 := by omega
                        exact ih32 d j 0 σ4 _ _ _ hm0 hd (fun k hk => by rw [hf4.row (fun k => rfl)]; exact hord k hk) hfd (Or.inr ⟨rfl, hnone⟩) (hf.tr (hf4.mono (fun i k h => by simp [w127] at h; simp [wOrd]; omega))) hB (lv_sub hl [0, 3, 4, 5, 6] rfl)
                      · exact absurd (by decide) c_5
                    · obtain ⟨hvN, hfk⟩ : v.toNat < N ∧ fsR (rdy (wtN (σ 114) w) d) N = some v.toNat := by
                        rcases hnO with ⟨h1, h2⟩ | ⟨k, h1, h2, h3⟩
                        · omega
                        · have : v.toNat = k := by omega
                          rw [this]; exact ⟨h1, h3⟩
                      have hv0 : 0 ≤ v := by rcases hnO with ⟨h1, h2⟩ | ⟨k, h1, h2, h3⟩ <;> omega
                      have hjN : j + 1 ≤ N := by
                        have := oS_cz (W := (wtN (σ 114) w)) (N := N) (j := j + 1) (lt_s hfd (by rw [← hd, hfk]; exact fun q => by cases q))
                        omega
                      have hm1 : N - (j + 1) + 1 < n32 := mm1 hjN hmu1
                      refine lv_iconst (v := iZ 1) hx hb dX6_findOrder_98 rfl ?_
                      refine lv_goto (tgt := 103) hx hb dX6_findOrder_99 (by decide) ?_
                      refine lv_istore (lv' := [(4, .int (iZ 1)), (6, .int (iZ (((i : Nat) : Int) - 1))), (5, .int (iZ v)), (3, .int (iZ ((j : Nat) : Int))), (2, .int (iZ ((d : Nat) : Int))), (0, .ref (tad θ 111)), (1, .ref (tad θ 114))]) hx hb dX6_findOrder_103 hl (by decide) rfl (fun ls hl => ?_)
                      refine lv_iload hx hb dX6_findOrder_105 (lv_at hl 0 rfl) ?_
                      refine z_if_eq (tgt := 128) hx hb dX6_findOrder_107 (by decide) ⟨by decide, by decide⟩ (fun c_6 => ?_) (fun c_6 => ?_)
                      · exact absurd c_6 (by decide)
                      · refine lv_aload_n hx hb dX6_findOrder_110 rfl (lv_at hl 5 rfl) ?_
                        refine g_getr (k := 22) (j := 125) hx hb hts hown hK hθ hB cf6 (by decide) rfl (by decide) kw_681 rfl rfl dX6_findOrder_111 ?_
                        refine lv_iload hx hb dX6_findOrder_114 (lv_at hl 2 rfl) ?_
                        refine lv_iload_n hx hb dX6_findOrder_116 rfl (lv_at hl 3 rfl) ?_
                        refine g_iast (k := v.toNat) hx hb hK hθ hB (by decide) rfl (by omega) (Nat.lt_of_lt_of_eq (by omega : v.toNat < 8) (Eq.symm rfl)) (by decide) ⟨by omega, by omega⟩ dX6_findOrder_117 (fun H locs hB => ?_)
                        obtain ⟨σ5, hσ5⟩ : ∃ x_ : gS, x_ = up2 σ4 125 (v.toNat) ((j : Nat) : Int) := ⟨_, rfl⟩
                        rw [← hσ5] at hB
                        have hR := hB.1.2
                        refine lv_iload_n hx hb dX6_findOrder_118 rfl (lv_at hl 4 rfl) ?_
                        refine lv_iconst (v := iZ 1) hx hb dX6_findOrder_119 rfl ?_
                        refine lv_iload hx hb dX6_findOrder_120 (lv_at hl 2 rfl) ?_
                        refine z_top (b := ((v.toNat : Nat) : Int)) (by omega) ?_
                        refine z_ishl1 (j := v.toNat) hx hb (by omega) dX6_findOrder_122 ?_
                        refine z_ior (a := d) (b := (2 ^ (v.toNat))) hx hb dX6_findOrder_123 ?_
                        refine lv_istore_n (lv' := [(2, .int (iZ (((d ||| (2 ^ (v.toNat))) : Nat) : Int))), (4, .int (iZ 1)), (6, .int (iZ (((i : Nat) : Int) - 1))), (5, .int (iZ v)), (3, .int (iZ ((j : Nat) : Int))), (0, .ref (tad θ 111)), (1, .ref (tad θ 114))]) hx hb dX6_findOrder_124 rfl hl (by decide) rfl (fun ls hl => ?_)
                        refine z_iinc (k := 4) (lv' := [(3, .int (iZ (((j : Nat) : Int) + 1))), (2, .int (iZ (((d ||| (2 ^ (v.toNat))) : Nat) : Int))), (4, .int (iZ 1)), (6, .int (iZ (((i : Nat) : Int) - 1))), (5, .int (iZ v)), (0, .ref (tad θ 111)), (1, .ref (tad θ 114))]) hx hb dX6_findOrder_125 hl rfl (by decide) rfl (fun ls hl => ?_)
                        have hl : lv_has ls 7 [(3, .int (iZ (((j + 1) : Nat) : Int))), (2, .int (iZ (((d ||| (2 ^ (v.toNat))) : Nat) : Int))), (4, .int (iZ 1)), (6, .int (iZ (((i : Nat) : Int) - 1))), (5, .int (iZ v)), (0, .ref (tad θ 111)), (1, .ref (tad θ 114))] := by have e9 : (((j : Nat) : Int) + 1) = (((j + 1) : Nat) : Int) := (by omega); rw [e9] at hl; exact hl
                        refine lv_goto (tgt := 32) hx hb dX6_findOrder_128 (by decide) ?_
                        skip
                        exact ih32 (d ||| (2 ^ (v.toNat))) (j + 1) 1 σ5 _ _ _ hm1 (by rw [oS_succ (by rw [← hd]; exact hfk), ← hd]) (by rw [oS_succ (by rw [← hd]; exact hfk), hσ5]; exact up_upn (fun k hk => by rw [hf4.row (fun k => rfl)]; exact hord k hk) v.toNat _) (lt_s hfd (by rw [← hd, hfk]; exact fun q => by cases q)) (Or.inl rfl) (by rw [hσ5]; exact (hf.tr (hf4.mono (fun i k h => by simp [w127] at h; simp [wOrd]; omega))).tr (fr.up rfl)) hB (lv_sub hl [2, 0, 1, 5, 6] rfl)
                  · refine lv_iload_n hx hb dX6_findOrder_53 rfl (lv_at hl 4 rfl) ?_
                    refine lv_iload hx hb dX6_findOrder_54 (lv_at hl 0 rfl) ?_
                    refine z_top (b := (((i - 1) : Nat) : Int)) (by omega) ?_
                    refine g_calli (g_runS (As := [.int (iZ ((d : Nat) : Int)), .int (iZ (((i - 1) : Nat) : Int))]) (rest := []) hx hb hml hown hts hK hst hB (mX6_has l θ hθ σ4 z d hd256 (i - 1) (by omega)) ms_X6_has kw_825 rfl hl.1 rfl (Nat.le_of_ble_eq_true rfl) ⟨by decide, by decide⟩ ⟨Nat.le_refl _, Nat.le_refl _⟩ dX6_findOrder_56) hB (fun q_9 σ_7 z_8 H locs hq_9 pq_9 hB => ?_)
                    obtain ⟨pq_9, e1_, e2_⟩ := pq_9
                    rw [e1_, e2_] at hB
                    clear e1_ e2_
                    refine z_if_ne (tgt := 81) hx hb dX6_findOrder_59 (by decide) ⟨by omega, by omega⟩ (fun c_10 => ?_) (fun c_10 => ?_)
                    · refine lv_iload hx hb dX6_findOrder_81 (lv_at hl 1 rfl) ?_
                      refine lv_istore (lv' := [(5, .int (iZ v)), (6, .int (iZ (((i : Nat) : Int) - 1))), (4, .int (iZ ((mo : Nat) : Int))), (3, .int (iZ ((j : Nat) : Int))), (2, .int (iZ ((d : Nat) : Int))), (0, .ref (tad θ 111)), (1, .ref (tad θ 114))]) hx hb dX6_findOrder_83 hl (by decide) rfl (fun ls hl => ?_)
                      refine z_iinc (k := 1) (lv' := [(6, .int (iZ ((((i : Nat) : Int) - 1) + (-1)))), (5, .int (iZ v)), (4, .int (iZ ((mo : Nat) : Int))), (3, .int (iZ ((j : Nat) : Int))), (2, .int (iZ ((d : Nat) : Int))), (0, .ref (tad θ 111)), (1, .ref (tad θ 114))]) hx hb dX6_findOrder_85 hl rfl (by decide) rfl (fun ls hl => ?_)
                      have hl : lv_has ls 7 [(6, .int (iZ (((i - 1 : Nat) : Int) - 1))), (5, .int (iZ v)), (4, .int (iZ ((mo : Nat) : Int))), (3, .int (iZ ((j : Nat) : Int))), (2, .int (iZ ((d : Nat) : Int))), (0, .ref (tad θ 111)), (1, .ref (tad θ 114))] := by have e9 : ((((i : Nat) : Int) - 1) + (-1)) = (((i - 1 : Nat) : Int) - 1) := (by omega); rw [e9] at hl; exact hl
                      refine lv_goto (tgt := 48) hx hb dX6_findOrder_88 (by decide) ?_
                      exact ih48 (i - 1) v σ4 _ _ _ (by omega) (by omega) (lsP_no hv (by omega) (rdy_has (by omega))) hf4 hB (lv_sub hl [0, 1, 2, 3, 4, 5, 6] rfl)
                    · refine lv_aload_n hx hb dX6_findOrder_62 rfl (lv_at hl 5 rfl) ?_
                      refine lv_aload_n hx hb dX6_findOrder_63 rfl (lv_at hl 6 rfl) ?_
                      refine lv_iload hx hb dX6_findOrder_64 (lv_at hl 0 rfl) ?_
                      refine z_top (b := (((i - 1) : Nat) : Int)) (by omega) ?_
                      refine g_calli (g_runV (i := 111) (As := [.ref (tad θ 114), .int (iZ (((i - 1) : Nat) : Int))]) (rest := []) hx hb hml hown hts hK hst hB (mX6_waits l θ hθ σ4 z w (hA.keep (by rw [hf4.row (fun k => rfl), hf.row (fun k => rfl)]) (by rw [hf4.row (fun k => rfl), hf.row (fun k => rfl)])) ho (by rw [hg4, hg]; exact hW) (i - 1) (by omega) (by rw [hg4, hg]; omega)) mv_X6_waits kw_828 cf6 (by decide) rfl rfl hl.1 rfl (Nat.le_of_ble_eq_true rfl) ⟨by decide, by decide⟩ ⟨Nat.le_refl _, Nat.le_refl _⟩ dX6_findOrder_66) hB (fun qw σ6 z_11 H locs hqw hpw2 hB => ?_)
                      obtain ⟨hpw2, hf6, e2_⟩ := hpw2
                      rw [e2_] at hB
                      clear e2_
                      have hR := hB.1.2
                      rw [hg4, hg] at hpw2
                      subst hpw2
                      refine lv_iload_n hx hb dX6_findOrder_69 rfl (lv_at hl 4 rfl) ?_
                      refine lv_iconst (v := iZ (-1)) hx hb dX6_findOrder_70 rfl ?_
                      refine lv_ixor hx hb dX6_findOrder_71 ?_
                      refine z_iandnot (a := (wtN (σ 114) w (i - 1))) (b := d) hx hb (wtN_lt hW ho (by omega) (by omega)) dX6_findOrder_72 ?_
                      have hwb : (wtN (σ 114) w (i - 1) &&& (d ^^^ 255)) < 256 := Nat.lt_of_le_of_lt Nat.and_le_left (wtN_lt hW ho (by omega) (by omega))
                      refine z_if_ne (tgt := 81) hx hb dX6_findOrder_73 (by decide) ⟨by omega, by omega⟩ (fun c_12 => ?_) (fun c_12 => ?_)
                      · refine lv_iload hx hb dX6_findOrder_81 (lv_at hl 1 rfl) ?_
                        refine lv_istore (lv' := [(5, .int (iZ v)), (6, .int (iZ (((i : Nat) : Int) - 1))), (4, .int (iZ ((mo : Nat) : Int))), (3, .int (iZ ((j : Nat) : Int))), (2, .int (iZ ((d : Nat) : Int))), (0, .ref (tad θ 111)), (1, .ref (tad θ 114))]) hx hb dX6_findOrder_83 hl (by decide) rfl (fun ls hl => ?_)
                        refine z_iinc (k := 1) (lv' := [(6, .int (iZ ((((i : Nat) : Int) - 1) + (-1)))), (5, .int (iZ v)), (4, .int (iZ ((mo : Nat) : Int))), (3, .int (iZ ((j : Nat) : Int))), (2, .int (iZ ((d : Nat) : Int))), (0, .ref (tad θ 111)), (1, .ref (tad θ 114))]) hx hb dX6_findOrder_85 hl rfl (by decide) rfl (fun ls hl => ?_)
                        have hl : lv_has ls 7 [(6, .int (iZ (((i - 1 : Nat) : Int) - 1))), (5, .int (iZ v)), (4, .int (iZ ((mo : Nat) : Int))), (3, .int (iZ ((j : Nat) : Int))), (2, .int (iZ ((d : Nat) : Int))), (0, .ref (tad θ 111)), (1, .ref (tad θ 114))] := by have e9 : ((((i : Nat) : Int) - 1) + (-1)) = (((i - 1 : Nat) : Int) - 1) := (by omega); rw [e9] at hl; exact hl
                        refine lv_goto (tgt := 48) hx hb dX6_findOrder_88 (by decide) ?_
                        exact ih48 (i - 1) v σ6 _ _ _ (by omega) (by omega) (lsP_no hv (by omega) (rdy_not (by omega))) (hf4.tr hf6) hB (lv_sub hl [0, 1, 2, 3, 4, 5, 6] rfl)
                      · refine lv_iload hx hb dX6_findOrder_76 (lv_at hl 0 rfl) ?_
                        refine lv_goto (tgt := 83) hx hb dX6_findOrder_78 (by decide) ?_
                        refine lv_istore (lv' := [(5, .int (iZ (((i : Nat) : Int) - 1))), (6, .int (iZ (((i : Nat) : Int) - 1))), (4, .int (iZ ((mo : Nat) : Int))), (3, .int (iZ ((j : Nat) : Int))), (2, .int (iZ ((d : Nat) : Int))), (0, .ref (tad θ 111)), (1, .ref (tad θ 114))]) hx hb dX6_findOrder_83 hl (by decide) rfl (fun ls hl => ?_)
                        refine z_iinc (k := 1) (lv' := [(6, .int (iZ ((((i : Nat) : Int) - 1) + (-1)))), (5, .int (iZ (((i : Nat) : Int) - 1))), (4, .int (iZ ((mo : Nat) : Int))), (3, .int (iZ ((j : Nat) : Int))), (2, .int (iZ ((d : Nat) : Int))), (0, .ref (tad θ 111)), (1, .ref (tad θ 114))]) hx hb dX6_findOrder_85 hl rfl (by decide) rfl (fun ls hl => ?_)
                        have hl : lv_has ls 7 [(6, .int (iZ (((i - 1 : Nat) : Int) - 1))), (5, .int (iZ (((i : Nat) : Int) - 1))), (4, .int (iZ ((mo : Nat) : Int))), (3, .int (iZ ((j : Nat) : Int))), (2, .int (iZ ((d : Nat) : Int))), (0, .ref (tad θ 111)), (1, .ref (tad θ 114))] := by have e9 : ((((i : Nat) : Int) - 1) + (-1)) = (((i - 1 : Nat) : Int) - 1) := (by omega); rw [e9] at hl; exact hl
                        refine lv_goto (tgt := 48) hx hb dX6_findOrder_88 (by decide) ?_
                        exact ih48 (i - 1) (((i : Nat) : Int) - 1) σ6 _ _ _ (by omega) (by omega) (by have e8 : (((i : Nat) : Int) - 1) = ((i - 1 : Nat) : Int) := (by omega); rw [e8]; exact lsP_yes (by omega) hi (rdy_yes (by omega) (by omega))) (hf4.tr hf6) hB (lv_sub hl [0, 1, 2, 3, 4, 5, 6] rfl)
              exact loop48 _ N (-9) σ3 _ _ _ (Nat.lt_succ_self _) (Nat.le_refl _) (lsP_N _ _) fr.rf hB (lv_sub hl [0, 1, 2, 3, 4, 5, 6] rfl)
        exact loop32 _ 0 0 1 σ1 _ _ _ (Nat.lt_succ_self _) rfl (fun k hk => h0 k (by omega)) (fun i h => absurd h (Nat.not_lt_zero _)) (Or.inl rfl) hf hB (lv_sub hl [0, 1, 2, 3, 4] rfl)
      · refine lv_aload_n hx hb dX6_findOrder_14 rfl (lv_at hl 3 rfl) ?_
        refine g_getr (k := 22) (j := 125) hx hb hts hown hK hθ hB cf6 (by decide) rfl (by decide) kw_681 rfl rfl dX6_findOrder_15 ?_
        refine lv_iload hx hb dX6_findOrder_18 (lv_at hl 0 rfl) ?_
        refine lv_bipush (v := iZ (-9)) hx hb dX6_findOrder_20 (by decide) ?_
        refine g_iast (k := i) hx hb hK hθ hB (by decide) rfl (by omega) (Nat.lt_of_lt_of_eq (by omega : i < 8) (Eq.symm rfl)) (by decide) ⟨by decide, by decide⟩ dX6_findOrder_22 (fun H locs hB => ?_)
        obtain ⟨σ2, hσ2⟩ : ∃ x_ : gS, x_ = up2 σ1 125 i (-9) := ⟨_, rfl⟩
        rw [← hσ2] at hB
        have hR := hB.1.2
        refine z_iinc (k := 0) (lv' := [(4, .int (iZ (((i : Nat) : Int) + 1))), (3, .int (iZ 0)), (2, .int (iZ 0)), (0, .ref (tad θ 111)), (1, .ref (tad θ 114))]) hx hb dX6_findOrder_23 hl rfl (by decide) rfl (fun ls hl => ?_)
        have hl : lv_has ls 7 [(4, .int (iZ (((i + 1) : Nat) : Int))), (3, .int (iZ 0)), (2, .int (iZ 0)), (0, .ref (tad θ 111)), (1, .ref (tad θ 114))] := by have e9 : (((i : Nat) : Int) + 1) = (((i + 1) : Nat) : Int) := (by omega); rw [e9] at hl; exact hl
        refine lv_goto (tgt := 7) hx hb dX6_findOrder_26 (by decide) ?_
        exact ih7 (i + 1) σ2 _ _ _ (by omega) (by omega) (lt_s (fun k h => by rw [hσ2, up2_k _ _ (by omega)]; exact h0 k h) (by rw [hσ2, up2_eq])) (by rw [hσ2]; exact hf.tr (fr.up rfl)) hB (lv_sub hl [0, 1, 2, 3, 4] rfl)
  exact loop7 _ 0 σ _ _ _ (Nat.lt_succ_self _) (by omega) (fun k h => absurd h (Nat.not_lt_zero _)) fr.rf hB (lv_sub hl [0, 1, 2, 3, 4] rfl)
