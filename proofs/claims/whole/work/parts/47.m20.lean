theorem cn_bg_all : ∀ j, j < 129 → cn j < 1000 := by decide +kernel
theorem cn_bg (j : Nat) (h : j < 129) : cn j < 1000 := cn_bg_all j h
section GR4
variable {p : Program} {l : Launch} {e : Env} {R : Room} {s : State} {m : MethodId} {args : Array Value} {below : List Frame} {meth : Method} {c : Code} {H : Heap} {locs : List Loc} {cells slots : Nat} {Q : State → Prop}
variable {cc : ByteArray} {pc : Nat} {ls : Array Slot} {rest : List Value} {own : String} {index : Nat}
theorem code_max : prog_11_method_65_code = Lib.Math.max.code := by rfl
theorem code_min : prog_11_method_69_code = Lib.Math.min.code := by rfl
theorem g_max (hx : p.tables.exec = Jvm.exec) (hb : c.code = cc) {nL : Nat} (hml : c.maxLocals = nL) (hsz : ls.size = nL) (hown : s.vm.findClass own = some m.cls) (hlink : Cond.methodLink own index Lib.Math.max.name ∈ gws) (hts : ∀ w ∈ gws, w.before args s = true) (hrs : (rest.map fun v => v.category).sum ≤ 8) (hR : 1 ≤ R.frames ∧ 21 ≤ R.locals) (hcs : cells ≤ R.cells ∧ slots ≤ R.slots) {a b : Int} (ha : rg a) (hb2 : rg b) (d : decode cc pc = .ok (.invokestatic index, 3))
    (kk : ∀ q : Int, (b ≤ a ∧ q = a) ∨ (a < b ∧ q = b) → W p l e R s m args below meth c H locs cells slots Q (F0 m (pc + 3) ls (.int (iZ q) :: rest))) : W p l e R s m args below meth c H locs cells slots Q (F0 m pc ls (.int (iZ b) :: .int (iZ a) :: rest)) := by
  refine va_mmax hx hb (hml.trans hsz.symm) hown (hts _ hlink) (hts _ kw_255) (hts _ kw_11) (by rw [← code_max]; exact hts _ kw_256) hR.1 (Nat.le_trans (Nat.add_le_add hrs (Nat.le_refl _)) hR.2) hcs.1 hcs.2 d ?_
  by_cases h : a < b
  · rw [if_pos ((iZ_lt ha hb2).mpr h)]; exact kk b (Or.inr ⟨h, rfl⟩)
  · rw [if_neg (fun q => h ((iZ_lt ha hb2).mp q))]; exact kk a (Or.inl ⟨by omega, rfl⟩)
theorem g_min (hx : p.tables.exec = Jvm.exec) (hb : c.code = cc) {nL : Nat} (hml : c.maxLocals = nL) (hsz : ls.size = nL) (hown : s.vm.findClass own = some m.cls) (hlink : Cond.methodLink own index Lib.Math.min.name ∈ gws) (hts : ∀ w ∈ gws, w.before args s = true) (hrs : (rest.map fun v => v.category).sum ≤ 8) (hR : 1 ≤ R.frames ∧ 21 ≤ R.locals) (hcs : cells ≤ R.cells ∧ slots ≤ R.slots) {a b : Int} (ha : rg a) (hb2 : rg b) (d : decode cc pc = .ok (.invokestatic index, 3))
    (kk : ∀ q : Int, (a ≤ b ∧ q = a) ∨ (b < a ∧ q = b) → W p l e R s m args below meth c H locs cells slots Q (F0 m (pc + 3) ls (.int (iZ q) :: rest))) : W p l e R s m args below meth c H locs cells slots Q (F0 m pc ls (.int (iZ b) :: .int (iZ a) :: rest)) := by
  refine va_mmin hx hb (hml.trans hsz.symm) hown (hts _ hlink) (hts _ kw_258) (hts _ kw_11) (by rw [← code_min]; exact hts _ kw_259) hR.1 (Nat.le_trans (Nat.add_le_add hrs (Nat.le_refl _)) hR.2) hcs.1 hcs.2 d ?_
  by_cases h : b < a
  · rw [if_pos ((iZ_lt hb2 ha).mpr h)]; exact kk b (Or.inr ⟨h, rfl⟩)
  · rw [if_neg (fun q => h ((iZ_lt hb2 ha).mp q))]; exact kk a (Or.inl ⟨by omega, rfl⟩)
end GR4
set_option maxHeartbeats 4000000 in
set_option maxRecDepth 100000 in
theorem mJ7_fill_53178 (l : Launch) (θ : gT) (hθ : gOK θ) (σ : gS) (z : gZ) (j n : Nat) (hj : j < 129) (hcj : ck j = 7) (hcn : cn j = n) (v : Int) (hv : rg v) : GV l θ yJ7_fill_53178 cJ7_fill_53178 4 0 0 [.ref (tad θ j), .int (iZ v)] σ z (fun σ' z' => (∀ k, k < n → σ' j k = v) ∧ fr (fun i _ => i == j) σ σ' ∧ z' = z) := by
  refine g_enter (ret := none) (by decide +kernel) (Nat.le_of_ble_eq_true rfl) ?_
  intro p e s m args below meth c ls F hB hl
  obtain ⟨hx, hb, hr, hml, hown, hts, hlk, hK, hst⟩ := F
  have hR := hB.1.2
  have hl : lv_has ls 4 [(0, .ref (tad θ j)), (1, .int (iZ v))] := hl
  have hbg : cn j < 1000 := cn_bg j hj
  have hn9 : n < 1000 := by omega
  refine lv_iconst (v := iZ 0) hx hb dJ7_fill_53178_0 rfl ?_
  refine lv_istore_n (lv' := [(2, .int (iZ 0)), (0, .ref (tad θ j)), (1, .int (iZ v))]) hx hb dJ7_fill_53178_1 rfl hl (by decide) rfl (fun ls hl => ?_)
  refine lv_aload_n hx hb dJ7_fill_53178_2 rfl (lv_at hl 1 rfl) ?_
  refine g_len hx hb hK hB hj hcj hbg dJ7_fill_53178_3 ?_
  refine z_top (b := ((n : Nat) : Int)) (congrArg (fun k : Nat => (k : Int)) (hcn : cn j = n)) ?_
  refine lv_istore_n (lv' := [(3, .int (iZ ((n : Nat) : Int))), (2, .int (iZ 0)), (0, .ref (tad θ j)), (1, .int (iZ v))]) hx hb dJ7_fill_53178_4 rfl hl (by decide) rfl (fun ls hl => ?_)
  have loop5 : ∀ (n5 : Nat) (i : Nat) (σ1 : gS) (H : Heap) (locs : List Loc) (ls : Array Slot), n - i < n5 → (i ≤ n) → (∀ k, k < i → σ1 j k = v) → (fr (fun i _ => i == j) σ σ1) →  gB θ σ1 z s.heap H locs → lv_has ls 4 [(3, .int (iZ ((n : Nat) : Int))), (2, .int (iZ ((i : Nat) : Int))), (0, .ref (tad θ j)), (1, .int (iZ v))] → W p l e (gRm 0 0) s m args below meth c H locs 0 0 (MQ below (gQv θ (fun σ' z' => (∀ k, k < n → σ' j k = v) ∧ fr (fun i _ => i == j) σ σ' ∧ z' = z)) args s 0 0 (tA θ)) (F0 m 5 ls []) := by
    intro n5
    induction n5 with
    | zero => intro i σ1 H locs ls hmu; exact absurd hmu (Nat.not_lt_zero _)
    | succ n5 ih5 =>
      intro i σ1 H locs ls hmu hi hg hf hB hl
      have hR := hB.1.2
      refine lv_iload_n hx hb dJ7_fill_53178_5 rfl (lv_at hl 1 rfl) ?_
      refine lv_iload_n hx hb dJ7_fill_53178_6 rfl (lv_at hl 0 rfl) ?_
      refine z_icmp_ge (tgt := 20) hx hb dJ7_fill_53178_7 (by decide) ⟨by omega, by omega⟩ ⟨by omega, by omega⟩ (fun c_1 => ?_) (fun c_1 => ?_)
      · exact g_vret hx hb hr hlk hB dJ7_fill_53178_20 (⟨fun k h => hg k (by omega), hf, rfl⟩)
      · refine lv_aload_n hx hb dJ7_fill_53178_10 rfl (lv_at hl 2 rfl) ?_
        refine lv_iload_n hx hb dJ7_fill_53178_11 rfl (lv_at hl 1 rfl) ?_
        refine lv_iload_n hx hb dJ7_fill_53178_12 rfl (lv_at hl 3 rfl) ?_
        refine g_iast (k := i) hx hb hK hθ hB hj hcj (by omega) (Nat.lt_of_lt_of_eq (by omega : i < n) (Eq.symm hcn)) hbg ⟨by omega, by omega⟩ dJ7_fill_53178_13 (fun H locs hB => ?_)
        obtain ⟨σ2, hσ2⟩ : ∃ x_ : gS, x_ = up2 σ1 j i v := ⟨_, rfl⟩
        rw [← hσ2] at hB
        have hR := hB.1.2
        refine z_iinc (k := 1) (lv' := [(2, .int (iZ (((i : Nat) : Int) + 1))), (3, .int (iZ ((n : Nat) : Int))), (0, .ref (tad θ j)), (1, .int (iZ v))]) hx hb dJ7_fill_53178_14 hl rfl (by decide) rfl (fun ls hl => ?_)
        have hl : lv_has ls 4 [(2, .int (iZ (((i + 1) : Nat) : Int))), (3, .int (iZ ((n : Nat) : Int))), (0, .ref (tad θ j)), (1, .int (iZ v))] := by have e9 : (((i : Nat) : Int) + 1) = (((i + 1) : Nat) : Int) := (by omega); rw [e9] at hl; exact hl
        refine lv_goto (tgt := 5) hx hb dJ7_fill_53178_17 (by decide) ?_
        exact ih5 (i + 1) σ2 _ _ _ (by omega) (by omega) (lt_s (fun k h => by rw [hσ2, up2_k _ _ (by omega)]; exact hg k h) (by rw [hσ2, up2_eq])) (by rw [hσ2]; exact hf.tr (fr.up (by simp))) hB (lv_sub hl [1, 0, 2, 3] rfl)
  exact loop5 _ 0 σ _ _ _ (Nat.lt_succ_self _) (by omega) (fun k h => absurd h (Nat.not_lt_zero _)) fr.rf hB (lv_sub hl [0, 1, 2, 3] rfl)
set_option maxHeartbeats 4000000 in
set_option maxRecDepth 100000 in
theorem mX5_isValue (l : Launch) (θ : gT) (hθ : gOK θ) (σ : gS) (z : gZ) (a : Int) (ha : rg a) : GI l θ yX5_isValue cX5_isValue 1 (some .boolean) 0 0 [.int (iZ a)] σ z (fun q σ' z' => ((q = 1 ∧ (0 ≤ a ∧ a ≤ 99)) ∨ (q = 0 ∧ ¬ (0 ≤ a ∧ a ≤ 99))) ∧ σ' = σ ∧ z' = z) := by
  refine g_enter (ret := (some .boolean)) (by decide +kernel) (Nat.le_of_ble_eq_true rfl) ?_
  intro p e s m args below meth c ls F hB hl
  obtain ⟨hx, hb, hr, hml, hown, hts, hlk, hK, hst⟩ := F
  have hR := hB.1.2
  have hl : lv_has ls 1 [(0, .int (iZ a))] := hl
  refine lv_iload_n hx hb dX5_isValue_0 rfl (lv_at hl 0 rfl) ?_
  refine z_if_lt (tgt := 14) hx hb dX5_isValue_1 (by decide) ⟨by omega, by omega⟩ (fun c_1 => ?_) (fun c_1 => ?_)
  · refine lv_iconst (v := iZ 0) hx hb dX5_isValue_14 rfl ?_
    exact g_zret hx hb hr hlk hB dX5_isValue_15 (by decide) (⟨by omega, rfl, rfl⟩)
  · refine lv_iload_n hx hb dX5_isValue_4 rfl (lv_at hl 0 rfl) ?_
    refine lv_bipush (v := iZ 99) hx hb dX5_isValue_5 (by decide) ?_
    refine z_icmp_gt (tgt := 14) hx hb dX5_isValue_7 (by decide) ⟨by omega, by omega⟩ ⟨by decide, by decide⟩ (fun c_2 => ?_) (fun c_2 => ?_)
    · refine lv_iconst (v := iZ 0) hx hb dX5_isValue_14 rfl ?_
      exact g_zret hx hb hr hlk hB dX5_isValue_15 (by decide) (⟨by omega, rfl, rfl⟩)
    · refine lv_iconst (v := iZ 1) hx hb dX5_isValue_10 rfl ?_
      refine lv_goto (tgt := 15) hx hb dX5_isValue_11 (by decide) ?_
      exact g_zret hx hb hr hlk hB dX5_isValue_15 (by decide) (⟨by omega, rfl, rfl⟩)
set_option maxHeartbeats 4000000 in
set_option maxRecDepth 100000 in
theorem mX5_figuresOf (l : Launch) (θ : gT) (hθ : gOK θ) (σ : gS) (z : gZ) (K : Int) (hKr : rg K) : GI l θ yX5_figuresOf cX5_figuresOf 1 (some .int) 0 0 [.int (iZ K)] σ z (fun q σ' z' => (((K < 0 ∨ 11 < K) ∧ q = 0) ∨ ((0 ≤ K ∧ K ≤ 11) ∧ q = ((fgz K : Nat) : Int))) ∧ σ' = σ ∧ z' = z) := by
  refine g_enter (ret := (some .int)) (by decide +kernel) (Nat.le_of_ble_eq_true rfl) ?_
  intro p e s m args below meth c ls F hB hl
  obtain ⟨hx, hb, hr, hml, hown, hts, hlk, hK, hst⟩ := F
  have hR := hB.1.2
  have hl : lv_has ls 1 [(0, .int (iZ K))] := hl
  have hfz := fgz_sp K
  refine lv_iload_n hx hb dX5_figuresOf_0 rfl (lv_at hl 0 rfl) ?_
  refine z_if_lt (tgt := 10) hx hb dX5_figuresOf_1 (by decide) ⟨by omega, by omega⟩ (fun c_1 => ?_) (fun c_1 => ?_)
  · refine lv_iconst (v := iZ 0) hx hb dX5_figuresOf_10 rfl ?_
    refine lv_goto (tgt := 19) hx hb dX5_figuresOf_11 (by decide) ?_
    exact g_iret hx hb hr hlk hB dX5_figuresOf_19 ⟨by decide, by decide⟩ (⟨by omega, rfl, rfl⟩)
  · refine lv_iload_n hx hb dX5_figuresOf_4 rfl (lv_at hl 0 rfl) ?_
    refine lv_bipush (v := iZ 11) hx hb dX5_figuresOf_5 (by decide) ?_
    refine z_icmp_le (tgt := 14) hx hb dX5_figuresOf_7 (by decide) ⟨by omega, by omega⟩ ⟨by decide, by decide⟩ (fun c_2 => ?_) (fun c_2 => ?_)
    · refine g_figs hx hb hown hts hst hB kw_323 dX5_figuresOf_14 ?_
      refine lv_iload_n hx hb dX5_figuresOf_17 rfl (lv_at hl 0 rfl) ?_
      refine g_fig (k := K.toNat) hx hb hst hB (by omega) (by omega) dX5_figuresOf_18 ?_
      have hg_3 := gFg_sp (k := K.toNat) (by omega)
      exact g_iret hx hb hr hlk hB dX5_figuresOf_19 ⟨by omega, by omega⟩ (⟨by omega, rfl, rfl⟩)
    · refine lv_iconst (v := iZ 0) hx hb dX5_figuresOf_10 rfl ?_
      refine lv_goto (tgt := 19) hx hb dX5_figuresOf_11 (by decide) ?_
      exact g_iret hx hb hr hlk hB dX5_figuresOf_19 ⟨by decide, by decide⟩ (⟨by omega, rfl, rfl⟩)
set_option maxHeartbeats 4000000 in
set_option maxRecDepth 100000 in
theorem mX5_namesStream (l : Launch) (θ : gT) (hθ : gOK θ) (σ : gS) (z : gZ) (K : Int) (hKr : 0 ≤ K ∧ K ≤ 11) (i : Nat) (hi : i < 3) : GI l θ yX5_namesStream cX5_namesStream 2 (some .boolean) 1 20 [.int (iZ K), .int (iZ ((i : Nat) : Int))] σ z (fun q σ' z' => ((q = 1 ∧ (sPl K i)) ∨ (q = 0 ∧ ¬ (sPl K i))) ∧ σ' = σ ∧ z' = z) := by
  refine g_enter (ret := (some .boolean)) (by decide +kernel) (Nat.le_of_ble_eq_true rfl) ?_
  intro p e s m args below meth c ls F hB hl
  obtain ⟨hx, hb, hr, hml, hown, hts, hlk, hK, hst⟩ := F
  have hR := hB.1.2
  have hl : lv_has ls 2 [(0, .int (iZ K)), (1, .int (iZ ((i : Nat) : Int)))] := hl
  have hfz := fgz_sp K
  have hsp := sPl_sp K hi
  refine lv_iload_n hx hb dX5_namesStream_0 rfl (lv_at hl 0 rfl) ?_
  refine z_if_eq (tgt := 19) hx hb dX5_namesStream_1 (by decide) ⟨by omega, by omega⟩ (fun c_1 => ?_) (fun c_1 => ?_)
  · refine lv_iconst (v := iZ 0) hx hb dX5_namesStream_19 rfl ?_
    exact g_zret hx hb hr hlk hB dX5_namesStream_20 (by decide) (⟨by rw [hsp]; omega, rfl, rfl⟩)
  · refine lv_iload_n hx hb dX5_namesStream_4 rfl (lv_at hl 0 rfl) ?_
    refine lv_iconst (v := iZ 1) hx hb dX5_namesStream_5 rfl ?_
    refine z_icmp_eq (tgt := 19) hx hb dX5_namesStream_6 (by decide) ⟨by omega, by omega⟩ ⟨by decide, by decide⟩ (fun c_2 => ?_) (fun c_2 => ?_)
    · refine lv_iconst (v := iZ 0) hx hb dX5_namesStream_19 rfl ?_
      exact g_zret hx hb hr hlk hB dX5_namesStream_20 (by decide) (⟨by rw [hsp]; omega, rfl, rfl⟩)
    · refine lv_iload_n hx hb dX5_namesStream_9 rfl (lv_at hl 0 rfl) ?_
      refine lv_bipush (v := iZ 6) hx hb dX5_namesStream_10 (by decide) ?_
      refine z_icmp_ne (tgt := 21) hx hb dX5_namesStream_12 (by decide) ⟨by omega, by omega⟩ ⟨by decide, by decide⟩ (fun c_3 => ?_) (fun c_3 => ?_)
      · refine lv_iload_n hx hb dX5_namesStream_21 rfl (lv_at hl 1 rfl) ?_
        refine lv_iload_n hx hb dX5_namesStream_22 rfl (lv_at hl 0 rfl) ?_
        refine g_calli (g_runS (As := [.int (iZ K)]) (rest := [.int (iZ ((i : Nat) : Int))]) hx hb hml hown hts hK hst hB (mX5_figuresOf l θ hθ σ z K ⟨by omega, by omega⟩) ms_X5_figuresOf kw_328 rfl hl.1 rfl (Nat.le_of_ble_eq_true rfl) ⟨by decide, by decide⟩ ⟨Nat.le_refl _, Nat.le_refl _⟩ dX5_namesStream_23) hB (fun q_6 σ_4 z_5 H locs hq_6 pq_6 hB => ?_)
        obtain ⟨pq_6, e1_, e2_⟩ := pq_6
        rw [e1_, e2_] at hB
        clear e1_ e2_
        refine z_icmp_ge (tgt := 33) hx hb dX5_namesStream_26 (by decide) ⟨by omega, by omega⟩ ⟨by omega, by omega⟩ (fun c_7 => ?_) (fun c_7 => ?_)
        · refine lv_iconst (v := iZ 0) hx hb dX5_namesStream_33 rfl ?_
          exact g_zret hx hb hr hlk hB dX5_namesStream_34 (by decide) (⟨by rw [hsp]; omega, rfl, rfl⟩)
        · refine lv_iconst (v := iZ 1) hx hb dX5_namesStream_29 rfl ?_
          refine lv_goto (tgt := 34) hx hb dX5_namesStream_30 (by decide) ?_
          exact g_zret hx hb hr hlk hB dX5_namesStream_34 (by decide) (⟨by rw [hsp]; omega, rfl, rfl⟩)
      · refine lv_iload_n hx hb dX5_namesStream_15 rfl (lv_at hl 1 rfl) ?_
        refine z_if_ne (tgt := 21) hx hb dX5_namesStream_16 (by decide) ⟨by omega, by omega⟩ (fun c_8 => ?_) (fun c_8 => ?_)
        · refine lv_iload_n hx hb dX5_namesStream_21 rfl (lv_at hl 1 rfl) ?_
          refine lv_iload_n hx hb dX5_namesStream_22 rfl (lv_at hl 0 rfl) ?_
          refine g_calli (g_runS (As := [.int (iZ K)]) (rest := [.int (iZ ((i : Nat) : Int))]) hx hb hml hown hts hK hst hB (mX5_figuresOf l θ hθ σ z K ⟨by omega, by omega⟩) ms_X5_figuresOf kw_328 rfl hl.1 rfl (Nat.le_of_ble_eq_true rfl) ⟨by decide, by decide⟩ ⟨Nat.le_refl _, Nat.le_refl _⟩ dX5_namesStream_23) hB (fun q_11 σ_9 z_10 H locs hq_11 pq_11 hB => ?_)
          obtain ⟨pq_11, e1_, e2_⟩ := pq_11
          rw [e1_, e2_] at hB
          clear e1_ e2_
          refine z_icmp_ge (tgt := 33) hx hb dX5_namesStream_26 (by decide) ⟨by omega, by omega⟩ ⟨by omega, by omega⟩ (fun c_12 => ?_) (fun c_12 => ?_)
          · refine lv_iconst (v := iZ 0) hx hb dX5_namesStream_33 rfl ?_
            exact g_zret hx hb hr hlk hB dX5_namesStream_34 (by decide) (⟨by rw [hsp]; omega, rfl, rfl⟩)
          · refine lv_iconst (v := iZ 1) hx hb dX5_namesStream_29 rfl ?_
            refine lv_goto (tgt := 34) hx hb dX5_namesStream_30 (by decide) ?_
            exact g_zret hx hb hr hlk hB dX5_namesStream_34 (by decide) (⟨by rw [hsp]; omega, rfl, rfl⟩)
        · refine lv_iconst (v := iZ 0) hx hb dX5_namesStream_19 rfl ?_
          exact g_zret hx hb hr hlk hB dX5_namesStream_20 (by decide) (⟨by rw [hsp]; omega, rfl, rfl⟩)
set_option maxHeartbeats 4000000 in
set_option maxRecDepth 100000 in
theorem mX5_isFigure (l : Launch) (θ : gT) (hθ : gOK θ) (σ : gS) (z : gZ) (K : Int) (hKr : 0 ≤ K ∧ K ≤ 11) (i : Nat) (hi : i < 3) (v n : Int) (hv : rg v) (hn : 0 ≤ n ∧ n ≤ 8) : GI l θ yX5_isFigure cX5_isFigure 5 (some .boolean) 2 41 [.int (iZ K), .int (iZ ((i : Nat) : Int)), .int (iZ v), .int (iZ n)] σ z (fun q σ' z' => ((q = 1 ∧ (0 ≤ v ∧ v ≤ fgL K i n)) ∨ (q = 0 ∧ ¬ (0 ≤ v ∧ v ≤ fgL K i n))) ∧ σ' = σ ∧ z' = z) := by
  refine g_enter (ret := (some .boolean)) (by decide +kernel) (Nat.le_of_ble_eq_true rfl) ?_
  intro p e s m args below meth c ls F hB hl
  obtain ⟨hx, hb, hr, hml, hown, hts, hlk, hK, hst⟩ := F
  have hR := hB.1.2
  have hl : lv_has ls 5 [(0, .int (iZ K)), (1, .int (iZ ((i : Nat) : Int))), (2, .int (iZ v)), (3, .int (iZ n))] := hl
  have hfz := fgz_sp K
  have hfl := fgL_sp K i n
  have hsp := sPl_sp K hi
  refine lv_bipush (v := iZ 10) hx hb dX5_isFigure_0 (by decide) ?_
  refine lv_istore (lv' := [(4, .int (iZ 10)), (0, .int (iZ K)), (1, .int (iZ ((i : Nat) : Int))), (2, .int (iZ v)), (3, .int (iZ n))]) hx hb dX5_isFigure_2 hl (by decide) rfl (fun ls hl => ?_)
  refine lv_iload_n hx hb dX5_isFigure_4 rfl (lv_at hl 2 rfl) ?_
  refine lv_iload_n hx hb dX5_isFigure_5 rfl (lv_at hl 1 rfl) ?_
  refine g_calli (g_runS (As := [.int (iZ K)]) (rest := [.int (iZ ((i : Nat) : Int))]) hx hb hml hown hts hK hst hB (mX5_figuresOf l θ hθ σ z K ⟨by omega, by omega⟩) ms_X5_figuresOf kw_328 rfl hl.1 rfl (Nat.le_of_ble_eq_true rfl) ⟨by decide, by decide⟩ ⟨Nat.le_refl _, Nat.le_refl _⟩ dX5_isFigure_6) hB (fun q_3 σ_1 z_2 H locs hq_3 pq_3 hB => ?_)
  obtain ⟨pq_3, e1_, e2_⟩ := pq_3
  rw [e1_, e2_] at hB
  clear e1_ e2_
  refine z_icmp_lt (tgt := 18) hx hb dX5_isFigure_9 (by decide) ⟨by omega, by omega⟩ ⟨by omega, by omega⟩ (fun c_4 => ?_) (fun c_4 => ?_)
  · refine lv_iload_n hx hb dX5_isFigure_18 rfl (lv_at hl 1 rfl) ?_
    refine z_if_ne (tgt := 28) hx hb dX5_isFigure_19 (by decide) ⟨by omega, by omega⟩ (fun c_5 => ?_) (fun c_5 => ?_)
    · refine lv_iload_n hx hb dX5_isFigure_28 rfl (lv_at hl 1 rfl) ?_
      refine lv_iload_n hx hb dX5_isFigure_29 rfl (lv_at hl 2 rfl) ?_
      refine g_calli (g_runS (As := [.int (iZ K), .int (iZ ((i : Nat) : Int))]) (rest := []) hx hb hml hown hts hK hst hB (mX5_namesStream l θ hθ σ z K (by omega) i (by omega)) ms_X5_namesStream kw_329 rfl hl.1 rfl (Nat.le_of_ble_eq_true rfl) ⟨by decide, by decide⟩ ⟨Nat.le_refl _, Nat.le_refl _⟩ dX5_isFigure_30) hB (fun q_8 σ_6 z_7 H locs hq_8 pq_8 hB => ?_)
      obtain ⟨pq_8, e1_, e2_⟩ := pq_8
      rw [e1_, e2_] at hB
      clear e1_ e2_
      rw [hsp] at pq_8
      refine z_if_eq (tgt := 39) hx hb dX5_isFigure_33 (by decide) ⟨by omega, by omega⟩ (fun c_9 => ?_) (fun c_9 => ?_)
      · refine lv_iload_n hx hb dX5_isFigure_39 rfl (lv_at hl 3 rfl) ?_
        refine z_if_lt (tgt := 53) hx hb dX5_isFigure_40 (by decide) ⟨by omega, by omega⟩ (fun c_10 => ?_) (fun c_10 => ?_)
        · refine lv_iconst (v := iZ 0) hx hb dX5_isFigure_53 rfl ?_
          exact g_zret hx hb hr hlk hB dX5_isFigure_54 (by decide) (⟨by omega, rfl, rfl⟩)
        · refine lv_iload_n hx hb dX5_isFigure_43 rfl (lv_at hl 3 rfl) ?_
          refine lv_iload hx hb dX5_isFigure_44 (lv_at hl 0 rfl) ?_
          refine z_icmp_ge (tgt := 53) hx hb dX5_isFigure_46 (by decide) ⟨by omega, by omega⟩ ⟨by decide, by decide⟩ (fun c_11 => ?_) (fun c_11 => ?_)
          · refine lv_iconst (v := iZ 0) hx hb dX5_isFigure_53 rfl ?_
            exact g_zret hx hb hr hlk hB dX5_isFigure_54 (by decide) (⟨by omega, rfl, rfl⟩)
          · refine lv_iconst (v := iZ 1) hx hb dX5_isFigure_49 rfl ?_
            refine lv_goto (tgt := 54) hx hb dX5_isFigure_50 (by decide) ?_
            exact g_zret hx hb hr hlk hB dX5_isFigure_54 (by decide) (⟨by omega, rfl, rfl⟩)
      · refine lv_iload_n hx hb dX5_isFigure_36 rfl (lv_at hl 4 rfl) ?_
        refine lv_istore (lv' := [(4, .int (iZ n)), (0, .int (iZ K)), (1, .int (iZ ((i : Nat) : Int))), (2, .int (iZ v)), (3, .int (iZ n))]) hx hb dX5_isFigure_37 hl (by decide) rfl (fun ls hl => ?_)
        refine lv_iload_n hx hb dX5_isFigure_39 rfl (lv_at hl 3 rfl) ?_
        refine z_if_lt (tgt := 53) hx hb dX5_isFigure_40 (by decide) ⟨by omega, by omega⟩ (fun c_12 => ?_) (fun c_12 => ?_)
        · refine lv_iconst (v := iZ 0) hx hb dX5_isFigure_53 rfl ?_
          exact g_zret hx hb hr hlk hB dX5_isFigure_54 (by decide) (⟨by omega, rfl, rfl⟩)
        · refine lv_iload_n hx hb dX5_isFigure_43 rfl (lv_at hl 3 rfl) ?_
          refine lv_iload hx hb dX5_isFigure_44 (lv_at hl 0 rfl) ?_
          refine z_icmp_ge (tgt := 53) hx hb dX5_isFigure_46 (by decide) ⟨by omega, by omega⟩ ⟨by omega, by omega⟩ (fun c_13 => ?_) (fun c_13 => ?_)
          · refine lv_iconst (v := iZ 0) hx hb dX5_isFigure_53 rfl ?_
            exact g_zret hx hb hr hlk hB dX5_isFigure_54 (by decide) (⟨by omega, rfl, rfl⟩)
          · refine lv_iconst (v := iZ 1) hx hb dX5_isFigure_49 rfl ?_
            refine lv_goto (tgt := 54) hx hb dX5_isFigure_50 (by decide) ?_
            exact g_zret hx hb hr hlk hB dX5_isFigure_54 (by decide) (⟨by omega, rfl, rfl⟩)
    · refine lv_iconst (v := iZ 2) hx hb dX5_isFigure_22 rfl ?_
      refine lv_istore (lv' := [(4, .int (iZ 2)), (0, .int (iZ K)), (1, .int (iZ ((i : Nat) : Int))), (2, .int (iZ v)), (3, .int (iZ n))]) hx hb dX5_isFigure_23 hl (by decide) rfl (fun ls hl => ?_)
      refine lv_goto (tgt := 39) hx hb dX5_isFigure_25 (by decide) ?_
      refine lv_iload_n hx hb dX5_isFigure_39 rfl (lv_at hl 3 rfl) ?_
      refine z_if_lt (tgt := 53) hx hb dX5_isFigure_40 (by decide) ⟨by omega, by omega⟩ (fun c_14 => ?_) (fun c_14 => ?_)
      · refine lv_iconst (v := iZ 0) hx hb dX5_isFigure_53 rfl ?_
        exact g_zret hx hb hr hlk hB dX5_isFigure_54 (by decide) (⟨by omega, rfl, rfl⟩)
      · refine lv_iload_n hx hb dX5_isFigure_43 rfl (lv_at hl 3 rfl) ?_
        refine lv_iload hx hb dX5_isFigure_44 (lv_at hl 0 rfl) ?_
        refine z_icmp_ge (tgt := 53) hx hb dX5_isFigure_46 (by decide) ⟨by omega, by omega⟩ ⟨by decide, by decide⟩ (fun c_15 => ?_) (fun c_15 => ?_)
        · refine lv_iconst (v := iZ 0) hx hb dX5_isFigure_53 rfl ?_
          exact g_zret hx hb hr hlk hB dX5_isFigure_54 (by decide) (⟨by omega, rfl, rfl⟩)
        · refine lv_iconst (v := iZ 1) hx hb dX5_isFigure_49 rfl ?_
          refine lv_goto (tgt := 54) hx hb dX5_isFigure_50 (by decide) ?_
          exact g_zret hx hb hr hlk hB dX5_isFigure_54 (by decide) (⟨by omega, rfl, rfl⟩)
  · refine lv_iconst (v := iZ 1) hx hb dX5_isFigure_12 rfl ?_
    refine lv_istore (lv' := [(4, .int (iZ 1)), (0, .int (iZ K)), (1, .int (iZ ((i : Nat) : Int))), (2, .int (iZ v)), (3, .int (iZ n))]) hx hb dX5_isFigure_13 hl (by decide) rfl (fun ls hl => ?_)
    refine lv_goto (tgt := 39) hx hb dX5_isFigure_15 (by decide) ?_
    refine lv_iload_n hx hb dX5_isFigure_39 rfl (lv_at hl 3 rfl) ?_
    refine z_if_lt (tgt := 53) hx hb dX5_isFigure_40 (by decide) ⟨by omega, by omega⟩ (fun c_16 => ?_) (fun c_16 => ?_)
    · refine lv_iconst (v := iZ 0) hx hb dX5_isFigure_53 rfl ?_
      exact g_zret hx hb hr hlk hB dX5_isFigure_54 (by decide) (⟨by omega, rfl, rfl⟩)
    · refine lv_iload_n hx hb dX5_isFigure_43 rfl (lv_at hl 3 rfl) ?_
      refine lv_iload hx hb dX5_isFigure_44 (lv_at hl 0 rfl) ?_
      refine z_icmp_ge (tgt := 53) hx hb dX5_isFigure_46 (by decide) ⟨by omega, by omega⟩ ⟨by decide, by decide⟩ (fun c_17 => ?_) (fun c_17 => ?_)
      · refine lv_iconst (v := iZ 0) hx hb dX5_isFigure_53 rfl ?_
        exact g_zret hx hb hr hlk hB dX5_isFigure_54 (by decide) (⟨by omega, rfl, rfl⟩)
      · refine lv_iconst (v := iZ 1) hx hb dX5_isFigure_49 rfl ?_
        refine lv_goto (tgt := 54) hx hb dX5_isFigure_50 (by decide) ?_
        exact g_zret hx hb hr hlk hB dX5_isFigure_54 (by decide) (⟨by omega, rfl, rfl⟩)
