theorem upr_z0 {z : gZ} {N : Nat} (h : z N = 0) : upr z N 0 = z := funext fun i => by
  by_cases q : i = N
  · rw [q, upr_eq, h]
  · exact upr_c _ _ q
section QL
variable {p : Program} {l : Launch} {e : Env} {R : Room} {s : State} {m : MethodId} {args : Array Value} {below : List Frame} {meth : Method} {c : Code} {H : Heap} {locs : List Loc} {cells slots cells' slots' : Nat} {Q : State → Prop} {cc : ByteArray} {pc index index2 index3 n k nL : Nat} {ls : Array Slot} {rest : List Value} {D : va_G} {cs : ClassId × ClassId × ClassId} {A : Nat → Prop} {N f : Nat} {ad ad0 : Nat → Nat} {ρ ρ0 : gQ} {σ σ0 : gS} {τ : Nat → Int} {Sg : Nat → Nat → Int} {z : gZ} {own C : String} {T : u_T} {ci a : Nat}
theorem q_mkL {y : MethodName} {bytes : ByteArray} {C2 : String} {T2 : u_T} {ci2 n2 nL2 fr2 lo2 mc2 ms2 M : Nat} (hx : p.tables.exec = Jvm.exec) (hb : c.code = cc) (hml : c.maxLocals = nL) (hts : ∀ w ∈ gws, w.before args s = true) (hown : s.vm.findClass own = some m.cls) (hK : va_K D vwCl (gty cs) s) (hO : qO s) (hA : ∀ q, s.heap.size ≤ q → A q) (hB : qB D cs A N ad ρ σ z s.heap H locs) (hsz : ls.size = nL) (hcl : gCl ci2 C2 T2 n2) (ty0 : Nat → FieldType) (hty : ∀ k, k < n2 → parseFieldDescriptor (T2 k).2.2.1 = some (ty0 k)) (hdf : ∀ j, j < n2 → defaultValue (ty0 j) = gd0 ci2 j) (hck : ck N = ci2) (hz0 : z N = 0) (hlink : Cond.classLink own index C2 ∈ gws) (hinst : Cond.instantiable C2 n2 ∈ gws) (hini : Cond.initialized C2 ∈ gws) (hM : IC l D cs A y bytes nL2 fr2 lo2 mc2 ms2 N M) (hyC : y.cls = C2) (hy1 : y.name = "<init>") (hy2 : y.cls ≠ "java/lang/invoke/MethodHandle" ∧ y.cls ≠ "java/lang/invoke/VarHandle" ∧ (parseMethodDescriptor y.desc).map (fun d => d.parameters.length) = some 0) (hml2 : Cond.methodLink own index2 y ∈ gws) (him : Cond.instanceMethod y ∈ gws) (hcode : Cond.code y bytes nL2 none ∈ gws) (hrs : (rest.map fun v => v.category).sum ≤ 7) (hR : fr2 + 1 ≤ R.frames ∧ 8 + (nL2 + 11) + lo2 ≤ R.locals) (ec : cells + 1 + mc2 = cells') (es : slots + n2 + ms2 = slots') (hc : cells' ≤ R.cells) (hsl : slots' ≤ R.slots) (d1 : decode cc pc = .ok (.new index, 3)) (d2 : decode cc (pc + 3) = .ok (.dup, 1)) (d3 : decode cc (pc + 4) = .ok (.invokespecial index2, 3))
    (kk : ∀ (q : Nat) (ad2 : Nat → Nat) (ρ2 : gQ) (σ2 : gS) (H : Heap) (locs : List Loc), qB D cs A M ad2 ρ2 σ2 z s.heap H locs → pI N M (upr ad N q) (upr ρ N (fun _ => none)) (upr σ N (fun _ => 0)) ad2 ρ2 σ2 → W p l e R s m args below meth c H locs cells' slots' Q (F0 m (pc + 7) ls (.ref q :: rest))) : W p l e R s m args below meth c H locs cells slots Q (F0 m pc ls rest) := by
  subst ec es
  refine q_new hx hb hown hts hK hA hB hcl ty0 hty hdf hck hlink hinst hini (by omega) (by omega) d1 (fun q H1 hB1 => ?_)
  have hB2 : qB D cs A (N + 1) (upr ad N q) (upr ρ N (fun _ => none)) (upr σ N (fun _ => 0)) z s.heap H1 locs := by
    unfold qB qW at hB1 ⊢
    rw [upr_z0 hz0] at hB1
    exact hB1
  refine lv_dup hx hb d2 rfl ?_
  have hM1 := hM (upr ad N q) (upr ρ N (fun _ => none)) (upr σ N (fun _ => 0)) z (fun k => by rw [upr_eq]) (fun _ => hz0)
  rw [upr_eq] at hM1
  refine va_callv (va_runI (As := []) (rest := .ref q :: rest) ⟨hx, hb, hml, hown, hts⟩ hM1 (cwI 0 hts (gws_ws (gws_code hcode)) rfl rfl rfl (hts _ (by rw [hyC]; exact hini)) (hts _ hml2) (hts _ him) hy1 hy2 hR) ⟨q_blind, fun U hU hW => ⟨rfl, q_pre hK hO hA hB2 hU hW⟩⟩ rfl rfl hsz rfl (lv_room (by simp only [List.map_cons, List.sum_cons]; show 1 + _ ≤ 8; omega)) d3 ⟨by omega, by omega⟩) hB2.2 (fun _ _ h => h) (fun _ h => h) (fun u t H2 locs2 ht hvm hw hB3 hz1 hk1 hS => ?_)
  exact kk q u.1 u.2.1 u.2.2 H2 locs2 ⟨by rw [← ht]; exact hB3, hS⟩ hw
end QL
theorem law_st {s : State} {b : Nat} (hts : ∀ w ∈ lw_tbl, w.before #[Value.ref b] s = true) (hgv : (Jvm.Cond.and given_1 narrow_1).before #[Value.ref b] s = true) (A : Nat → Prop) (hA : ∀ a : Nat, a < s.heap.size → ¬ A a) : ∃ (f : Nat) (K V : Nat → Nat), ∀ (D : va_G) (cs : ClassId × ClassId × ClassId) (ad : Nat → Nat) (ρ : gQ), gSt (D, cs, A, ad, ρ, f, K, V) s := by
  have hs := flat_of_before _ hgv
  have he : ∀ j : Nat, j < 12 → (Cond.eq (.elem (.static "ClockedFlows" "FIGURES_OF_KIND" "[I") (.int (Int32.ofNat j))) (.int (iZ (gFg j)))).before #[Value.ref b] s = true := fun j hj => hs _ (by
    have : ∀ j : Nat, j < 12 → (Cond.eq (.elem (.static "ClockedFlows" "FIGURES_OF_KIND" "[I") (.int (Int32.ofNat j))) (.int (iZ (gFg j)))) ∈ flatC (Jvm.Cond.and given_1 narrow_1) := by decide +kernel
    exact this j hj)
  obtain ⟨f, hf, hT⟩ := va_Tof (tm := .static "ClockedFlows" "FIGURES_OF_KIND" "[I") (ty := .int) (N := 12) (f := fun j => .int (iZ (gFg j))) (A := A) (by decide) (hs _ (by decide +kernel)) (va_eqt (hs _ (by decide +kernel))) (fun j hj => va_eqt (he j hj)) hA
  have hy : ∀ j : Nat, j < 12 → (Cond.eq (.elem (.field (.string "ClockedFlows$Text" 38) "java/lang/String" "value" "[B") (.int (Int32.ofNat j))) (.int (gBy.getD j 0))).before #[Value.ref b] s = true := fun j hj => hs _ (by
    have : ∀ j : Nat, j < 12 → (Cond.eq (.elem (.field (.string "ClockedFlows$Text" 38) "java/lang/String" "value" "[B") (.int (Int32.ofNat j))) (.int (gBy.getD j 0))) ∈ flatC (Jvm.Cond.and given_1 narrow_1) := by decide +kernel
    exact this j hj)
  obtain ⟨K, V, hS, hE⟩ := vk_Sof (N := 1) (tm := fun _ => .string "ClockedFlows$Text" 38) (len := [12]) (byt := [gBy]) (A := A) (args := #[Value.ref b]) (s := s)
    (fun i hi => by obtain rfl : i = 0 := by omega
                    decide) (fun i hi => hs _ (by decide +kernel)) (fun i hi => hs _ (by decide +kernel)) (fun i hi => hs _ (by decide +kernel))
    (fun i hi => by obtain rfl : i = 0 := by omega
                    exact hs _ (by decide +kernel))
    (fun i hi j hj => by
      obtain rfl : i = 0 := by omega
      exact hy j hj) (fun i j h1 h2 h3 => absurd (show i = j by omega) h3) hA
  refine ⟨f, K, V, fun D cs ad ρ => ⟨⟨va_Zof (hts _ kw_324) (hts _ (List.mem_filter.mp kw_1).1) hf hA, hT⟩, ⟨vk_R.of (hts _ kw_225) (hE 0 (by decide)), hS, va_Zof (hts _ kw_239) (hts _ (List.mem_filter.mp kw_9).1) (va_eqt (hs _ (by decide +kernel))) hA⟩, va_Nw.of rfl (hts _ kw_320), va_Nw.of rfl (hts _ kw_325), va_Nw.of rfl (hts _ kw_396), va_Nw.of rfl (hts _ kw_401), va_Nw.of rfl (hts _ kw_495), va_Nw.of rfl (hts _ kw_506)⟩⟩
theorem law_K {s : State} {b : Nat} (hts : ∀ w ∈ lw_tbl, w.before #[Value.ref b] s = true) : ∃ (D : va_G) (cs : ClassId × ClassId × ClassId), va_K D vwCl (gty cs) s ∧ qO s := by
  have hg : ∀ w ∈ gws, w.before #[Value.ref b] s = true := fun w hw => hts w (List.mem_filter.mp hw).1
  obtain ⟨c0, i0, k0⟩ := u_known (C := RX0) (T := TX0) (N := 3) (n := 3) hg inX0 (hg _ kw_123)
  obtain ⟨c1, i1, k1⟩ := u_known (C := RX1) (T := TX1) (N := 6) (n := 6) hg inX1 (hg _ kw_41)
  obtain ⟨c2, i2, k2⟩ := u_known (C := RX2) (T := TX2) (N := 11) (n := 11) hg inX2 (hg _ kw_74)
  obtain ⟨c3, i3, k3⟩ := u_known (C := RX3) (T := TX3) (N := 5) (n := 5) hg inX3 (hg _ kw_143)
  obtain ⟨c4, i4, k4⟩ := u_known (C := RX4) (T := TX4) (N := 2) (n := 2) hg inX4 (hg _ kw_26)
  obtain ⟨c5, i5, k5⟩ := u_known (C := RX5) (T := TX5) (N := 10) (n := 10) hg inX5 (hg _ kw_18)
  obtain ⟨c6, i6, k6⟩ := u_known (C := RX6) (T := TX6) (N := 28) (n := 28) hg inX6 (hg _ kw_654)
  obtain ⟨aI, kI, pI, a1, a2, a3⟩ := Cond.arrayClass_spec (args := #[Value.ref b]) (first := s) (o := none) (s := s) (idx := []) (hg _ kw_39)
  obtain ⟨aZ, kZ, pZ, b1, b2, b3⟩ := Cond.arrayClass_spec (args := #[Value.ref b]) (first := s) (o := none) (s := s) (idx := []) (hg _ kw_165)
  obtain ⟨pF, aF, kF, d1, -, d3, d4, d5⟩ := Cond.arrayOver_spec (args := #[Value.ref b]) (first := s) (o := none) (s := s) (idx := []) (hts _ kw_129)
  refine ⟨(fun k => [c0, c1, c2, c3, c4, c5, c6].getD k c0, fun k => [i0, i1, i2, i3, i4, i5, i6].getD k i0), (aI, aZ, aF), ⟨fun k q hq => ?_, fun k q hq => ?_⟩, va_AO.of (hts _ kw_129), va_Nw.of rfl (hts _ kw_27), va_Nw.of rfl (hts _ kw_75), va_Nw.of rfl (hts _ kw_144)⟩
  · match k, hq with
    | 0, hq => cases hq; exact k0
    | 1, hq => cases hq; exact k1
    | 2, hq => cases hq; exact k2
    | 3, hq => cases hq; exact k3
    | 4, hq => cases hq; exact k4
    | 5, hq => cases hq; exact k5
    | 6, hq => cases hq; exact k6
    | k + 7, hq => simp [vwCl] at hq
  · match k, hq with
    | 0, hq => cases hq; exact ⟨fun N z => ⟨fun k h => (by cases h), kI, a2, pI, a3⟩, a1⟩
    | 1, hq => cases hq; exact ⟨fun N z => ⟨fun k h => (by cases h), kZ, b2, pZ, b3⟩, b1⟩
    | 2, hq => cases hq; exact ⟨fun N z => ⟨fun k h => (by cases h), kF, d3, pF, d4⟩, kF, pF, d3, d4, d1, d5⟩
    | k + 3, hq => simp [gty] at hq
set_option maxHeartbeats 4000000 in
theorem law_loop (l : Launch) {p : Program} {e : Env} {s : State} {m : MethodId} {below : List Frame} {meth : Method} {c : Code} {θ : gT} {b L : Nat} {xs : Nat → Int32} (F : LF θ b L xs p s m #[Value.ref b] c) (hr : meth.sig.returnType = ret) (hlocks : meth.locks = false) (hA : ∀ q : Nat, tA θ q → s.heap.size ≤ q) :
    ∀ (mu i : Nat), L - i < mu → i ≤ L → ∀ (σ : gS) (z : gZ) (H : Heap) (locs : List Loc) (ls : Array Slot), IV σ z → gB θ σ z s.heap H locs → lv_has ls 4 (lwL θ b i) → W p l e room_1 s m #[Value.ref b] below meth c H locs 129 2881 (lw_Z below #[Value.ref b] s) (F0 m 18 ls [])
  | 0, i, hmu, _ => by omega
  | mu + 1, i, hmu, hiL => by
    intro σ z H locs ls hI hB hl
    obtain ⟨⟨hx, hb, hml, hown, hts, hK, hst⟩, ⟨hX, hbl, hbA⟩, hL, hθ⟩ := id F
    refine lv_iload_n hx hb dL_law_18 rfl (lv_at hl 0 rfl) ?_
    refine lv_aload_n hx hb dL_law_19 rfl (lv_at hl 3 rfl) ?_
    refine va_slen hx hb hX hbl hbA hB.2 dL_law_20 ?_
    rw [show Int32.ofNat L = iZ ((L : Nat) : Int) from Int32.ofInt_eq_ofNat.symm]
    refine lv_bipush (v := iZ 6) hx hb dL_law_21 (by decide) ?_
    refine z_isub hx hb dL_law_23 ?_
    refine z_icmp_gt (tgt := 959) hx hb dL_law_24 (by decide) ⟨by omega, by omega⟩ ⟨by omega, by omega⟩ (fun q => ?_) (fun q => ?_)
    · refine lv_iconst (v := 1) hx hb dL_law_959 (by decide) ?_
      refine va_forget (fun q hq => hA _ (hB.2.2.2 q hq)) ?_
      refine W.widen (k := 600000) (n := 7302249) (by omega) (by omega) ?_
      exact lw_ret hx hb hr hlocks dL_law_960
    · have hi6 : i + 6 ≤ L := by omega
      refine lv_aload_n hx hb dL_law_27 rfl (lv_at hl 3 rfl) ?_
      refine lv_iload_n hx hb dL_law_28 rfl (lv_at hl 0 rfl) ?_
      refine va_sld hx hb hX hbl hbA hB.2 (iZ_in (show i < L by omega) (by omega)) dL_law_29 ?_
      refine lv_bipush (v := 31) hx hb dL_law_30 (by decide) ?_
      refine lv_iand hx hb dL_law_32 ?_
      have KK : ∀ (σ : gS) (z : gZ) (H : Heap) (locs : List Loc), IV σ z → gB θ σ z s.heap H locs → W p l e room_1 s m #[Value.ref b] below meth c H locs 129 2881 (lw_Z below #[Value.ref b] s) (F0 m 953 ls []) := fun σ z H locs hI hB => by
        refine z_iinc (lv' := lwL θ b (i + 6)) hx hb dL_law_953 hl (k := 0) rfl (by decide) rfl (fun ls hl => ?_)
        refine lv_goto (tgt := 18) hx hb dL_law_956 (by decide) ?_
        exact law_loop l F hr hlocks hA mu (i + 6) (by omega) (by omega) σ z H locs ls hI hB hl
      generalize xs (iZ ((i : Nat) : Int)).toNatClampNeg &&& 31 = x9
      by_cases ho : x9.toInt < 0 ∨ 23 < x9.toInt
      · exact lv_tableOut (tgt := 953) hx hb dL_law_33 ho (by decide) (KK σ z H locs hI hB)
      have h : x9.toInt = 0 ∨ x9.toInt = 1 ∨ x9.toInt = 2 ∨ x9.toInt = 3 ∨ x9.toInt = 4 ∨ x9.toInt = 5 ∨ x9.toInt = 6 ∨ x9.toInt = 7 ∨ x9.toInt = 8 ∨ x9.toInt = 9 ∨ x9.toInt = 10 ∨ x9.toInt = 11 ∨ x9.toInt = 12 ∨ x9.toInt = 13 ∨ x9.toInt = 14 ∨ x9.toInt = 15 ∨ x9.toInt = 16 ∨ x9.toInt = 17 ∨ x9.toInt = 18 ∨ x9.toInt = 19 ∨ x9.toInt = 20 ∨ x9.toInt = 21 ∨ x9.toInt = 22 ∨ x9.toInt = 23 := by omega
      rcases h with h | h | h | h | h | h | h | h | h | h | h | h | h | h | h | h | h | h | h | h | h | h | h | h
      · exact lv_tableIn (off := 111) (tgt := 144) hx hb dL_law_33 (by rw [h]; decide) (by rw [h]; decide) (by rw [h]; rfl) (by decide) (law_write l F hi6 hI hB hl KK)
      · exact lv_tableIn (off := 134) (tgt := 167) hx hb dL_law_33 (by rw [h]; decide) (by rw [h]; decide) (by rw [h]; rfl) (by decide) (law_wipe l F hi6 hI hB hl KK)
      · exact lv_tableIn (off := 147) (tgt := 180) hx hb dL_law_33 (by rw [h]; decide) (by rw [h]; decide) (by rw [h]; rfl) (by decide) (law_fault l F hi6 hI hB hl KK)
      · exact lv_tableIn (off := 160) (tgt := 193) hx hb dL_law_33 (by rw [h]; decide) (by rw [h]; decide) (by rw [h]; rfl) (by decide) (law_program l F hi6 hI hB hl KK)
      · exact lv_tableIn (off := 173) (tgt := 206) hx hb dL_law_33 (by rw [h]; decide) (by rw [h]; decide) (by rw [h]; rfl) (by decide) (law_about l F hi6 hI hB hl KK)
      · exact lv_tableIn (off := 196) (tgt := 229) hx hb dL_law_33 (by rw [h]; decide) (by rw [h]; decide) (by rw [h]; rfl) (by decide) (law_stream l F hi6 hI hB hl KK)
      · exact lv_tableIn (off := 229) (tgt := 262) hx hb dL_law_33 (by rw [h]; decide) (by rw [h]; decide) (by rw [h]; rfl) (by decide) (law_figure l F hi6 hI hB hl KK)
      · exact lv_tableIn (off := 262) (tgt := 295) hx hb dL_law_33 (by rw [h]; decide) (by rw [h]; decide) (by rw [h]; rfl) (by decide) (law_clock l F hi6 hI hB hl KK)
      · exact lv_tableIn (off := 295) (tgt := 328) hx hb dL_law_33 (by rw [h]; decide) (by rw [h]; decide) (by rw [h]; rfl) (by decide) (law_tick l F hi6 hI hB hl KK)
      · exact lv_tableIn (off := 328) (tgt := 361) hx hb dL_law_33 (by rw [h]; decide) (by rw [h]; decide) (by rw [h]; rfl) (by decide) (law_afresh l F hi6 hI hB hl KK)
      · exact lv_tableIn (off := 341) (tgt := 374) hx hb dL_law_33 (by rw [h]; decide) (by rw [h]; decide) (by rw [h]; rfl) (by decide) (law_tell l F hi6 hI hB hl KK)
      · exact lv_tableIn (off := 404) (tgt := 437) hx hb dL_law_33 (by rw [h]; decide) (by rw [h]; decide) (by rw [h]; rfl) (by decide) (law_undo l F hi6 hI hB hl KK)
      · exact lv_tableIn (off := 417) (tgt := 450) hx hb dL_law_33 (by rw [h]; decide) (by rw [h]; decide) (by rw [h]; rfl) (by decide) (law_later l F hi6 hI hB hl KK)
      · exact lv_tableIn (off := 470) (tgt := 503) hx hb dL_law_33 (by rw [h]; decide) (by rw [h]; decide) (by rw [h]; rfl) (by decide) (law_first l F hi6 hI hB hl KK)
      · exact lv_tableIn (off := 523) (tgt := 556) hx hb dL_law_33 (by rw [h]; decide) (by rw [h]; decide) (by rw [h]; rfl) (by decide) (law_round l F hi6 hI hB hl KK)
      · exact lv_tableIn (off := 566) (tgt := 599) hx hb dL_law_33 (by rw [h]; decide) (by rw [h]; decide) (by rw [h]; rfl) (by decide) (law_judge l F hi6 hI hB hl KK)
      · exact lv_tableIn (off := 629) (tgt := 662) hx hb dL_law_33 (by rw [h]; decide) (by rw [h]; decide) (by rw [h]; rfl) (by decide) (law_see l F hi6 hI hB hl KK)
      · exact lv_tableIn (off := 682) (tgt := 715) hx hb dL_law_33 (by rw [h]; decide) (by rw [h]; decide) (by rw [h]; rfl) (by decide) (law_unsee l F hi6 hI hB hl KK)
      · exact lv_tableIn (off := 695) (tgt := 728) hx hb dL_law_33 (by rw [h]; decide) (by rw [h]; decide) (by rw [h]; rfl) (by decide) (law_inputs l F hi6 hI hB hl KK)
      · exact lv_tableIn (off := 718) (tgt := 751) hx hb dL_law_33 (by rw [h]; decide) (by rw [h]; decide) (by rw [h]; rfl) (by decide) (law_odds l F hi6 hI hB hl KK)
      · exact lv_tableIn (off := 797) (tgt := 830) hx hb dL_law_33 (by rw [h]; decide) (by rw [h]; decide) (by rw [h]; rfl) (by decide) (law_seed l F hi6 hI hB hl KK)
      · exact lv_tableIn (off := 851) (tgt := 884) hx hb dL_law_33 (by rw [h]; decide) (by rw [h]; decide) (by rw [h]; rfl) (by decide) (law_runs l F hi6 hI hB hl KK)
      · exact lv_tableIn (off := 874) (tgt := 907) hx hb dL_law_33 (by rw [h]; decide) (by rw [h]; decide) (by rw [h]; rfl) (by decide) (law_keep l F hi6 hI hB hl KK)
      · exact lv_tableIn (off := 897) (tgt := 930) hx hb dL_law_33 (by rw [h]; decide) (by rw [h]; decide) (by rw [h]; rfl) (by decide) (law_again l F hi6 hI hB hl KK)
theorem tg_lo : ∀ i, i < 111 → ∀ k, k < 28 → isr i k = true → tg i k < 111 := by decide +kernel
set_option maxHeartbeats 4000000 in
/-- YOUR PART: from the entry, for every script of at most 3072 ints, the law comes to its end with true ('hflags': the launch's flags, for a law that throws: no stack traces) -/
theorem whole_start {p : Program} {e : Env} {s : State} {m : MethodId} {below : List Frame} {meth : Method} {c : Code} (l : Launch) (hflags : l.flags = flags0) {b L : Nat} {xs : Nat → Int32} (hL : L ≤ 3072) (C0 : lw_At p s m meth c b L xs) : W p l e room_1 s m #[Value.ref b] below meth c s.heap [] 0 0 (lw_Z below #[Value.ref b] s) (entryFrame m ([Value.ref b] : List Value).toArray 4) := by
  obtain ⟨hx, hb, hr, hml, hown0, hts, hX, hbl, hlocks, hgv⟩ := C0
  have hown : s.vm.findClass RL = some m.cls := hown0
  have hg : ∀ w ∈ gws, w.before #[Value.ref b] s = true := fun w hw => hts w (List.mem_filter.mp hw).1
  obtain ⟨D, cs, hK, hO⟩ := law_K hts
  obtain ⟨tf, tk, tv, hst⟩ := law_st hts hgv (fun q => s.heap.size ≤ q) (fun a h => Nat.not_le.mpr h)
  have hA : ∀ q : Nat, s.heap.size ≤ q → (fun q : Nat => s.heap.size ≤ q) q := fun _ h => h
  have hl := lv_entry ([.ref b]) (n := 4) (Nat.le_of_ble_eq_true rfl)
  rw [lg_entry_eq]
  generalize (lg_sl ([.ref b]) ++ List.replicate (4 - (lg_sl ([.ref b])).length) Slot.unset).toArray = ls at hl ⊢
  have hl : lv_has ls 4 [(0, .ref b)] := hl
  have hB : qB D cs (fun q : Nat => s.heap.size ≤ q) 0 (fun _ => 0) (fun _ _ => none) (fun _ _ => 0) (fun _ => 0) s.heap s.heap [] := ⟨⟨fun k q h => by simp [gWn] at h, ⟨fun i j p q h => by simp [gWn] at h, fun k q h => by simp [gWn] at h⟩⟩, va_S.rf⟩
  refine q_mkL (N := 0) (M := 111) (cells' := 111) (slots' := 1469) hx hb hml hg hown hK hO hA hB hl.1 cf5 tyX5 tyX5_ok dfX5 rfl rfl kw_17 kw_18 kw_1 (iX5 l D cs _) rfl rfl (by decide +kernel) kw_19 kw_20 kw_21 (Nat.le_of_ble_eq_true rfl) ⟨Nat.le_of_ble_eq_true rfl, Nat.le_of_ble_eq_true rfl⟩ rfl rfl (Nat.le_of_ble_eq_true rfl) (Nat.le_of_ble_eq_true rfl) dL_law_0 dL_law_3 dL_law_4 (fun q1 ad1 ρ1 σ1 H1 locs1 hB1 hp1 => ?_)
  refine lv_astore_n (lv' := [(1, .ref q1), (0, .ref b)]) hx hb dL_law_7 rfl hl (by decide) rfl (fun ls hl => ?_)
  refine q_mkL (N := 111) (M := 129) (cells' := 129) (slots' := 2881) hx hb hml hg hown hK hO hA hB1 hl.1 cf6 tyX6 tyX6_ok dfX6 rfl rfl kw_653 kw_654 kw_8 (iX6 l D cs _) rfl rfl (by decide +kernel) kw_655 kw_656 kw_657 (Nat.le_of_ble_eq_true rfl) ⟨Nat.le_of_ble_eq_true rfl, Nat.le_of_ble_eq_true rfl⟩ rfl rfl (Nat.le_of_ble_eq_true rfl) (Nat.le_of_ble_eq_true rfl) dL_law_8 dL_law_11 dL_law_12 (fun q2 ad2 ρ2 σ2 H2 locs2 hB2 hp2 => ?_)
  refine lv_astore_n (lv' := [(2, .ref q2), (1, .ref q1), (0, .ref b)]) hx hb dL_law_15 rfl hl (by decide) rfl (fun ls hl => ?_)
  refine lv_iconst (v := iZ 0) hx hb dL_law_16 (by decide) ?_
  refine lv_istore_n (lv' := [(3, .int (iZ 0)), (2, .ref q2), (1, .ref q1), (0, .ref b)]) hx hb dL_law_17 rfl hl (by decide) rfl (fun ls hl => ?_)
  obtain ⟨r1, r2, r3⟩ := hp1
  obtain ⟨t1, t2, t3⟩ := hp2
  have ea : ∀ i, i < 111 → ad2 i = ad1 i := fun i hi => by rw [t1 i (by omega), upr_c _ _ (by omega)]
  have e0 : ad2 0 = q1 := by rw [ea 0 (by decide), r1 0 (Nat.le_refl 0), upr_eq]
  have e1 : ad2 111 = q2 := by rw [t1 111 (Nat.le_refl 111), upr_eq]
  have es : ∀ i, i < 129 → σ2 i = σI i := fun i hi => by
    rcases Nat.lt_or_ge i 111 with h | h
    · rw [(t2 i h).2, upr_c _ _ (by omega)]; exact funext (r3 i (Nat.zero_le i) h).1
    · exact funext (t3 i h hi).1
  have er : ∀ i k, i < 129 → isr i k = true → ρ2 i k = some (ad2 (tg i k)) := fun i k hi hk => by
    rcases Nat.lt_or_ge i 111 with h | h
    · rw [(t2 i h).1, upr_c _ _ (by omega), (r3 i (Nat.zero_le i) h).2 k hk, ea _ (tg_lo i h k (isr_28 hi hk) hk)]
    · exact (t3 i h hi).2 k hk
  have ew : gWn cs 129 ad2 ρ2 σ2 (fun _ => 0) = gWn cs 129 ad2 ρ2 σI (fun _ => 0) := by
    unfold gWn
    refine List.map_congr_left (fun i hi => ?_)
    rw [gE_congr rfl (es i (List.mem_range.mp hi)).symm rfl]
  have hok : gOK (D, cs, (fun q : Nat => s.heap.size ≤ q), ad2, ρ2, tf, tk, tv) := ⟨fun i j hi hj h => hB2.1.2.1 i j _ _ (gWn_at hi) (gWn_at hj) h, fun i hi => hB2.1.2.2 i _ (gWn_at hi), er⟩
  have hB3 : gB (D, cs, (fun q : Nat => s.heap.size ≤ q), ad2, ρ2, tf, tk, tv) σI (fun _ => 0) s.heap H2 locs2 := ⟨⟨by show va_P D vwCl (gWn cs 129 ad2 ρ2 σI (fun _ => 0)) H2; rw [← ew]; exact hB2.1.1, σI_rg⟩, hB2.2⟩
  have hl2 : lv_has ls 4 (lwL (D, cs, (fun q : Nat => s.heap.size ≤ q), ad2, ρ2, tf, tk, tv) b 0) := by
    unfold lwL
    show lv_has ls 4 [(3, .int (iZ 0)), (2, .ref (ad2 111)), (1, .ref (ad2 0)), (0, .ref b)]
    rw [e0, e1]; exact hl
  exact law_loop l (θ := (D, cs, (fun q : Nat => s.heap.size ≤ q), ad2, ρ2, tf, tk, tv)) ⟨⟨hx, hb, hml, hown, hg, hK, hst D cs ad2 ρ2⟩, ⟨hX, hbl, Nat.not_le.mpr hbl⟩, hL, hok⟩ hr hlocks (fun _ h => h) (L + 1) 0 (by omega) (Nat.zero_le L) σI (fun _ => 0) H2 locs2 ls (IV_init rfl) hB3 hl2
