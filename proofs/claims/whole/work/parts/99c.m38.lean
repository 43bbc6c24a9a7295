/-! the constant text, and what the library does with it -/
def kcL (i : Nat) : Int := ([73, 75, 43, 45, 60, 63, 70, 80, 65, 87, 78, 77] : List Int).getD i 0
theorem kcL_by : ∀ i, i < 12 → gBy.getD i 0 = iZ (kcL i) := by decide +kernel
theorem kcL_in : ∀ i, i < 12 → 0 < kcL i ∧ kcL i < 128 := by decide
theorem kcL_k : ∀ i, i < 12 → kOf (kcL i) = (i : Int) := by decide
def bt (x : Int) : Int := if x < 128 then x else x - 256
theorem bt_all : ∀ d : Fin 256, (iZ ((d.val : Nat) : Int)).toInt8.toInt32 = iZ (bt ((d.val : Nat) : Int)) := by decide +kernel
theorem ch_all : ∀ d : Fin 256, ((iZ ((d.val : Nat) : Int)).toUInt32 % 65536).toInt32 = iZ ((d.val : Nat) : Int) := by decide +kernel
theorem bt_of {x : Int} (h : 0 ≤ x ∧ x ≤ 255) : (iZ x).toInt8.toInt32 = iZ (bt x) := by
  have := bt_all ⟨x.toNat, by omega⟩
  rw [show (((⟨x.toNat, by omega⟩ : Fin 256).val : Nat) : Int) = x from by show ((x.toNat : Nat) : Int) = x; omega] at this
  exact this
theorem ch_of {x : Int} (h : 0 ≤ x ∧ x ≤ 255) : ((iZ x).toUInt32 % 65536).toInt32 = iZ x := by
  have := ch_all ⟨x.toNat, by omega⟩
  rw [show (((⟨x.toNat, by omega⟩ : Fin 256).val : Nat) : Int) = x from by show ((x.toNat : Nat) : Int) = x; omega] at this
  exact this
theorem bt_in {x : Int} (h : 0 ≤ x ∧ x ≤ 255) : -128 ≤ bt x ∧ bt x ≤ 127 := by unfold bt; split <;> omega
def ixC (x : Int) : Int := if kOf x = -9 then -1 else kOf x
theorem ixC_at {x : Int} (h : 0 ≤ x ∧ x ≤ 255) {i : Nat} (hi : i < 12) (e : kcL i = bt x) : ((i : Nat) : Int) = ixC x := by
  have h1 := kcL_in i hi
  have h2 : x = kcL i := by unfold bt at e; split at e <;> omega
  have h3 := kcL_k i hi
  unfold ixC
  rw [h2, h3, if_neg (by omega)]
theorem ixC_no {x : Int} (h : 0 ≤ x ∧ x ≤ 255) (hn : ∀ i, i < 12 → kcL i ≠ bt x) : -1 = ixC x := by
  have no : ∀ i, i < 12 → x ≠ kcL i := fun i hi e => by
    have h1 := kcL_in i hi
    exact hn i hi (by unfold bt; rw [if_pos (by omega), e])
  have k : kOf x = -9 := by
    unfold kOf
    rw [if_neg (show ¬ x = 73 from no 0 (by omega)), if_neg (show ¬ x = 75 from no 1 (by omega)), if_neg (show ¬ x = 43 from no 2 (by omega)), if_neg (show ¬ x = 45 from no 3 (by omega)), if_neg (show ¬ x = 60 from no 4 (by omega)), if_neg (show ¬ x = 63 from no 5 (by omega)), if_neg (show ¬ x = 70 from no 6 (by omega)), if_neg (show ¬ x = 80 from no 7 (by omega)), if_neg (show ¬ x = 65 from no 8 (by omega)), if_neg (show ¬ x = 87 from no 9 (by omega)), if_neg (show ¬ x = 78 from no 10 (by omega)), if_neg (show ¬ x = 77 from no 11 (by omega))]
  unfold ixC; rw [if_pos k]
theorem ixC_in (x : Int) : -1 ≤ ixC x ∧ ixC x ≤ 11 := by
  have := kOf_in x
  unfold ixC
  split <;> omega
section GR6
variable {p : Program} {l : Launch} {e : Env} {R : Room} {s : State} {m : MethodId} {args : Array Value} {below : List Frame} {meth : Method} {c : Code} {H : Heap} {locs : List Loc} {cells slots : Nat} {Q : State → Prop} {cc bytes : ByteArray} {pc index n nL maxL f b : Nat} {ls : Array Slot} {rest As : List Value} {θ : gT} {σ : gS} {z : gZ} {own C : String} {y : MethodName} {ret : Option FieldType}
theorem g_kcs (hx : p.tables.exec = Jvm.exec) (hb : c.code = cc) (hown : s.vm.findClass own = some m.cls) (hts : ∀ w ∈ gws, w.before args s = true) (hst : gSt θ s) (hB : gB θ σ z s.heap H locs) (hlink : Cond.fieldLink own index "java/lang/String" "COMPACT_STRINGS" "Z" ∈ gws) (d : decode cc pc = .ok (.getstatic index, 3))
    (kk : W p l e R s m args below meth c H locs cells slots Q (F0 m (pc + 3) ls (.int (iZ 1) :: rest))) : W p l e R s m args below meth c H locs cells slots Q (F0 m pc ls rest) :=
  va_gets hx hb hst.2.1.2.2 hB.2 hown (hts _ hlink) (fun _ h => h) d kk
theorem g_kco (hx : p.tables.exec = Jvm.exec) (hb : c.code = cc) (hown : s.vm.findClass own = some m.cls) (hts : ∀ w ∈ gws, w.before args s = true) (hst : gSt θ s) (hB : gB θ σ z s.heap H locs) (hlink : Cond.fieldLink own index "java/lang/String" "coder" "B" ∈ gws) (d : decode cc pc = .ok (.getfield index, 3))
    (kk : W p l e R s m args below meth c H locs cells slots Q (F0 m (pc + 3) ls (.int (iZ 0) :: rest))) : W p l e R s m args below meth c H locs cells slots Q (F0 m pc ls (.ref (tK θ 0) :: rest)) :=
  vk_getf hx hb (hst.2.1.2.1.1 0 (by decide)).2.1 hB.2 hown (hts _ hlink) (fun _ h => h) d kk
theorem g_kva (hx : p.tables.exec = Jvm.exec) (hb : c.code = cc) (hown : s.vm.findClass own = some m.cls) (hts : ∀ w ∈ gws, w.before args s = true) (hst : gSt θ s) (hB : gB θ σ z s.heap H locs) (hlink : Cond.fieldLink own index "java/lang/String" "value" "[B" ∈ gws) (d : decode cc pc = .ok (.getfield index, 3))
    (kk : W p l e R s m args below meth c H locs cells slots Q (F0 m (pc + 3) ls (.ref (tV θ 0) :: rest))) : W p l e R s m args below meth c H locs cells slots Q (F0 m pc ls (.ref (tK θ 0) :: rest)) :=
  vk_getf hx hb (hst.2.1.2.1.1 0 (by decide)).2.2.1 hB.2 hown (hts _ hlink) (fun _ h => h) d kk
theorem g_kln (hx : p.tables.exec = Jvm.exec) (hb : c.code = cc) (hst : gSt θ s) (hB : gB θ σ z s.heap H locs) (d : decode cc pc = .ok (.arraylength, 1))
    (kk : W p l e R s m args below meth c H locs cells slots Q (F0 m (pc + 1) ls (.int (iZ 12) :: rest))) : W p l e R s m args below meth c H locs cells slots Q (F0 m pc ls (.ref (tV θ 0) :: rest)) :=
  va_tlen hx hb (hst.2.1.2.1.1 0 (by decide)).2.2.2 hB.2 (by decide) d kk
theorem g_kbl (hx : p.tables.exec = Jvm.exec) (hb : c.code = cc) (hst : gSt θ s) (hB : gB θ σ z s.heap H locs) {k : Nat} (hk : k < 12) (d : decode cc pc = .ok (.baload, 1))
    (kk : W p l e R s m args below meth c H locs cells slots Q (F0 m (pc + 1) ls (.int (iZ (kcL k)) :: rest))) : W p l e R s m args below meth c H locs cells slots Q (F0 m pc ls (.int (iZ (k : Int)) :: .ref (tV θ 0) :: rest)) :=
  va_tb hx hb (hst.2.1.2.1.1 0 (by decide)).2.2.2 hB.2 (iZ_in (n := 12) hk (by omega)) (by rw [iZ_clampN (by omega), ← kcL_by k hk]; rfl) d kk
theorem g_kld (hx : p.tables.exec = Jvm.exec) (hb : c.code = cc) (hown : s.vm.findClass RX4 = some m.cls) (hst : gSt θ s) (d : decode cc pc = .ok (.ldc 38, 2))
    (kk : W p l e R s m args below meth c H locs cells slots Q (F0 m (pc + 2) ls (.ref (tK θ 0) :: rest))) : W p l e R s m args below meth c H locs cells slots Q (F0 m pc ls rest) :=
  va_ldcS hx hb hown hst.2.1.1 d kk
theorem g_runK (hx : p.tables.exec = Jvm.exec) (hb : c.code = cc) (hml : c.maxLocals = nL) (hown : s.vm.findClass own = some m.cls) (hts : ∀ w ∈ gws, w.before args s = true) (hK : va_K (tD θ) vwCl (gty (tC θ)) s) (hst : gSt θ s) (hB : gB θ σ z s.heap H locs) {Qc : Array Value → State → Outcome → State → Prop} (hM : Met l y (.code y bytes maxL ret :: gws) (gRm f b) (va_Pc (.ref (tK θ 0) :: As) (gPre θ σ z)) Qc 0 0 (tA θ)) (hv : gMv RJ0 y bytes maxL ret n) (hl : Cond.methodLink own index y ∈ gws) (hn : As.length = n) (hsz : ls.size = nL) {st : List Value} (hst2 : st = As.reverse ++ .ref (tK θ 0) :: rest) (hrs : (rest.map fun v => v.category).sum ≤ 8) (hR : f + 1 ≤ R.frames ∧ 8 + (maxL + 11) + b ≤ R.locals) (hcs : cells ≤ R.cells ∧ slots ≤ R.slots) (d : decode cc pc = .ok (.invokevirtual index, 3)) :
    va_Run p l e R s m args below meth c H locs cells slots 0 0 (F0 m pc ls st) rest (Qc (Value.ref (tK θ 0) :: As).toArray) (tA θ) := by
  obtain ⟨v1, v2, v3, v4, v5⟩ := hv
  refine va_runV (As := As) (rest := rest) ⟨hx, hb, hml, hown, hts⟩ hM (cwV n hts (gws_ws (fun w hw => ?_)) rfl rfl rfl v5 hR) ⟨g_blind, vk_recv hst.2.1.2.1 (by decide) hB.2, fun U hU hW => ⟨rfl, g_pre hK hst hB hU hW⟩⟩ rfl hn hsz hst2 (lv_room hrs) d hcs
  unfold wsV at hw
  rcases List.mem_append.mp hw with q | q
  · simp only [List.mem_cons, List.not_mem_nil, or_false] at q
    rcases q with rfl | rfl | rfl | rfl
    · exact hl
    · exact v1
    · exact v2
    · exact v3
  · exact gws_code v4 w q
theorem g_bret (hx : p.tables.exec = Jvm.exec) (hb : c.code = cc) (hr : meth.sig.returnType = some .byte) (hlk : meth.locks = false) (hB : gB θ σ z s.heap H locs) {a : Int} {post : Int → gS → gZ → Prop} (d : decode cc pc = .ok (.ireturn, 1)) (hn : narrow .byte (.int (iZ a)) = .int (iZ a)) (ha : rg a) (hp : post a σ z) : W p l e R s m args below meth c H locs 0 0 (MQ below (gQi θ post) args s 0 0 (tA θ)) (F0 m pc ls [.int (iZ a)]) :=
  W.zret (v := iZ a) hx hb hr hn (fun t ht hW => ⟨⟨iZ a, (σ, z), rfl, ⟨a, rfl, ha, hp⟩, by show gHp θ σ z t.heap; rw [ht]; exact hB.1⟩, hB.2.F ht⟩) hB.2.2.2 d hlk
theorem z_i2b (hx : p.tables.exec = Jvm.exec) (hb : c.code = cc) {x : Int} (h : 0 ≤ x ∧ x ≤ 255) (d : decode cc pc = .ok (.i2b, 1)) (kk : W p l e R s m args below meth c H locs cells slots Q (F0 m (pc + 1) ls (.int (iZ (bt x)) :: rest))) : W p l e R s m args below meth c H locs cells slots Q (F0 m pc ls (.int (iZ x) :: rest)) :=
  lv_i2b hx hb d (bt_of h) kk
theorem z_i2c (hx : p.tables.exec = Jvm.exec) (hb : c.code = cc) {x : Int} (h : 0 ≤ x ∧ x ≤ 255) (d : decode cc pc = .ok (.i2c, 1)) (kk : W p l e R s m args below meth c H locs cells slots Q (F0 m (pc + 1) ls (.int (iZ x) :: rest))) : W p l e R s m args below meth c H locs cells slots Q (F0 m pc ls (.int (iZ x) :: rest)) :=
  lv_i2c hx hb d (ch_of h) kk
end GR6
set_option maxHeartbeats 4000000 in
set_option maxRecDepth 100000 in
theorem mJ1_canEncode_9a6ad (l : Launch) (θ : gT) (hθ : gOK θ) (σ : gS) (z : gZ) (x0 : Int) (hx0 : 0 ≤ x0 ∧ x0 ≤ 255) : GI l θ yJ1_canEncode_9a6ad cJ1_canEncode_9a6ad 1 (some .boolean) 0 0 [.int (iZ x0)] σ z (fun q σ' z' => (q = 1) ∧ σ' = σ ∧ z' = z) := by
  refine g_enter (ret := (some .boolean)) (by decide +kernel) (Nat.le_of_ble_eq_true rfl) ?_
  intro p e s m args below meth c ls F hB hl
  obtain ⟨hx, hb, hr, hml, hown, hts, hlk, hK, hst⟩ := F
  have hR := hB.1.2
  have hl : lv_has ls 1 [(0, .int (iZ x0))] := hl
  refine lv_iload_n hx hb dJ1_canEncode_9a6ad_0 rfl (lv_at hl 0 rfl) ?_
  refine z_if_lt (tgt := 15) hx hb dJ1_canEncode_9a6ad_1 (by decide) ⟨by omega, by omega⟩ (fun c_1 => ?_) (fun c_1 => ?_)
  · exfalso; omega
  · refine lv_iload_n hx hb dJ1_canEncode_9a6ad_4 rfl (lv_at hl 0 rfl) ?_
    refine lv_sipush (v := iZ 255) hx hb dJ1_canEncode_9a6ad_5 (by decide) ?_
    refine z_icmp_gt (tgt := 15) hx hb dJ1_canEncode_9a6ad_8 (by decide) ⟨by omega, by omega⟩ ⟨by decide, by decide⟩ (fun c_2 => ?_) (fun c_2 => ?_)
    · exfalso; omega
    · refine lv_iconst (v := iZ 1) hx hb dJ1_canEncode_9a6ad_11 rfl ?_
      refine lv_goto (tgt := 16) hx hb dJ1_canEncode_9a6ad_12 (by decide) ?_
      exact g_zret hx hb hr hlk hB dJ1_canEncode_9a6ad_16 (by decide) (⟨rfl, rfl, rfl⟩)
set_option maxHeartbeats 4000000 in
set_option maxRecDepth 100000 in
theorem mJ1_indexOfChar_4cfef (l : Launch) (θ : gT) (hθ : gOK θ) (σ : gS) (z : gZ) (x0 : Int) (hx0 : 0 ≤ x0 ∧ x0 ≤ 255) : GI l θ yJ1_indexOfChar_4cfef cJ1_indexOfChar_4cfef 6 (some .int) 0 0 [.ref (tV θ 0), .int (iZ x0), .int (iZ 0), .int (iZ 12)] σ z (fun q σ' z' => (q = ixC x0) ∧ σ' = σ ∧ z' = z) := by
  refine g_enter (ret := (some .int)) (by decide +kernel) (Nat.le_of_ble_eq_true rfl) ?_
  intro p e s m args below meth c ls F hB hl
  obtain ⟨hx, hb, hr, hml, hown, hts, hlk, hK, hst⟩ := F
  have hR := hB.1.2
  have hl : lv_has ls 6 [(0, .ref (tV θ 0)), (1, .int (iZ x0)), (2, .int (iZ 0)), (3, .int (iZ 12))] := hl
  refine lv_iload_n hx hb dJ1_indexOfChar_4cfef_0 rfl (lv_at hl 1 rfl) ?_
  refine z_i2b hx hb hx0 dJ1_indexOfChar_4cfef_1 ?_
  have hbt := bt_in hx0
  refine lv_istore (lv' := [(4, .int (iZ (bt x0))), (0, .ref (tV θ 0)), (1, .int (iZ x0)), (2, .int (iZ 0)), (3, .int (iZ 12))]) hx hb dJ1_indexOfChar_4cfef_2 hl (by decide) rfl (fun ls hl => ?_)
  refine lv_iload_n hx hb dJ1_indexOfChar_4cfef_4 rfl (lv_at hl 3 rfl) ?_
  refine z_top (b := ((0 : Nat) : Int)) (rfl) ?_
  refine lv_istore (lv' := [(5, .int (iZ ((0 : Nat) : Int))), (4, .int (iZ (bt x0))), (0, .ref (tV θ 0)), (1, .int (iZ x0)), (2, .int (iZ 0)), (3, .int (iZ 12))]) hx hb dJ1_indexOfChar_4cfef_5 hl (by decide) rfl (fun ls hl => ?_)
  have loop7 : ∀ (n7 : Nat) (i : Nat) (H : Heap) (locs : List Loc) (ls : Array Slot), 12 - i < n7 → (i ≤ 12) → (∀ j, j < i → kcL j ≠ bt x0) →  gB θ σ z s.heap H locs → lv_has ls 6 [(5, .int (iZ ((i : Nat) : Int))), (4, .int (iZ (bt x0))), (0, .ref (tV θ 0)), (1, .int (iZ x0)), (2, .int (iZ 0)), (3, .int (iZ 12))] → W p l e (gRm 0 0) s m args below meth c H locs 0 0 (MQ below (gQi θ (fun q σ' z' => (q = ixC x0) ∧ σ' = σ ∧ z' = z)) args s 0 0 (tA θ)) (F0 m 7 ls []) := by
    intro n7
    induction n7 with
    | zero => intro i H locs ls hmu; exact absurd hmu (Nat.not_lt_zero _)
    | succ n7 ih7 =>
      intro i H locs ls hmu hi hno hB hl
      have hR := hB.1.2
      refine lv_iload hx hb dJ1_indexOfChar_4cfef_7 (lv_at hl 0 rfl) ?_
      refine lv_iload_n hx hb dJ1_indexOfChar_4cfef_9 rfl (lv_at hl 5 rfl) ?_
      refine z_icmp_ge (tgt := 31) hx hb dJ1_indexOfChar_4cfef_10 (by decide) ⟨by omega, by omega⟩ ⟨by decide, by decide⟩ (fun c_1 => ?_) (fun c_1 => ?_)
      · refine lv_iconst (v := iZ (-1)) hx hb dJ1_indexOfChar_4cfef_31 rfl ?_
        exact g_iret hx hb hr hlk hB dJ1_indexOfChar_4cfef_32 ⟨by decide, by decide⟩ (⟨ixC_no hx0 (fun j hj => hno j (by omega)), rfl, rfl⟩)
      · refine lv_aload_n hx hb dJ1_indexOfChar_4cfef_13 rfl (lv_at hl 2 rfl) ?_
        refine lv_iload hx hb dJ1_indexOfChar_4cfef_14 (lv_at hl 0 rfl) ?_
        refine g_kbl (k := i) hx hb hst hB (by omega) dJ1_indexOfChar_4cfef_16 ?_
        have hkc := kcL_in i (by omega)
        refine lv_iload hx hb dJ1_indexOfChar_4cfef_17 (lv_at hl 1 rfl) ?_
        refine z_icmp_ne (tgt := 25) hx hb dJ1_indexOfChar_4cfef_19 (by decide) ⟨by omega, by omega⟩ ⟨by omega, by omega⟩ (fun c_2 => ?_) (fun c_2 => ?_)
        · refine z_iinc (k := 0) (lv' := [(5, .int (iZ (((i : Nat) : Int) + 1))), (4, .int (iZ (bt x0))), (0, .ref (tV θ 0)), (1, .int (iZ x0)), (2, .int (iZ 0)), (3, .int (iZ 12))]) hx hb dJ1_indexOfChar_4cfef_25 hl rfl (by decide) rfl (fun ls hl => ?_)
          have hl : lv_has ls 6 [(5, .int (iZ (((i + 1) : Nat) : Int))), (4, .int (iZ (bt x0))), (0, .ref (tV θ 0)), (1, .int (iZ x0)), (2, .int (iZ 0)), (3, .int (iZ 12))] := by have e9 : (((i : Nat) : Int) + 1) = (((i + 1) : Nat) : Int) := (by omega); rw [e9] at hl; exact hl
          refine lv_goto (tgt := 7) hx hb dJ1_indexOfChar_4cfef_28 (by decide) ?_
          exact ih7 (i + 1) _ _ _ (by omega) (by omega) (lt_s hno (by omega)) hB (lv_sub hl [0, 1, 2, 3, 4, 5] rfl)
        · refine lv_iload hx hb dJ1_indexOfChar_4cfef_22 (lv_at hl 0 rfl) ?_
          exact g_iret hx hb hr hlk hB dJ1_indexOfChar_4cfef_24 ⟨by omega, by omega⟩ (⟨ixC_at hx0 (by omega) (by omega), rfl, rfl⟩)
  exact loop7 _ 0 _ _ _ (Nat.lt_succ_self _) (by omega) (fun j h => absurd h (Nat.not_lt_zero _)) hB (lv_sub hl [0, 1, 2, 3, 4, 5] rfl)
set_option maxHeartbeats 4000000 in
set_option maxRecDepth 100000 in
theorem mJ1_indexOf_4cfef (l : Launch) (θ : gT) (hθ : gOK θ) (σ : gS) (z : gZ) (x0 : Int) (hx0 : 0 ≤ x0 ∧ x0 ≤ 255) : GI l θ yJ1_indexOf_4cfef cJ1_indexOf_4cfef 4 (some .int) 1 25 [.ref (tV θ 0), .int (iZ x0), .int (iZ 0), .int (iZ 12)] σ z (fun q σ' z' => (q = ixC x0) ∧ σ' = σ ∧ z' = z) := by
  refine g_enter (ret := (some .int)) (by decide +kernel) (Nat.le_of_ble_eq_true rfl) ?_
  intro p e s m args below meth c ls F hB hl
  obtain ⟨hx, hb, hr, hml, hown, hts, hlk, hK, hst⟩ := F
  have hR := hB.1.2
  have hl : lv_has ls 4 [(0, .ref (tV θ 0)), (1, .int (iZ x0)), (2, .int (iZ 0)), (3, .int (iZ 12))] := hl
  refine lv_iload_n hx hb dJ1_indexOf_4cfef_0 rfl (lv_at hl 1 rfl) ?_
  refine g_calli (g_runS (As := [.int (iZ x0)]) (rest := []) hx hb hml hown hts hK hst hB (mJ1_canEncode_9a6ad l θ hθ σ z x0 hx0) ms_J1_canEncode_9a6ad kw_251 rfl hl.1 rfl (Nat.le_of_ble_eq_true rfl) ⟨by decide, by decide⟩ ⟨Nat.le_refl _, Nat.le_refl _⟩ dJ1_indexOf_4cfef_1) hB (fun q_3 σ_1 z_2 H locs hq_3 pq_3 hB => ?_)
  obtain ⟨pq_3, e1_, e2_⟩ := pq_3
  rw [e1_, e2_] at hB
  clear e1_ e2_
  subst pq_3
  refine z_if_ne (tgt := 9) hx hb dJ1_indexOf_4cfef_4 (by decide) ⟨by decide, by decide⟩ (fun c_4 => ?_) (fun c_4 => ?_)
  · refine lv_iload_n hx hb dJ1_indexOf_4cfef_9 rfl (lv_at hl 2 rfl) ?_
    refine lv_iconst (v := iZ 0) hx hb dJ1_indexOf_4cfef_10 rfl ?_
    refine g_max hx hb hml hl.1 hown kw_254 hts (Nat.le_of_ble_eq_true rfl) ⟨by decide, by decide⟩ ⟨Nat.zero_le _, Nat.zero_le _⟩ ⟨by decide, by decide⟩ ⟨by decide, by decide⟩ dJ1_indexOf_4cfef_11 (fun q11 hq11 => ?_)
    have e11 : q11 = 0 := by omega
    subst e11
    refine lv_istore_n (lv' := [(2, .int (iZ 0)), (0, .ref (tV θ 0)), (1, .int (iZ x0)), (3, .int (iZ 12))]) hx hb dJ1_indexOf_4cfef_14 rfl hl (by decide) rfl (fun ls hl => ?_)
    refine lv_iload_n hx hb dJ1_indexOf_4cfef_15 rfl (lv_at hl 3 rfl) ?_
    refine lv_aload_n hx hb dJ1_indexOf_4cfef_16 rfl (lv_at hl 1 rfl) ?_
    refine g_kln hx hb hst hB dJ1_indexOf_4cfef_17 ?_
    refine g_min hx hb hml hl.1 hown kw_257 hts (Nat.le_of_ble_eq_true rfl) ⟨by decide, by decide⟩ ⟨Nat.zero_le _, Nat.zero_le _⟩ ⟨by decide, by decide⟩ ⟨by decide, by decide⟩ dJ1_indexOf_4cfef_18 (fun q18 hq18 => ?_)
    have e18 : q18 = 12 := by omega
    subst e18
    refine lv_istore_n (lv' := [(3, .int (iZ 12)), (2, .int (iZ 0)), (0, .ref (tV θ 0)), (1, .int (iZ x0))]) hx hb dJ1_indexOf_4cfef_21 rfl hl (by decide) rfl (fun ls hl => ?_)
    refine lv_iload_n hx hb dJ1_indexOf_4cfef_22 rfl (lv_at hl 1 rfl) ?_
    refine lv_iload_n hx hb dJ1_indexOf_4cfef_23 rfl (lv_at hl 0 rfl) ?_
    refine z_icmp_lt (tgt := 29) hx hb dJ1_indexOf_4cfef_24 (by decide) ⟨by decide, by decide⟩ ⟨by decide, by decide⟩ (fun c_5 => ?_) (fun c_5 => ?_)
    · refine lv_aload_n hx hb dJ1_indexOf_4cfef_29 rfl (lv_at hl 2 rfl) ?_
      refine lv_iload_n hx hb dJ1_indexOf_4cfef_30 rfl (lv_at hl 3 rfl) ?_
      refine lv_iload_n hx hb dJ1_indexOf_4cfef_31 rfl (lv_at hl 1 rfl) ?_
      refine lv_iload_n hx hb dJ1_indexOf_4cfef_32 rfl (lv_at hl 0 rfl) ?_
      refine g_calli (g_runS (As := [.ref (tV θ 0), .int (iZ x0), .int (iZ 0), .int (iZ 12)]) (rest := []) hx hb hml hown hts hK hst hB (mJ1_indexOfChar_4cfef l θ hθ σ z x0 hx0) ms_J1_indexOfChar_4cfef kw_260 rfl hl.1 rfl (Nat.le_of_ble_eq_true rfl) ⟨by decide, by decide⟩ ⟨Nat.le_refl _, Nat.le_refl _⟩ dJ1_indexOf_4cfef_33) hB (fun q_8 σ_6 z_7 H locs hq_8 pq_8 hB => ?_)
      obtain ⟨pq_8, e1_, e2_⟩ := pq_8
      rw [e1_, e2_] at hB
      clear e1_ e2_
      subst pq_8
      have hix := ixC_in x0
      exact g_iret hx hb hr hlk hB dJ1_indexOf_4cfef_36 ⟨by omega, by omega⟩ (⟨rfl, rfl, rfl⟩)
    · exact absurd (by decide) c_5
  · exact absurd c_4 (by decide)
set_option maxHeartbeats 4000000 in
set_option maxRecDepth 100000 in
theorem mJ0_isLatin1_aae02 (l : Launch) (θ : gT) (hθ : gOK θ) (σ : gS) (z : gZ)  : GI l θ yJ0_isLatin1_aae02 cJ0_isLatin1_aae02 1 (some .boolean) 0 0 [.ref (tK θ 0)] σ z (fun q σ' z' => (q = 1) ∧ σ' = σ ∧ z' = z) := by
  refine g_enter (ret := (some .boolean)) (by decide +kernel) (Nat.le_of_ble_eq_true rfl) ?_
  intro p e s m args below meth c ls F hB hl
  obtain ⟨hx, hb, hr, hml, hown, hts, hlk, hK, hst⟩ := F
  have hR := hB.1.2
  have hl : lv_has ls 1 [(0, .ref (tK θ 0))] := hl
  refine g_kcs hx hb hown hts hst hB kw_238 dJ0_isLatin1_aae02_0 ?_
  refine z_if_eq (tgt := 17) hx hb dJ0_isLatin1_aae02_3 (by decide) ⟨by decide, by decide⟩ (fun c_1 => ?_) (fun c_1 => ?_)
  · exact absurd c_1 (by decide)
  · refine lv_aload_n hx hb dJ0_isLatin1_aae02_6 rfl (lv_at hl 0 rfl) ?_
    refine g_kco hx hb hown hts hst hB kw_1040 dJ0_isLatin1_aae02_7 ?_
    refine z_if_ne (tgt := 17) hx hb dJ0_isLatin1_aae02_10 (by decide) ⟨by decide, by decide⟩ (fun c_2 => ?_) (fun c_2 => ?_)
    · exact absurd (by decide) c_2
    · refine lv_iconst (v := iZ 1) hx hb dJ0_isLatin1_aae02_13 rfl ?_
      refine lv_goto (tgt := 18) hx hb dJ0_isLatin1_aae02_14 (by decide) ?_
      exact g_zret hx hb hr hlk hB dJ0_isLatin1_aae02_18 (by decide) (⟨rfl, rfl, rfl⟩)
set_option maxHeartbeats 4000000 in
set_option maxRecDepth 100000 in
theorem mJ0_coder_7d493 (l : Launch) (θ : gT) (hθ : gOK θ) (σ : gS) (z : gZ)  : GI l θ yJ0_coder_7d493 cJ0_coder_7d493 1 (some .byte) 0 0 [.ref (tK θ 0)] σ z (fun q σ' z' => (q = 0) ∧ σ' = σ ∧ z' = z) := by
  refine g_enter (ret := (some .byte)) (by decide +kernel) (Nat.le_of_ble_eq_true rfl) ?_
  intro p e s m args below meth c ls F hB hl
  obtain ⟨hx, hb, hr, hml, hown, hts, hlk, hK, hst⟩ := F
  have hR := hB.1.2
  have hl : lv_has ls 1 [(0, .ref (tK θ 0))] := hl
  refine g_kcs hx hb hown hts hst hB kw_238 dJ0_coder_7d493_0 ?_
  refine z_if_eq (tgt := 13) hx hb dJ0_coder_7d493_3 (by decide) ⟨by decide, by decide⟩ (fun c_1 => ?_) (fun c_1 => ?_)
  · exact absurd c_1 (by decide)
  · refine lv_aload_n hx hb dJ0_coder_7d493_6 rfl (lv_at hl 0 rfl) ?_
    refine g_kco hx hb hown hts hst hB kw_1040 dJ0_coder_7d493_7 ?_
    refine lv_goto (tgt := 14) hx hb dJ0_coder_7d493_10 (by decide) ?_
    exact g_bret hx hb hr hlk hB dJ0_coder_7d493_14 rfl ⟨by decide, by decide⟩ (⟨rfl, rfl, rfl⟩)
set_option maxHeartbeats 4000000 in
set_option maxRecDepth 100000 in
theorem mJ0_length_8abf5 (l : Launch) (θ : gT) (hθ : gOK θ) (σ : gS) (z : gZ)  : GI l θ yJ0_length_8abf5 cJ0_length_8abf5 1 (some .int) 1 20 [.ref (tK θ 0)] σ z (fun q σ' z' => (q = 12) ∧ σ' = σ ∧ z' = z) := by
  refine g_enter (ret := (some .int)) (by decide +kernel) (Nat.le_of_ble_eq_true rfl) ?_
  intro p e s m args below meth c ls F hB hl
  obtain ⟨hx, hb, hr, hml, hown, hts, hlk, hK, hst⟩ := F
  have hR := hB.1.2
  have hl : lv_has ls 1 [(0, .ref (tK θ 0))] := hl
  refine lv_aload_n hx hb dJ0_length_8abf5_0 rfl (lv_at hl 0 rfl) ?_
  refine g_kva hx hb hown hts hst hB kw_1041 dJ0_length_8abf5_1 ?_
  refine g_kln hx hb hst hB dJ0_length_8abf5_4 ?_
  refine lv_aload_n hx hb dJ0_length_8abf5_5 rfl (lv_at hl 0 rfl) ?_
  refine g_calli (g_runK (As := []) (rest := [.int (iZ 12)]) hx hb hml hown hts hK hst hB (mJ0_coder_7d493 l θ hθ σ z ) mv_J0_coder_7d493 kw_244 rfl hl.1 rfl (Nat.le_of_ble_eq_true rfl) ⟨by decide, by decide⟩ ⟨Nat.le_refl _, Nat.le_refl _⟩ dJ0_length_8abf5_6) hB (fun q_3 σ_1 z_2 H locs hq_3 pq_3 hB => ?_)
  obtain ⟨pq_3, e1_, e2_⟩ := pq_3
  rw [e1_, e2_] at hB
  clear e1_ e2_
  subst pq_3
  refine z_ishr (a := 12) (j := 0) hx hb (by decide) (by decide) dJ0_length_8abf5_9 ?_
  refine z_top (b := 12) (rfl) ?_
  exact g_iret hx hb hr hlk hB dJ0_length_8abf5_10 ⟨by decide, by decide⟩ (⟨rfl, rfl, rfl⟩)
set_option maxHeartbeats 4000000 in
set_option maxRecDepth 100000 in
theorem mJ0_indexOf_7cf53 (l : Launch) (θ : gT) (hθ : gOK θ) (σ : gS) (z : gZ) (x0 : Int) (hx0 : 0 ≤ x0 ∧ x0 ≤ 255) : GI l θ yJ0_indexOf_7cf53 cJ0_indexOf_7cf53 3 (some .int) 2 48 [.ref (tK θ 0), .int (iZ x0), .int (iZ 0)] σ z (fun q σ' z' => (q = ixC x0) ∧ σ' = σ ∧ z' = z) := by
  refine g_enter (ret := (some .int)) (by decide +kernel) (Nat.le_of_ble_eq_true rfl) ?_
  intro p e s m args below meth c ls F hB hl
  obtain ⟨hx, hb, hr, hml, hown, hts, hlk, hK, hst⟩ := F
  have hR := hB.1.2
  have hl : lv_has ls 3 [(0, .ref (tK θ 0)), (1, .int (iZ x0)), (2, .int (iZ 0))] := hl
  refine lv_aload_n hx hb dJ0_indexOf_7cf53_0 rfl (lv_at hl 0 rfl) ?_
  refine g_calli (g_runK (As := []) (rest := []) hx hb hml hown hts hK hst hB (mJ0_isLatin1_aae02 l θ hθ σ z ) mv_J0_isLatin1_aae02 kw_234 rfl hl.1 rfl (Nat.le_of_ble_eq_true rfl) ⟨by decide, by decide⟩ ⟨Nat.le_refl _, Nat.le_refl _⟩ dJ0_indexOf_7cf53_1) hB (fun q_3 σ_1 z_2 H locs hq_3 pq_3 hB => ?_)
  obtain ⟨pq_3, e1_, e2_⟩ := pq_3
  rw [e1_, e2_] at hB
  clear e1_ e2_
  subst pq_3
  refine z_if_eq (tgt := 23) hx hb dJ0_indexOf_7cf53_4 (by decide) ⟨by decide, by decide⟩ (fun c_4 => ?_) (fun c_4 => ?_)
  · exact absurd c_4 (by decide)
  · refine lv_aload_n hx hb dJ0_indexOf_7cf53_7 rfl (lv_at hl 0 rfl) ?_
    refine g_kva hx hb hown hts hst hB kw_1041 dJ0_indexOf_7cf53_8 ?_
    refine lv_iload_n hx hb dJ0_indexOf_7cf53_11 rfl (lv_at hl 1 rfl) ?_
    refine lv_iload_n hx hb dJ0_indexOf_7cf53_12 rfl (lv_at hl 2 rfl) ?_
    refine lv_aload_n hx hb dJ0_indexOf_7cf53_13 rfl (lv_at hl 0 rfl) ?_
    refine g_calli (g_runK (As := []) (rest := [.int (iZ 0), .int (iZ x0), .ref (tV θ 0)]) hx hb hml hown hts hK hst hB (mJ0_length_8abf5 l θ hθ σ z ) mv_J0_length_8abf5 kw_240 rfl hl.1 rfl (Nat.le_of_ble_eq_true rfl) ⟨by decide, by decide⟩ ⟨Nat.le_refl _, Nat.le_refl _⟩ dJ0_indexOf_7cf53_14) hB (fun q_7 σ_5 z_6 H locs hq_7 pq_7 hB => ?_)
    obtain ⟨pq_7, e1_, e2_⟩ := pq_7
    rw [e1_, e2_] at hB
    clear e1_ e2_
    subst pq_7
    refine g_calli (g_runS (As := [.ref (tV θ 0), .int (iZ x0), .int (iZ 0), .int (iZ 12)]) (rest := []) hx hb hml hown hts hK hst hB (mJ1_indexOf_4cfef l θ hθ σ z x0 hx0) ms_J1_indexOf_4cfef kw_248 rfl hl.1 rfl (Nat.le_of_ble_eq_true rfl) ⟨by decide, by decide⟩ ⟨Nat.le_refl _, Nat.le_refl _⟩ dJ0_indexOf_7cf53_17) hB (fun q_10 σ_8 z_9 H locs hq_10 pq_10 hB => ?_)
    obtain ⟨pq_10, e1_, e2_⟩ := pq_10
    rw [e1_, e2_] at hB
    clear e1_ e2_
    subst pq_10
    have hix := ixC_in x0
    refine lv_goto (tgt := 36) hx hb dJ0_indexOf_7cf53_20 (by decide) ?_
    exact g_iret hx hb hr hlk hB dJ0_indexOf_7cf53_36 ⟨by omega, by omega⟩ (⟨rfl, rfl, rfl⟩)
set_option maxHeartbeats 4000000 in
set_option maxRecDepth 100000 in
theorem mJ0_indexOf_0f7a4 (l : Launch) (θ : gT) (hθ : gOK θ) (σ : gS) (z : gZ) (x0 : Int) (hx0 : 0 ≤ x0 ∧ x0 ≤ 255) : GI l θ yJ0_indexOf_0f7a4 cJ0_indexOf_0f7a4 2 (some .int) 3 70 [.ref (tK θ 0), .int (iZ x0)] σ z (fun q σ' z' => (q = ixC x0) ∧ σ' = σ ∧ z' = z) := by
  refine g_enter (ret := (some .int)) (by decide +kernel) (Nat.le_of_ble_eq_true rfl) ?_
  intro p e s m args below meth c ls F hB hl
  obtain ⟨hx, hb, hr, hml, hown, hts, hlk, hK, hst⟩ := F
  have hR := hB.1.2
  have hl : lv_has ls 2 [(0, .ref (tK θ 0)), (1, .int (iZ x0))] := hl
  refine lv_aload_n hx hb dJ0_indexOf_0f7a4_0 rfl (lv_at hl 0 rfl) ?_
  refine lv_iload_n hx hb dJ0_indexOf_0f7a4_1 rfl (lv_at hl 1 rfl) ?_
  refine lv_iconst (v := iZ 0) hx hb dJ0_indexOf_0f7a4_2 rfl ?_
  refine g_calli (g_runK (As := [.int (iZ x0), .int (iZ 0)]) (rest := []) hx hb hml hown hts hK hst hB (mJ0_indexOf_7cf53 l θ hθ σ z x0 hx0) mv_J0_indexOf_7cf53 kw_230 rfl hl.1 rfl (Nat.le_of_ble_eq_true rfl) ⟨by decide, by decide⟩ ⟨Nat.le_refl _, Nat.le_refl _⟩ dJ0_indexOf_0f7a4_3) hB (fun q_3 σ_1 z_2 H locs hq_3 pq_3 hB => ?_)
  obtain ⟨pq_3, e1_, e2_⟩ := pq_3
  rw [e1_, e2_] at hB
  clear e1_ e2_
  subst pq_3
  have hix := ixC_in x0
  exact g_iret hx hb hr hlk hB dJ0_indexOf_0f7a4_6 ⟨by omega, by omega⟩ (⟨rfl, rfl, rfl⟩)
