/-! CONTRACTS: of a method of the system, over the world -/
abbrev gRm (f n : Nat) : Room := { frames := f, cells := 0, slots := 0, locals := n }
def gPi (post : Int → gS → gZ → Prop) : Int32 → gS × gZ → Prop := fun r u => ∃ q : Int, r = iZ q ∧ rg q ∧ post q u.1 u.2
def gQi (θ : gT) (post : Int → gS → gZ → Prop) : Array Value → State → Outcome → State → Prop := va_Qi (S := gS × gZ) (gPi post) (fun u t => gHp θ u.1 u.2 t.heap) (tA θ)
def gQl (θ : gT) (post : Int64 → gS → gZ → Prop) : Array Value → State → Outcome → State → Prop := va_Ql (S := gS × gZ) (fun r u => post r u.1 u.2) (fun u t => gHp θ u.1 u.2 t.heap) (tA θ)
def gQv (θ : gT) (post : gS → gZ → Prop) : Array Value → State → Outcome → State → Prop := va_Qv (S := gS × gZ) (fun u => post u.1 u.2) (fun u t => gHp θ u.1 u.2 t.heap) (tA θ)
/-- y answers an int (a boolean), the world is as 'post' says -/
def GI (l : Launch) (θ : gT) (y : MethodName) (cc : ByteArray) (maxL : Nat) (ret : Option FieldType) (f n : Nat) (As : List Value) (σ : gS) (z : gZ) (post : Int → gS → gZ → Prop) : Prop :=
  Met l y (.code y cc maxL ret :: gws) (gRm f n) (va_Pc As (gPre θ σ z)) (gQi θ post) 0 0 (tA θ)
def GL (l : Launch) (θ : gT) (y : MethodName) (cc : ByteArray) (maxL : Nat) (f n : Nat) (As : List Value) (σ : gS) (z : gZ) (post : Int64 → gS → gZ → Prop) : Prop :=
  Met l y (.code y cc maxL (some .long) :: gws) (gRm f n) (va_Pc As (gPre θ σ z)) (gQl θ post) 0 0 (tA θ)
def GV (l : Launch) (θ : gT) (y : MethodName) (cc : ByteArray) (maxL : Nat) (f n : Nat) (As : List Value) (σ : gS) (z : gZ) (post : gS → gZ → Prop) : Prop :=
  Met l y (.code y cc maxL none :: gws) (gRm f n) (va_Pc As (gPre θ σ z)) (gQv θ post) 0 0 (tA θ)
/-- what holds all along the walk of a method: the machine, the code, the tables' words, what never changes -/
def gF (θ : gT) (own : String) (cc : ByteArray) (nL : Nat) (ret : Option FieldType) (p : Program) (s : State) (m : MethodId) (args : Array Value) (meth : Method) (c : Code) : Prop :=
  p.tables.exec = Jvm.exec ∧ c.code = cc ∧ meth.sig.returnType = ret ∧ c.maxLocals = nL ∧ s.vm.findClass own = some m.cls ∧ (∀ w ∈ gws, w.before args s = true) ∧ meth.locks = false ∧ va_K (tD θ) vwCl (gty (tC θ)) s ∧ gSt θ s
theorem g_enter {l : Launch} {θ : gT} {y : MethodName} {cc : ByteArray} {nL : Nat} {ret : Option FieldType} {f n : Nat} {As : List Value} {σ : gS} {z : gZ} {Qc : Array Value → State → Outcome → State → Prop} (hy : plainName y.cls = true) (hn : (lg_sl As).length ≤ nL)
    (body : ∀ (p : Program) (e : Env) (s : State) (m : MethodId) (args : Array Value) (below : List Frame) (meth : Method) (c : Code) (ls : Array Slot), gF θ y.cls cc nL ret p s m args meth c → gB θ σ z s.heap s.heap [] → lv_has ls nL (lv_args 0 As) → W p l e (gRm f n) s m args below meth c s.heap [] 0 0 (MQ below Qc args s 0 0 (tA θ)) (F0 m 0 ls [])) :
    Met l y (.code y cc nL ret :: gws) (gRm f n) (va_Pc As (gPre θ σ z)) Qc 0 0 (tA θ) := by
  refine Met.ofW (cc := cc) (maxL := nL) (ret := ret) hy rfl ?_
  intro p e s m args below meth c s₁ B hml hv
  obtain ⟨rfl, hH, hK, hst⟩ := hv
  have hts := atoms_spec (ws := .code y cc nL ret :: gws) B.pre
  have hl := lv_entry As (n := nL) hn
  rw [lg_entry_eq]
  exact body p e s m _ below meth c _ ⟨B.exec, B.bytes, B.returns, hml, findClass_of_methodNamed B.named, fun w h => hts w (List.mem_cons_of_mem _ h), B.notSynchronized, hK, hst⟩ ⟨hH, va_S.rf⟩ hl
/-- a class of the world: its number, its fields -/
def gCl (ci : Nat) (C : String) (T : u_T) (N : Nat) : Prop := vwCl[ci]? = some (C, T, N) ∧ (∀ w ∈ u_ws C T N, w ∈ gws) ∧ nf ci = N ∧ ci < 7 ∧ (∀ k, k < N → (T k).1 = C) ∧ (∀ a, a < N → ∀ b, b < N → a ≠ b → (T a).2.1 ≠ (T b).2.1)
theorem cf0 : gCl 0 RX0 TX0 3 := ⟨rfl, inX0, rfl, by decide, by decide +kernel, nmX0⟩
theorem cf1 : gCl 1 RX1 TX1 6 := ⟨rfl, inX1, rfl, by decide, by decide +kernel, nmX1⟩
theorem cf2 : gCl 2 RX2 TX2 11 := ⟨rfl, inX2, rfl, by decide, by decide +kernel, nmX2⟩
theorem cf3 : gCl 3 RX3 TX3 5 := ⟨rfl, inX3, rfl, by decide, by decide +kernel, nmX3⟩
theorem cf4 : gCl 4 RX4 TX4 2 := ⟨rfl, inX4, rfl, by decide, by decide +kernel, nmX4⟩
theorem cf5 : gCl 5 RX5 TX5 10 := ⟨rfl, inX5, rfl, by decide, by decide +kernel, nmX5⟩
theorem cf6 : gCl 6 RX6 TX6 28 := ⟨rfl, inX6, rfl, by decide, by decide +kernel, nmX6⟩
section GR
variable {p : Program} {l : Launch} {e : Env} {R : Room} {s : State} {m : MethodId} {args : Array Value} {below : List Frame} {meth : Method} {c : Code} {H : Heap} {locs : List Loc} {cells slots : Nat} {Q : State → Prop}
variable {cc : ByteArray} {pc : Nat} {ls : Array Slot} {rest : List Value}
theorem z_iadd (hx : p.tables.exec = Jvm.exec) (hb : c.code = cc) {a b : Int} (d : decode cc pc = .ok (.iadd, 1)) (k : W p l e R s m args below meth c H locs cells slots Q (F0 m (pc + 1) ls (.int (iZ (a + b)) :: rest))) : W p l e R s m args below meth c H locs cells slots Q (F0 m pc ls (.int (iZ b) :: .int (iZ a) :: rest)) :=
  lv_iadd hx hb d (by rw [iZ_add]; exact k)
theorem z_isub (hx : p.tables.exec = Jvm.exec) (hb : c.code = cc) {a b : Int} (d : decode cc pc = .ok (.isub, 1)) (k : W p l e R s m args below meth c H locs cells slots Q (F0 m (pc + 1) ls (.int (iZ (a - b)) :: rest))) : W p l e R s m args below meth c H locs cells slots Q (F0 m pc ls (.int (iZ b) :: .int (iZ a) :: rest)) :=
  lv_isub hx hb d (by rw [iZ_sub]; exact k)
theorem z_imul (hx : p.tables.exec = Jvm.exec) (hb : c.code = cc) {a b : Int} (d : decode cc pc = .ok (.imul, 1)) (k : W p l e R s m args below meth c H locs cells slots Q (F0 m (pc + 1) ls (.int (iZ (a * b)) :: rest))) : W p l e R s m args below meth c H locs cells slots Q (F0 m pc ls (.int (iZ b) :: .int (iZ a) :: rest)) :=
  lv_imul hx hb d (by rw [iZ_mul]; exact k)
theorem z_ineg (hx : p.tables.exec = Jvm.exec) (hb : c.code = cc) {a : Int} (d : decode cc pc = .ok (.ineg, 1)) (k : W p l e R s m args below meth c H locs cells slots Q (F0 m (pc + 1) ls (.int (iZ (-a)) :: rest))) : W p l e R s m args below meth c H locs cells slots Q (F0 m pc ls (.int (iZ a) :: rest)) :=
  lv_ineg hx hb d (by rw [iZ_neg]; exact k)
theorem z_idiv (hx : p.tables.exec = Jvm.exec) (hb : c.code = cc) {a b : Int} (d : decode cc pc = .ok (.idiv, 1)) (ha : rg a) (h0 : 0 ≤ a) (hb2 : rg b) (h1 : 0 < b) (k : W p l e R s m args below meth c H locs cells slots Q (F0 m (pc + 1) ls (.int (iZ (a / b)) :: rest))) : W p l e R s m args below meth c H locs cells slots Q (F0 m pc ls (.int (iZ b) :: .int (iZ a) :: rest)) :=
  lv_idiv hx hb d (iZ_ne0 hb2 (by omega)) (by rw [iZ_div ha h0 hb2 h1]; exact k)
theorem z_irem (hx : p.tables.exec = Jvm.exec) (hb : c.code = cc) {a b : Int} (d : decode cc pc = .ok (.irem, 1)) (ha : rg a) (h0 : 0 ≤ a) (hb2 : rg b) (h1 : 0 < b) (k : W p l e R s m args below meth c H locs cells slots Q (F0 m (pc + 1) ls (.int (iZ (a % b)) :: rest))) : W p l e R s m args below meth c H locs cells slots Q (F0 m pc ls (.int (iZ b) :: .int (iZ a) :: rest)) :=
  lv_irem hx hb d (iZ_ne0 hb2 (by omega)) (by rw [iZ_rem ha h0 hb2 h1]; exact k)
theorem z_ior (hx : p.tables.exec = Jvm.exec) (hb : c.code = cc) {a b : Nat} (d : decode cc pc = .ok (.ior, 1)) (k : W p l e R s m args below meth c H locs cells slots Q (F0 m (pc + 1) ls (.int (iZ ((a ||| b : Nat) : Int)) :: rest))) : W p l e R s m args below meth c H locs cells slots Q (F0 m pc ls (.int (iZ (b : Int)) :: .int (iZ (a : Int)) :: rest)) :=
  lv_ior hx hb d (by rw [iZ_or]; exact k)
theorem z_iand (hx : p.tables.exec = Jvm.exec) (hb : c.code = cc) {a b : Nat} (d : decode cc pc = .ok (.iand, 1)) (k : W p l e R s m args below meth c H locs cells slots Q (F0 m (pc + 1) ls (.int (iZ ((a &&& b : Nat) : Int)) :: rest))) : W p l e R s m args below meth c H locs cells slots Q (F0 m pc ls (.int (iZ (b : Int)) :: .int (iZ (a : Int)) :: rest)) :=
  lv_iand hx hb d (by rw [iZ_and]; exact k)
theorem z_iandnot (hx : p.tables.exec = Jvm.exec) (hb : c.code = cc) {a b : Nat} (ha : a < 256) (d : decode cc pc = .ok (.iand, 1)) (k : W p l e R s m args below meth c H locs cells slots Q (F0 m (pc + 1) ls (.int (iZ ((a &&& (b ^^^ 255) : Nat) : Int)) :: rest))) : W p l e R s m args below meth c H locs cells slots Q (F0 m pc ls (.int (iZ (b : Int) ^^^ iZ (-1)) :: .int (iZ (a : Int)) :: rest)) :=
  lv_iand hx hb d (by rw [iZ_andnot ha]; exact k)
theorem z_ishl1 (hx : p.tables.exec = Jvm.exec) (hb : c.code = cc) {j : Nat} (hj : j < 9) (d : decode cc pc = .ok (.ishl, 1)) (k : W p l e R s m args below meth c H locs cells slots Q (F0 m (pc + 1) ls (.int (iZ ((2 ^ j : Nat) : Int)) :: rest))) : W p l e R s m args below meth c H locs cells slots Q (F0 m pc ls (.int (iZ (j : Int)) :: .int (iZ 1) :: rest)) :=
  lv_ishl hx hb d (by rw [iZ_shl1 j hj]; exact k)
theorem z_ishr (hx : p.tables.exec = Jvm.exec) (hb : c.code = cc) {a j : Nat} (ha : a < 2147483648) (hj : j < 31) (d : decode cc pc = .ok (.ishr, 1)) (k : W p l e R s m args below meth c H locs cells slots Q (F0 m (pc + 1) ls (.int (iZ ((a / 2 ^ j : Nat) : Int)) :: rest))) : W p l e R s m args below meth c H locs cells slots Q (F0 m pc ls (.int (iZ (j : Int)) :: .int (iZ (a : Int)) :: rest)) :=
  lv_ishr hx hb d (by rw [iZ_shr ha hj]; exact k)
theorem z_i2l (hx : p.tables.exec = Jvm.exec) (hb : c.code = cc) {a : Int} (ha : rg a) (d : decode cc pc = .ok (.i2l, 1)) (k : W p l e R s m args below meth c H locs cells slots Q (F0 m (pc + 1) ls (.long (lZ a) :: rest))) : W p l e R s m args below meth c H locs cells slots Q (F0 m pc ls (.int (iZ a) :: rest)) :=
  lv_i2l hx hb d (iZ_l ha) k
theorem z_l2i (hx : p.tables.exec = Jvm.exec) (hb : c.code = cc) {a : Int} (d : decode cc pc = .ok (.l2i, 1)) (k : W p l e R s m args below meth c H locs cells slots Q (F0 m (pc + 1) ls (.int (iZ a) :: rest))) : W p l e R s m args below meth c H locs cells slots Q (F0 m pc ls (.long (lZ a) :: rest)) :=
  lv_l2i hx hb d (lZ_i a) k
/-- a number on top under another name -/
theorem z_top {a b : Int} (h : a = b) (k : W p l e R s m args below meth c H locs cells slots Q (F0 m pc ls (.int (iZ b) :: rest))) : W p l e R s m args below meth c H locs cells slots Q (F0 m pc ls (.int (iZ a) :: rest)) := by rw [h]; exact k
/-- a number brought into the range of ints -/
def wr (a : Int) : Int := (iZ a).toInt
theorem rg_wr (a : Int) : rg (wr a) := rg_of _
theorem wr_eq {a : Int} (h : rg a) : wr a = a := iZ_toInt h
theorem z_wr {a : Int} (k : W p l e R s m args below meth c H locs cells slots Q (F0 m pc ls (.int (iZ (wr a)) :: rest))) : W p l e R s m args below meth c H locs cells slots Q (F0 m pc ls (.int (iZ a) :: rest)) := by rw [wr, iZ_of] at k; exact k
def cmpZ (a b : Int) : Int := if a < b then -1 else if a = b then 0 else 1
theorem cmpZ_sp (a b : Int) : (a < b ∧ cmpZ a b = -1) ∨ (a = b ∧ cmpZ a b = 0) ∨ (b < a ∧ cmpZ a b = 1) := by
  unfold cmpZ
  rcases Int.lt_trichotomy a b with h | h | h
  · exact Or.inl ⟨h, if_pos h⟩
  · exact Or.inr (Or.inl ⟨h, by rw [if_neg (by omega), if_pos h]⟩)
  · exact Or.inr (Or.inr ⟨h, by rw [if_neg (by omega), if_neg (by omega)]⟩)
theorem lg_cmpZ {a b : Int} (ha : rgL a) (hb : rgL b) : lg_cmp (lZ a) (lZ b) = iZ (cmpZ a b) := by
  unfold lg_cmp
  have h1 := lZ_lt ha hb
  have h2 := lZ_lt hb ha
  have h3 := lZ_eq ha hb
  rcases cmpZ_sp a b with ⟨h, q⟩ | ⟨h, q⟩ | ⟨h, q⟩ <;> rw [q] <;> simp [h1, h2, h3] <;> first | omega | (intros; omega) | (split <;> first | rfl | omega | (split <;> first | rfl | omega))
theorem z_lcmp (hx : p.tables.exec = Jvm.exec) (hb : c.code = cc) {a b : Int} (d : decode cc pc = .ok (.lcmp, 1)) (ha : rgL a) (hb2 : rgL b) (k : W p l e R s m args below meth c H locs cells slots Q (F0 m (pc + 1) ls (.int (iZ (cmpZ a b)) :: rest))) : W p l e R s m args below meth c H locs cells slots Q (F0 m pc ls (.long (lZ b) :: .long (lZ a) :: rest)) :=
  W.lcmp hx hb d (by rw [lg_cmpZ ha hb2]; exact k)
theorem z_if_eq (hx : p.tables.exec = Jvm.exec) (hb : c.code = cc) {a : Int} {off : Int} {tgt : Nat} (d : decode cc pc = .ok (.ifCond .eq off, 3)) (ht : (pc : Int) + off = (tgt : Int)) (ha : rg a) (kt : a = 0 → W p l e R s m args below meth c H locs cells slots Q (F0 m tgt ls rest)) (kf : ¬ a = 0 → W p l e R s m args below meth c H locs cells slots Q (F0 m (pc + 3) ls rest)) : W p l e R s m args below meth c H locs cells slots Q (F0 m pc ls (.int (iZ a) :: rest)) :=
  lv_if_eq hx hb d ht (fun h => kt ((iZ_eq ha rg_0).mp h)) (fun h => kf (fun q => h ((iZ_eq ha rg_0).mpr q)))
theorem z_if_ne (hx : p.tables.exec = Jvm.exec) (hb : c.code = cc) {a : Int} {off : Int} {tgt : Nat} (d : decode cc pc = .ok (.ifCond .ne off, 3)) (ht : (pc : Int) + off = (tgt : Int)) (ha : rg a) (kt : ¬ a = 0 → W p l e R s m args below meth c H locs cells slots Q (F0 m tgt ls rest)) (kf : a = 0 → W p l e R s m args below meth c H locs cells slots Q (F0 m (pc + 3) ls rest)) : W p l e R s m args below meth c H locs cells slots Q (F0 m pc ls (.int (iZ a) :: rest)) :=
  lv_if_ne hx hb d ht (fun h => kt (fun q => h ((iZ_eq ha rg_0).mpr q))) (fun h => kf ((iZ_eq ha rg_0).mp h))
theorem z_if_lt (hx : p.tables.exec = Jvm.exec) (hb : c.code = cc) {a : Int} {off : Int} {tgt : Nat} (d : decode cc pc = .ok (.ifCond .lt off, 3)) (ht : (pc : Int) + off = (tgt : Int)) (ha : rg a) (kt : a < 0 → W p l e R s m args below meth c H locs cells slots Q (F0 m tgt ls rest)) (kf : ¬ a < 0 → W p l e R s m args below meth c H locs cells slots Q (F0 m (pc + 3) ls rest)) : W p l e R s m args below meth c H locs cells slots Q (F0 m pc ls (.int (iZ a) :: rest)) :=
  lv_if_lt hx hb d ht (fun h => kt ((iZ_lt ha rg_0).mp h)) (fun h => kf (fun q => h ((iZ_lt ha rg_0).mpr q)))
theorem z_if_ge (hx : p.tables.exec = Jvm.exec) (hb : c.code = cc) {a : Int} {off : Int} {tgt : Nat} (d : decode cc pc = .ok (.ifCond .ge off, 3)) (ht : (pc : Int) + off = (tgt : Int)) (ha : rg a) (kt : 0 ≤ a → W p l e R s m args below meth c H locs cells slots Q (F0 m tgt ls rest)) (kf : ¬ 0 ≤ a → W p l e R s m args below meth c H locs cells slots Q (F0 m (pc + 3) ls rest)) : W p l e R s m args below meth c H locs cells slots Q (F0 m pc ls (.int (iZ a) :: rest)) :=
  lv_if_ge hx hb d ht (fun h => kt ((iZ_le rg_0 ha).mp h)) (fun h => kf (fun q => h ((iZ_le rg_0 ha).mpr q)))
theorem z_if_gt (hx : p.tables.exec = Jvm.exec) (hb : c.code = cc) {a : Int} {off : Int} {tgt : Nat} (d : decode cc pc = .ok (.ifCond .gt off, 3)) (ht : (pc : Int) + off = (tgt : Int)) (ha : rg a) (kt : 0 < a → W p l e R s m args below meth c H locs cells slots Q (F0 m tgt ls rest)) (kf : ¬ 0 < a → W p l e R s m args below meth c H locs cells slots Q (F0 m (pc + 3) ls rest)) : W p l e R s m args below meth c H locs cells slots Q (F0 m pc ls (.int (iZ a) :: rest)) :=
  lv_if_gt hx hb d ht (fun h => kt ((iZ_lt rg_0 ha).mp h)) (fun h => kf (fun q => h ((iZ_lt rg_0 ha).mpr q)))
theorem z_if_le (hx : p.tables.exec = Jvm.exec) (hb : c.code = cc) {a : Int} {off : Int} {tgt : Nat} (d : decode cc pc = .ok (.ifCond .le off, 3)) (ht : (pc : Int) + off = (tgt : Int)) (ha : rg a) (kt : a ≤ 0 → W p l e R s m args below meth c H locs cells slots Q (F0 m tgt ls rest)) (kf : ¬ a ≤ 0 → W p l e R s m args below meth c H locs cells slots Q (F0 m (pc + 3) ls rest)) : W p l e R s m args below meth c H locs cells slots Q (F0 m pc ls (.int (iZ a) :: rest)) :=
  lv_if_le hx hb d ht (fun h => kt ((iZ_le ha rg_0).mp h)) (fun h => kf (fun q => h ((iZ_le ha rg_0).mpr q)))
theorem z_icmp_eq (hx : p.tables.exec = Jvm.exec) (hb : c.code = cc) {a b : Int} {off : Int} {tgt : Nat} (d : decode cc pc = .ok (.if_icmp .eq off, 3)) (ht : (pc : Int) + off = (tgt : Int)) (ha : rg a) (hb2 : rg b) (kt : a = b → W p l e R s m args below meth c H locs cells slots Q (F0 m tgt ls rest)) (kf : ¬ a = b → W p l e R s m args below meth c H locs cells slots Q (F0 m (pc + 3) ls rest)) : W p l e R s m args below meth c H locs cells slots Q (F0 m pc ls (.int (iZ b) :: .int (iZ a) :: rest)) :=
  lv_icmp_eq hx hb d ht (fun h => kt ((iZ_eq ha hb2).mp h)) (fun h => kf (fun q => h ((iZ_eq ha hb2).mpr q)))
theorem z_icmp_ne (hx : p.tables.exec = Jvm.exec) (hb : c.code = cc) {a b : Int} {off : Int} {tgt : Nat} (d : decode cc pc = .ok (.if_icmp .ne off, 3)) (ht : (pc : Int) + off = (tgt : Int)) (ha : rg a) (hb2 : rg b) (kt : ¬ a = b → W p l e R s m args below meth c H locs cells slots Q (F0 m tgt ls rest)) (kf : a = b → W p l e R s m args below meth c H locs cells slots Q (F0 m (pc + 3) ls rest)) : W p l e R s m args below meth c H locs cells slots Q (F0 m pc ls (.int (iZ b) :: .int (iZ a) :: rest)) :=
  lv_icmp_ne hx hb d ht (fun h => kt (fun q => h ((iZ_eq ha hb2).mpr q))) (fun h => kf ((iZ_eq ha hb2).mp h))
theorem z_icmp_lt (hx : p.tables.exec = Jvm.exec) (hb : c.code = cc) {a b : Int} {off : Int} {tgt : Nat} (d : decode cc pc = .ok (.if_icmp .lt off, 3)) (ht : (pc : Int) + off = (tgt : Int)) (ha : rg a) (hb2 : rg b) (kt : a < b → W p l e R s m args below meth c H locs cells slots Q (F0 m tgt ls rest)) (kf : ¬ a < b → W p l e R s m args below meth c H locs cells slots Q (F0 m (pc + 3) ls rest)) : W p l e R s m args below meth c H locs cells slots Q (F0 m pc ls (.int (iZ b) :: .int (iZ a) :: rest)) :=
  lv_icmp_lt hx hb d ht (fun h => kt ((iZ_lt ha hb2).mp h)) (fun h => kf (fun q => h ((iZ_lt ha hb2).mpr q)))
theorem z_icmp_ge (hx : p.tables.exec = Jvm.exec) (hb : c.code = cc) {a b : Int} {off : Int} {tgt : Nat} (d : decode cc pc = .ok (.if_icmp .ge off, 3)) (ht : (pc : Int) + off = (tgt : Int)) (ha : rg a) (hb2 : rg b) (kt : b ≤ a → W p l e R s m args below meth c H locs cells slots Q (F0 m tgt ls rest)) (kf : ¬ b ≤ a → W p l e R s m args below meth c H locs cells slots Q (F0 m (pc + 3) ls rest)) : W p l e R s m args below meth c H locs cells slots Q (F0 m pc ls (.int (iZ b) :: .int (iZ a) :: rest)) :=
  lv_icmp_ge hx hb d ht (fun h => kt ((iZ_le hb2 ha).mp h)) (fun h => kf (fun q => h ((iZ_le hb2 ha).mpr q)))
theorem z_icmp_gt (hx : p.tables.exec = Jvm.exec) (hb : c.code = cc) {a b : Int} {off : Int} {tgt : Nat} (d : decode cc pc = .ok (.if_icmp .gt off, 3)) (ht : (pc : Int) + off = (tgt : Int)) (ha : rg a) (hb2 : rg b) (kt : b < a → W p l e R s m args below meth c H locs cells slots Q (F0 m tgt ls rest)) (kf : ¬ b < a → W p l e R s m args below meth c H locs cells slots Q (F0 m (pc + 3) ls rest)) : W p l e R s m args below meth c H locs cells slots Q (F0 m pc ls (.int (iZ b) :: .int (iZ a) :: rest)) :=
  lv_icmp_gt hx hb d ht (fun h => kt ((iZ_lt hb2 ha).mp h)) (fun h => kf (fun q => h ((iZ_lt hb2 ha).mpr q)))
theorem z_icmp_le (hx : p.tables.exec = Jvm.exec) (hb : c.code = cc) {a b : Int} {off : Int} {tgt : Nat} (d : decode cc pc = .ok (.if_icmp .le off, 3)) (ht : (pc : Int) + off = (tgt : Int)) (ha : rg a) (hb2 : rg b) (kt : a ≤ b → W p l e R s m args below meth c H locs cells slots Q (F0 m tgt ls rest)) (kf : ¬ a ≤ b → W p l e R s m args below meth c H locs cells slots Q (F0 m (pc + 3) ls rest)) : W p l e R s m args below meth c H locs cells slots Q (F0 m pc ls (.int (iZ b) :: .int (iZ a) :: rest)) :=
  lv_icmp_le hx hb d ht (fun h => kt ((iZ_le ha hb2).mp h)) (fun h => kf (fun q => h ((iZ_le ha hb2).mpr q)))
theorem z_tabIn (hx : p.tables.exec = Jvm.exec) (hb : c.code = cc) {a v : Int} {dflt lo hi : Int} {offs : Array Int} {len : Nat} {off : Int} {tgt : Nat} (d : decode cc pc = .ok (.tableswitch dflt lo hi offs, len)) (h : a = v) (hv : rg v) (h1 : ¬ v < lo) (h2 : ¬ hi < v) (ho : offs[(v - lo).toNat]? = some off) (ht : (pc : Int) + off = (tgt : Int)) (k : W p l e R s m args below meth c H locs cells slots Q (F0 m tgt ls rest)) : W p l e R s m args below meth c H locs cells slots Q (F0 m pc ls (.int (iZ a) :: rest)) := by
  subst h
  exact lv_tableIn hx hb d (by rw [iZ_toInt hv]; exact h1) (by rw [iZ_toInt hv]; exact h2) (by rw [iZ_toInt hv]; exact ho) ht k
theorem z_tabOut (hx : p.tables.exec = Jvm.exec) (hb : c.code = cc) {a : Int} {dflt lo hi : Int} {offs : Array Int} {len : Nat} {tgt : Nat} (d : decode cc pc = .ok (.tableswitch dflt lo hi offs, len)) (ha : rg a) (h : a < lo ∨ hi < a) (ht : (pc : Int) + dflt = (tgt : Int)) (k : W p l e R s m args below meth c H locs cells slots Q (F0 m tgt ls rest)) : W p l e R s m args below meth c H locs cells slots Q (F0 m pc ls (.int (iZ a) :: rest)) :=
  lv_tableOut hx hb d (by rw [iZ_toInt ha]; exact h) ht k
theorem z_look (hx : p.tables.exec = Jvm.exec) (hb : c.code = cc) {a : Int} {dflt : Int} {ps : Array (Int × Int)} {len : Nat} {off : Int} {tgt : Nat} (d : decode cc pc = .ok (.lookupswitch dflt ps, len)) (hp : (ps.toList.zip (ps.toList.drop 1)).all (fun (a, next) => a.1 < next.1) = true) (ha : rg a) (ho : Op.lookupswitch.offset ps.toList dflt a = off) (ht : (pc : Int) + off = (tgt : Int)) (k : W p l e R s m args below meth c H locs cells slots Q (F0 m tgt ls rest)) : W p l e R s m args below meth c H locs cells slots Q (F0 m pc ls (.int (iZ a) :: rest)) :=
  lv_lookup hx hb d hp (by rw [iZ_toInt ha]; exact ho) ht k
theorem z_iinc (hx : p.tables.exec = Jvm.exec) (hb : c.code = cc) {i nL k : Nat} {n a : Int} {lv lv' : List (Nat × Value)} (d : decode cc pc = .ok (.iinc i n, 3)) (h : lv_has ls nL lv) (hk : lv[k]? = some (i, .int (iZ a))) (hn : i < nL) (hl : (i, Value.int (iZ (a + n))) :: lv.filter (fun q => !(q.1 == i) && !(q.1 + 1 == i && q.2.category == 2)) = lv')
    (kk : ∀ ls' : Array Slot, lv_has ls' nL lv' → W p l e R s m args below meth c H locs cells slots Q (F0 m (pc + 3) ls' rest)) : W p l e R s m args below meth c H locs cells slots Q (F0 m pc ls rest) :=
  lv_iinc hx hb d h hk (iZ_add a n) hn hl kk
variable {θ : gT} {σ : gS} {z : gZ} {H0 : Heap} {own C : String} {T : u_T} {N ci index : Nat}
theorem g_obj (hB : gB θ σ z H0 H locs) {i : Nat} (hi : i < 129) (hck : ck i = ci) (hc : ci < 7) : (gW θ σ z)[i]? = some (tad θ i, .inr (ci, (List.range (nf ci)).map (gv (tq θ) σ z i))) := by
  rw [show (gW θ σ z)[i]? = _ from gWn_at hi, gE_obj hck hc]
theorem g_geti (hx : p.tables.exec = Jvm.exec) (hb : c.code = cc) (hts : ∀ w ∈ gws, w.before args s = true) (hown : s.vm.findClass own = some m.cls) (hK : va_K (tD θ) vwCl (gty (tC θ)) s) (hB : gB θ σ z H0 H locs) (hcl : gCl ci C T N) {i k : Nat} (hi : i < 129) (hck : ck i = ci) (hk : k < N) (hlink : Cond.fieldLink own index C (T k).2.1 (T k).2.2.1 ∈ gws) (hft : ft ci k = 0) (d : decode cc pc = .ok (.getfield index, 3))
    (kk : W p l e R s m args below meth c H locs cells slots Q (F0 m (pc + 3) ls (.int (iZ (σ i k)) :: rest))) : W p l e R s m args below meth c H locs cells slots Q (F0 m pc ls (.ref (tad θ i) :: rest)) := by
  obtain ⟨h1, h2, h3, h4, h5, h6⟩ := hcl
  subst h3
  exact va_get (D := tD θ) (ci := ci) (v := .int (iZ (σ i k))) hx hb hts h2 hown hK hB.1.1 i (g_obj hB hi hck h4) h1 k hk (hts _ hlink) (fun x9 h9 => by rw [← h5 k hk]; exact h9) (by rw [gf_at hk, gv, hck, if_pos hft]) d kk
theorem g_getl (hx : p.tables.exec = Jvm.exec) (hb : c.code = cc) (hts : ∀ w ∈ gws, w.before args s = true) (hown : s.vm.findClass own = some m.cls) (hK : va_K (tD θ) vwCl (gty (tC θ)) s) (hB : gB θ σ z H0 H locs) (hcl : gCl ci C T N) {i k : Nat} (hi : i < 129) (hck : ck i = ci) (hk : k < N) (hlink : Cond.fieldLink own index C (T k).2.1 (T k).2.2.1 ∈ gws) (hft : ft ci k = 2) (d : decode cc pc = .ok (.getfield index, 3))
    (kk : W p l e R s m args below meth c H locs cells slots Q (F0 m (pc + 3) ls (.long (z i) :: rest))) : W p l e R s m args below meth c H locs cells slots Q (F0 m pc ls (.ref (tad θ i) :: rest)) := by
  obtain ⟨h1, h2, h3, h4, h5, h6⟩ := hcl
  subst h3
  exact va_get (D := tD θ) (ci := ci) (v := .long (z i)) hx hb hts h2 hown hK hB.1.1 i (g_obj hB hi hck h4) h1 k hk (hts _ hlink) (fun x9 h9 => by rw [← h5 k hk]; exact h9) (by rw [gf_at hk, gv, hck, if_neg (by omega), if_neg (by omega)]) d kk
theorem g_getr (hx : p.tables.exec = Jvm.exec) (hb : c.code = cc) (hts : ∀ w ∈ gws, w.before args s = true) (hown : s.vm.findClass own = some m.cls) (hK : va_K (tD θ) vwCl (gty (tC θ)) s) (hθ : gOK θ) (hB : gB θ σ z H0 H locs) (hcl : gCl ci C T N) {i k j : Nat} (hi : i < 129) (hck : ck i = ci) (hk : k < N) (hlink : Cond.fieldLink own index C (T k).2.1 (T k).2.2.1 ∈ gws) (hft : ft ci k = 1) (htg : tg i k = j) (d : decode cc pc = .ok (.getfield index, 3))
    (kk : W p l e R s m args below meth c H locs cells slots Q (F0 m (pc + 3) ls (.ref (tad θ j) :: rest))) : W p l e R s m args below meth c H locs cells slots Q (F0 m pc ls (.ref (tad θ i) :: rest)) := by
  obtain ⟨h1, h2, h3, h4, h5, h6⟩ := hcl
  subst h3
  have hr : tq θ i k = some (tad θ (tg i k)) := hθ.2.2 i k hi (by simp [isr, hck, h4, hft])
  exact va_get (D := tD θ) (ci := ci) (v := .ref (tad θ j)) hx hb hts h2 hown hK hB.1.1 i (g_obj hB hi hck h4) h1 k hk (hts _ hlink) (fun x9 h9 => by rw [← h5 k hk]; exact h9) (by rw [gf_at hk, gv, hck, if_neg (by omega), if_pos hft, hr, htg]; rfl) d kk
theorem gR.up {σ : gS} (h : gR σ) {i k : Nat} {v : Int} (hv : rg v) : gR (up2 σ i k v) := fun a b => by
  by_cases q : a = i ∧ b = k
  · rw [show up2 σ i k v a b = v from if_pos q]; exact hv
  · rw [show up2 σ i k v a b = σ a b from if_neg q]; exact h a b
theorem g_putI (hx : p.tables.exec = Jvm.exec) (hb : c.code = cc) (hts : ∀ w ∈ gws, w.before args s = true) (hown : s.vm.findClass own = some m.cls) (hK : va_K (tD θ) vwCl (gty (tC θ)) s) (hθ : gOK θ) (hB : gB θ σ z H0 H locs) (hcl : gCl ci C T N) (ty0 : Nat → FieldType) (hty : ∀ k, k < N → parseFieldDescriptor (T k).2.2.1 = some (ty0 k)) {i k : Nat} {v : Int} (hi : i < 129) (hck : ck i = ci) (hk : k < N) (hlink : Cond.fieldLink own index C (T k).2.1 (T k).2.2.1 ∈ gws) (hft : ft ci k = 0) (hint : ty0 k = .int) (hfin : (T k).2.2.2 = false) (hv : rg v) (d : decode cc pc = .ok (.putfield index, 3))
    (kk : ∀ (H : Heap) (locs : List Loc), gB θ (up2 σ i k v) z H0 H locs → W p l e R s m args below meth c H locs cells slots Q (F0 m (pc + 3) ls rest)) : W p l e R s m args below meth c H locs cells slots Q (F0 m pc ls (.int (iZ v) :: .ref (tad θ i) :: rest)) := by
  obtain ⟨h1, h2, h3, h4, h5, h6⟩ := hcl
  subst h3
  refine va_put (D := tD θ) (ci := ci) (v := .int (iZ v)) (ty := .int) hx hb hts h2 ty0 hty h6 hown hK hB.1.1 (hθ.D σ z) hB.2 i (g_obj hB hi hck h4) h1 k hk (hts _ hlink) (fun x9 h9 => by rw [← h5 k hk]; exact h9) hfin (by rw [hty k hk, hint]) rfl rfl (by rw [List.length_map, List.length_range]; exact hk) d (fun H1 locs1 hP hD hS => kk H1 locs1 ⟨⟨?_, hB.1.2.up hv⟩, hS⟩)
  rw [gWn_set (ρ' := tq θ) (σ' := up2 σ i k v) (z' := z) hi ?_ (fun a ha => gE_congr rfl (up2_row σ v ha) rfl)] at hP
  · exact hP
  · rw [gE_obj hck h4]
    congr 2
    exact gf_set (by rw [gv, hck, if_pos hft, up2_eq]) (fun j hj _ => by unfold gv; rw [up2_k σ v hj])
theorem g_putL (hx : p.tables.exec = Jvm.exec) (hb : c.code = cc) (hts : ∀ w ∈ gws, w.before args s = true) (hown : s.vm.findClass own = some m.cls) (hK : va_K (tD θ) vwCl (gty (tC θ)) s) (hθ : gOK θ) (hB : gB θ σ z H0 H locs) (hcl : gCl ci C T N) (ty0 : Nat → FieldType) (hty : ∀ k, k < N → parseFieldDescriptor (T k).2.2.1 = some (ty0 k)) {i k : Nat} {v : Int64} (hi : i < 129) (hck : ck i = ci) (hk : k < N) (hlink : Cond.fieldLink own index C (T k).2.1 (T k).2.2.1 ∈ gws) (hft : ft ci k = 2) (hone : ∀ j, j < N → j ≠ k → ft ci j ≠ 2 ∧ ft ci j < 3) (hint : ty0 k = .long) (hfin : (T k).2.2.2 = false) (d : decode cc pc = .ok (.putfield index, 3))
    (kk : ∀ (H : Heap) (locs : List Loc), gB θ σ (upr z i v) H0 H locs → W p l e R s m args below meth c H locs cells slots Q (F0 m (pc + 3) ls rest)) : W p l e R s m args below meth c H locs cells slots Q (F0 m pc ls (.long v :: .ref (tad θ i) :: rest)) := by
  obtain ⟨h1, h2, h3, h4, h5, h6⟩ := hcl
  subst h3
  refine va_put (D := tD θ) (ci := ci) (v := .long v) (ty := .long) hx hb hts h2 ty0 hty h6 hown hK hB.1.1 (hθ.D σ z) hB.2 i (g_obj hB hi hck h4) h1 k hk (hts _ hlink) (fun x9 h9 => by rw [← h5 k hk]; exact h9) hfin (by rw [hty k hk, hint]) rfl rfl (by rw [List.length_map, List.length_range]; exact hk) d (fun H1 locs1 hP hD hS => kk H1 locs1 ⟨⟨?_, hB.1.2⟩, hS⟩)
  rw [gWn_set (ρ' := tq θ) (σ' := σ) (z' := upr z i v) hi ?_ (fun a ha => gE_congr rfl rfl (upr_c z v ha))] at hP
  · exact hP
  · rw [gE_obj hck h4]
    congr 2
    refine gf_set (by rw [gv, hck, if_neg (by omega), if_neg (by omega), upr_eq]) (fun j hj hn => ?_)
    have hq := hone j hn hj
    unfold gv
    rw [hck]
    by_cases h0 : ft ci j = 0
    · rw [if_pos h0, if_pos h0]
    · have h1 : ft ci j = 1 := by omega
      rw [if_neg h0, if_neg h0, if_pos h1, if_pos h1]
theorem g_iald (hx : p.tables.exec = Jvm.exec) (hb : c.code = cc) (hK : va_K (tD θ) vwCl (gty (tC θ)) s) (hB : gB θ σ z H0 H locs) {i k : Nat} {a : Int} (hi : i < 129) (hck : ck i = 7) (ha : a = (k : Int)) (hk : k < cn i) (hn : cn i < 1000) (d : decode cc pc = .ok (.iaload, 1))
    (kk : W p l e R s m args below meth c H locs cells slots Q (F0 m (pc + 1) ls (.int (iZ (σ i k)) :: rest))) : W p l e R s m args below meth c H locs cells slots Q (F0 m pc ls (.int (iZ a) :: .ref (tad θ i) :: rest)) := by
  subst ha
  refine va_iald (D := tD θ) (n := cn i) (f := fun k => iZ (σ i k)) hx hb hK hB.1.1 i 0 (by rw [show (gW θ σ z)[i]? = _ from gWn_at hi, gE_int hck]) rfl (iZ_in hk (by omega)) d ?_
  rw [iZ_clampN (by omega)]
  exact kk
theorem g_zald (hx : p.tables.exec = Jvm.exec) (hb : c.code = cc) (hK : va_K (tD θ) vwCl (gty (tC θ)) s) (hB : gB θ σ z H0 H locs) {i k : Nat} {a : Int} (hi : i < 129) (hck : ck i = 8) (ha : a = (k : Int)) (hk : k < cn i) (hn : cn i < 1000) (d : decode cc pc = .ok (.baload, 1))
    (kk : W p l e R s m args below meth c H locs cells slots Q (F0 m (pc + 1) ls (.int (iZ (σ i k)) :: rest))) : W p l e R s m args below meth c H locs cells slots Q (F0 m pc ls (.int (iZ a) :: .ref (tad θ i) :: rest)) := by
  subst ha
  refine va_zald (D := tD θ) (n := cn i) (f := fun k => iZ (σ i k)) hx hb hK hB.1.1 i 1 (by rw [show (gW θ σ z)[i]? = _ from gWn_at hi, gE_bool hck]) rfl (iZ_in hk (by omega)) d ?_
  rw [iZ_clampN (by omega)]
  exact kk
theorem g_aald (hx : p.tables.exec = Jvm.exec) (hb : c.code = cc) (hK : va_K (tD θ) vwCl (gty (tC θ)) s) (hθ : gOK θ) (hB : gB θ σ z H0 H locs) {i k j : Nat} {a : Int} (hi : i < 129) (hck : ck i = 9) (ha : a = (k : Int)) (hk : k < cn i) (hn : cn i < 1000) (htg : tg i k = j) (d : decode cc pc = .ok (.aaload, 1))
    (kk : W p l e R s m args below meth c H locs cells slots Q (F0 m (pc + 1) ls (.ref (tad θ j) :: rest))) : W p l e R s m args below meth c H locs cells slots Q (F0 m pc ls (.int (iZ a) :: .ref (tad θ i) :: rest)) := by
  subst ha
  have hr : tq θ i k = some (tad θ (tg i k)) := hθ.2.2 i k hi (by simp [isr, hck, hk])
  refine va_aldq (D := tD θ) (n := cn i) (f := tq θ i) (C := RX1) hx hb hK hB.1.1 i 2 (by rw [show (gW θ σ z)[i]? = _ from gWn_at hi, gE_ref hck]) rfl (iZ_in hk (by omega)) d ?_
  rw [iZ_clampN (by omega), hr, htg]
  exact kk
theorem upd_iZ (σ : gS) (i k : Nat) (v : Int) : upd (fun k => iZ (σ i k)) k (iZ v) = fun j => iZ (up2 σ i k v i j) := by
  funext j
  by_cases hj : j = k
  · subst hj; rw [up2_eq]; simp [upd]
  · rw [up2_k σ v hj]; simp [upd, hj]
theorem g_iast (hx : p.tables.exec = Jvm.exec) (hb : c.code = cc) (hK : va_K (tD θ) vwCl (gty (tC θ)) s) (hθ : gOK θ) (hB : gB θ σ z H0 H locs) {i k : Nat} {a v : Int} (hi : i < 129) (hck : ck i = 7) (ha : a = (k : Int)) (hk : k < cn i) (hn : cn i < 1000) (hv : rg v) (d : decode cc pc = .ok (.iastore, 1))
    (kk : ∀ (H : Heap) (locs : List Loc), gB θ (up2 σ i k v) z H0 H locs → W p l e R s m args below meth c H locs cells slots Q (F0 m (pc + 1) ls rest)) : W p l e R s m args below meth c H locs cells slots Q (F0 m pc ls (.int (iZ v) :: .int (iZ a) :: .ref (tad θ i) :: rest)) := by
  subst ha
  refine va_iast (D := tD θ) (n := cn i) (f := fun k => iZ (σ i k)) hx hb hK hB.1.1 (hθ.D σ z) hB.2 i 0 (by rw [show (gW θ σ z)[i]? = _ from gWn_at hi, gE_int hck]) rfl (iZ_in hk (by omega)) d (fun H1 locs1 hP hD hS => kk H1 locs1 ⟨⟨?_, hB.1.2.up hv⟩, hS⟩)
  rw [gWn_set (ρ' := tq θ) (σ' := up2 σ i k v) (z' := z) hi ?_ (fun a ha => gE_congr rfl (up2_row σ v ha) rfl)] at hP
  · exact hP
  · rw [gE_int hck, iZ_clampN (by omega), upd_iZ]
theorem nar_bool {v : Int} (hv : v = 0 ∨ v = 1) : vp_nar .boolean (iZ v) = iZ v := by
  rcases hv with rfl | rfl <;> rfl
theorem g_zast (hx : p.tables.exec = Jvm.exec) (hb : c.code = cc) (hK : va_K (tD θ) vwCl (gty (tC θ)) s) (hθ : gOK θ) (hB : gB θ σ z H0 H locs) {i k : Nat} {a v : Int} (hi : i < 129) (hck : ck i = 8) (ha : a = (k : Int)) (hk : k < cn i) (hn : cn i < 1000) (hv : v = 0 ∨ v = 1) (d : decode cc pc = .ok (.bastore, 1))
    (kk : ∀ (H : Heap) (locs : List Loc), gB θ (up2 σ i k v) z H0 H locs → W p l e R s m args below meth c H locs cells slots Q (F0 m (pc + 1) ls rest)) : W p l e R s m args below meth c H locs cells slots Q (F0 m pc ls (.int (iZ v) :: .int (iZ a) :: .ref (tad θ i) :: rest)) := by
  subst ha
  refine va_zast (D := tD θ) (n := cn i) (f := fun k => iZ (σ i k)) hx hb hK hB.1.1 (hθ.D σ z) hB.2 i 1 (by rw [show (gW θ σ z)[i]? = _ from gWn_at hi, gE_bool hck]) rfl (iZ_in hk (by omega)) d (fun H1 locs1 hP hD hS => kk H1 locs1 ⟨⟨?_, hB.1.2.up ⟨by omega, by omega⟩⟩, hS⟩)
  rw [gWn_set (ρ' := tq θ) (σ' := up2 σ i k v) (z' := z) hi ?_ (fun a ha => gE_congr rfl (up2_row σ v ha) rfl)] at hP
  · exact hP
  · rw [gE_bool hck, iZ_clampN (by omega), nar_bool hv, upd_iZ]
/-- returns -/
theorem g_iret (hx : p.tables.exec = Jvm.exec) (hb : c.code = cc) (hr : meth.sig.returnType = some .int) (hlk : meth.locks = false) (hB : gB θ σ z s.heap H locs) {a : Int} {post : Int → gS → gZ → Prop} (d : decode cc pc = .ok (.ireturn, 1)) (ha : rg a) (hp : post a σ z) : W p l e R s m args below meth c H locs 0 0 (MQ below (gQi θ post) args s 0 0 (tA θ)) (F0 m pc ls [.int (iZ a)]) :=
  W.iret (v := iZ a) hx hb hr (fun t ht hW => ⟨⟨iZ a, (σ, z), rfl, ⟨a, rfl, ha, hp⟩, by show gHp θ σ z t.heap; rw [ht]; exact hB.1⟩, hB.2.F ht⟩) hB.2.2.2 d hlk
theorem nar_boolV {v : Int} (hv : v = 0 ∨ v = 1) : narrow .boolean (.int (iZ v)) = .int (iZ v) := by
  rcases hv with rfl | rfl <;> rfl
theorem g_zret (hx : p.tables.exec = Jvm.exec) (hb : c.code = cc) (hr : meth.sig.returnType = some .boolean) (hlk : meth.locks = false) (hB : gB θ σ z s.heap H locs) {a : Int} {post : Int → gS → gZ → Prop} (d : decode cc pc = .ok (.ireturn, 1)) (ha : a = 0 ∨ a = 1) (hp : post a σ z) : W p l e R s m args below meth c H locs 0 0 (MQ below (gQi θ post) args s 0 0 (tA θ)) (F0 m pc ls [.int (iZ a)]) :=
  W.zret (v := iZ a) hx hb hr (nar_boolV ha) (fun t ht hW => ⟨⟨iZ a, (σ, z), rfl, ⟨a, rfl, ⟨by omega, by omega⟩, hp⟩, by show gHp θ σ z t.heap; rw [ht]; exact hB.1⟩, hB.2.F ht⟩) hB.2.2.2 d hlk
theorem g_lret (hx : p.tables.exec = Jvm.exec) (hb : c.code = cc) (hr : meth.sig.returnType = some .long) (hlk : meth.locks = false) (hB : gB θ σ z s.heap H locs) {a : Int64} {post : Int64 → gS → gZ → Prop} (d : decode cc pc = .ok (.lreturn, 1)) (hp : post a σ z) : W p l e R s m args below meth c H locs 0 0 (MQ below (gQl θ post) args s 0 0 (tA θ)) (F0 m pc ls [.long a]) :=
  W.lret (v := a) hx hb hr (fun t ht hW => ⟨⟨a, (σ, z), rfl, hp, by show gHp θ σ z t.heap; rw [ht]; exact hB.1⟩, hB.2.F ht⟩) hB.2.2.2 d hlk
theorem g_vret (hx : p.tables.exec = Jvm.exec) (hb : c.code = cc) (hr : meth.sig.returnType = none) (hlk : meth.locks = false) (hB : gB θ σ z s.heap H locs) {post : gS → gZ → Prop} (d : decode cc pc = .ok (.return_, 1)) (hp : post σ z) : W p l e R s m args below meth c H locs 0 0 (MQ below (gQv θ post) args s 0 0 (tA θ)) (F0 m pc ls []) :=
  W.vret hx hb hr (fun t ht hW => ⟨⟨(σ, z), rfl, hp, by show gHp θ σ z t.heap; rw [ht]; exact hB.1⟩, hB.2.F ht⟩) hB.2.2.2 d hlk
/-- a method's words -/
def gMv (C : String) (y : MethodName) (cc : ByteArray) (nL : Nat) (ret : Option FieldType) (n : Nat) : Prop := Cond.instanceMethod y ∈ gws ∧ Cond.selects C y y ∈ gws ∧ Cond.initialized C ∈ gws ∧ Cond.code y cc nL ret ∈ gws ∧ (y.cls = C ∧ y.cls ≠ "java/lang/invoke/MethodHandle" ∧ y.cls ≠ "java/lang/invoke/VarHandle" ∧ (parseMethodDescriptor y.desc).map (fun d => d.parameters.length) = some n)
def gMs (y : MethodName) (cc : ByteArray) (nL : Nat) (ret : Option FieldType) (n : Nat) : Prop := Cond.static y ∈ gws ∧ Cond.initialized y.cls ∈ gws ∧ Cond.code y cc nL ret ∈ gws ∧ (y.cls ≠ "java/lang/invoke/MethodHandle" ∧ y.cls ≠ "java/lang/invoke/VarHandle" ∧ (parseMethodDescriptor y.desc).map (fun d => d.parameters.length) = some n)
theorem gws_ws {ws : List Cond} (h : ∀ w ∈ ws, w ∈ gws) : GoodIn gws ws := fun w hw => ⟨h w hw, gws_good (h w hw)⟩
theorem gws_code {y : MethodName} {cc : ByteArray} {nL : Nat} {ret : Option FieldType} (h : Cond.code y cc nL ret ∈ gws) : ∀ w ∈ (Cond.code y cc nL ret :: gws), w ∈ gws := fun w hw => (List.mem_cons.mp hw).elim (fun e => e ▸ h) id
variable {y : MethodName} {bytes : ByteArray} {maxL nL n f b : Nat} {ret : Option FieldType} {As : List Value}
theorem g_pre (hK : va_K (tD θ) vwCl (gty (tC θ)) s) (hst : gSt θ s) (hB : gB θ σ z s.heap H locs) {U : State} (hU : U.heap = H) (hW : s.WarmedH U.vm) : gPre θ σ z U :=
  ⟨by rw [hU]; exact hB.1, va_K.moved hW.alike hK, hst.to hW (fun a h1 h2 => by rw [hU]; exact hB.2.2.1 a h1 h2)⟩
theorem g_blind {As : List Value} : FrameBlind (va_Pc As (gPre θ σ z)) := fun a U g mk q => ⟨q.1, q.2.1, va_K.moved (u := U) (U := U.calling g mk a) (Vm.Alike.refl U.vm) q.2.2.1, q.2.2.2.call⟩
theorem g_runV {i : Nat} (hx : p.tables.exec = Jvm.exec) (hb : c.code = cc) (hml : c.maxLocals = nL) (hown : s.vm.findClass own = some m.cls) (hts : ∀ w ∈ gws, w.before args s = true) (hK : va_K (tD θ) vwCl (gty (tC θ)) s) (hst : gSt θ s) (hB : gB θ σ z s.heap H locs) {Qc : Array Value → State → Outcome → State → Prop} (hM : Met l y (.code y bytes maxL ret :: gws) (gRm f b) (va_Pc (.ref (tad θ i) :: As) (gPre θ σ z)) Qc 0 0 (tA θ)) (hv : gMv C y bytes maxL ret n) (hl : Cond.methodLink own index y ∈ gws) (hcl : gCl ci C T N) (hi : i < 129) (hck : ck i = ci) (hn : As.length = n) (hsz : ls.size = nL) {st : List Value} (hst2 : st = As.reverse ++ .ref (tad θ i) :: rest) (hrs : (rest.map fun v => v.category).sum ≤ 8) (hR : f + 1 ≤ R.frames ∧ 8 + (maxL + 11) + b ≤ R.locals) (hcs : cells ≤ R.cells ∧ slots ≤ R.slots) (d : decode cc pc = .ok (.invokevirtual index, 3)) :
    va_Run p l e R s m args below meth c H locs cells slots 0 0 (F0 m pc ls st) rest (Qc (Value.ref (tad θ i) :: As).toArray) (tA θ) := by
  obtain ⟨v1, v2, v3, v4, v5⟩ := hv
  obtain ⟨h1, h2, h3, h4, h5, h6⟩ := hcl
  refine va_runV (As := As) (rest := rest) ⟨hx, hb, hml, hown, hts⟩ hM (cwV n hts (gws_ws (fun w hw => ?_)) rfl rfl rfl v5 hR) ⟨g_blind, va_recv hK hB.1.1 (ci := ci) (q0 := i) h1 (g_obj hB hi hck h4), fun U hU hW => ⟨rfl, g_pre hK hst hB hU hW⟩⟩ rfl hn hsz hst2 (lv_room hrs) d hcs
  unfold wsV at hw
  rcases List.mem_append.mp hw with q | q
  · simp only [List.mem_cons, List.not_mem_nil, or_false] at q
    rcases q with rfl | rfl | rfl | rfl
    · exact hl
    · exact v1
    · exact v2
    · exact v3
  · exact gws_code v4 w q
theorem g_runS (hx : p.tables.exec = Jvm.exec) (hb : c.code = cc) (hml : c.maxLocals = nL) (hown : s.vm.findClass own = some m.cls) (hts : ∀ w ∈ gws, w.before args s = true) (hK : va_K (tD θ) vwCl (gty (tC θ)) s) (hst : gSt θ s) (hB : gB θ σ z s.heap H locs) {Qc : Array Value → State → Outcome → State → Prop} (hM : Met l y (.code y bytes maxL ret :: gws) (gRm f b) (va_Pc As (gPre θ σ z)) Qc 0 0 (tA θ)) (hv : gMs y bytes maxL ret n) (hl : Cond.methodLink own index y ∈ gws) (hn : As.length = n) (hsz : ls.size = nL) {st : List Value} (hst2 : st = As.reverse ++ rest) (hrs : (rest.map fun v => v.category).sum ≤ 8) (hR : f + 1 ≤ R.frames ∧ 8 + (maxL + 11) + b ≤ R.locals) (hcs : cells ≤ R.cells ∧ slots ≤ R.slots) (d : decode cc pc = .ok (.invokestatic index, 3)) :
    va_Run p l e R s m args below meth c H locs cells slots 0 0 (F0 m pc ls st) rest (Qc As.toArray) (tA θ) := by
  obtain ⟨v1, v2, v3, v4⟩ := hv
  have hG : GoodIn gws (.code y bytes maxL ret :: gws) := gws_ws (gws_code v3)
  exact va_runS (As := As) (rest := rest) ⟨hx, hb, hml, hown, hts⟩ hM ⟨callB_of n hts hG rfl rfl rfl (hts _ v2) (hts _ hl) v4 hR, hts _ v1⟩ ⟨g_blind, fun U hU hW => ⟨rfl, g_pre hK hst hB hU hW⟩⟩ rfl hn hsz hst2 (lv_room hrs) d hcs
theorem g_runSN {host : String} (hx : p.tables.exec = Jvm.exec) (hb : c.code = cc) (hml : c.maxLocals = nL) (hown : s.vm.findClass own = some m.cls) (hts : ∀ w ∈ gws, w.before args s = true) (hK : va_K (tD θ) vwCl (gty (tC θ)) s) (hst : gSt θ s) (hB : gB θ σ z s.heap H locs) {Qc : Array Value → State → Outcome → State → Prop} (hM : Met l y (.code y bytes maxL ret :: gws) (gRm f b) (va_Pc As (gPre θ σ z)) Qc 0 0 (tA θ)) (hv : gMs y bytes maxL ret n) (hl : va_Nw (.methodLinkNest own index y host) s) (hn : As.length = n) (hsz : ls.size = nL) {st : List Value} (hst2 : st = As.reverse ++ rest) (hrs : (rest.map fun v => v.category).sum ≤ 8) (hR : f + 1 ≤ R.frames ∧ 8 + (maxL + 11) + b ≤ R.locals) (hcs : cells ≤ R.cells ∧ slots ≤ R.slots) (d : decode cc pc = .ok (.invokestatic index, 3)) :
    va_Run p l e R s m args below meth c H locs cells slots 0 0 (F0 m pc ls st) rest (Qc As.toArray) (tA θ) := by
  obtain ⟨v1, v2, v3, v4⟩ := hv
  have hG : GoodIn gws (.code y bytes maxL ret :: gws) := gws_ws (gws_code v3)
  exact va_runSN (As := As) (rest := rest) ⟨hx, hb, hml, hown, hts⟩ hM ⟨va_cnB n hts hG rfl rfl rfl hl (hts _ v2) v4 hR, hts _ v1, trivial⟩ ⟨g_blind, fun U hU hW => ⟨rfl, g_pre hK hst hB hU hW⟩⟩ rfl hn hsz hst2 (lv_room hrs) d hcs
/-- behind a call -/
theorem g_calli {st0 : List Value} {a : Array Value} {post : Int → gS → gZ → Prop} (hr : va_Run p l e R s m args below meth c H locs cells slots 0 0 (F0 m pc ls st0) rest (gQi θ post a) (tA θ)) (hB : gB θ σ z H0 H locs)
    (kk : ∀ (q : Int) (σ : gS) (z : gZ) (H : Heap) (locs : List Loc), rg q → post q σ z → gB θ σ z H0 H locs → W p l e R s m args below meth c H locs cells slots Q (F0 m (pc + 3) ls (.int (iZ q) :: rest))) : W p l e R s m args below meth c H locs cells slots Q (F0 m pc ls st0) :=
  va_calli hr hB.2 (fun _ _ h => h) (fun _ h => h) (fun r u t H1 locs1 ht _ hp hb _ _ hS => by
    obtain ⟨q, rfl, hq, hp⟩ := hp
    exact kk q u.1 u.2 H1 locs1 hq hp ⟨by rw [← ht]; exact hb, hS⟩)
theorem g_calll {st0 : List Value} {a : Array Value} {post : Int64 → gS → gZ → Prop} (hr : va_Run p l e R s m args below meth c H locs cells slots 0 0 (F0 m pc ls st0) rest (gQl θ post a) (tA θ)) (hB : gB θ σ z H0 H locs)
    (kk : ∀ (q : Int64) (σ : gS) (z : gZ) (H : Heap) (locs : List Loc), post q σ z → gB θ σ z H0 H locs → W p l e R s m args below meth c H locs cells slots Q (F0 m (pc + 3) ls (.long q :: rest))) : W p l e R s m args below meth c H locs cells slots Q (F0 m pc ls st0) :=
  va_calll hr hB.2 (fun _ _ h => h) (fun _ h => h) (fun r u t H1 locs1 ht _ hp hb _ _ hS => kk r u.1 u.2 H1 locs1 hp ⟨by rw [← ht]; exact hb, hS⟩)
theorem g_callv {st0 : List Value} {a : Array Value} {post : gS → gZ → Prop} (hr : va_Run p l e R s m args below meth c H locs cells slots 0 0 (F0 m pc ls st0) rest (gQv θ post a) (tA θ)) (hB : gB θ σ z H0 H locs)
    (kk : ∀ (σ : gS) (z : gZ) (H : Heap) (locs : List Loc), post σ z → gB θ σ z H0 H locs → W p l e R s m args below meth c H locs cells slots Q (F0 m (pc + 3) ls rest)) : W p l e R s m args below meth c H locs cells slots Q (F0 m pc ls st0) :=
  va_callv hr hB.2 (fun _ _ h => h) (fun _ h => h) (fun u t H1 locs1 ht _ hp hb _ _ hS => kk u.1 u.2 H1 locs1 hp ⟨by rw [← ht]; exact hb, hS⟩)
end GR
