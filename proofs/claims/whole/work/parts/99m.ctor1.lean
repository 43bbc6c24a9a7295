/-! CONSTRUCTORS: the world grows cell by cell -/
/-- by whom a cell is led to -/
def prL : List (Nat × Nat) := [(999, 999), (0, 0), (1, 0), (0, 1), (3, 2), (3, 3), (3, 4), (3, 5), (0, 2), (8, 2), (8, 3), (8, 4), (8, 5), (0, 3), (13, 4), (13, 5), (13, 6), (13, 7), (13, 8), (13, 9), (13, 10), (0, 4), (21, 2), (22, 0), (23, 2), (23, 3), (23, 4), (23, 5), (22, 1), (28, 2), (28, 3), (28, 4), (28, 5), (22, 2), (33, 2), (33, 3), (33, 4), (33, 5), (22, 3), (38, 2), (38, 3), (38, 4), (38, 5), (22, 4), (43, 2), (43, 3), (43, 4), (43, 5), (22, 5), (48, 2), (48, 3), (48, 4), (48, 5), (22, 6), (53, 2), (53, 3), (53, 4), (53, 5), (22, 7), (58, 2), (58, 3), (58, 4), (58, 5), (22, 8), (63, 2), (63, 3), (63, 4), (63, 5), (22, 9), (68, 2), (68, 3), (68, 4), (68, 5), (22, 10), (73, 2), (73, 3), (73, 4), (73, 5), (22, 11), (78, 2), (78, 3), (78, 4), (78, 5), (22, 12), (83, 2), (83, 3), (83, 4), (83, 5), (22, 13), (88, 2), (88, 3), (88, 4), (88, 5), (0, 5), (93, 1), (93, 2), (93, 3), (93, 4), (0, 6), (0, 7), (0, 8), (98, 0), (101, 2), (101, 3), (101, 4), (101, 5), (98, 1), (106, 2), (106, 3), (106, 4), (106, 5), (999, 999), (111, 1), (111, 4), (111, 5), (111, 6), (111, 7), (111, 9), (111, 10), (111, 12), (111, 13), (111, 14), (111, 15), (111, 17), (111, 18), (111, 22), (111, 23), (111, 24), (111, 25)]
def pr (t : Nat) : Nat × Nat := prL.getD t (999, 999)
theorem pr_ok : ∀ i, i < 129 → ∀ k, k < 28 → isr i k = true → pr (tg i k) = (i, k) := by decide +kernel
theorem ft_28 : ∀ c, c < 7 → ∀ k, 28 ≤ k → ft c k = 3 := fun c hc k hk => by
  unfold ft
  have h : (ftL.getD c []).length ≤ 28 := by
    have : ∀ c, c < 7 → (ftL.getD c []).length ≤ 28 := by decide
    exact this c hc
  rw [List.getD_eq_getElem?_getD, List.getElem?_eq_none (by omega)]; rfl
theorem cn_14 : ∀ i, i < 129 → ck i = 9 → cn i ≤ 14 := by decide +kernel
theorem isr_28 {i k : Nat} (hi : i < 129) (h : isr i k = true) : k < 28 := by
  unfold isr at h
  rw [Bool.or_eq_true, Bool.and_eq_true, Bool.and_eq_true, decide_eq_true_iff, decide_eq_true_iff, beq_iff_eq, beq_iff_eq] at h
  rcases h with ⟨h1, h2⟩ | ⟨h1, h2⟩
  · have := cn_14 i hi h1; omega
  · rcases Nat.lt_or_ge k 28 with q | q
    · exact q
    · rw [ft_28 _ h1 k q] at h2; omega
theorem tg_inj {i k i' k' : Nat} (hi : i < 129) (hi' : i' < 129) (h : isr i k = true) (h' : isr i' k' = true) (e : tg i k = tg i' k') : i = i' ∧ k = k' := by
  have a := pr_ok i hi k (isr_28 hi h) h
  have b := pr_ok i' hi' k' (isr_28 hi' h') h'
  rw [e, b] at a
  exact ⟨(congrArg Prod.fst a).symm, (congrArg Prod.snd a).symm⟩
theorem isr_arr {i k : Nat} (h : ck i = 7 ∨ ck i = 8) : isr i k = false := by
  unfold isr
  rcases h with h | h <;> rw [h] <;> simp
theorem isr_fld {i k ci : Nat} (h : ck i = ci) (hc : ci < 7) (hf : ft ci k = 1) : isr i k = true := by
  unfold isr; rw [h, hf]; simp [hc]
/-- the ints of a system just made -/
def vlL : List Nat := [7, 12, 27, 32, 37, 42, 47, 52, 57, 62, 67, 72, 77, 82, 87, 92, 105, 110]
def σI (i k : Nat) : Int := if vlL.contains i then (if k < 8 then -9 else 0) else if i = 13 ∧ (k = 0 ∨ k = 2) then -9 else 0
def qW (D : va_G) (cs : ClassId × ClassId × ClassId) (A : Nat → Prop) (N : Nat) (ad : Nat → Nat) (ρ : gQ) (σ : gS) (z : gZ) (H : Heap) : Prop := va_P D vwCl (gWn cs N ad ρ σ z) H ∧ va_D A (gWn cs N ad ρ σ z)
def qB (D : va_G) (cs : ClassId × ClassId × ClassId) (A : Nat → Prop) (N : Nat) (ad : Nat → Nat) (ρ : gQ) (σ : gS) (z : gZ) (H0 H : Heap) (locs : List Loc) : Prop := qW D cs A N ad ρ σ z H ∧ va_S A H0 H locs
def qO (U : State) : Prop := va_AO RX1 U ∧ va_Nw (.methodLinkNest RX5 9 yX4_init RX5) U ∧ va_Nw (.methodLinkNest RX5 28 yX2_init RX5) U ∧ va_Nw (.methodLinkNest RX5 42 yX3_init RX5) U
theorem qO.call {U : State} {g : JFrame} {mk : MethodId} {a : Array Value} (h : qO U) : qO (U.calling g mk a) := ⟨va_AO.moved (u := U) (U := U.calling g mk a) (Vm.Alike.refl U.vm) h.1, va_Nw.same rfl (U := U.calling g mk a) rfl h.2.1, va_Nw.same rfl (U := U.calling g mk a) rfl h.2.2.1, va_Nw.same rfl (U := U.calling g mk a) rfl h.2.2.2⟩
theorem qO.to {s U : State} (hW : s.WarmedH U.vm) (h : qO s) : qO U := ⟨va_AO.moved hW.alike h.1, h.2.1.warmM hW, h.2.2.1.warmM hW, h.2.2.2.warmM hW⟩
def qPre (D : va_G) (cs : ClassId × ClassId × ClassId) (A : Nat → Prop) (N : Nat) (ad : Nat → Nat) (ρ : gQ) (σ : gS) (z : gZ) (U : State) : Prop := qW D cs A N ad ρ σ z U.heap ∧ (∀ q, U.heap.size ≤ q → A q) ∧ va_K D vwCl (gty cs) U ∧ qO U
theorem gWn_snoc {cs : ClassId × ClassId × ClassId} {N : Nat} {ad ad' : Nat → Nat} {ρ ρ' : gQ} {σ σ' : gS} {z z' : gZ} {q : Nat} {e : va_E} (hq : ad' N = q) (he : gE cs ρ' σ' z' N = e) (ho : ∀ i, i < N → ad' i = ad i ∧ gE cs ρ' σ' z' i = gE cs ρ σ z i) : gWn cs N ad ρ σ z ++ [(q, e)] = gWn cs (N + 1) ad' ρ' σ' z' := by
  unfold gWn
  rw [List.range_succ, List.map_append]
  congr 1
  · refine List.map_congr_left (fun i hi => ?_)
    have := ho i (List.mem_range.mp hi)
    rw [this.1, this.2]
  · rw [List.map_cons, List.map_nil, hq, he]
section QR
variable {p : Program} {l : Launch} {e : Env} {R : Room} {s : State} {m : MethodId} {args : Array Value} {below : List Frame} {meth : Method} {c : Code} {H H0 : Heap} {locs : List Loc} {cells slots : Nat} {Q : State → Prop} {cc : ByteArray} {pc index n k : Nat} {ls : Array Slot} {rest : List Value} {D : va_G} {cs : ClassId × ClassId × ClassId} {A : Nat → Prop} {N : Nat} {ad : Nat → Nat} {ρ : gQ} {σ : gS} {z : gZ} {own C : String} {T : u_T} {ci : Nat}
theorem q_obj (hB : qB D cs A N ad ρ σ z H0 H locs) {i : Nat} (hi : i < N) (hck : ck i = ci) (hc : ci < 7) : (gWn cs N ad ρ σ z)[i]? = some (ad i, .inr (ci, (List.range (nf ci)).map (gv ρ σ z i))) := by
  rw [gWn_at hi, gE_obj hck hc]
theorem nn_iZ {L : Nat} (h : L < 1000) : ¬ iZ ((L : Nat) : Int) < 0 := fun q => by
  have := (iZ_lt (a := (L : Int)) (b := 0) ⟨by omega, by omega⟩ ⟨by omega, by omega⟩).mp q
  omega
theorem q_newi (hx : p.tables.exec = Jvm.exec) (hb : c.code = cc) (hts : ∀ w ∈ gws, w.before args s = true) (hK : va_K D vwCl (gty cs) s) (hA : ∀ q, H0.size ≤ q → A q) (hB : qB D cs A N ad ρ σ z H0 H locs) (hck : ck N = 7) {L : Nat} (hL : cn N = L) (hs : L < 1000) (hc : cells + 1 ≤ R.cells) (hsl : slots + L ≤ R.slots) (d : decode cc pc = .ok (.newarray .int, 2))
    (kk : ∀ (q : Nat) (H1 : Heap), qB D cs A (N + 1) (upr ad N q) ρ (upr σ N (fun _ => 0)) z H0 H1 locs → W p l e R s m args below meth c H1 locs (cells + 1) (slots + L) Q (F0 m (pc + 2) ls (.ref q :: rest))) : W p l e R s m args below meth c H locs cells slots Q (F0 m pc ls (.int (iZ ((L : Nat) : Int)) :: rest)) := by
  refine va_newa (atype := .int) hx hb (hts _ kw_39) (ty := .int) rfl hK hB.1.1 hB.1.2 hB.2 hA (N' := L) (a0 := (L, .inl (fun _ => iZ 0))) (fun _ => rfl) (nn_iZ hs) (iZ_clampN (by omega)) (by show L * 4 ≤ 536870912; omega) hc hsl d (fun q cA H1 hK1 hP hD hS => ?_)
  have h1 : va_RA s cA .int := (hK1.2 3 _ rfl).2
  have h2 : va_RA s cs.1 .int := (hK1.2 0 _ rfl).2
  have ec : cA = cs.1 := Option.some.inj (Eq.trans (Eq.symm h1) h2)
  have ew : gWn cs N ad ρ σ z ++ [(q, .inl (cs.1, L, .inl (fun _ => iZ 0)))] = gWn cs (N + 1) (upr ad N q) ρ (upr σ N (fun _ => 0)) z := gWn_snoc (upr_eq _ _ _) (by rw [gE_int hck, hL, upr_eq]) (fun i hi => ⟨upr_c _ _ (by omega), gE_congr rfl (upr_c _ _ (by omega)) rfl⟩)
  rw [ec, ew] at hP hD
  exact kk q H1 ⟨⟨hP, hD⟩, hS⟩
theorem q_newz (hx : p.tables.exec = Jvm.exec) (hb : c.code = cc) (hts : ∀ w ∈ gws, w.before args s = true) (hK : va_K D vwCl (gty cs) s) (hA : ∀ q, H0.size ≤ q → A q) (hB : qB D cs A N ad ρ σ z H0 H locs) (hck : ck N = 8) {L : Nat} (hL : cn N = L) (hs : L < 1000) (hc : cells + 1 ≤ R.cells) (hsl : slots + L ≤ R.slots) (d : decode cc pc = .ok (.newarray .boolean, 2))
    (kk : ∀ (q : Nat) (H1 : Heap), qB D cs A (N + 1) (upr ad N q) ρ (upr σ N (fun _ => 0)) z H0 H1 locs → W p l e R s m args below meth c H1 locs (cells + 1) (slots + L) Q (F0 m (pc + 2) ls (.ref q :: rest))) : W p l e R s m args below meth c H locs cells slots Q (F0 m pc ls (.int (iZ ((L : Nat) : Int)) :: rest)) := by
  refine va_newa (atype := .boolean) hx hb (hts _ kw_165) (ty := .boolean) rfl hK hB.1.1 hB.1.2 hB.2 hA (N' := L) (a0 := (L, .inl (fun _ => iZ 0))) (fun _ => rfl) (nn_iZ hs) (iZ_clampN (by omega)) (by show L * 1 ≤ 536870912; omega) hc hsl d (fun q cA H1 hK1 hP hD hS => ?_)
  have h1 : va_RA s cA .boolean := (hK1.2 3 _ rfl).2
  have h2 : va_RA s cs.2.1 .boolean := (hK1.2 1 _ rfl).2
  have ec : cA = cs.2.1 := Option.some.inj (Eq.trans (Eq.symm h1) h2)
  have ew : gWn cs N ad ρ σ z ++ [(q, .inl (cs.2.1, L, .inl (fun _ => iZ 0)))] = gWn cs (N + 1) (upr ad N q) ρ (upr σ N (fun _ => 0)) z := gWn_snoc (upr_eq _ _ _) (by rw [gE_bool hck, hL, upr_eq]) (fun i hi => ⟨upr_c _ _ (by omega), gE_congr rfl (upr_c _ _ (by omega)) rfl⟩)
  rw [ec, ew] at hP hD
  exact kk q H1 ⟨⟨hP, hD⟩, hS⟩
theorem q_newq (hx : p.tables.exec = Jvm.exec) (hb : c.code = cc) (hown : s.vm.findClass own = some m.cls) (hts : ∀ w ∈ gws, w.before args s = true) (hK : va_K D vwCl (gty cs) s) (hO : va_AO RX1 s) (hA : ∀ q, H0.size ≤ q → A q) (hB : qB D cs A N ad ρ σ z H0 H locs) (hck : ck N = 9) {L : Nat} (hL : cn N = L) (hs : L < 1000) (hlink : Cond.classLink own index RX1 ∈ gws) (hc : cells + 1 ≤ R.cells) (hsl : slots + L ≤ R.slots) (d : decode cc pc = .ok (.anewarray index, 3))
    (kk : ∀ (q : Nat) (H1 : Heap), qB D cs A (N + 1) (upr ad N q) (upr ρ N (fun _ => none)) (upr σ N (fun _ => 0)) z H0 H1 locs → W p l e R s m args below meth c H1 locs (cells + 1) (slots + L) Q (F0 m (pc + 3) ls (.ref q :: rest))) : W p l e R s m args below meth c H locs cells slots Q (F0 m pc ls (.int (iZ ((L : Nat) : Int)) :: rest)) := by
  refine va_newq (C := RX1) hx hb hown (hts _ hlink) hO hK hB.1.1 hB.1.2 hB.2 hA (N' := L) (nn_iZ hs) (iZ_clampN (by omega)) (by omega) hc hsl d (fun q cA H1 hK1 hP hD hS => ?_)
  obtain ⟨-, -, -, -, -, h1⟩ : va_RA s cA (.object RX1) := (hK1.2 3 _ rfl).2
  obtain ⟨-, -, -, -, -, h2⟩ : va_RA s cs.2.2 (.object RX1) := (hK1.2 2 _ rfl).2
  have ec : cA = cs.2.2 := Option.some.inj (Eq.trans (Eq.symm h1) h2)
  have ew : gWn cs N ad ρ σ z ++ [(q, .inl (cs.2.2, L, .inr (.inr (.inr (.inr (fun _ => none))))))] = gWn cs (N + 1) (upr ad N q) (upr ρ N (fun _ => none)) (upr σ N (fun _ => 0)) z := gWn_snoc (upr_eq _ _ _) (by rw [gE_ref hck, hL, upr_eq]) (fun i hi => ⟨upr_c _ _ (by omega), gE_congr (upr_c _ _ (by omega)) (upr_c _ _ (by omega)) rfl⟩)
  rw [ec, ew] at hP hD
  exact kk q H1 ⟨⟨hP, hD⟩, hS⟩
def gd0 (ci j : Nat) : Value := if ft ci j = 0 then .int (iZ 0) else if ft ci j = 1 then va_rf none else .long 0
theorem q_new (hx : p.tables.exec = Jvm.exec) (hb : c.code = cc) (hown : s.vm.findClass own = some m.cls) (hts : ∀ w ∈ gws, w.before args s = true) (hK : va_K D vwCl (gty cs) s) (hA : ∀ q, H0.size ≤ q → A q) (hB : qB D cs A N ad ρ σ z H0 H locs) (hcl : gCl ci C T n) (ty0 : Nat → FieldType) (hty : ∀ k, k < n → parseFieldDescriptor (T k).2.2.1 = some (ty0 k)) (hdf : ∀ j, j < n → defaultValue (ty0 j) = gd0 ci j) (hck : ck N = ci) (hlink : Cond.classLink own index C ∈ gws) (hinst : Cond.instantiable C n ∈ gws) (hini : Cond.initialized C ∈ gws) (hc : cells + 1 ≤ R.cells) (hsl : slots + n ≤ R.slots) (d : decode cc pc = .ok (.new index, 3))
    (kk : ∀ (q : Nat) (H1 : Heap), qB D cs A (N + 1) (upr ad N q) (upr ρ N (fun _ => none)) (upr σ N (fun _ => 0)) (upr z N 0) H0 H1 locs → W p l e R s m args below meth c H1 locs (cells + 1) (slots + n) Q (F0 m (pc + 3) ls (.ref q :: rest))) : W p l e R s m args below meth c H locs cells slots Q (F0 m pc ls rest) := by
  obtain ⟨h1, h2, h3, h4, h5, h6⟩ := hcl
  subst h3
  have egv : ∀ j, gv (upr ρ N (fun _ => none)) (upr σ N (fun _ => 0)) (upr z N 0) N j = gd0 ci j := fun j => by
    unfold gv gd0; rw [hck, upr_eq, upr_eq, upr_eq]
  refine va_new (ci := ci) (fs := (List.range (nf ci)).map (gv (upr ρ N (fun _ => none)) (upr σ N (fun _ => 0)) (upr z N 0) N)) hx hb hts h2 ty0 hty hown (hts _ hlink) (hts _ hinst) (hts _ hini) hK hB.1.1 hB.1.2 hB.2 hA h1 (fun j hj => ?_) hc hsl d (fun q H1 hP hD hS => ?_)
  · rw [hdf j hj, ← egv j]
    unfold vp_V
    rw [List.getD_eq_getElem?_getD, gf_at hj]; rfl
  · have ew : gWn cs N ad ρ σ z ++ [(q, .inr (ci, (List.range (nf ci)).map (gv (upr ρ N (fun _ => none)) (upr σ N (fun _ => 0)) (upr z N 0) N)))] = gWn cs (N + 1) (upr ad N q) (upr ρ N (fun _ => none)) (upr σ N (fun _ => 0)) (upr z N 0) := gWn_snoc (upr_eq _ _ _) (by rw [gE_obj hck h4]) (fun i hi => ⟨upr_c _ _ (by omega), gE_congr (upr_c _ _ (by omega)) (upr_c _ _ (by omega)) (upr_c _ _ (by omega))⟩)
    rw [ew] at hP hD
    exact kk q H1 ⟨⟨hP, hD⟩, hS⟩
theorem q_putF (hx : p.tables.exec = Jvm.exec) (hb : c.code = cc) (hts : ∀ w ∈ gws, w.before args s = true) (hown : s.vm.findClass C = some m.cls) (hK : va_K D vwCl (gty cs) s) (hB : qB D cs A N ad ρ σ z H0 H locs) (hcl : gCl ci C T n) (ty0 : Nat → FieldType) (hty : ∀ k, k < n → parseFieldDescriptor (T k).2.2.1 = some (ty0 k)) {i a q : Nat} (hi : i < N) (ha : a = ad i) (hck : ck i = ci) (hk : k < n) (hlink : Cond.fieldLink C index C (T k).2.1 (T k).2.2.1 ∈ gws) (hft : ft ci k = 1) (hfin : (T k).2.2.2 = true) (hin : meth.name = "<init>") (hn : narrow (ty0 k) (.ref q) = .ref q) (hfit : fits (ty0 k) (.ref q) = true) (d : decode cc pc = .ok (.putfield index, 3))
    (kk : ∀ (H : Heap) (locs : List Loc), qB D cs A N ad (up2 ρ i k (some q)) σ z H0 H locs → W p l e R s m args below meth c H locs cells slots Q (F0 m (pc + 3) ls rest)) : W p l e R s m args below meth c H locs cells slots Q (F0 m pc ls (.ref q :: .ref a :: rest)) := by
  obtain ⟨h1, h2, h3, h4, h5, h6⟩ := hcl
  subst h3 ha
  refine va_putF (D := D) (ci := ci) (v := .ref q) (ty := ty0 k) hx hb hts h2 ty0 hty h6 hown hK hB.1.1 hB.1.2 hB.2 i (q_obj hB hi hck h4) h1 k hk (hts _ hlink) (fun x9 h9 => by rw [← h5 k hk]; exact h9) hfin hin (h5 k hk) (hty k hk) hn hfit (by rw [List.length_map, List.length_range]; exact hk) d (fun H1 locs1 hP hD hS => kk H1 locs1 ⟨?_, hS⟩)
  have ew : (gWn cs N ad ρ σ z).set i (ad i, .inr (ci, ((List.range (nf ci)).map (gv ρ σ z i)).set k (.ref q))) = gWn cs N ad (up2 ρ i k (some q)) σ z := by
    refine gWn_set hi ?_ (fun a ha => gE_congr (up2_row ρ _ ha) rfl rfl)
    rw [gE_obj hck h4]
    congr 2
    exact gf_set (by rw [gv, hck, if_neg (by omega), if_pos hft, up2_eq]; rfl) (fun j hj _ => by unfold gv; rw [up2_k ρ _ hj])
  rw [ew] at hP hD
  exact ⟨hP, hD⟩
theorem q_putI (hx : p.tables.exec = Jvm.exec) (hb : c.code = cc) (hts : ∀ w ∈ gws, w.before args s = true) (hown : s.vm.findClass own = some m.cls) (hK : va_K D vwCl (gty cs) s) (hB : qB D cs A N ad ρ σ z H0 H locs) (hcl : gCl ci C T n) (ty0 : Nat → FieldType) (hty : ∀ k, k < n → parseFieldDescriptor (T k).2.2.1 = some (ty0 k)) {i a : Nat} {v : Int} (hi : i < N) (ha : a = ad i) (hck : ck i = ci) (hk : k < n) (hlink : Cond.fieldLink own index C (T k).2.1 (T k).2.2.1 ∈ gws) (hft : ft ci k = 0) (hint : ty0 k = .int) (hfin : (T k).2.2.2 = false) (d : decode cc pc = .ok (.putfield index, 3))
    (kk : ∀ (H : Heap) (locs : List Loc), qB D cs A N ad ρ (up2 σ i k v) z H0 H locs → W p l e R s m args below meth c H locs cells slots Q (F0 m (pc + 3) ls rest)) : W p l e R s m args below meth c H locs cells slots Q (F0 m pc ls (.int (iZ v) :: .ref a :: rest)) := by
  obtain ⟨h1, h2, h3, h4, h5, h6⟩ := hcl
  subst h3 ha
  refine va_put (D := D) (ci := ci) (v := .int (iZ v)) (ty := .int) hx hb hts h2 ty0 hty h6 hown hK hB.1.1 hB.1.2 hB.2 i (q_obj hB hi hck h4) h1 k hk (hts _ hlink) (fun x9 h9 => by rw [← h5 k hk]; exact h9) hfin (by rw [hty k hk, hint]) rfl rfl (by rw [List.length_map, List.length_range]; exact hk) d (fun H1 locs1 hP hD hS => kk H1 locs1 ⟨?_, hS⟩)
  have ew : (gWn cs N ad ρ σ z).set i (ad i, .inr (ci, ((List.range (nf ci)).map (gv ρ σ z i)).set k (.int (iZ v)))) = gWn cs N ad ρ (up2 σ i k v) z := by
    refine gWn_set hi ?_ (fun a ha => gE_congr rfl (up2_row σ v ha) rfl)
    rw [gE_obj hck h4]
    congr 2
    exact gf_set (by rw [gv, hck, if_pos hft, up2_eq]) (fun j hj _ => by unfold gv; rw [up2_k σ v hj])
  rw [ew] at hP hD
  exact ⟨hP, hD⟩
theorem q_putL (hx : p.tables.exec = Jvm.exec) (hb : c.code = cc) (hts : ∀ w ∈ gws, w.before args s = true) (hown : s.vm.findClass own = some m.cls) (hK : va_K D vwCl (gty cs) s) (hB : qB D cs A N ad ρ σ z H0 H locs) (hcl : gCl ci C T n) (ty0 : Nat → FieldType) (hty : ∀ k, k < n → parseFieldDescriptor (T k).2.2.1 = some (ty0 k)) {i a : Nat} {v : Int64} (hi : i < N) (ha : a = ad i) (hck : ck i = ci) (hk : k < n) (hlink : Cond.fieldLink own index C (T k).2.1 (T k).2.2.1 ∈ gws) (hft : ft ci k = 2) (hz : z i = v) (hint : ty0 k = .long) (hfin : (T k).2.2.2 = false) (d : decode cc pc = .ok (.putfield index, 3))
    (kk : ∀ (H : Heap) (locs : List Loc), qB D cs A N ad ρ σ z H0 H locs → W p l e R s m args below meth c H locs cells slots Q (F0 m (pc + 3) ls rest)) : W p l e R s m args below meth c H locs cells slots Q (F0 m pc ls (.long v :: .ref a :: rest)) := by
  obtain ⟨h1, h2, h3, h4, h5, h6⟩ := hcl
  subst h3 ha
  refine va_put (D := D) (ci := ci) (v := .long v) (ty := .long) hx hb hts h2 ty0 hty h6 hown hK hB.1.1 hB.1.2 hB.2 i (q_obj hB hi hck h4) h1 k hk (hts _ hlink) (fun x9 h9 => by rw [← h5 k hk]; exact h9) hfin (by rw [hty k hk, hint]) rfl rfl (by rw [List.length_map, List.length_range]; exact hk) d (fun H1 locs1 hP hD hS => kk H1 locs1 ⟨?_, hS⟩)
  have ew : (gWn cs N ad ρ σ z).set i (ad i, .inr (ci, ((List.range (nf ci)).map (gv ρ σ z i)).set k (.long v))) = gWn cs N ad ρ σ z := by
    refine gWn_set hi ?_ (fun a ha => rfl)
    rw [gE_obj hck h4]
    congr 2
    exact gf_set (by rw [gv, hck, if_neg (by omega), if_neg (by omega), hz]) (fun j hj _ => rfl)
  rw [ew] at hP hD
  exact ⟨hP, hD⟩
theorem q_getr (hx : p.tables.exec = Jvm.exec) (hb : c.code = cc) (hts : ∀ w ∈ gws, w.before args s = true) (hown : s.vm.findClass own = some m.cls) (hK : va_K D vwCl (gty cs) s) (hB : qB D cs A N ad ρ σ z H0 H locs) (hcl : gCl ci C T n) {i a q : Nat} (hi : i < N) (ha : a = ad i) (hck : ck i = ci) (hk : k < n) (hlink : Cond.fieldLink own index C (T k).2.1 (T k).2.2.1 ∈ gws) (hft : ft ci k = 1) (hr : ρ i k = some q) (d : decode cc pc = .ok (.getfield index, 3))
    (kk : W p l e R s m args below meth c H locs cells slots Q (F0 m (pc + 3) ls (.ref q :: rest))) : W p l e R s m args below meth c H locs cells slots Q (F0 m pc ls (.ref a :: rest)) := by
  obtain ⟨h1, h2, h3, h4, h5, h6⟩ := hcl
  subst h3 ha
  exact va_get (D := D) (ci := ci) (v := .ref q) hx hb hts h2 hown hK hB.1.1 i (q_obj hB hi hck h4) h1 k hk (hts _ hlink) (fun x9 h9 => by rw [← h5 k hk]; exact h9) (by rw [gf_at hk, gv, hck, if_neg (by omega), if_pos hft, hr]; rfl) d kk
theorem q_len (hx : p.tables.exec = Jvm.exec) (hb : c.code = cc) (hK : va_K D vwCl (gty cs) s) (hB : qB D cs A N ad ρ σ z H0 H locs) {i L : Nat} (hi : i < N) (hck : ck i = 7) (hL : cn i = L) (d : decode cc pc = .ok (.arraylength, 1))
    (kk : W p l e R s m args below meth c H locs cells slots Q (F0 m (pc + 1) ls (.int (iZ ((L : Nat) : Int)) :: rest))) : W p l e R s m args below meth c H locs cells slots Q (F0 m pc ls (.ref (ad i) :: rest)) :=
  va_alen (D := D) (x := (cn i, .inl (fun k => iZ (σ i k)))) hx hb hK hB.1.1 i 0 (by rw [gWn_at hi, gE_int hck]) rfl (by show Int32.ofNat (cn i) = iZ _; rw [hL]; unfold iZ; rw [Int32.ofInt_eq_ofNat]) d kk
theorem q_iast (hx : p.tables.exec = Jvm.exec) (hb : c.code = cc) (hK : va_K D vwCl (gty cs) s) (hB : qB D cs A N ad ρ σ z H0 H locs) {i j : Nat} {v : Int} (hi : i < N) (hck : ck i = 7) (hj : j < cn i) (hn : cn i < 1000) (d : decode cc pc = .ok (.iastore, 1))
    (kk : ∀ (H : Heap) (locs : List Loc), qB D cs A N ad ρ (up2 σ i j v) z H0 H locs → W p l e R s m args below meth c H locs cells slots Q (F0 m (pc + 1) ls rest)) : W p l e R s m args below meth c H locs cells slots Q (F0 m pc ls (.int (iZ v) :: .int (iZ ((j : Nat) : Int)) :: .ref (ad i) :: rest)) := by
  refine va_iast (D := D) (n := cn i) (f := fun k => iZ (σ i k)) hx hb hK hB.1.1 hB.1.2 hB.2 i 0 (by rw [gWn_at hi, gE_int hck]) rfl (iZ_in hj (by omega)) d (fun H1 locs1 hP hD hS => kk H1 locs1 ⟨?_, hS⟩)
  have ew : (gWn cs N ad ρ σ z).set i (ad i, .inl (cs.1, cn i, .inl (upd (fun k => iZ (σ i k)) (iZ ((j : Nat) : Int)).toNatClampNeg (iZ v)))) = gWn cs N ad ρ (up2 σ i j v) z := by
    refine gWn_set hi ?_ (fun a ha => gE_congr rfl (up2_row σ v ha) rfl)
    rw [gE_int hck, iZ_clampN (by omega), upd_iZ]
  exact ⟨ew ▸ hP, ew ▸ hD⟩
theorem q_ast (hx : p.tables.exec = Jvm.exec) (hb : c.code = cc) (hK : va_K D vwCl (gty cs) s) (hB : qB D cs A N ad ρ σ z H0 H locs) {i j t : Nat} (hi : i < N) (hck : ck i = 9) (hj : j < cn i) (hn : cn i < 1000) (ht : t < N) (hct : ck t = 1) (d : decode cc pc = .ok (.aastore, 1))
    (kk : ∀ (H : Heap) (locs : List Loc), qB D cs A N ad (up2 ρ i j (some (ad t))) σ z H0 H locs → W p l e R s m args below meth c H locs cells slots Q (F0 m (pc + 1) ls rest)) : W p l e R s m args below meth c H locs cells slots Q (F0 m pc ls (.ref (ad t) :: .int (iZ ((j : Nat) : Int)) :: .ref (ad i) :: rest)) := by
  refine va_astq (D := D) (n := cn i) (f := ρ i) (r := (RX1, TX1, 6)) (v := ad t) hx hb hK hB.1.1 hB.1.2 hB.2 i 2 t 1 (by rw [gWn_at hi, gE_ref hck]) rfl (q_obj hB ht hct (by decide)) rfl (iZ_in hj (by omega)) d (fun H1 locs1 hP hD hS => kk H1 locs1 ⟨?_, hS⟩)
  have ew : (gWn cs N ad ρ σ z).set i (ad i, .inl (cs.2.2, cn i, .inr (.inr (.inr (.inr (va_up (ρ i) (iZ ((j : Nat) : Int)).toNatClampNeg (some (ad t)))))))) = gWn cs N ad (up2 ρ i j (some (ad t))) σ z := by
    refine gWn_set hi ?_ (fun a ha => gE_congr (up2_row ρ _ ha) rfl rfl)
    have ef : va_up (ρ i) j (some (ad t)) = up2 ρ i j (some (ad t)) i := by
      funext x
      by_cases hx9 : x = j
      · subst hx9; rw [up2_eq]; simp [va_up]
      · rw [up2_k _ _ hx9]; simp [va_up, hx9]
    rw [gE_ref hck, iZ_clampN (by omega), ef]
  exact ⟨ew ▸ hP, ew ▸ hD⟩
end QR
