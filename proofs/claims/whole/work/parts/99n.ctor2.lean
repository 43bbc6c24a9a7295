/-- how far a constructor has come: cells f .. N - 1 are made -/
def PQ (Sg : Nat → Nat → Int) (f N : Nat) (ad0 : Nat → Nat) (ρ0 : gQ) (σ0 : gS) (τ : Nat → Int) (ad : Nat → Nat) (ρ : gQ) (σ : gS) : Prop :=
  (∀ i, i ≤ f → ad i = ad0 i) ∧ (∀ i, i < f → ρ i = ρ0 i ∧ σ i = σ0 i) ∧ (∀ i, f < i → i < N → ∀ k, σ i k = Sg i k) ∧ (∀ k, σ f k = τ k) ∧ ∀ i, f ≤ i → i < N → ∀ k, isr i k = true → tg i k < N → ρ i k = some (ad (tg i k))
theorem tg_gt0 : ∀ i, i < 129 → ∀ k, k < 28 → isr i k = true → i < tg i k := by decide +kernel
theorem tg_gt {i k : Nat} (hi : i < 129) (h : isr i k = true) : i < tg i k := tg_gt0 i hi k (isr_28 hi h) h
theorem PQ.start {Sg : Nat → Nat → Int} {f : Nat} {ad : Nat → Nat} {ρ : gQ} {σ : gS} (hf : f < 129) (h : ∀ k, σ f k = 0) : PQ Sg f (f + 1) ad ρ σ (fun _ => 0) ad ρ σ :=
  ⟨fun _ _ => rfl, fun _ _ => ⟨rfl, rfl⟩, fun i h1 h2 => by omega, h, fun i h1 h2 k hk ht => by
    have e : i = f := by omega
    subst e
    have := tg_gt hf hk
    omega⟩
theorem PQ.int {Sg : Nat → Nat → Int} {f N : Nat} {ad0 ad : Nat → Nat} {ρ0 ρ : gQ} {σ0 σ : gS} {τ : Nat → Int} (h : PQ Sg f N ad0 ρ0 σ0 τ ad ρ σ) (k : Nat) (v : Int) : PQ Sg f N ad0 ρ0 σ0 (upn τ k v) ad ρ (up2 σ f k v) :=
  ⟨h.1, fun i hi => ⟨(h.2.1 i hi).1, by rw [up2_row _ _ (by omega)]; exact (h.2.1 i hi).2⟩, fun i h1 h2 j => by rw [up2_c _ _ (by omega)]; exact h.2.2.1 i h1 h2 j, fun j => by
    by_cases q : j = k
    · subst q; rw [up2_eq, upn_eq]
    · rw [up2_k _ _ q, upn_ne _ _ q]; exact h.2.2.2.1 j, h.2.2.2.2⟩
theorem PQ.arr {Sg : Nat → Nat → Int} {f N k : Nat} {ad0 ad : Nat → Nat} {ρ0 ρ : gQ} {σ0 σ : gS} {τ : Nat → Int} (h : PQ Sg f N ad0 ρ0 σ0 τ ad ρ σ) (hf : f < N) (hN : N < 129) (hk : isr f k = true) (ht : tg f k = N) (hck : ck N = 7 ∨ ck N = 8) (hS : ∀ j, Sg N j = 0) (q : Nat) : PQ Sg f (N + 1) ad0 ρ0 σ0 τ (upr ad N q) (up2 ρ f k (some q)) (upr σ N (fun _ => 0)) := by
  obtain ⟨h1, h2, h3, h4, h5⟩ := h
  refine ⟨fun i hi => by rw [upr_c _ _ (by omega)]; exact h1 i hi, fun i hi => ⟨by rw [up2_row _ _ (by omega)]; exact (h2 i hi).1, by rw [upr_c _ _ (by omega)]; exact (h2 i hi).2⟩, fun i a b j => ?_, fun j => by rw [upr_c _ _ (by omega)]; exact h4 j, fun i a b j hj ht2 => ?_⟩
  · by_cases e : i = N
    · subst e; rw [upr_eq, hS j]
    · rw [upr_c _ _ e]; exact h3 i a (by omega) j
  · by_cases e : i = N
    · subst e; rw [isr_arr hck] at hj; cases hj
    · by_cases e2 : tg i j = N
      · obtain ⟨q1, q2⟩ := tg_inj (by omega) (by omega) hj hk (by rw [e2, ht])
        subst q1 q2
        rw [up2_eq, e2, upr_eq]
      · have ne : ¬ (i = f ∧ j = k) := fun w => e2 (by rw [w.1, w.2]; exact ht)
        rw [show up2 ρ f k (some q) i j = ρ i j from if_neg ne, upr_c _ _ e2]
        exact h5 i a (by omega) j hj (by omega)
theorem PQ.arq {Sg : Nat → Nat → Int} {f N k : Nat} {ad0 ad : Nat → Nat} {ρ0 ρ : gQ} {σ0 σ : gS} {τ : Nat → Int} (h : PQ Sg f N ad0 ρ0 σ0 τ ad ρ σ) (hf : f < N) (hN : N < 129) (hk : isr f k = true) (ht : tg f k = N) (hS : ∀ j, Sg N j = 0) (q : Nat) : PQ Sg f (N + 1) ad0 ρ0 σ0 τ (upr ad N q) (up2 (upr ρ N (fun _ => none)) f k (some q)) (upr σ N (fun _ => 0)) := by
  obtain ⟨h1, h2, h3, h4, h5⟩ := h
  refine ⟨fun i hi => by rw [upr_c _ _ (by omega)]; exact h1 i hi, fun i hi => ⟨by rw [up2_row _ _ (by omega), upr_c _ _ (by omega)]; exact (h2 i hi).1, by rw [upr_c _ _ (by omega)]; exact (h2 i hi).2⟩, fun i a b j => ?_, fun j => by rw [upr_c _ _ (by omega)]; exact h4 j, fun i a b j hj ht2 => ?_⟩
  · by_cases e : i = N
    · subst e; rw [upr_eq, hS j]
    · rw [upr_c _ _ e]; exact h3 i a (by omega) j
  · by_cases e : i = N
    · subst e
      have := tg_gt hN hj
      omega
    · by_cases e2 : tg i j = N
      · obtain ⟨q1, q2⟩ := tg_inj (by omega) (by omega) hj hk (by rw [e2, ht])
        subst q1 q2
        rw [up2_eq, e2, upr_eq]
      · have ne : ¬ (i = f ∧ j = k) := fun w => e2 (by rw [w.1, w.2]; exact ht)
        rw [show up2 (upr ρ N (fun _ => none)) f k (some q) i j = upr ρ N (fun _ => none) i j from if_neg ne, upr_c _ _ e2, upr_c _ _ e]
        exact h5 i a (by omega) j hj (by omega)
/-- what a constructor has made -/
def pI (f n : Nat) (ad : Nat → Nat) (ρ : gQ) (σ : gS) (ad' : Nat → Nat) (ρ' : gQ) (σ' : gS) : Prop := (∀ i, i ≤ f → ad' i = ad i) ∧ (∀ i, i < f → ρ' i = ρ i ∧ σ' i = σ i) ∧ ∀ i, f ≤ i → i < n → (∀ k, σ' i k = σI i k) ∧ ∀ k, isr i k = true → ρ' i k = some (ad' (tg i k))
theorem PQ.fin {f n : Nat} {ad0 ad : Nat → Nat} {ρ0 ρ : gQ} {σ0 σ : gS} {τ : Nat → Int} (h : PQ σI f n ad0 ρ0 σ0 τ ad ρ σ) (hn : n ≤ 129) (ht : ∀ k, τ k = σI f k) (hc : ∀ i, i < 129 → f ≤ i → i < n → ∀ k, k < 28 → isr i k = true → tg i k < n) : pI f n ad0 ρ0 σ0 ad ρ σ := by
  obtain ⟨h1, h2, h3, h4, h5⟩ := h
  refine ⟨h1, h2, fun i a b => ⟨fun k => ?_, fun k hk => h5 i a b k hk (hc i (by omega) a b k (isr_28 (by omega) hk) hk)⟩⟩
  by_cases e : i = f
  · subst e; rw [h4 k, ht k]
  · exact h3 i (by omega) b k
theorem PQ.obj {f N n i0 k0 : Nat} {ad0 ad ad2 : Nat → Nat} {ρ0 ρ ρ2 : gQ} {σ0 σ σ2 : gS} {τ : Nat → Int} (h : PQ σI f N ad0 ρ0 σ0 τ ad ρ σ) (hf : f < N) (hn : n ≤ 129) {q : Nat} (hp : pI N n (upr ad N q) (upr ρ N (fun _ => none)) (upr σ N (fun _ => 0)) ad2 ρ2 σ2) (hN : N < n) (h0 : i0 < N) (h00 : f ≤ i0) (ht : tg i0 k0 = N) (hcl : ∀ t, t < n → N ≤ t → pr t = (i0, k0) ∨ N ≤ (pr t).1) : PQ σI f n ad0 ρ0 σ0 τ ad2 (up2 ρ2 i0 k0 (some q)) σ2 := by
  obtain ⟨h1, h2, h3, h4, h5⟩ := h
  obtain ⟨p1, p2, p3⟩ := hp
  have eq : ad2 N = q := by rw [p1 N (Nat.le_refl N), upr_eq]
  have ea : ∀ i, i < N → ad2 i = ad i := fun i hi => by rw [p1 i (by omega), upr_c _ _ (by omega)]
  have er : ∀ i, i < N → ρ2 i = ρ i := fun i hi => by rw [(p2 i hi).1, upr_c _ _ (by omega)]
  have es : ∀ i, i < N → σ2 i = σ i := fun i hi => by rw [(p2 i hi).2, upr_c _ _ (by omega)]
  refine ⟨fun i hi => by rw [ea i (by omega)]; exact h1 i hi, fun i hi => ⟨by rw [up2_row _ _ (by omega), er i (by omega)]; exact (h2 i hi).1, by rw [es i (by omega)]; exact (h2 i hi).2⟩, fun i a b k => ?_, fun k => by rw [es f hf]; exact h4 k, fun i a b k hk ht2 => ?_⟩
  · rcases Nat.lt_or_ge i N with e | e
    · rw [es i e]; exact h3 i a e k
    · exact (p3 i e b).1 k
  · rcases Nat.lt_or_ge i N with e | e
    · rcases Nat.lt_or_ge (tg i k) N with e2 | e2
      · have ne : ¬ (i = i0 ∧ k = k0) := fun w => by rw [w.1, w.2, ht] at e2; omega
        rw [show up2 ρ2 i0 k0 (some q) i k = ρ2 i k from if_neg ne, er i e, ea _ e2]
        exact h5 i a e k hk e2
      · have hpr := pr_ok i (by omega) k (isr_28 (by omega) hk) hk
        have hc9 := hcl (tg i k) ht2 e2
        rw [hpr] at hc9
        have hik : i = i0 ∧ k = k0 := by
          rcases hc9 with w9 | w9
          · exact ⟨congrArg Prod.fst w9, congrArg Prod.snd w9⟩
          · exact absurd w9 (by show ¬ N ≤ i; omega)
        obtain ⟨q1, q2⟩ := hik
        subst q1 q2
        rw [up2_eq, ht, eq]
    · rw [up2_row _ _ (by omega)]
      exact (p3 i e b).2 k hk
/-- a constructor's contract -/
def IC (l : Launch) (D : va_G) (cs : ClassId × ClassId × ClassId) (A : Nat → Prop) (y : MethodName) (cc : ByteArray) (nL fr lo mc ms f n : Nat) : Prop := ∀ (ad : Nat → Nat) (ρ : gQ) (σ : gS) (z : gZ), (∀ k, σ f k = 0) → (ck f = 5 → z f = 0) → Met l y (.code y cc nL none :: gws) { frames := fr, cells := mc, slots := ms, locals := lo } (va_Pc [.ref (ad f)] (qPre D cs A (f + 1) ad ρ σ z)) (va_Qv (S := (Nat → Nat) × gQ × gS) (fun u => pI f n ad ρ σ u.1 u.2.1 u.2.2) (fun u t => qW D cs A n u.1 u.2.1 u.2.2 z t.heap) A) mc ms A
def qF (D : va_G) (cs : ClassId × ClassId × ClassId) (own : String) (cc : ByteArray) (nL : Nat) (p : Program) (s : State) (m : MethodId) (args : Array Value) (meth : Method) (c : Code) : Prop :=
  p.tables.exec = Jvm.exec ∧ c.code = cc ∧ meth.sig.returnType = none ∧ c.maxLocals = nL ∧ s.vm.findClass own = some m.cls ∧ (∀ w ∈ gws, w.before args s = true) ∧ meth.locks = false ∧ va_K D vwCl (gty cs) s ∧ qO s
theorem q_enter {l : Launch} {D : va_G} {cs : ClassId × ClassId × ClassId} {A : Nat → Prop} {y : MethodName} {cc : ByteArray} {nL : Nat} {Rm : Room} {As : List Value} {N mc ms : Nat} {ad : Nat → Nat} {ρ : gQ} {σ : gS} {z : gZ} {Qc : Array Value → State → Outcome → State → Prop} (hy : plainName y.cls = true) (hn : (lg_sl As).length ≤ nL)
    (body : ∀ (p : Program) (e : Env) (s : State) (m : MethodId) (args : Array Value) (below : List Frame) (meth : Method) (c : Code) (ls : Array Slot), qF D cs y.cls cc nL p s m args meth c → meth.name = y.name → qB D cs A N ad ρ σ z s.heap s.heap [] → (∀ q, s.heap.size ≤ q → A q) → lv_has ls nL (lv_args 0 As) → W p l e Rm s m args below meth c s.heap [] 0 0 (MQ below Qc args s mc ms A) (F0 m 0 ls [])) :
    Met l y (.code y cc nL none :: gws) Rm (va_Pc As (qPre D cs A N ad ρ σ z)) Qc mc ms A := by
  refine Met.ofW (cc := cc) (maxL := nL) (ret := none) hy rfl ?_
  intro p e s m args below meth c s₁ B hml hv
  obtain ⟨rfl, hH, hA, hK, hO⟩ := hv
  have hts := atoms_spec (ws := .code y cc nL none :: gws) B.pre
  have hl := lv_entry As (n := nL) hn
  rw [lg_entry_eq]
  exact body p e s m _ below meth c _ ⟨B.exec, B.bytes, B.returns, hml, findClass_of_methodNamed B.named, fun w h => hts w (List.mem_cons_of_mem _ h), B.notSynchronized, hK, hO⟩ (name_of_methodNamed B.named B.method).1 ⟨hH, va_S.rf⟩ hA hl
theorem ft_01 : ∀ c, c < 5 → ∀ k, k < nf c → ft c k = 0 ∨ ft c k = 1 := by decide
theorem gWn_z {cs : ClassId × ClassId × ClassId} {N M : Nat} {ad : Nat → Nat} {ρ : gQ} {σ : gS} {z : gZ} {v : Int64} (h : ck N < 5) : gWn cs M ad ρ σ (upr z N v) = gWn cs M ad ρ σ z := by
  unfold gWn
  refine List.map_congr_left (fun i _ => ?_)
  by_cases e : i = N
  · subst e
    have e2 : gE cs ρ σ (upr z i v) i = gE cs ρ σ z i := by
      rw [gE_obj rfl (by omega), gE_obj rfl (by omega)]
      congr 2
      refine List.map_congr_left (fun k hk => ?_)
      have := ft_01 _ h k (List.mem_range.mp hk)
      unfold gv
      rcases this with q | q
      · rw [if_pos q, if_pos q]
      · have n0 : ¬ ft (ck i) k = 0 := by omega
        rw [if_neg n0, if_neg n0, if_pos q, if_pos q]
    rw [e2]
  · rw [gE_congr rfl rfl (upr_c _ _ e)]
section QM
variable {p : Program} {l : Launch} {e : Env} {R : Room} {s : State} {m : MethodId} {args : Array Value} {below : List Frame} {meth : Method} {c : Code} {H : Heap} {locs : List Loc} {cells slots cells' slots' : Nat} {Q : State → Prop} {cc : ByteArray} {pc index index2 index3 n k nL : Nat} {ls : Array Slot} {rest : List Value} {D : va_G} {cs : ClassId × ClassId × ClassId} {A : Nat → Prop} {N f : Nat} {ad ad0 : Nat → Nat} {ρ ρ0 : gQ} {σ σ0 : gS} {τ : Nat → Int} {Sg : Nat → Nat → Int} {z : gZ} {own C : String} {T : u_T} {ci a : Nat}
/-- an int array made and put into a field -/
theorem q_mkI (hx : p.tables.exec = Jvm.exec) (hb : c.code = cc) (hts : ∀ w ∈ gws, w.before args s = true) (hown : s.vm.findClass C = some m.cls) (hK : va_K D vwCl (gty cs) s) (hin : meth.name = "<init>") (hA : ∀ q, s.heap.size ≤ q → A q) (hB : qB D cs A N ad ρ σ z s.heap H locs) (hq : PQ Sg f N ad0 ρ0 σ0 τ ad ρ σ) (hf : f < N) (hN : N < 129) (hck : ck N = 7) {L : Nat} (hL : cn N = L) (hs : L < 1000) (hS : ∀ j, Sg N j = 0) (hcl : gCl ci C T n) (ty0 : Nat → FieldType) (hty : ∀ k, k < n → parseFieldDescriptor (T k).2.2.1 = some (ty0 k)) (hckf : ck f = ci) (ha : a = ad0 f) (hk : k < n) (hlink : Cond.fieldLink C index C (T k).2.1 (T k).2.2.1 ∈ gws) (hft : ft ci k = 1) (htg : tg f k = N) (hfin : (T k).2.2.2 = true) (hty2 : ty0 k = .array .int) (ec : cells + 1 = cells') (es : slots + L = slots') (hc : cells' ≤ R.cells) (hsl : slots' ≤ R.slots) (d1 : decode cc pc = .ok (.newarray .int, 2)) (d2 : decode cc (pc + 2) = .ok (.putfield index, 3))
    (kk : ∀ (ad : Nat → Nat) (ρ : gQ) (σ : gS) (H : Heap) (locs : List Loc), qB D cs A (N + 1) ad ρ σ z s.heap H locs → PQ Sg f (N + 1) ad0 ρ0 σ0 τ ad ρ σ → W p l e R s m args below meth c H locs cells' slots' Q (F0 m (pc + 5) ls rest)) : W p l e R s m args below meth c H locs cells slots Q (F0 m pc ls (.int (iZ ((L : Nat) : Int)) :: .ref a :: rest)) := by
  subst ec es
  refine q_newi hx hb hts hK hA hB hck hL hs hc hsl d1 (fun q H1 hB1 => ?_)
  refine q_putF hx hb hts hown hK hB1 hcl ty0 hty (i := f) (by omega) (by rw [ha, upr_c _ _ (by omega)]; exact (hq.1 f (Nat.le_refl f)).symm) hckf hk hlink hft hfin hin (by rw [hty2]; rfl) (by rw [hty2]; rfl) d2 (fun H locs hB2 => ?_)
  exact kk _ _ _ H locs hB2 (hq.arr hf hN (isr_fld hckf hcl.2.2.2.1 hft) htg (Or.inl hck) hS q)
theorem q_mkZ (hx : p.tables.exec = Jvm.exec) (hb : c.code = cc) (hts : ∀ w ∈ gws, w.before args s = true) (hown : s.vm.findClass C = some m.cls) (hK : va_K D vwCl (gty cs) s) (hin : meth.name = "<init>") (hA : ∀ q, s.heap.size ≤ q → A q) (hB : qB D cs A N ad ρ σ z s.heap H locs) (hq : PQ Sg f N ad0 ρ0 σ0 τ ad ρ σ) (hf : f < N) (hN : N < 129) (hck : ck N = 8) {L : Nat} (hL : cn N = L) (hs : L < 1000) (hS : ∀ j, Sg N j = 0) (hcl : gCl ci C T n) (ty0 : Nat → FieldType) (hty : ∀ k, k < n → parseFieldDescriptor (T k).2.2.1 = some (ty0 k)) (hckf : ck f = ci) (ha : a = ad0 f) (hk : k < n) (hlink : Cond.fieldLink C index C (T k).2.1 (T k).2.2.1 ∈ gws) (hft : ft ci k = 1) (htg : tg f k = N) (hfin : (T k).2.2.2 = true) (hty2 : ty0 k = .array .boolean) (ec : cells + 1 = cells') (es : slots + L = slots') (hc : cells' ≤ R.cells) (hsl : slots' ≤ R.slots) (d1 : decode cc pc = .ok (.newarray .boolean, 2)) (d2 : decode cc (pc + 2) = .ok (.putfield index, 3))
    (kk : ∀ (ad : Nat → Nat) (ρ : gQ) (σ : gS) (H : Heap) (locs : List Loc), qB D cs A (N + 1) ad ρ σ z s.heap H locs → PQ Sg f (N + 1) ad0 ρ0 σ0 τ ad ρ σ → W p l e R s m args below meth c H locs cells' slots' Q (F0 m (pc + 5) ls rest)) : W p l e R s m args below meth c H locs cells slots Q (F0 m pc ls (.int (iZ ((L : Nat) : Int)) :: .ref a :: rest)) := by
  subst ec es
  refine q_newz hx hb hts hK hA hB hck hL hs hc hsl d1 (fun q H1 hB1 => ?_)
  refine q_putF hx hb hts hown hK hB1 hcl ty0 hty (i := f) (by omega) (by rw [ha, upr_c _ _ (by omega)]; exact (hq.1 f (Nat.le_refl f)).symm) hckf hk hlink hft hfin hin (by rw [hty2]; rfl) (by rw [hty2]; rfl) d2 (fun H locs hB2 => ?_)
  exact kk _ _ _ H locs hB2 (hq.arr hf hN (isr_fld hckf hcl.2.2.2.1 hft) htg (Or.inr hck) hS q)
theorem q_mkQ (hx : p.tables.exec = Jvm.exec) (hb : c.code = cc) (hts : ∀ w ∈ gws, w.before args s = true) (hown : s.vm.findClass C = some m.cls) (hK : va_K D vwCl (gty cs) s) (hO : qO s) (hin : meth.name = "<init>") (hA : ∀ q, s.heap.size ≤ q → A q) (hB : qB D cs A N ad ρ σ z s.heap H locs) (hq : PQ Sg f N ad0 ρ0 σ0 τ ad ρ σ) (hf : f < N) (hN : N < 129) (hck : ck N = 9) {L : Nat} (hL : cn N = L) (hs : L < 1000) (hS : ∀ j, Sg N j = 0) (hcl : gCl ci C T n) (ty0 : Nat → FieldType) (hty : ∀ k, k < n → parseFieldDescriptor (T k).2.2.1 = some (ty0 k)) (hckf : ck f = ci) (ha : a = ad0 f) (hk : k < n) (hl2 : Cond.classLink C index2 RX1 ∈ gws) (hlink : Cond.fieldLink C index C (T k).2.1 (T k).2.2.1 ∈ gws) (hft : ft ci k = 1) (htg : tg f k = N) (hfin : (T k).2.2.2 = true) (hty2 : ty0 k = .array (.object RX1)) (ec : cells + 1 = cells') (es : slots + L = slots') (hc : cells' ≤ R.cells) (hsl : slots' ≤ R.slots) (d1 : decode cc pc = .ok (.anewarray index2, 3)) (d2 : decode cc (pc + 3) = .ok (.putfield index, 3))
    (kk : ∀ (ad : Nat → Nat) (ρ : gQ) (σ : gS) (H : Heap) (locs : List Loc), qB D cs A (N + 1) ad ρ σ z s.heap H locs → PQ Sg f (N + 1) ad0 ρ0 σ0 τ ad ρ σ → W p l e R s m args below meth c H locs cells' slots' Q (F0 m (pc + 6) ls rest)) : W p l e R s m args below meth c H locs cells slots Q (F0 m pc ls (.int (iZ ((L : Nat) : Int)) :: .ref a :: rest)) := by
  subst ec es
  refine q_newq hx hb hown hts hK hO.1 hA hB hck hL hs hl2 hc hsl d1 (fun q H1 hB1 => ?_)
  refine q_putF hx hb hts hown hK hB1 hcl ty0 hty (i := f) (by omega) (by rw [ha, upr_c _ _ (by omega)]; exact (hq.1 f (Nat.le_refl f)).symm) hckf hk hlink hft hfin hin (by rw [hty2]; rfl) (by rw [hty2]; rfl) d2 (fun H locs hB2 => ?_)
  exact kk _ _ _ H locs hB2 (hq.arq hf hN (isr_fld hckf hcl.2.2.2.1 hft) htg hS q)
theorem q_blind {As : List Value} : FrameBlind (va_Pc As (qPre D cs A N ad ρ σ z)) := fun a U g mk q => ⟨q.1, q.2.1, q.2.2.1, va_K.moved (u := U) (U := U.calling g mk a) (Vm.Alike.refl U.vm) q.2.2.2.1, q.2.2.2.2.call⟩
theorem q_pre (hK : va_K D vwCl (gty cs) s) (hO : qO s) (hA : ∀ q, s.heap.size ≤ q → A q) (hB : qB D cs A N ad ρ σ z s.heap H locs) {U : State} (hU : U.heap = H) (hW : s.WarmedH U.vm) : qPre D cs A N ad ρ σ z U :=
  ⟨by rw [hU]; exact hB.1, fun q h => hA q (Nat.le_trans hB.2.1 (by rw [hU] at h; exact h)), va_K.moved hW.alike hK, hO.to hW⟩
/-- new, dup, the constructor: an object of a class without longs -/
theorem q_mkN {y : MethodName} {bytes : ByteArray} {C2 : String} {T2 : u_T} {ci2 n2 nL2 fr2 lo2 mc2 ms2 M : Nat} (hx : p.tables.exec = Jvm.exec) (hb : c.code = cc) (hml : c.maxLocals = nL) (hts : ∀ w ∈ gws, w.before args s = true) (hown : s.vm.findClass own = some m.cls) (hK : va_K D vwCl (gty cs) s) (hO : qO s) (hA : ∀ q, s.heap.size ≤ q → A q) (hB : qB D cs A N ad ρ σ z s.heap H locs) (hsz : ls.size = nL) (hcl : gCl ci2 C2 T2 n2) (ty0 : Nat → FieldType) (hty : ∀ k, k < n2 → parseFieldDescriptor (T2 k).2.2.1 = some (ty0 k)) (hdf : ∀ j, j < n2 → defaultValue (ty0 j) = gd0 ci2 j) (hck : ck N = ci2) (hc5 : ci2 < 5) (hlink : Cond.classLink own index C2 ∈ gws) (hinst : Cond.instantiable C2 n2 ∈ gws) (hini : Cond.initialized C2 ∈ gws) (hM : IC l D cs A y bytes nL2 fr2 lo2 mc2 ms2 N M) (hyC : y.cls = C2) (hy1 : y.name = "<init>") (hy2 : y.cls ≠ "java/lang/invoke/MethodHandle" ∧ y.cls ≠ "java/lang/invoke/VarHandle" ∧ (parseMethodDescriptor y.desc).map (fun d => d.parameters.length) = some 0) (hml2 : Cond.methodLink own index2 y ∈ gws) (him : Cond.instanceMethod y ∈ gws) (hcode : Cond.code y bytes nL2 none ∈ gws) (hrs : (rest.map fun v => v.category).sum ≤ 7) (hR : fr2 + 1 ≤ R.frames ∧ 8 + (nL2 + 11) + lo2 ≤ R.locals) (ec : cells + 1 + mc2 = cells') (es : slots + n2 + ms2 = slots') (hc : cells' ≤ R.cells) (hsl : slots' ≤ R.slots) (d1 : decode cc pc = .ok (.new index, 3)) (d2 : decode cc (pc + 3) = .ok (.dup, 1)) (d3 : decode cc (pc + 4) = .ok (.invokespecial index2, 3))
    (kk : ∀ (q : Nat) (ad2 : Nat → Nat) (ρ2 : gQ) (σ2 : gS) (H : Heap) (locs : List Loc), qB D cs A M ad2 ρ2 σ2 z s.heap H locs → pI N M (upr ad N q) (upr ρ N (fun _ => none)) (upr σ N (fun _ => 0)) ad2 ρ2 σ2 → W p l e R s m args below meth c H locs cells' slots' Q (F0 m (pc + 7) ls (.ref q :: rest))) : W p l e R s m args below meth c H locs cells slots Q (F0 m pc ls rest) := by
  subst ec es
  refine q_new hx hb hown hts hK hA hB hcl ty0 hty hdf hck hlink hinst hini (by omega) (by omega) d1 (fun q H1 hB1 => ?_)
  have hB2 : qB D cs A (N + 1) (upr ad N q) (upr ρ N (fun _ => none)) (upr σ N (fun _ => 0)) z s.heap H1 locs := by
    unfold qB qW at hB1 ⊢
    rw [gWn_z (by omega)] at hB1
    exact hB1
  refine lv_dup hx hb d2 rfl ?_
  have hM1 := hM (upr ad N q) (upr ρ N (fun _ => none)) (upr σ N (fun _ => 0)) z (fun k => by rw [upr_eq]) (fun h9 => absurd (hck.symm.trans h9) (by omega))
  rw [upr_eq] at hM1
  refine va_callv (va_runI (As := []) (rest := .ref q :: rest) ⟨hx, hb, hml, hown, hts⟩ hM1 (cwI 0 hts (gws_ws (gws_code hcode)) rfl rfl rfl (hts _ (by rw [hyC]; exact hini)) (hts _ hml2) (hts _ him) hy1 hy2 hR) ⟨q_blind, fun U hU hW => ⟨rfl, q_pre hK hO hA hB2 hU hW⟩⟩ rfl rfl hsz rfl (lv_room (by simp only [List.map_cons, List.sum_cons]; show 1 + _ ≤ 8; omega)) d3 ⟨by omega, by omega⟩) hB2.2 (fun _ _ h => h) (fun _ h => h) (fun u t H2 locs2 ht hvm hw hB3 hz1 hk1 hS => ?_)
  exact kk q u.1 u.2.1 u.2.2 H2 locs2 ⟨by rw [← ht]; exact hB3, hS⟩ hw
/-- new, dup, the constructor: an object of a class without longs -/
theorem q_mkP {y : MethodName} {bytes : ByteArray} {C2 : String} {T2 : u_T} {ci2 n2 nL2 fr2 lo2 mc2 ms2 M : Nat} (hx : p.tables.exec = Jvm.exec) (hb : c.code = cc) (hml : c.maxLocals = nL) (hts : ∀ w ∈ gws, w.before args s = true) (hown : s.vm.findClass own = some m.cls) (hK : va_K D vwCl (gty cs) s) (hO : qO s) (hA : ∀ q, s.heap.size ≤ q → A q) (hB : qB D cs A N ad ρ σ z s.heap H locs) (hsz : ls.size = nL) (hcl : gCl ci2 C2 T2 n2) (ty0 : Nat → FieldType) (hty : ∀ k, k < n2 → parseFieldDescriptor (T2 k).2.2.1 = some (ty0 k)) (hdf : ∀ j, j < n2 → defaultValue (ty0 j) = gd0 ci2 j) (hck : ck N = ci2) (hc5 : ci2 < 5) (hlink : Cond.classLink own index C2 ∈ gws) (hinst : Cond.instantiable C2 n2 ∈ gws) (hini : Cond.initialized C2 ∈ gws) (hM : IC l D cs A y bytes nL2 fr2 lo2 mc2 ms2 N M) (hyC : y.cls = C2) (hy1 : y.name = "<init>") (hy2 : y.cls ≠ "java/lang/invoke/MethodHandle" ∧ y.cls ≠ "java/lang/invoke/VarHandle" ∧ (parseMethodDescriptor y.desc).map (fun d => d.parameters.length) = some 0) {host : String} (hml2 : va_Nw (.methodLinkNest own index2 y host) s) (him : Cond.instanceMethod y ∈ gws) (hcode : Cond.code y bytes nL2 none ∈ gws) (hrs : (rest.map fun v => v.category).sum ≤ 7) (hR : fr2 + 1 ≤ R.frames ∧ 8 + (nL2 + 11) + lo2 ≤ R.locals) (ec : cells + 1 + mc2 = cells') (es : slots + n2 + ms2 = slots') (hc : cells' ≤ R.cells) (hsl : slots' ≤ R.slots) (d1 : decode cc pc = .ok (.new index, 3)) (d2 : decode cc (pc + 3) = .ok (.dup, 1)) (d3 : decode cc (pc + 4) = .ok (.invokespecial index2, 3))
    (kk : ∀ (q : Nat) (ad2 : Nat → Nat) (ρ2 : gQ) (σ2 : gS) (H : Heap) (locs : List Loc), qB D cs A M ad2 ρ2 σ2 z s.heap H locs → pI N M (upr ad N q) (upr ρ N (fun _ => none)) (upr σ N (fun _ => 0)) ad2 ρ2 σ2 → W p l e R s m args below meth c H locs cells' slots' Q (F0 m (pc + 7) ls (.ref q :: rest))) : W p l e R s m args below meth c H locs cells slots Q (F0 m pc ls rest) := by
  subst ec es
  refine q_new hx hb hown hts hK hA hB hcl ty0 hty hdf hck hlink hinst hini (by omega) (by omega) d1 (fun q H1 hB1 => ?_)
  have hB2 : qB D cs A (N + 1) (upr ad N q) (upr ρ N (fun _ => none)) (upr σ N (fun _ => 0)) z s.heap H1 locs := by
    unfold qB qW at hB1 ⊢
    rw [gWn_z (by omega)] at hB1
    exact hB1
  refine lv_dup hx hb d2 rfl ?_
  have hM1 := hM (upr ad N q) (upr ρ N (fun _ => none)) (upr σ N (fun _ => 0)) z (fun k => by rw [upr_eq]) (fun h9 => absurd (hck.symm.trans h9) (by omega))
  rw [upr_eq] at hM1
  refine va_callv (va_runIN (As := []) (rest := .ref q :: rest) ⟨hx, hb, hml, hown, hts⟩ hM1 ⟨va_cnB 0 hts (gws_ws (gws_code hcode)) rfl rfl rfl hml2 (hts _ (by rw [hyC]; exact hini)) hy2 hR, hy1, hts _ him⟩ ⟨q_blind, fun U hU hW => ⟨rfl, q_pre hK hO hA hB2 hU hW⟩⟩ rfl rfl hsz rfl (lv_room (by simp only [List.map_cons, List.sum_cons]; show 1 + _ ≤ 8; omega)) d3 ⟨by omega, by omega⟩) hB2.2 (fun _ _ h => h) (fun _ h => h) (fun u t H2 locs2 ht hvm hw hB3 hz1 hk1 hS => ?_)
  exact kk q u.1 u.2.1 u.2.2 H2 locs2 ⟨by rw [← ht]; exact hB3, hS⟩ hw
end QM
