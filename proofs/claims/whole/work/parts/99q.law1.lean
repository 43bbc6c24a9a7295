def R_law : String := "ClockedFlowsLaw"
def lw_P (b : Addr) (xs : List Int32) (args : Array Value) (s : State) : Prop := args = #[.ref b] ∧ s.IntsAt b xs ∧ xs.length ≤ 3072 ∧ (Jvm.Cond.and given_1 narrow_1).before args s = true
def lw_Q (_ : Array Value) (s : State) (o : Outcome) (t : State) : Prop := o = .returned (some (.int 1)) ∧ Framed s o t [] 600000 7302249
def lw_Z (below : List Frame) (a : Array Value) (s : State) : State → Prop := fun t => ∃ o, t.status = .running ∧ Ended t below o ∧ lw_Q a s o t
/-- the law's own end, with 1 on the stack, nothing written that was there before, its room as the claim has it -/
theorem lw_ret {p : Program} {l : Launch} {e : Env} {s : State} {m : MethodId} {below : List Frame} {meth : Method} {c : Code} {b : Nat} (hx : p.tables.exec = Jvm.exec) (hb : c.code = code) (hr : meth.sig.returnType = ret) (hlocks : meth.locks = false) {pc : Nat} {H : Heap} {ls : Array Slot} (hdg : decode code pc = .ok (.ireturn, 1)) : W p l e room_1 s m #[Value.ref b] below meth c H [] 600000 7302249 (lw_Z below #[Value.ref b] s) (F0 m pc ls [.int 1]) := by
  intro T hT X
  obtain ⟨fs, hret, hrun, hended, hW, hframe⟩ := X.leave (v := some (.int 1)) (hlocks := hlocks) (fun h => by rw [hr] at h; cases h)
  have hmeth' : T.vm.method? m = some meth := X.method'
  refine ⟨T.setFrames fs, ?_, .returned (some (.int 1)), hrun, hended, rfl, ⟨_, rfl⟩, hW, hframe⟩
  jvm_step X.here [X.here.top, hx, hb, hdg, hmeth', hr, ret, narrow_b1]
  (try refine ⟨rfl, ?_⟩); (try refine ⟨rfl, ?_⟩)
  first | (intro acts; rw [hret _ acts rfl rfl rfl]) | rw [hret _ _ rfl rfl rfl]
  exact Steps.refl _
/-- what holds at the law's entry: the machine, the code, the tables' words (any of lw_tbl by 'hts w (by decide +kernel)'), the script of L ints xs at the cell b, what the Statement gives of the start (any of its parts by flat_of_before) -/
def lw_At (p : Program) (s : State) (m : MethodId) (meth : Method) (c : Code) (b L : Nat) (xs : Nat → Int32) : Prop :=
  p.tables.exec = Jvm.exec ∧ c.code = code ∧ meth.sig.returnType = ret ∧ c.maxLocals = 4 ∧ s.vm.findClass R_law = some m.cls ∧ (∀ w ∈ lw_tbl, w.before #[Value.ref b] s = true) ∧ va_X b L xs s s.heap ∧ b < s.heap.size ∧ meth.locks = false ∧ (Jvm.Cond.and given_1 narrow_1).before #[Value.ref b] s = true

/-! THE LAW: its rows -/
def LF (θ : gT) (b L : Nat) (xs : Nat → Int32) (p : Program) (s : State) (m : MethodId) (args : Array Value) (c : Code) : Prop :=
  (p.tables.exec = Jvm.exec ∧ c.code = cL_law ∧ c.maxLocals = 4 ∧ s.vm.findClass RL = some m.cls ∧ (∀ w ∈ gws, w.before args s = true) ∧ va_K (tD θ) vwCl (gty (tC θ)) s ∧ gSt θ s) ∧ (va_X b L xs s s.heap ∧ b < s.heap.size ∧ ¬ tA θ b) ∧ L ≤ 3072 ∧ gOK θ
def lwL (θ : gT) (b i : Nat) : List (Nat × Value) := [(3, .int (iZ (i : Int))), (2, .ref (tad θ 111)), (1, .ref (tad θ 0)), (0, .ref b)]
abbrev xI (xs : Nat → Int32) (i j : Nat) : Int := (xs (i + j)).toInt
def xL (a b : Int32) : Int64 := (a.toInt64 <<< ((32 : Int32).toInt64 &&& 63)) ||| (b.toInt64 &&& 4294967295)
section LR
variable {p : Program} {l : Launch} {e : Env} {R : Room} {s : State} {m : MethodId} {args : Array Value} {below : List Frame} {meth : Method} {c : Code} {H : Heap} {locs : List Loc} {cells slots : Nat} {Q : State → Prop}
variable {pc : Nat} {ls : Array Slot} {rest : List Value} {θ : gT} {b L : Nat} {xs : Nat → Int32} {σ : gS} {z : gZ}
theorem law_arg (F : LF θ b L xs p s m args c) (hB : gB θ σ z s.heap H locs) {i : Nat} (j : Nat) (hj : i + j < L) {j' : Int} (hj' : j' = (j : Int)) (hl : lv_has ls 4 (lwL θ b i)) (d1 : decode cL_law pc = .ok (.aload_n 0, 1)) (d2 : decode cL_law (pc + 1) = .ok (.iload_n 3, 1)) (d3 : decode cL_law (pc + 2) = .ok (.iconst j', 1)) (d4 : decode cL_law (pc + 3) = .ok (.iadd, 1)) (d5 : decode cL_law (pc + 4) = .ok (.iaload, 1))
    (kk : W p l e R s m args below meth c H locs cells slots Q (F0 m (pc + 5) ls (.int (iZ (xI xs i j)) :: rest))) : W p l e R s m args below meth c H locs cells slots Q (F0 m pc ls rest) := by
  obtain ⟨⟨hx, hb, hml, hown, hts, hK, hst⟩, ⟨hX, hbl, hbA⟩, hL, hθ⟩ := F
  subst hj'
  refine lv_aload_n hx hb d1 rfl (lv_at hl 3 rfl) ?_
  refine lv_iload_n hx hb d2 rfl (lv_at hl 0 rfl) ?_
  refine lv_iconst (v := iZ ((j : Nat) : Int)) hx hb d3 rfl ?_
  refine z_iadd hx hb d4 ?_
  rw [show ((i : Nat) : Int) + ((j : Nat) : Int) = ((i + j : Nat) : Int) from rfl]
  refine va_sld hx hb hX hbl hbA hB.2 (iZ_in hj (by omega)) d5 ?_
  rw [iZ_clampN (by omega), ← iZ_of (xs (i + j))]
  exact kk
theorem law_argr (F : LF θ b L xs p s m args c) (hB : gB θ σ z s.heap H locs) {i : Nat} (j : Nat) (hj : i + j < L) {j' : Int} (hj' : j' = (j : Int)) (hl : lv_has ls 4 (lwL θ b i)) (d1 : decode cL_law pc = .ok (.aload_n 0, 1)) (d2 : decode cL_law (pc + 1) = .ok (.iload_n 3, 1)) (d3 : decode cL_law (pc + 2) = .ok (.iconst j', 1)) (d4 : decode cL_law (pc + 3) = .ok (.iadd, 1)) (d5 : decode cL_law (pc + 4) = .ok (.iaload, 1))
    (kk : W p l e R s m args below meth c H locs cells slots Q (F0 m (pc + 5) ls (.int (xs (i + j)) :: rest))) : W p l e R s m args below meth c H locs cells slots Q (F0 m pc ls rest) := by
  refine law_arg F hB j hj hj' hl d1 d2 d3 d4 d5 ?_
  rw [iZ_of]; exact kk
/-- two ints as one long -/
theorem law_long (F : LF θ b L xs p s m args c) (hB : gB θ σ z s.heap H locs) {i : Nat} (j : Nat) (hj : i + j + 1 < L) {j' j2 : Int} (hj' : j' = (j : Int)) (hj2 : j2 = ((j + 1 : Nat) : Int)) (hl : lv_has ls 4 (lwL θ b i)) (d1 : decode cL_law pc = .ok (.aload_n 0, 1)) (d2 : decode cL_law (pc + 1) = .ok (.iload_n 3, 1)) (d3 : decode cL_law (pc + 2) = .ok (.iconst j', 1)) (d4 : decode cL_law (pc + 3) = .ok (.iadd, 1)) (d5 : decode cL_law (pc + 4) = .ok (.iaload, 1))
    (d6 : decode cL_law (pc + 5) = .ok (.i2l, 1)) (d7 : decode cL_law (pc + 6) = .ok (.bipush 32, 2)) (d8 : decode cL_law (pc + 8) = .ok (.lshl, 1))
    (f1 : decode cL_law (pc + 9) = .ok (.aload_n 0, 1)) (f2 : decode cL_law (pc + 10) = .ok (.iload_n 3, 1)) (f3 : decode cL_law (pc + 11) = .ok (.iconst j2, 1)) (f4 : decode cL_law (pc + 12) = .ok (.iadd, 1)) (f5 : decode cL_law (pc + 13) = .ok (.iaload, 1))
    (f6 : decode cL_law (pc + 14) = .ok (.i2l, 1)) (f7 : decode cL_law (pc + 15) = .ok (.ldc2_w 79, 3)) (f8 : decode cL_law (pc + 18) = .ok (.land, 1)) (f9 : decode cL_law (pc + 19) = .ok (.lor, 1))
    (kk : W p l e R s m args below meth c H locs cells slots Q (F0 m (pc + 20) ls (.long (xL (xs (i + j)) (xs (i + (j + 1)))) :: rest))) : W p l e R s m args below meth c H locs cells slots Q (F0 m pc ls rest) := by
  have F' := F
  obtain ⟨⟨hx, hb, hml, hown, hts, hK, hst⟩, ⟨hX, hbl, hbA⟩, hL, hθ⟩ := F
  refine law_argr F' hB j (by omega) hj' hl d1 d2 d3 d4 d5 ?_
  refine lv_i2l hx hb d6 rfl ?_
  refine lv_bipush (v := 32) hx hb d7 (by decide) ?_
  refine lv_lshl hx hb d8 rfl ?_
  refine law_argr F' hB (j + 1) (by omega) hj2 hl f1 f2 f3 f4 f5 ?_
  refine lv_i2l hx hb f6 rfl ?_
  refine lv_ldc2 (v := 4294967295) hx hb hown (hts _ kw_1039) f7 ?_
  refine lv_land hx hb f8 ?_
  refine lv_lor hx hb f9 ?_
  exact kk
end LR

theorem sgI0 {i k : Nat} (h : vlL.contains i = false) (h2 : i ≠ 13) : σI i k = 0 := by
  unfold σI; rw [if_neg (by rw [h]; decide), if_neg (fun q => h2 q.1)]
theorem σI_rg : gR σI := fun i k => by
  unfold σI
  split
  · split <;> exact ⟨by decide, by decide⟩
  · split <;> exact ⟨by decide, by decide⟩
theorem fpI (k : Nat) : fp σI 3 k = if 41 ≤ k ∧ k < 49 then -9 else 0 := by
  unfold fp
  by_cases h0 : k = 0
  · subst h0; rfl
  rw [if_neg h0]
  by_cases h1 : k < 9
  · rw [if_pos h1, if_neg (by omega)]; exact sgI0 rfl (by decide)
  rw [if_neg h1]
  by_cases h2 : k < 33
  · rw [if_pos h2, if_neg (by omega)]; exact sgI0 rfl (by decide)
  rw [if_neg h2]
  by_cases h3 : k < 41
  · rw [if_pos h3, if_neg (by omega)]; exact sgI0 rfl (by decide)
  rw [if_neg h3]
  by_cases h4 : k < 49
  · rw [if_pos h4, if_pos (by omega)]
    show (if vlL.contains 7 then (if k - 41 < 8 then (-9 : Int) else 0) else _) = -9
    rw [if_pos (by decide), if_pos (by omega)]
  rw [if_neg h4, if_neg (show ¬ (41 ≤ k ∧ k < 49) by omega)]
  split
  · exact sgI0 rfl (by decide)
  · rfl
theorem gI (k : Nat) : σI 114 k = 0 := sgI0 rfl (by decide)
theorem PgI : Pg (fp σI 3) (σI 114) 0 := by
  refine ⟨⟨⟨⟨by rw [fpI]; rfl, gI 0, by decide⟩, fun s hs => absurd hs (Nat.not_lt_zero s), fun s _ _ => gI _⟩, fun s hs => ?_, ?_, fun s hs => ?_⟩, ⟨⟨by rw [gI]; decide, by rw [gI]; decide⟩, fun s hs => ⟨by rw [gI]; decide, fun i hi => ⟨by rw [gI]; decide, fun h => ?_⟩⟩⟩, fun s hs => ⟨by rw [gI]; decide, by rw [gI]; decide⟩, ⟨fun k h1 h2 => ?_, fun s hs h => ?_⟩, ⟨fun s hs _ => ?_, fun s hs _ => ?_⟩, fun v hv => ?_⟩
  · rw [fpI, gI, if_neg (by omega)]
  · rw [fpI, gI, if_neg (by omega)]
  · right; refine ⟨Nat.zero_le _, ?_, gI _⟩; rw [fpI, if_pos (by omega)]
  · rw [gI] at h; omega
  · rw [fpI]; split <;> omega
  · rw [fpI, if_neg (by omega)] at h; omega
  · rw [fpI, if_neg (by omega)]
  · rw [fpI, if_pos (by omega)]
  · exact ⟨fun _ => False, fun s hs => absurd hs (Nat.not_lt_zero s)⟩
theorem IV_init {z : gZ} (hz : z 0 = z 111) : IV σI z := by
  refine ⟨0, 0, 0, 0, 0, ⟨rfl, rfl, ⟨by decide, fun k hk => absurd hk (Nat.not_lt_zero k)⟩, fun k hk => absurd hk (Nat.not_lt_zero k)⟩, ⟨PgI, fp σI 3, fun _ _ => rfl, Or.inr ⟨rfl, _, rfl, fun k hk => absurd hk (Nat.not_lt_zero k), fun k hk => absurd hk (Nat.not_lt_zero k), rfl, fun k hk => absurd hk (Nat.not_lt_zero k), fun k hk => absurd hk (Nat.not_lt_zero k), fun k hk => absurd hk (Nat.not_lt_zero k), rfl⟩⟩, ⟨⟨rfl, rfl, rfl⟩, ⟨by decide, by decide⟩, fun i hi => absurd hi (Nat.not_lt_zero i)⟩, ⟨⟨rfl, rfl, by decide⟩, fun i hi => absurd hi (Nat.not_lt_zero i)⟩, fun j hj => ⟨Or.inl (sgI0 rfl (by decide)), by rw [sgI0 rfl (by decide), sgI0 rfl (by decide)], fun h => absurd (sgI0 rfl (by decide)) h⟩, hz⟩
