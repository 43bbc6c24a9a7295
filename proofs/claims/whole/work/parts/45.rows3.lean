/-! rows for the class -/
theorem iZ_divT {a b : Int} (ha : rg a) (hb : rg b) (h1 : 1 < b) : iZ a / iZ b = iZ (a.tdiv b) := by
  apply Int32.toInt_inj.mp
  have hne : iZ b ≠ -1 := fun h => by
    have h2 := congrArg Int32.toInt h
    rw [iZ_toInt hb] at h2
    have : (-1 : Int32).toInt = -1 := by decide
    omega
  have hq : -2147483648 ≤ a.tdiv b ∧ a.tdiv b ≤ 2147483647 := by
    rcases Int.le_total 0 a with h | h
    · rw [Int.tdiv_eq_ediv_of_nonneg h]
      have := Int.ediv_nonneg h (show 0 ≤ b by omega)
      have := Int.ediv_le_self b h
      have := ha.2
      omega
    · have e : a.tdiv b = -((-a).tdiv b) := by rw [Int.neg_tdiv, Int.neg_neg]
      have h0 : 0 ≤ -a := by omega
      rw [e, Int.tdiv_eq_ediv_of_nonneg h0]
      have := Int.ediv_nonneg h0 (show 0 ≤ b by omega)
      have := Int.ediv_le_self b h0
      have := ha.1
      omega
  rw [Int32.toInt_div_of_ne_right _ _ hne, iZ_toInt ha, iZ_toInt hb, iZ_toInt ⟨by omega, by omega⟩]
theorem iZ_remT {a b : Int} (ha : rg a) (hb : rg b) (h1 : 1 < b) : iZ a - iZ a / iZ b * iZ b = iZ (a.tmod b) := by
  rw [iZ_divT ha hb h1, iZ_mul, iZ_sub]
  congr 1
  rw [Int.tmod_def, Int.mul_comm b]
theorem tmod_in (a : Int) : -99 ≤ a.tmod 100 ∧ a.tmod 100 ≤ 99 := by
  rcases Int.le_total 0 a with h | h
  · rw [Int.tmod_eq_emod_of_nonneg h]; omega
  · have e : a.tmod 100 = -((-a).tmod 100) := by rw [Int.neg_tmod, Int.neg_neg]
    rw [e, Int.tmod_eq_emod_of_nonneg (by omega)]; omega
/-- a row copied into another -/
def cpR (f g : Nat → Int) (sp dp n : Nat) : Nat → Int := fun k => if dp ≤ k ∧ k < dp + n then f (sp + (k - dp)) else g k
section GR3
variable {p : Program} {l : Launch} {e : Env} {R : Room} {s : State} {m : MethodId} {args : Array Value} {below : List Frame} {meth : Method} {c : Code} {H : Heap} {locs : List Loc} {cells slots : Nat} {Q : State → Prop}
variable {cc : ByteArray} {pc : Nat} {ls : Array Slot} {rest : List Value}
variable {θ : gT} {σ : gS} {z : gZ} {H0 : Heap} {own : String} {index : Nat}
theorem z_iremT (hx : p.tables.exec = Jvm.exec) (hb : c.code = cc) {a b : Int} (d : decode cc pc = .ok (.irem, 1)) (ha : rg a) (hb2 : rg b) (h1 : 1 < b) (k : W p l e R s m args below meth c H locs cells slots Q (F0 m (pc + 1) ls (.int (iZ (a.tmod b)) :: rest))) : W p l e R s m args below meth c H locs cells slots Q (F0 m pc ls (.int (iZ b) :: .int (iZ a) :: rest)) :=
  lv_irem hx hb d (iZ_ne0 hb2 (by omega)) (by rw [iZ_remT ha hb2 h1]; exact k)
theorem g_len (hx : p.tables.exec = Jvm.exec) (hb : c.code = cc) (hK : va_K (tD θ) vwCl (gty (tC θ)) s) (hB : gB θ σ z H0 H locs) {i : Nat} (hi : i < 129) (hck : ck i = 7) (hn : cn i < 1000) (d : decode cc pc = .ok (.arraylength, 1))
    (kk : W p l e R s m args below meth c H locs cells slots Q (F0 m (pc + 1) ls (.int (iZ ((cn i : Nat) : Int)) :: rest))) : W p l e R s m args below meth c H locs cells slots Q (F0 m pc ls (.ref (tad θ i) :: rest)) :=
  va_alen (D := tD θ) (x := (cn i, .inl (fun k => iZ (σ i k)))) hx hb hK hB.1.1 i 0 (by rw [show (gW θ σ z)[i]? = _ from gWn_at hi, gE_int hck]) rfl (by show Int32.ofNat (cn i) = iZ _; unfold iZ; rw [Int32.ofInt_eq_ofNat]) d kk
theorem gR.upr {σ : gS} (h : gR σ) {i : Nat} {f : Nat → Int} (hv : ∀ k, rg (f k)) : gR (upr σ i f) := fun a b => by
  by_cases q : a = i
  · subst q; rw [upr_eq]; exact hv b
  · rw [upr_c _ _ q]; exact h a b
theorem cpR_rg {f g : Nat → Int} (hf : ∀ k, rg (f k)) (hg : ∀ k, rg (g k)) (sp dp n k : Nat) : rg (cpR f g sp dp n k) := by
  unfold cpR; split
  · exact hf _
  · exact hg _
theorem g_copy (hx : p.tables.exec = Jvm.exec) (hb : c.code = cc) {nL : Nat} (hml : c.maxLocals = nL) (hsz : ls.size = nL) (hown : s.vm.findClass own = some m.cls) (hlink : Cond.methodLink own index arraycopyName ∈ gws) (hts : ∀ w ∈ gws, w.before args s = true) (hK : va_K (tD θ) vwCl (gty (tC θ)) s) (hθ : gOK θ) (hB : gB θ σ z H0 H locs) {i j sp dp n : Nat} {a b q : Int} (ha : a = (sp : Int)) (hb2 : b = (dp : Int)) (hq : q = (n : Int)) (hi : i < 129) (hci : ck i = 7) (hj : j < 129) (hcj : ck j = 7) (h1 : sp + n ≤ cn i) (h2 : dp + n ≤ cn j) (hni : cn i < 1000) (hnj : cn j < 1000) (hrs : (rest.map fun v => v.category).sum ≤ 8) (hR : 1 ≤ R.frames ∧ 26 ≤ R.locals) (d : decode cc pc = .ok (.invokestatic index, 3))
    (kk : ∀ (H : Heap) (locs : List Loc), gB θ (upr σ j (cpR (σ i) (σ j) sp dp n)) z H0 H locs → W p l e R s m args below meth c H locs cells slots Q (F0 m (pc + 3) ls rest)) :
    W p l e R s m args below meth c H locs cells slots Q (F0 m pc ls (.int (iZ q) :: .int (iZ b) :: .ref (tad θ j) :: .int (iZ a) :: .ref (tad θ i) :: rest)) := by
  subst ha hb2 hq
  have nn : ∀ k : Nat, k < 1000 → ¬ iZ (k : Int) < 0 := fun k hk h => by
    have := (iZ_lt (a := (k : Int)) (b := 0) ⟨by omega, by omega⟩ ⟨by omega, by omega⟩).mp h
    omega
  refine va_copyi (D := tD θ) (f := fun k => iZ (σ i k)) (g := fun k => iZ (σ j k)) (ty := .int) hx hb (hml.trans hsz.symm) hown (hts _ hlink) (hts _ kw_348) (hts _ kw_347) (hts _ kw_15) hK hB.1.1 (hθ.D σ z) hB.2 i j 0 0
    (by rw [show (gW θ σ z)[i]? = _ from gWn_at hi, gE_int hci]) (by rw [show (gW θ σ z)[j]? = _ from gWn_at hj, gE_int hcj]) rfl rfl rfl (nn sp (by omega)) (nn dp (by omega)) (nn n (by omega))
    (by rw [iZ_clampN (by omega), iZ_clampN (by omega)]; exact h1) (by rw [iZ_clampN (by omega), iZ_clampN (by omega)]; exact h2) (fun _ _ => rfl) hR.1 (Nat.le_trans (Nat.add_le_add hrs (Nat.le_refl _)) hR.2) d (fun H1 locs1 hP hD hS => kk H1 locs1 ⟨⟨?_, hB.1.2.upr (cpR_rg (hB.1.2 i) (hB.1.2 j) sp dp n)⟩, hS⟩)
  rw [gWn_set (ρ' := tq θ) (σ' := upr σ j (cpR (σ i) (σ j) sp dp n)) (z' := z) hj ?_ (fun a ha => gE_congr rfl (upr_c σ _ ha) rfl)] at hP
  · exact hP
  · rw [gE_int hcj, iZ_clampN (by omega), iZ_clampN (by omega), iZ_clampN (by omega)]
    have e : va_cpy (fun k => iZ (σ i k)) (fun k => iZ (σ j k)) sp dp n = fun k => iZ (upr σ j (cpR (σ i) (σ j) sp dp n) j k) := by
      funext k
      rw [upr_eq]
      unfold va_cpy cpR
      split <;> rfl
    rw [e]
/-- the row of how many figures -/
theorem g_figs (hx : p.tables.exec = Jvm.exec) (hb : c.code = cc) (hown : s.vm.findClass own = some m.cls) (hts : ∀ w ∈ gws, w.before args s = true) (hst : gSt θ s) (hB : gB θ σ z s.heap H locs) (hlink : Cond.fieldLink own index RX5 "FIGURES_OF_KIND" "[I" ∈ gws) (d : decode cc pc = .ok (.getstatic index, 3))
    (kk : W p l e R s m args below meth c H locs cells slots Q (F0 m (pc + 3) ls (.ref (tF θ) :: rest))) : W p l e R s m args below meth c H locs cells slots Q (F0 m pc ls rest) :=
  va_gets hx hb hst.1.1 hB.2 hown (hts _ hlink) (fun _ h => h) d kk
theorem g_fig (hx : p.tables.exec = Jvm.exec) (hb : c.code = cc) (hst : gSt θ s) (hB : gB θ σ z s.heap H locs) {k : Nat} (hk : k < 12) {a : Int} (ha : a = (k : Int)) (d : decode cc pc = .ok (.iaload, 1))
    (kk : W p l e R s m args below meth c H locs cells slots Q (F0 m (pc + 1) ls (.int (iZ (gFg k)) :: rest))) : W p l e R s m args below meth c H locs cells slots Q (F0 m pc ls (.int (iZ a) :: .ref (tF θ) :: rest)) := by
  subst ha
  exact va_ti hx hb hst.1.2 hB.2 (iZ_in hk (by omega)) (by rw [iZ_clampN (by omega)]) d kk
end GR3
/-! a flow as a page -/
def fp (σ : gS) (f : Nat) : Nat → Int := fun k => if k = 0 then σ f 0 else if k < 9 then σ (f + 1) (k - 1) else if k < 33 then σ (f + 2) (k - 9) else if k < 41 then σ (f + 3) (k - 33) else if k < 49 then σ (f + 4) (k - 41) else if k = 49 then σ f 1 else 0
theorem fp_0 (σ : gS) (f : Nat) : fp σ f 0 = σ f 0 := rfl
theorem fp_k (σ : gS) (f : Nat) {s : Nat} (h : s < 8) : fp σ f (1 + s) = σ (f + 1) s := by unfold fp; rw [if_neg (by omega), if_pos (by omega), show 1 + s - 1 = s by omega]
theorem fp_p (σ : gS) (f : Nat) {s : Nat} (h : s < 24) : fp σ f (9 + s) = σ (f + 2) s := by unfold fp; rw [if_neg (by omega), if_neg (by omega), if_pos (by omega), show 9 + s - 9 = s by omega]
theorem fp_q (σ : gS) (f : Nat) {s i : Nat} (h : s < 8) (hi : i < 3) : fp σ f (9 + 3 * s + i) = σ (f + 2) (3 * s + i) := by rw [show 9 + 3 * s + i = 9 + (3 * s + i) by omega, fp_p σ f (by omega)]
theorem fp_h (σ : gS) (f : Nat) {s : Nat} (h : s < 8) : fp σ f (33 + s) = σ (f + 3) s := by unfold fp; rw [if_neg (by omega), if_neg (by omega), if_neg (by omega), if_pos (by omega), show 33 + s - 33 = s by omega]
theorem fp_v (σ : gS) (f : Nat) {s : Nat} (h : s < 8) : fp σ f (41 + s) = σ (f + 4) s := by unfold fp; rw [if_neg (by omega), if_neg (by omega), if_neg (by omega), if_neg (by omega), if_pos (by omega), show 41 + s - 41 = s by omega]
theorem fp_t (σ : gS) (f : Nat) : fp σ f 49 = σ f 1 := rfl
theorem fp_o (σ : gS) (f : Nat) {k : Nat} (h : 50 ≤ k) : fp σ f k = 0 := by unfold fp; rw [if_neg (by omega), if_neg (by omega), if_neg (by omega), if_neg (by omega), if_neg (by omega), if_neg (by omega)]
theorem fp_ext {g h : Nat → Int} (h0 : g 0 = h 0) (h1 : ∀ s, s < 8 → g (1 + s) = h (1 + s)) (h2 : ∀ s, s < 24 → g (9 + s) = h (9 + s)) (h3 : ∀ s, s < 8 → g (33 + s) = h (33 + s)) (h4 : ∀ s, s < 8 → g (41 + s) = h (41 + s)) (h5 : g 49 = h 49) (h6 : ∀ k, 50 ≤ k → g k = h k) : g = h := by
  funext k
  rcases (show k = 0 ∨ (1 ≤ k ∧ k < 9) ∨ (9 ≤ k ∧ k < 33) ∨ (33 ≤ k ∧ k < 41) ∨ (41 ≤ k ∧ k < 49) ∨ k = 49 ∨ 50 ≤ k by omega) with q | q | q | q | q | q | q
  · subst q; exact h0
  · have := h1 (k - 1) (by omega); rw [show 1 + (k - 1) = k by omega] at this; exact this
  · have := h2 (k - 9) (by omega); rw [show 9 + (k - 9) = k by omega] at this; exact this
  · have := h3 (k - 33) (by omega); rw [show 33 + (k - 33) = k by omega] at this; exact this
  · have := h4 (k - 41) (by omega); rw [show 41 + (k - 41) = k by omega] at this; exact this
  · subst q; exact h5
  · exact h6 k q
theorem fp_cong {σ σ' : gS} {f g : Nat} (h0 : σ' f 0 = σ g 0) (h1 : ∀ s, s < 8 → σ' (f + 1) s = σ (g + 1) s) (h2 : ∀ s, s < 24 → σ' (f + 2) s = σ (g + 2) s) (h3 : ∀ s, s < 8 → σ' (f + 3) s = σ (g + 3) s) (h4 : ∀ s, s < 8 → σ' (f + 4) s = σ (g + 4) s) (h5 : σ' f 1 = σ g 1) : fp σ' f = fp σ g :=
  fp_ext h0 (fun s h => by rw [fp_k _ _ h, fp_k _ _ h]; exact h1 s h) (fun s h => by rw [fp_p _ _ h, fp_p _ _ h]; exact h2 s h) (fun s h => by rw [fp_h _ _ h, fp_h _ _ h]; exact h3 s h) (fun s h => by rw [fp_v _ _ h, fp_v _ _ h]; exact h4 s h) h5 (fun k h => by rw [fp_o _ _ h, fp_o _ _ h])
theorem fp_up0 (σ : gS) (f : Nat) (v : Int) : fp (up2 σ f 0 v) f = upn (fp σ f) 0 v :=
  fp_ext (by rw [upn_eq]; exact up2_eq _ _ _ _) (fun r hr => by rw [upn_ne _ _ (by omega), fp_k _ _ hr, fp_k _ _ hr, up2_c _ _ (by omega)]) (fun r hr => by rw [upn_ne _ _ (by omega), fp_p _ _ hr, fp_p _ _ hr, up2_c _ _ (by omega)]) (fun r hr => by rw [upn_ne _ _ (by omega), fp_h _ _ hr, fp_h _ _ hr, up2_c _ _ (by omega)]) (fun r hr => by rw [upn_ne _ _ (by omega), fp_v _ _ hr, fp_v _ _ hr, up2_c _ _ (by omega)]) (by rw [upn_ne _ _ (by omega)]; exact up2_k _ _ (by omega)) (fun k hk => by rw [upn_ne _ _ (by omega), fp_o _ _ hk, fp_o _ _ hk])
theorem fp_upk (σ : gS) (f : Nat) {s : Nat} (h : s < 8) (v : Int) : fp (up2 σ (f + 1) s v) f = upn (fp σ f) (1 + s) v :=
  fp_ext (by rw [upn_ne _ _ (by omega)]; exact up2_c _ _ (by omega)) (fun r hr => by
    by_cases q : r = s
    · subst q; rw [fp_k _ _ hr, upn_eq, up2_eq]
    · rw [upn_ne _ _ (by omega), fp_k _ _ hr, fp_k _ _ hr, up2_k _ _ q]) (fun r hr => by rw [upn_ne _ _ (by omega), fp_p _ _ hr, fp_p _ _ hr, up2_c _ _ (by omega)]) (fun r hr => by rw [upn_ne _ _ (by omega), fp_h _ _ hr, fp_h _ _ hr, up2_c _ _ (by omega)]) (fun r hr => by rw [upn_ne _ _ (by omega), fp_v _ _ hr, fp_v _ _ hr, up2_c _ _ (by omega)]) (by rw [upn_ne _ _ (by omega)]; exact up2_c _ _ (by omega)) (fun k hk => by rw [upn_ne _ _ (by omega), fp_o _ _ hk, fp_o _ _ hk])
theorem fp_upp (σ : gS) (f : Nat) {s : Nat} (h : s < 24) (v : Int) : fp (up2 σ (f + 2) s v) f = upn (fp σ f) (9 + s) v :=
  fp_ext (by rw [upn_ne _ _ (by omega)]; exact up2_c _ _ (by omega)) (fun r hr => by rw [upn_ne _ _ (by omega), fp_k _ _ hr, fp_k _ _ hr, up2_c _ _ (by omega)]) (fun r hr => by
    by_cases q : r = s
    · subst q; rw [fp_p _ _ hr, upn_eq, up2_eq]
    · rw [upn_ne _ _ (by omega), fp_p _ _ hr, fp_p _ _ hr, up2_k _ _ q]) (fun r hr => by rw [upn_ne _ _ (by omega), fp_h _ _ hr, fp_h _ _ hr, up2_c _ _ (by omega)]) (fun r hr => by rw [upn_ne _ _ (by omega), fp_v _ _ hr, fp_v _ _ hr, up2_c _ _ (by omega)]) (by rw [upn_ne _ _ (by omega)]; exact up2_c _ _ (by omega)) (fun k hk => by rw [upn_ne _ _ (by omega), fp_o _ _ hk, fp_o _ _ hk])
theorem fp_uph (σ : gS) (f : Nat) {s : Nat} (h : s < 8) (v : Int) : fp (up2 σ (f + 3) s v) f = upn (fp σ f) (33 + s) v :=
  fp_ext (by rw [upn_ne _ _ (by omega)]; exact up2_c _ _ (by omega)) (fun r hr => by rw [upn_ne _ _ (by omega), fp_k _ _ hr, fp_k _ _ hr, up2_c _ _ (by omega)]) (fun r hr => by rw [upn_ne _ _ (by omega), fp_p _ _ hr, fp_p _ _ hr, up2_c _ _ (by omega)]) (fun r hr => by
    by_cases q : r = s
    · subst q; rw [fp_h _ _ hr, upn_eq, up2_eq]
    · rw [upn_ne _ _ (by omega), fp_h _ _ hr, fp_h _ _ hr, up2_k _ _ q]) (fun r hr => by rw [upn_ne _ _ (by omega), fp_v _ _ hr, fp_v _ _ hr, up2_c _ _ (by omega)]) (by rw [upn_ne _ _ (by omega)]; exact up2_c _ _ (by omega)) (fun k hk => by rw [upn_ne _ _ (by omega), fp_o _ _ hk, fp_o _ _ hk])
theorem fp_upv (σ : gS) (f : Nat) {s : Nat} (h : s < 8) (v : Int) : fp (up2 σ (f + 4) s v) f = upn (fp σ f) (41 + s) v :=
  fp_ext (by rw [upn_ne _ _ (by omega)]; exact up2_c _ _ (by omega)) (fun r hr => by rw [upn_ne _ _ (by omega), fp_k _ _ hr, fp_k _ _ hr, up2_c _ _ (by omega)]) (fun r hr => by rw [upn_ne _ _ (by omega), fp_p _ _ hr, fp_p _ _ hr, up2_c _ _ (by omega)]) (fun r hr => by rw [upn_ne _ _ (by omega), fp_h _ _ hr, fp_h _ _ hr, up2_c _ _ (by omega)]) (fun r hr => by
    by_cases q : r = s
    · subst q; rw [fp_v _ _ hr, upn_eq, up2_eq]
    · rw [upn_ne _ _ (by omega), fp_v _ _ hr, fp_v _ _ hr, up2_k _ _ q]) (by rw [upn_ne _ _ (by omega)]; exact up2_c _ _ (by omega)) (fun k hk => by rw [upn_ne _ _ (by omega), fp_o _ _ hk, fp_o _ _ hk])
theorem fp_upt (σ : gS) (f : Nat) (v : Int) : fp (up2 σ f 1 v) f = upn (fp σ f) 49 v :=
  fp_ext (by rw [upn_ne _ _ (by omega)]; exact up2_k _ _ (by omega)) (fun r hr => by rw [upn_ne _ _ (by omega), fp_k _ _ hr, fp_k _ _ hr, up2_c _ _ (by omega)]) (fun r hr => by rw [upn_ne _ _ (by omega), fp_p _ _ hr, fp_p _ _ hr, up2_c _ _ (by omega)]) (fun r hr => by rw [upn_ne _ _ (by omega), fp_h _ _ hr, fp_h _ _ hr, up2_c _ _ (by omega)]) (fun r hr => by rw [upn_ne _ _ (by omega), fp_v _ _ hr, fp_v _ _ hr, up2_c _ _ (by omega)]) (by rw [upn_eq]; exact up2_eq _ _ _ _) (fun k hk => by rw [upn_ne _ _ (by omega), fp_o _ _ hk, fp_o _ _ hk])
/-- the places of a flow -/
def wF (f : Nat) (i k : Nat) : Bool := (i == f && (k == 0 || k == 1)) || (decide (f < i) && decide (i ≤ f + 4))
theorem isF_ap2 : ∀ f ∈ flL, ∀ g ∈ flL, f ≠ g → f + 4 < g ∨ g + 4 < f := by decide +kernel
theorem isF.ap {f g : Nat} (h : isF f) (h2 : isF g) (hne : f ≠ g) : f + 4 < g ∨ g + 4 < f := isF_ap2 f h g h2 hne
theorem fp_fr {w : Nat → Nat → Bool} {σ σ' : gS} (h : fr w σ σ') {f : Nat} (hw : w f 0 = false ∧ w f 1 = false ∧ ∀ j k, f < j → j ≤ f + 4 → w j k = false) : fp σ' f = fp σ f :=
  fp_cong (h _ _ hw.1) (fun s _ => h _ _ (hw.2.2 _ _ (by omega) (by omega))) (fun s _ => h _ _ (hw.2.2 _ _ (by omega) (by omega))) (fun s _ => h _ _ (hw.2.2 _ _ (by omega) (by omega))) (fun s _ => h _ _ (hw.2.2 _ _ (by omega) (by omega))) (h _ _ hw.2.1)
theorem fp_ne {σ σ' : gS} {f g : Nat} (h : fr (wF f) σ σ') (hf : isF f) (hg : isF g) (hne : g ≠ f) : fp σ' g = fp σ g := by
  have := hf.ap hg (fun q => hne q.symm)
  refine fp_fr h ⟨?_, ?_, fun j k h1 h2 => ?_⟩ <;> simp [wF] <;> omega
theorem fr.upr {w : Nat → Nat → Bool} {σ : gS} {i : Nat} {r : Nat → Int} (h : ∀ k, r k ≠ σ i k → w i k = true) : fr w σ (upr σ i r) := fun a b q => by
  by_cases e : a = i
  · subst e
    rw [upr_eq]
    by_cases e2 : r b = σ a b
    · exact e2
    · rw [h b e2] at q; cases q
  · rw [upr_c _ _ e]
