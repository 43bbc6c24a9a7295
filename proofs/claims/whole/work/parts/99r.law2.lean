theorem iG.se {σ σ1 : gS} {n : Nat} (h : iG σ n) (hf : ∀ i k, 111 ≤ i → σ1 i k = σ i k) : seenOK σ1 n := ⟨h.1.2.2, fun i hi => by
  have a := h.2 i hi
  rw [hf 120 i (by decide), a.1.2.1]
  have := a.2.2.1; omega⟩
theorem law_bool {p : Program} {l : Launch} {e : Env} {R : Room} {s : State} {m : MethodId} {args : Array Value} {below : List Frame} {meth : Method} {c : Code} {H : Heap} {locs : List Loc} {cells slots : Nat} {Q : State → Prop} {pc : Nat} {ls : Array Slot} {rest : List Value} {cc : ByteArray} (hx : p.tables.exec = Jvm.exec) (hb : c.code = cc) {a h : Int} {tgt : Nat} {o1 o2 : Int} (d1 : decode cc pc = .ok (.ifCond .eq o1, 3)) (d2 : decode cc (pc + 3) = .ok (.iconst 1, 1)) (d3 : decode cc (pc + 4) = .ok (.goto o2, 3)) (d4 : decode cc tgt = .ok (.iconst 0, 1)) (t1 : (pc : Int) + o1 = (tgt : Int)) (t2 : ((pc + 4 : Nat) : Int) + o2 = ((tgt + 1 : Nat) : Int)) (ha : rg a) (hh : h = if a = 0 then 0 else 1) (kk : W p l e R s m args below meth c H locs cells slots Q (F0 m (tgt + 1) ls (.int (iZ h) :: rest))) : W p l e R s m args below meth c H locs cells slots Q (F0 m pc ls (.int (iZ a) :: rest)) := by
  refine z_if_eq (tgt := tgt) hx hb d1 t1 ha (fun q => ?_) (fun q => ?_)
  · refine lv_iconst (v := iZ 0) hx hb d4 rfl ?_
    rw [hh, if_pos q] at kk; exact kk
  · refine lv_iconst (v := iZ 1) hx hb d2 rfl ?_
    refine lv_goto (tgt := tgt + 1) hx hb d3 t2 ?_
    rw [hh, if_neg q] at kk; exact kk
set_option maxHeartbeats 4000000 in
theorem law_write (l : Launch) {p : Program} {e : Env} {s : State} {m : MethodId} {args : Array Value} {below : List Frame} {meth : Method} {c : Code} {Q : State → Prop} {θ : gT} {b L : Nat} {xs : Nat → Int32} (F : LF θ b L xs p s m args c) {i : Nat} (hi : i + 6 ≤ L) {σ : gS} {z : gZ} (hI : IV σ z) {H : Heap} {locs : List Loc} (hB : gB θ σ z s.heap H locs) {ls : Array Slot} (hl : lv_has ls 4 (lwL θ b i)) (kk : ∀ (σ : gS) (z : gZ) (H : Heap) (locs : List Loc), IV σ z → gB θ σ z s.heap H locs → W p l e room_1 s m args below meth c H locs 129 2881 Q (F0 m 953 ls [])) : W p l e room_1 s m args below meth c H locs 129 2881 Q (F0 m 144 ls []) := by
  obtain ⟨⟨hx, hb, hml, hown, hts, hK, hst⟩, -, hL, hθ⟩ := id F
  obtain ⟨len, N, D, o, n, hT, hP, hD, hG, hKk, hz⟩ := hI
  refine lv_aload_n hx hb dL_law_144 rfl (lv_at hl 2 rfl) ?_
  refine law_arg F hB 1 (by omega) rfl hl dL_law_145 dL_law_146 dL_law_147 dL_law_148 dL_law_149 ?_
  refine g_calli (g_runV (i := 0) (As := [.int (iZ (xI xs i 1))]) (rest := []) hx hb hml hown hts hK hst hB (mX5_write l θ hθ σ z len hT.1 hT.2.2.1.1 (xI xs i 1) (rg_of _)) mv_X5_write kw_197 cf5 (by decide) rfl rfl hl.1 rfl (Nat.le_of_ble_eq_true rfl) ⟨by decide, by decide⟩ ⟨by decide, by decide⟩ dL_law_150) hB (fun q1 σ1 z1 H locs hq1 hc hB => ?_)
  have hf : ∀ i k, 111 ≤ i → σ1 i k = σ i k := fun i k h => hc.2.1 i k (by simp [wTc, wF, wKp, wNw, wNd, wSg, wTr, wPg3, wSe]; omega)
  have hrow : ∀ i, 111 ≤ i → σ1 i = σ i := fun i h => funext fun k => hf i k h
  have h114 : σ1 114 = σ 114 := hrow 114 (by decide)
  refine lv_aload_n hx hb dL_law_153 rfl (lv_at hl 1 rfl) ?_
  refine law_arg F hB 1 (by omega) rfl hl dL_law_154 dL_law_155 dL_law_156 dL_law_157 dL_law_158 ?_
  refine g_calli (g_runV (i := 111) (As := [.int (iZ (xI xs i 1))]) (rest := [.int (iZ q1)]) hx hb hml hown hts hK hst hB (mX6_write l θ hθ σ1 z1 len (by rw [hf 111 2 (by decide)]; exact hT.2.1) (by rw [hrow 112 (by decide)]; exact hT.2.2.1) (xI xs i 1) (rg_of _)) mv_X6_write kw_744 cf6 (by decide) rfl rfl hl.1 rfl (Nat.le_of_ble_eq_true rfl) ⟨by decide, by decide⟩ ⟨by decide, by decide⟩ dL_law_159) hB (fun q2 σ2 z2 H locs hq2 hm hB => ?_)
  obtain ⟨hq, hI2⟩ := st_write hT hP hD hG hKk hz hc hm
  exact z_icmp_eq (tgt := 953) hx hb dL_law_162 (by decide) hq1 hq2 (fun _ => kk σ2 z2 _ _ hI2 hB) (fun h => absurd hq h)
set_option maxHeartbeats 4000000 in
theorem law_wipe (l : Launch) {p : Program} {e : Env} {s : State} {m : MethodId} {args : Array Value} {below : List Frame} {meth : Method} {c : Code} {Q : State → Prop} {θ : gT} {b L : Nat} {xs : Nat → Int32} (F : LF θ b L xs p s m args c) {i : Nat} (hi : i + 6 ≤ L) {σ : gS} {z : gZ} (hI : IV σ z) {H : Heap} {locs : List Loc} (hB : gB θ σ z s.heap H locs) {ls : Array Slot} (hl : lv_has ls 4 (lwL θ b i)) (kk : ∀ (σ : gS) (z : gZ) (H : Heap) (locs : List Loc), IV σ z → gB θ σ z s.heap H locs → W p l e room_1 s m args below meth c H locs 129 2881 Q (F0 m 953 ls [])) : W p l e room_1 s m args below meth c H locs 129 2881 Q (F0 m 167 ls []) := by
  obtain ⟨⟨hx, hb, hml, hown, hts, hK, hst⟩, -, hL, hθ⟩ := id F
  obtain ⟨len, N, D, o, n, hT, hP, hD, hG, hKk, hz⟩ := hI
  refine lv_aload_n hx hb dL_law_167 rfl (lv_at hl 2 rfl) ?_
  refine g_calli (g_runV (i := 0) (As := []) (rest := []) hx hb hml hown hts hK hst hB (mX5_wipe l θ hθ σ z ) mv_X5_wipe kw_205 cf5 (by decide) rfl rfl hl.1 rfl (Nat.le_of_ble_eq_true rfl) ⟨by decide, by decide⟩ ⟨by decide, by decide⟩ dL_law_168) hB (fun q1 σ1 z1 H locs hq1 hc hB => ?_)
  have hf : ∀ i k, 111 ≤ i → σ1 i k = σ i k := fun i k h => by rw [hc.1.2]; exact up2_c _ _ (by omega)
  have hrow : ∀ i, 111 ≤ i → σ1 i = σ i := fun i h => funext fun k => hf i k h
  have h114 : σ1 114 = σ 114 := hrow 114 (by decide)
  refine lv_aload_n hx hb dL_law_171 rfl (lv_at hl 1 rfl) ?_
  refine g_calli (g_runV (i := 111) (As := []) (rest := [.int (iZ q1)]) hx hb hml hown hts hK hst hB (mX6_wipe l θ hθ σ1 z1 len (by rw [hf 111 2 (by decide)]; exact hT.2.1) (by rw [hrow 112 (by decide)]; exact hT.2.2.1)) mv_X6_wipe kw_752 cf6 (by decide) rfl rfl hl.1 rfl (Nat.le_of_ble_eq_true rfl) ⟨by decide, by decide⟩ ⟨by decide, by decide⟩ dL_law_172) hB (fun q2 σ2 z2 H locs hq2 hm hB => ?_)
  obtain ⟨hq, hI2⟩ := st_wipe hT hP hD hG hKk hz hc hm
  exact z_icmp_eq (tgt := 953) hx hb dL_law_175 (by decide) hq1 hq2 (fun _ => kk σ2 z2 _ _ hI2 hB) (fun h => absurd hq h)
set_option maxHeartbeats 4000000 in
theorem law_fault (l : Launch) {p : Program} {e : Env} {s : State} {m : MethodId} {args : Array Value} {below : List Frame} {meth : Method} {c : Code} {Q : State → Prop} {θ : gT} {b L : Nat} {xs : Nat → Int32} (F : LF θ b L xs p s m args c) {i : Nat} (hi : i + 6 ≤ L) {σ : gS} {z : gZ} (hI : IV σ z) {H : Heap} {locs : List Loc} (hB : gB θ σ z s.heap H locs) {ls : Array Slot} (hl : lv_has ls 4 (lwL θ b i)) (kk : ∀ (σ : gS) (z : gZ) (H : Heap) (locs : List Loc), IV σ z → gB θ σ z s.heap H locs → W p l e room_1 s m args below meth c H locs 129 2881 Q (F0 m 953 ls [])) : W p l e room_1 s m args below meth c H locs 129 2881 Q (F0 m 180 ls []) := by
  obtain ⟨⟨hx, hb, hml, hown, hts, hK, hst⟩, -, hL, hθ⟩ := id F
  obtain ⟨len, N, D, o, n, hT, hP, hD, hG, hKk, hz⟩ := hI
  refine lv_aload_n hx hb dL_law_180 rfl (lv_at hl 2 rfl) ?_
  refine g_calli (g_runV (i := 0) (As := []) (rest := []) hx hb hml hown hts hK hst hB (mX5_fault l θ hθ σ z len hT.1 hT.tx) mv_X5_fault kw_209 cf5 (by decide) rfl rfl hl.1 rfl (Nat.le_of_ble_eq_true rfl) ⟨by decide, by decide⟩ ⟨by decide, by decide⟩ dL_law_181) hB (fun q1 σ1 z1 H locs hq1 hc hB => ?_)
  have hf : ∀ i k, 111 ≤ i → σ1 i k = σ i k := fun i k h => hc.2.1 i k (by simp [wTc, wF, wKp, wNw, wNd, wSg, wTr, wPg3, wSe]; omega)
  have hrow : ∀ i, 111 ≤ i → σ1 i = σ i := fun i h => funext fun k => hf i k h
  have h114 : σ1 114 = σ 114 := hrow 114 (by decide)
  refine lv_aload_n hx hb dL_law_184 rfl (lv_at hl 1 rfl) ?_
  refine g_calli (g_runV (i := 111) (As := []) (rest := [.int (iZ q1)]) hx hb hml hown hts hK hst hB (mX6_fault l θ hθ σ1 z1 len (by rw [hf 111 2 (by decide)]; exact hT.2.1) (by rw [hrow 112 (by decide)]; exact hT.2.2.1)) mv_X6_fault kw_756 cf6 (by decide) rfl rfl hl.1 rfl (Nat.le_of_ble_eq_true rfl) ⟨by decide, by decide⟩ ⟨by decide, by decide⟩ dL_law_185) hB (fun q2 σ2 z2 H locs hq2 hm hB => ?_)
  obtain ⟨hq, hI2⟩ := st_fault hT hP hD hG hKk hz hc hm
  exact z_icmp_eq (tgt := 953) hx hb dL_law_188 (by decide) hq1 hq2 (fun _ => kk σ2 z2 _ _ hI2 hB) (fun h => absurd hq h)
set_option maxHeartbeats 4000000 in
theorem law_program (l : Launch) {p : Program} {e : Env} {s : State} {m : MethodId} {args : Array Value} {below : List Frame} {meth : Method} {c : Code} {Q : State → Prop} {θ : gT} {b L : Nat} {xs : Nat → Int32} (F : LF θ b L xs p s m args c) {i : Nat} (hi : i + 6 ≤ L) {σ : gS} {z : gZ} (hI : IV σ z) {H : Heap} {locs : List Loc} (hB : gB θ σ z s.heap H locs) {ls : Array Slot} (hl : lv_has ls 4 (lwL θ b i)) (kk : ∀ (σ : gS) (z : gZ) (H : Heap) (locs : List Loc), IV σ z → gB θ σ z s.heap H locs → W p l e room_1 s m args below meth c H locs 129 2881 Q (F0 m 953 ls [])) : W p l e room_1 s m args below meth c H locs 129 2881 Q (F0 m 193 ls []) := by
  obtain ⟨⟨hx, hb, hml, hown, hts, hK, hst⟩, -, hL, hθ⟩ := id F
  obtain ⟨len, N, D, o, n, hT, hP, hD, hG, hKk, hz⟩ := hI
  refine lv_aload_n hx hb dL_law_193 rfl (lv_at hl 2 rfl) ?_
  refine g_calli (g_runV (i := 0) (As := []) (rest := []) hx hb hml hown hts hK hst hB (mX5_program l θ hθ σ z len hT.1 hT.tx) mv_X5_program kw_338 cf5 (by decide) rfl rfl hl.1 rfl (Nat.le_of_ble_eq_true rfl) ⟨by decide, by decide⟩ ⟨by decide, by decide⟩ dL_law_194) hB (fun q1 σ1 z1 H locs hq1 hc hB => ?_)
  have hf : ∀ i k, 111 ≤ i → σ1 i k = σ i k := fun i k h => hc.2.1 i k (by simp [wTc, wF, wKp, wNw, wNd, wSg, wTr, wPg3, wSe]; omega)
  have hrow : ∀ i, 111 ≤ i → σ1 i = σ i := fun i h => funext fun k => hf i k h
  have h114 : σ1 114 = σ 114 := hrow 114 (by decide)
  refine lv_aload_n hx hb dL_law_197 rfl (lv_at hl 1 rfl) ?_
  refine g_calli (g_runV (i := 111) (As := []) (rest := [.int (iZ q1)]) hx hb hml hown hts hK hst hB (mX6_program l θ hθ σ1 z1 len (by rw [hf 111 2 (by decide)]; exact hT.2.1) (by rw [hrow 112 (by decide)]; exact hT.2.2.1)) mv_X6_program kw_782 cf6 (by decide) rfl rfl hl.1 rfl (Nat.le_of_ble_eq_true rfl) ⟨by decide, by decide⟩ ⟨by decide, by decide⟩ dL_law_198) hB (fun q2 σ2 z2 H locs hq2 hm hB => ?_)
  obtain ⟨hq, hI2⟩ := st_program hT hP hD hG hKk hz hc hm
  exact z_icmp_eq (tgt := 953) hx hb dL_law_201 (by decide) hq1 hq2 (fun _ => kk σ2 z2 _ _ hI2 hB) (fun h => absurd hq h)
set_option maxHeartbeats 4000000 in
theorem law_about (l : Launch) {p : Program} {e : Env} {s : State} {m : MethodId} {args : Array Value} {below : List Frame} {meth : Method} {c : Code} {Q : State → Prop} {θ : gT} {b L : Nat} {xs : Nat → Int32} (F : LF θ b L xs p s m args c) {i : Nat} (hi : i + 6 ≤ L) {σ : gS} {z : gZ} (hI : IV σ z) {H : Heap} {locs : List Loc} (hB : gB θ σ z s.heap H locs) {ls : Array Slot} (hl : lv_has ls 4 (lwL θ b i)) (kk : ∀ (σ : gS) (z : gZ) (H : Heap) (locs : List Loc), IV σ z → gB θ σ z s.heap H locs → W p l e room_1 s m args below meth c H locs 129 2881 Q (F0 m 953 ls [])) : W p l e room_1 s m args below meth c H locs 129 2881 Q (F0 m 206 ls []) := by
  obtain ⟨⟨hx, hb, hml, hown, hts, hK, hst⟩, -, hL, hθ⟩ := id F
  obtain ⟨len, N, D, o, n, hT, hP, hD, hG, hKk, hz⟩ := hI
  refine lv_aload_n hx hb dL_law_206 rfl (lv_at hl 2 rfl) ?_
  refine law_arg F hB 1 (by omega) rfl hl dL_law_207 dL_law_208 dL_law_209 dL_law_210 dL_law_211 ?_
  refine g_calli (g_runV (i := 0) (As := [.int (iZ (xI xs i 1))]) (rest := []) hx hb hml hown hts hK hst hB (mX5_about l θ hθ σ z (xI xs i 1) (rg_of _)) mv_X5_about kw_450 cf5 (by decide) rfl rfl hl.1 rfl (Nat.le_of_ble_eq_true rfl) ⟨by decide, by decide⟩ ⟨by decide, by decide⟩ dL_law_212) hB (fun q1 σ1 z1 H locs hq1 hc hB => ?_)
  have hf : ∀ i k, 111 ≤ i → σ1 i k = σ i k := fun i k h => by rw [hc.2.1]
  have hrow : ∀ i, 111 ≤ i → σ1 i = σ i := fun i h => funext fun k => hf i k h
  have h114 : σ1 114 = σ 114 := hrow 114 (by decide)
  refine lv_aload_n hx hb dL_law_215 rfl (lv_at hl 1 rfl) ?_
  refine law_arg F hB 1 (by omega) rfl hl dL_law_216 dL_law_217 dL_law_218 dL_law_219 dL_law_220 ?_
  refine g_calli (g_runV (i := 111) (As := [.int (iZ (xI xs i 1))]) (rest := [.int (iZ q1)]) hx hb hml hown hts hK hst hB (mX6_about l θ hθ σ1 z1 (by rw [h114]; exact hP.wf) N (by rw [h114]; exact hP.g0) (xI xs i 1) (rg_of _)) mv_X6_about kw_857 cf6 (by decide) rfl rfl hl.1 rfl (Nat.le_of_ble_eq_true rfl) ⟨by decide, by decide⟩ ⟨by decide, by decide⟩ dL_law_221) hB (fun q2 σ2 z2 H locs hq2 hm hB => ?_)
  obtain ⟨hq, hI2⟩ := st_about hT hP hD hG hKk hz hc hm
  exact z_icmp_eq (tgt := 953) hx hb dL_law_224 (by decide) hq1 hq2 (fun _ => kk σ2 z2 _ _ hI2 hB) (fun h => absurd hq h)
set_option maxHeartbeats 4000000 in
theorem law_stream (l : Launch) {p : Program} {e : Env} {s : State} {m : MethodId} {args : Array Value} {below : List Frame} {meth : Method} {c : Code} {Q : State → Prop} {θ : gT} {b L : Nat} {xs : Nat → Int32} (F : LF θ b L xs p s m args c) {i : Nat} (hi : i + 6 ≤ L) {σ : gS} {z : gZ} (hI : IV σ z) {H : Heap} {locs : List Loc} (hB : gB θ σ z s.heap H locs) {ls : Array Slot} (hl : lv_has ls 4 (lwL θ b i)) (kk : ∀ (σ : gS) (z : gZ) (H : Heap) (locs : List Loc), IV σ z → gB θ σ z s.heap H locs → W p l e room_1 s m args below meth c H locs 129 2881 Q (F0 m 953 ls [])) : W p l e room_1 s m args below meth c H locs 129 2881 Q (F0 m 229 ls []) := by
  obtain ⟨⟨hx, hb, hml, hown, hts, hK, hst⟩, -, hL, hθ⟩ := id F
  obtain ⟨len, N, D, o, n, hT, hP, hD, hG, hKk, hz⟩ := hI
  refine lv_aload_n hx hb dL_law_229 rfl (lv_at hl 2 rfl) ?_
  refine law_arg F hB 1 (by omega) rfl hl dL_law_230 dL_law_231 dL_law_232 dL_law_233 dL_law_234 ?_
  refine law_arg F hB 2 (by omega) rfl hl dL_law_235 dL_law_236 dL_law_237 dL_law_238 dL_law_239 ?_
  refine g_calli (g_runV (i := 0) (As := [.int (iZ (xI xs i 1)), .int (iZ (xI xs i 2))]) (rest := []) hx hb hml hown hts hK hst hB (mX5_stream l θ hθ σ z ⟨by rw [hP.n0]; omega, by rw [hP.n0]; have := hP.cw.2.1; omega⟩ (xI xs i 1) (xI xs i 2) (rg_of _) (rg_of _)) mv_X5_stream kw_458 cf5 (by decide) rfl rfl hl.1 rfl (Nat.le_of_ble_eq_true rfl) ⟨by decide, by decide⟩ ⟨by decide, by decide⟩ dL_law_240) hB (fun q1 σ1 z1 H locs hq1 hc hB => ?_)
  have hf : ∀ i k, 111 ≤ i → σ1 i k = σ i k := fun i k h => by rw [hc.2.1]
  have hrow : ∀ i, 111 ≤ i → σ1 i = σ i := fun i h => funext fun k => hf i k h
  have h114 : σ1 114 = σ 114 := hrow 114 (by decide)
  refine lv_aload_n hx hb dL_law_243 rfl (lv_at hl 1 rfl) ?_
  refine law_arg F hB 1 (by omega) rfl hl dL_law_244 dL_law_245 dL_law_246 dL_law_247 dL_law_248 ?_
  refine law_arg F hB 2 (by omega) rfl hl dL_law_249 dL_law_250 dL_law_251 dL_law_252 dL_law_253 ?_
  refine g_calli (g_runV (i := 111) (As := [.int (iZ (xI xs i 1)), .int (iZ (xI xs i 2))]) (rest := [.int (iZ q1)]) hx hb hml hown hts hK hst hB (mX6_stream l θ hθ σ1 z1 (by rw [h114]; exact hP.wf) N (by rw [h114]; exact hP.g0) (xI xs i 1) (xI xs i 2) (rg_of _) (rg_of _)) mv_X6_stream kw_865 cf6 (by decide) rfl rfl hl.1 rfl (Nat.le_of_ble_eq_true rfl) ⟨by decide, by decide⟩ ⟨by decide, by decide⟩ dL_law_254) hB (fun q2 σ2 z2 H locs hq2 hm hB => ?_)
  obtain ⟨hq, hI2⟩ := st_stream hT hP hD hG hKk hz hc hm
  exact z_icmp_eq (tgt := 953) hx hb dL_law_257 (by decide) hq1 hq2 (fun _ => kk σ2 z2 _ _ hI2 hB) (fun h => absurd hq h)
set_option maxHeartbeats 4000000 in
theorem law_figure (l : Launch) {p : Program} {e : Env} {s : State} {m : MethodId} {args : Array Value} {below : List Frame} {meth : Method} {c : Code} {Q : State → Prop} {θ : gT} {b L : Nat} {xs : Nat → Int32} (F : LF θ b L xs p s m args c) {i : Nat} (hi : i + 6 ≤ L) {σ : gS} {z : gZ} (hI : IV σ z) {H : Heap} {locs : List Loc} (hB : gB θ σ z s.heap H locs) {ls : Array Slot} (hl : lv_has ls 4 (lwL θ b i)) (kk : ∀ (σ : gS) (z : gZ) (H : Heap) (locs : List Loc), IV σ z → gB θ σ z s.heap H locs → W p l e room_1 s m args below meth c H locs 129 2881 Q (F0 m 953 ls [])) : W p l e room_1 s m args below meth c H locs 129 2881 Q (F0 m 262 ls []) := by
  obtain ⟨⟨hx, hb, hml, hown, hts, hK, hst⟩, -, hL, hθ⟩ := id F
  obtain ⟨len, N, D, o, n, hT, hP, hD, hG, hKk, hz⟩ := hI
  refine lv_aload_n hx hb dL_law_262 rfl (lv_at hl 2 rfl) ?_
  refine law_arg F hB 1 (by omega) rfl hl dL_law_263 dL_law_264 dL_law_265 dL_law_266 dL_law_267 ?_
  refine law_arg F hB 2 (by omega) rfl hl dL_law_268 dL_law_269 dL_law_270 dL_law_271 dL_law_272 ?_
  refine g_calli (g_runV (i := 0) (As := [.int (iZ (xI xs i 1)), .int (iZ (xI xs i 2))]) (rest := []) hx hb hml hown hts hK hst hB (mX5_figure l θ hθ σ z N hP.cw (xI xs i 1) (xI xs i 2) (rg_of _) (rg_of _)) mv_X5_figure kw_471 cf5 (by decide) rfl rfl hl.1 rfl (Nat.le_of_ble_eq_true rfl) ⟨by decide, by decide⟩ ⟨by decide, by decide⟩ dL_law_273) hB (fun q1 σ1 z1 H locs hq1 hc hB => ?_)
  have hf : ∀ i k, 111 ≤ i → σ1 i k = σ i k := fun i k h => by rw [hc.2.1]
  have hrow : ∀ i, 111 ≤ i → σ1 i = σ i := fun i h => funext fun k => hf i k h
  have h114 : σ1 114 = σ 114 := hrow 114 (by decide)
  refine lv_aload_n hx hb dL_law_276 rfl (lv_at hl 1 rfl) ?_
  refine law_arg F hB 1 (by omega) rfl hl dL_law_277 dL_law_278 dL_law_279 dL_law_280 dL_law_281 ?_
  refine law_arg F hB 2 (by omega) rfl hl dL_law_282 dL_law_283 dL_law_284 dL_law_285 dL_law_286 ?_
  refine g_calli (g_runV (i := 111) (As := [.int (iZ (xI xs i 1)), .int (iZ (xI xs i 2))]) (rest := [.int (iZ q1)]) hx hb hml hown hts hK hst hB (mX6_figure l θ hθ σ1 z1 (by rw [h114]; exact hP.wf) N (by rw [h114]; exact hP.g0) (xI xs i 1) (xI xs i 2) (rg_of _) (rg_of _)) mv_X6_figure kw_873 cf6 (by decide) rfl rfl hl.1 rfl (Nat.le_of_ble_eq_true rfl) ⟨by decide, by decide⟩ ⟨by decide, by decide⟩ dL_law_287) hB (fun q2 σ2 z2 H locs hq2 hm hB => ?_)
  obtain ⟨hq, hI2⟩ := st_figure hT hP hD hG hKk hz hc hm
  exact z_icmp_eq (tgt := 953) hx hb dL_law_290 (by decide) hq1 hq2 (fun _ => kk σ2 z2 _ _ hI2 hB) (fun h => absurd hq h)
set_option maxHeartbeats 4000000 in
theorem law_clock (l : Launch) {p : Program} {e : Env} {s : State} {m : MethodId} {args : Array Value} {below : List Frame} {meth : Method} {c : Code} {Q : State → Prop} {θ : gT} {b L : Nat} {xs : Nat → Int32} (F : LF θ b L xs p s m args c) {i : Nat} (hi : i + 6 ≤ L) {σ : gS} {z : gZ} (hI : IV σ z) {H : Heap} {locs : List Loc} (hB : gB θ σ z s.heap H locs) {ls : Array Slot} (hl : lv_has ls 4 (lwL θ b i)) (kk : ∀ (σ : gS) (z : gZ) (H : Heap) (locs : List Loc), IV σ z → gB θ σ z s.heap H locs → W p l e room_1 s m args below meth c H locs 129 2881 Q (F0 m 953 ls [])) : W p l e room_1 s m args below meth c H locs 129 2881 Q (F0 m 295 ls []) := by
  obtain ⟨⟨hx, hb, hml, hown, hts, hK, hst⟩, -, hL, hθ⟩ := id F
  obtain ⟨len, N, D, o, n, hT, hP, hD, hG, hKk, hz⟩ := hI
  refine lv_aload_n hx hb dL_law_295 rfl (lv_at hl 2 rfl) ?_
  refine law_arg F hB 1 (by omega) rfl hl dL_law_296 dL_law_297 dL_law_298 dL_law_299 dL_law_300 ?_
  refine law_arg F hB 2 (by omega) rfl hl dL_law_301 dL_law_302 dL_law_303 dL_law_304 dL_law_305 ?_
  refine g_calli (g_runV (i := 0) (As := [.int (iZ (xI xs i 1)), .int (iZ (xI xs i 2))]) (rest := []) hx hb hml hown hts hK hst hB (mX5_clock l θ hθ σ z N hP.n0 hP.cw.2.1 (Sv (fp σ 3) N) hP.sv (xI xs i 1) (xI xs i 2) (rg_of _) (rg_of _)) mv_X5_clock kw_476 cf5 (by decide) rfl rfl hl.1 rfl (Nat.le_of_ble_eq_true rfl) ⟨by decide, by decide⟩ ⟨by decide, by decide⟩ dL_law_306) hB (fun q1 σ1 z1 H locs hq1 hc hB => ?_)
  have hf : ∀ i k, 111 ≤ i → σ1 i k = σ i k := fun i k h => by rw [hc.2.1]
  have hrow : ∀ i, 111 ≤ i → σ1 i = σ i := fun i h => funext fun k => hf i k h
  have h114 : σ1 114 = σ 114 := hrow 114 (by decide)
  refine lv_aload_n hx hb dL_law_309 rfl (lv_at hl 1 rfl) ?_
  refine law_arg F hB 1 (by omega) rfl hl dL_law_310 dL_law_311 dL_law_312 dL_law_313 dL_law_314 ?_
  refine law_arg F hB 2 (by omega) rfl hl dL_law_315 dL_law_316 dL_law_317 dL_law_318 dL_law_319 ?_
  refine g_calli (g_runV (i := 111) (As := [.int (iZ (xI xs i 1)), .int (iZ (xI xs i 2))]) (rest := [.int (iZ q1)]) hx hb hml hown hts hK hst hB (mX6_clock l θ hθ σ1 z1 (by rw [h114]; exact hP.wf) N (by rw [h114]; exact hP.g0) (xI xs i 1) (xI xs i 2) (rg_of _) (rg_of _)) mv_X6_clock kw_877 cf6 (by decide) rfl rfl hl.1 rfl (Nat.le_of_ble_eq_true rfl) ⟨by decide, by decide⟩ ⟨by decide, by decide⟩ dL_law_320) hB (fun q2 σ2 z2 H locs hq2 hm hB => ?_)
  obtain ⟨hq, hI2⟩ := st_clock hT hP hD hG hKk hz hc hm
  exact z_icmp_eq (tgt := 953) hx hb dL_law_323 (by decide) hq1 hq2 (fun _ => kk σ2 z2 _ _ hI2 hB) (fun h => absurd hq h)
set_option maxHeartbeats 4000000 in
theorem law_tick (l : Launch) {p : Program} {e : Env} {s : State} {m : MethodId} {args : Array Value} {below : List Frame} {meth : Method} {c : Code} {Q : State → Prop} {θ : gT} {b L : Nat} {xs : Nat → Int32} (F : LF θ b L xs p s m args c) {i : Nat} (hi : i + 6 ≤ L) {σ : gS} {z : gZ} (hI : IV σ z) {H : Heap} {locs : List Loc} (hB : gB θ σ z s.heap H locs) {ls : Array Slot} (hl : lv_has ls 4 (lwL θ b i)) (kk : ∀ (σ : gS) (z : gZ) (H : Heap) (locs : List Loc), IV σ z → gB θ σ z s.heap H locs → W p l e room_1 s m args below meth c H locs 129 2881 Q (F0 m 953 ls [])) : W p l e room_1 s m args below meth c H locs 129 2881 Q (F0 m 328 ls []) := by
  obtain ⟨⟨hx, hb, hml, hown, hts, hK, hst⟩, -, hL, hθ⟩ := id F
  obtain ⟨len, N, D, o, n, hT, hP, hD, hG, hKk, hz⟩ := hI
  refine lv_aload_n hx hb dL_law_328 rfl (lv_at hl 2 rfl) ?_
  refine law_arg F hB 1 (by omega) rfl hl dL_law_329 dL_law_330 dL_law_331 dL_law_332 dL_law_333 ?_
  refine law_arg F hB 2 (by omega) rfl hl dL_law_334 dL_law_335 dL_law_336 dL_law_337 dL_law_338 ?_
  refine g_calli (g_runV (i := 0) (As := [.int (iZ (xI xs i 1)), .int (iZ (xI xs i 2))]) (rest := []) hx hb hml hown hts hK hst hB (mX5_tick l θ hθ σ z N (Tm (σ 114) N) hP.n0 hP.cw.2.1 hP.1.2.2.2.1 hP.tt D o hD.1.1 hD.1.2.1 hD.2.1.1 hD.2.1.2 (xI xs i 1) (xI xs i 2) (rg_of _) (rg_of _)) mv_X5_tick kw_484 cf5 (by decide) rfl rfl hl.1 rfl (Nat.le_of_ble_eq_true rfl) ⟨by decide, by decide⟩ ⟨by decide, by decide⟩ dL_law_339) hB (fun q1 σ1 z1 H locs hq1 hc hB => ?_)
  have hf : ∀ i k, 111 ≤ i → σ1 i k = σ i k := fun i k h => hc.2.1 i k (by simp [wTc, wF, wKp, wNw, wNd, wSg, wTr, wPg3, wSe]; omega)
  have hrow : ∀ i, 111 ≤ i → σ1 i = σ i := fun i h => funext fun k => hf i k h
  have h114 : σ1 114 = σ 114 := hrow 114 (by decide)
  refine lv_aload_n hx hb dL_law_342 rfl (lv_at hl 1 rfl) ?_
  refine law_arg F hB 1 (by omega) rfl hl dL_law_343 dL_law_344 dL_law_345 dL_law_346 dL_law_347 ?_
  refine law_arg F hB 2 (by omega) rfl hl dL_law_348 dL_law_349 dL_law_350 dL_law_351 dL_law_352 ?_
  refine g_calli (g_runV (i := 111) (As := [.int (iZ (xI xs i 1)), .int (iZ (xI xs i 2))]) (rest := [.int (iZ q1)]) hx hb hml hown hts hK hst hB (mX6_tick l θ hθ σ1 z1 (by rw [h114]; exact hP.wf) N (by rw [h114]; exact hP.g0) (by rw [h114]; exact hP.1.2.2.1) D (by rw [hf 111 8 (by decide)]; exact hD.1.2.2) hD.2.1.1 (xI xs i 1) (xI xs i 2) (rg_of _) (rg_of _)) mv_X6_tick kw_881 cf6 (by decide) rfl rfl hl.1 rfl (Nat.le_of_ble_eq_true rfl) ⟨by decide, by decide⟩ ⟨by decide, by decide⟩ dL_law_353) hB (fun q2 σ2 z2 H locs hq2 hm hB => ?_)
  obtain ⟨hq, hI2⟩ := st_tick hT hP hD hG hKk hz hc hm
  exact z_icmp_eq (tgt := 953) hx hb dL_law_356 (by decide) hq1 hq2 (fun _ => kk σ2 z2 _ _ hI2 hB) (fun h => absurd hq h)
set_option maxHeartbeats 4000000 in
theorem law_afresh (l : Launch) {p : Program} {e : Env} {s : State} {m : MethodId} {args : Array Value} {below : List Frame} {meth : Method} {c : Code} {Q : State → Prop} {θ : gT} {b L : Nat} {xs : Nat → Int32} (F : LF θ b L xs p s m args c) {i : Nat} (hi : i + 6 ≤ L) {σ : gS} {z : gZ} (hI : IV σ z) {H : Heap} {locs : List Loc} (hB : gB θ σ z s.heap H locs) {ls : Array Slot} (hl : lv_has ls 4 (lwL θ b i)) (kk : ∀ (σ : gS) (z : gZ) (H : Heap) (locs : List Loc), IV σ z → gB θ σ z s.heap H locs → W p l e room_1 s m args below meth c H locs 129 2881 Q (F0 m 953 ls [])) : W p l e room_1 s m args below meth c H locs 129 2881 Q (F0 m 361 ls []) := by
  obtain ⟨⟨hx, hb, hml, hown, hts, hK, hst⟩, -, hL, hθ⟩ := id F
  obtain ⟨len, N, D, o, n, hT, hP, hD, hG, hKk, hz⟩ := hI
  refine lv_aload_n hx hb dL_law_361 rfl (lv_at hl 2 rfl) ?_
  refine g_calli (g_runV (i := 0) (As := []) (rest := []) hx hb hml hown hts hK hst hB (mX5_afresh l θ hθ σ z D o hD.1.1 hD.1.2.1 hD.2.1.1 hD.2.1.2) mv_X5_afresh kw_530 cf5 (by decide) rfl rfl hl.1 rfl (Nat.le_of_ble_eq_true rfl) ⟨by decide, by decide⟩ ⟨by decide, by decide⟩ dL_law_362) hB (fun q1 σ1 z1 H locs hq1 hc hB => ?_)
  have hf : ∀ i k, 111 ≤ i → σ1 i k = σ i k := fun i k h => hc.2.1 i k (by simp [wTc, wF, wKp, wNw, wNd, wSg, wTr, wPg3, wSe]; omega)
  have hrow : ∀ i, 111 ≤ i → σ1 i = σ i := fun i h => funext fun k => hf i k h
  have h114 : σ1 114 = σ 114 := hrow 114 (by decide)
  refine lv_aload_n hx hb dL_law_365 rfl (lv_at hl 1 rfl) ?_
  refine g_calli (g_runV (i := 111) (As := []) (rest := [.int (iZ q1)]) hx hb hml hown hts hK hst hB (mX6_afresh l θ hθ σ1 z1 (by rw [h114]; exact hP.wf) N (by rw [h114]; exact hP.g0) D (by rw [hf 111 8 (by decide)]; exact hD.1.2.2) hD.2.1.1) mv_X6_afresh kw_912 cf6 (by decide) rfl rfl hl.1 rfl (Nat.le_of_ble_eq_true rfl) ⟨by decide, by decide⟩ ⟨by decide, by decide⟩ dL_law_366) hB (fun q2 σ2 z2 H locs hq2 hm hB => ?_)
  obtain ⟨hq, hI2⟩ := st_afresh hT hP hD hG hKk hz hc hm
  exact z_icmp_eq (tgt := 953) hx hb dL_law_369 (by decide) hq1 hq2 (fun _ => kk σ2 z2 _ _ hI2 hB) (fun h => absurd hq h)
set_option maxHeartbeats 4000000 in
theorem law_tell (l : Launch) {p : Program} {e : Env} {s : State} {m : MethodId} {args : Array Value} {below : List Frame} {meth : Method} {c : Code} {Q : State → Prop} {θ : gT} {b L : Nat} {xs : Nat → Int32} (F : LF θ b L xs p s m args c) {i : Nat} (hi : i + 6 ≤ L) {σ : gS} {z : gZ} (hI : IV σ z) {H : Heap} {locs : List Loc} (hB : gB θ σ z s.heap H locs) {ls : Array Slot} (hl : lv_has ls 4 (lwL θ b i)) (kk : ∀ (σ : gS) (z : gZ) (H : Heap) (locs : List Loc), IV σ z → gB θ σ z s.heap H locs → W p l e room_1 s m args below meth c H locs 129 2881 Q (F0 m 953 ls [])) : W p l e room_1 s m args below meth c H locs 129 2881 Q (F0 m 374 ls []) := by
  obtain ⟨⟨hx, hb, hml, hown, hts, hK, hst⟩, -, hL, hθ⟩ := id F
  obtain ⟨len, N, D, o, n, hT, hP, hD, hG, hKk, hz⟩ := hI
  refine lv_aload_n hx hb dL_law_374 rfl (lv_at hl 2 rfl) ?_
  refine law_arg F hB 1 (by omega) rfl hl dL_law_375 dL_law_376 dL_law_377 dL_law_378 dL_law_379 ?_
  refine law_arg F hB 2 (by omega) rfl hl dL_law_380 dL_law_381 dL_law_382 dL_law_383 dL_law_384 ?_
  refine law_arg F hB 3 (by omega) rfl hl dL_law_385 dL_law_386 dL_law_387 dL_law_388 dL_law_389 ?_
  refine law_arg F hB 4 (by omega) rfl hl dL_law_390 dL_law_391 dL_law_392 dL_law_393 dL_law_394 ?_
  refine law_arg F hB 5 (by omega) rfl hl dL_law_395 dL_law_396 dL_law_397 dL_law_398 dL_law_399 ?_
  refine g_calli (g_runV (i := 0) (As := [.int (iZ (xI xs i 1)), .int (iZ (xI xs i 2)), .int (iZ (xI xs i 3)), .int (iZ (xI xs i 4)), .int (iZ (xI xs i 5))]) (rest := []) hx hb hml hown hts hK hst hB (mX5_tell l θ hθ σ z N hP.cw D o hD.1.1 hD.1.2.1 hD.2.1.1 hD.2.1.2 (xI xs i 1) (xI xs i 2) (xI xs i 3) (xI xs i 4) (xI xs i 5) (rg_of _) (rg_of _) (rg_of _) (rg_of _) (rg_of _)) mv_X5_tell kw_534 cf5 (by decide) rfl rfl hl.1 rfl (Nat.le_of_ble_eq_true rfl) ⟨by decide, by decide⟩ ⟨by decide, by decide⟩ dL_law_400) hB (fun q1 σ1 z1 H locs hq1 hc hB => ?_)
  have hf : ∀ i k, 111 ≤ i → σ1 i k = σ i k := fun i k h => hc.2.1 i k (by simp [wTc, wF, wKp, wNw, wNd, wSg, wTr, wPg3, wSe]; omega)
  have hrow : ∀ i, 111 ≤ i → σ1 i = σ i := fun i h => funext fun k => hf i k h
  have h114 : σ1 114 = σ 114 := hrow 114 (by decide)
  refine lv_aload_n hx hb dL_law_403 rfl (lv_at hl 1 rfl) ?_
  refine law_arg F hB 1 (by omega) rfl hl dL_law_404 dL_law_405 dL_law_406 dL_law_407 dL_law_408 ?_
  refine law_arg F hB 2 (by omega) rfl hl dL_law_409 dL_law_410 dL_law_411 dL_law_412 dL_law_413 ?_
  refine law_arg F hB 3 (by omega) rfl hl dL_law_414 dL_law_415 dL_law_416 dL_law_417 dL_law_418 ?_
  refine law_arg F hB 4 (by omega) rfl hl dL_law_419 dL_law_420 dL_law_421 dL_law_422 dL_law_423 ?_
  refine law_arg F hB 5 (by omega) rfl hl dL_law_424 dL_law_425 dL_law_426 dL_law_427 dL_law_428 ?_
  refine g_calli (g_runV (i := 111) (As := [.int (iZ (xI xs i 1)), .int (iZ (xI xs i 2)), .int (iZ (xI xs i 3)), .int (iZ (xI xs i 4)), .int (iZ (xI xs i 5))]) (rest := [.int (iZ q1)]) hx hb hml hown hts hK hst hB (mX6_tell l θ hθ σ1 z1 (by rw [h114]; exact hP.wf) N (by rw [h114]; exact hP.g0) D (by rw [hf 111 8 (by decide)]; exact hD.1.2.2) hD.2.1.1 (xI xs i 1) (xI xs i 2) (xI xs i 3) (xI xs i 4) (xI xs i 5) (rg_of _) (rg_of _) (rg_of _) (rg_of _) (rg_of _)) mv_X6_tell kw_916 cf6 (by decide) rfl rfl hl.1 rfl (Nat.le_of_ble_eq_true rfl) ⟨by decide, by decide⟩ ⟨by decide, by decide⟩ dL_law_429) hB (fun q2 σ2 z2 H locs hq2 hm hB => ?_)
  obtain ⟨hq, hI2⟩ := st_tell hT hP hD hG hKk hz hc hm
  exact z_icmp_eq (tgt := 953) hx hb dL_law_432 (by decide) hq1 hq2 (fun _ => kk σ2 z2 _ _ hI2 hB) (fun h => absurd hq h)
set_option maxHeartbeats 4000000 in
theorem law_undo (l : Launch) {p : Program} {e : Env} {s : State} {m : MethodId} {args : Array Value} {below : List Frame} {meth : Method} {c : Code} {Q : State → Prop} {θ : gT} {b L : Nat} {xs : Nat → Int32} (F : LF θ b L xs p s m args c) {i : Nat} (hi : i + 6 ≤ L) {σ : gS} {z : gZ} (hI : IV σ z) {H : Heap} {locs : List Loc} (hB : gB θ σ z s.heap H locs) {ls : Array Slot} (hl : lv_has ls 4 (lwL θ b i)) (kk : ∀ (σ : gS) (z : gZ) (H : Heap) (locs : List Loc), IV σ z → gB θ σ z s.heap H locs → W p l e room_1 s m args below meth c H locs 129 2881 Q (F0 m 953 ls [])) : W p l e room_1 s m args below meth c H locs 129 2881 Q (F0 m 437 ls []) := by
  obtain ⟨⟨hx, hb, hml, hown, hts, hK, hst⟩, -, hL, hθ⟩ := id F
  obtain ⟨len, N, D, o, n, hT, hP, hD, hG, hKk, hz⟩ := hI
  refine lv_aload_n hx hb dL_law_437 rfl (lv_at hl 2 rfl) ?_
  refine g_calli (g_runV (i := 0) (As := []) (rest := []) hx hb hml hown hts hK hst hB (mX5_undo l θ hθ σ z D o hD.1.1 hD.1.2.1 hD.2.1.1 hD.2.1.2 (Nu σ D o) hD.cw) mv_X5_undo kw_544 cf5 (by decide) rfl rfl hl.1 rfl (Nat.le_of_ble_eq_true rfl) ⟨by decide, by decide⟩ ⟨by decide, by decide⟩ dL_law_438) hB (fun q1 σ1 z1 H locs hq1 hc hB => ?_)
  have hf : ∀ i k, 111 ≤ i → σ1 i k = σ i k := fun i k h => hc.2.1 i k (by simp [wTc, wF, wKp, wNw, wNd, wSg, wTr, wPg3, wSe]; omega)
  have hrow : ∀ i, 111 ≤ i → σ1 i = σ i := fun i h => funext fun k => hf i k h
  have h114 : σ1 114 = σ 114 := hrow 114 (by decide)
  refine lv_aload_n hx hb dL_law_441 rfl (lv_at hl 1 rfl) ?_
  refine g_calli (g_runV (i := 111) (As := []) (rest := [.int (iZ q1)]) hx hb hml hown hts hK hst hB (mX6_undo l θ hθ σ1 z1 D (by rw [hf 111 8 (by decide)]; exact hD.1.2.2) hD.2.1.1) mv_X6_undo kw_925 cf6 (by decide) rfl rfl hl.1 rfl (Nat.le_of_ble_eq_true rfl) ⟨by decide, by decide⟩ ⟨by decide, by decide⟩ dL_law_442) hB (fun q2 σ2 z2 H locs hq2 hm hB => ?_)
  obtain ⟨hq, hI2⟩ := st_undo hT hP hD hG hKk hz hc hm
  exact z_icmp_eq (tgt := 953) hx hb dL_law_445 (by decide) hq1 hq2 (fun _ => kk σ2 z2 _ _ hI2 hB) (fun h => absurd hq h)
set_option maxHeartbeats 4000000 in
theorem law_later (l : Launch) {p : Program} {e : Env} {s : State} {m : MethodId} {args : Array Value} {below : List Frame} {meth : Method} {c : Code} {Q : State → Prop} {θ : gT} {b L : Nat} {xs : Nat → Int32} (F : LF θ b L xs p s m args c) {i : Nat} (hi : i + 6 ≤ L) {σ : gS} {z : gZ} (hI : IV σ z) {H : Heap} {locs : List Loc} (hB : gB θ σ z s.heap H locs) {ls : Array Slot} (hl : lv_has ls 4 (lwL θ b i)) (kk : ∀ (σ : gS) (z : gZ) (H : Heap) (locs : List Loc), IV σ z → gB θ σ z s.heap H locs → W p l e room_1 s m args below meth c H locs 129 2881 Q (F0 m 953 ls [])) : W p l e room_1 s m args below meth c H locs 129 2881 Q (F0 m 450 ls []) := by
  obtain ⟨⟨hx, hb, hml, hown, hts, hK, hst⟩, -, hL, hθ⟩ := id F
  obtain ⟨len, N, D, o, n, hT, hP, hD, hG, hKk, hz⟩ := hI
  refine lv_aload_n hx hb dL_law_450 rfl (lv_at hl 2 rfl) ?_
  refine law_arg F hB 1 (by omega) rfl hl dL_law_451 dL_law_452 dL_law_453 dL_law_454 dL_law_455 ?_
  refine law_arg F hB 2 (by omega) rfl hl dL_law_456 dL_law_457 dL_law_458 dL_law_459 dL_law_460 ?_
  refine law_arg F hB 3 (by omega) rfl hl dL_law_461 dL_law_462 dL_law_463 dL_law_464 dL_law_465 ?_
  refine law_arg F hB 4 (by omega) rfl hl dL_law_466 dL_law_467 dL_law_468 dL_law_469 dL_law_470 ?_
  refine g_calli (g_runV (i := 0) (As := [.int (iZ (xI xs i 1)), .int (iZ (xI xs i 2)), .int (iZ (xI xs i 3)), .int (iZ (xI xs i 4))]) (rest := []) hx hb hml hown hts hK hst hB (mX5_later l θ hθ σ z N (Tm (σ 114) N) hP.n0 hP.cw.2.1 hP.1.2.2.2.1 hP.tt (xI xs i 1) (xI xs i 2) (xI xs i 3) (xI xs i 4) (rg_of _) (rg_of _) (rg_of _) (rg_of _)) mv_X5_later kw_552 cf5 (by decide) rfl rfl hl.1 rfl (Nat.le_of_ble_eq_true rfl) ⟨by decide, by decide⟩ ⟨by decide, by decide⟩ dL_law_471) hB (fun q1 σ1 z1 H locs hq1 hc hB => ?_)
  have hf : ∀ i k, 111 ≤ i → σ1 i k = σ i k := fun i k h => hc.2.1 i k (by simp [wTc, wF, wKp, wNw, wNd, wSg, wTr, wPg3, wSe]; omega)
  have hrow : ∀ i, 111 ≤ i → σ1 i = σ i := fun i h => funext fun k => hf i k h
  have h114 : σ1 114 = σ 114 := hrow 114 (by decide)
  refine lv_aload_n hx hb dL_law_474 rfl (lv_at hl 1 rfl) ?_
  refine law_arg F hB 1 (by omega) rfl hl dL_law_475 dL_law_476 dL_law_477 dL_law_478 dL_law_479 ?_
  refine law_arg F hB 2 (by omega) rfl hl dL_law_480 dL_law_481 dL_law_482 dL_law_483 dL_law_484 ?_
  refine law_arg F hB 3 (by omega) rfl hl dL_law_485 dL_law_486 dL_law_487 dL_law_488 dL_law_489 ?_
  refine law_arg F hB 4 (by omega) rfl hl dL_law_490 dL_law_491 dL_law_492 dL_law_493 dL_law_494 ?_
  refine g_calli (g_runV (i := 111) (As := [.int (iZ (xI xs i 1)), .int (iZ (xI xs i 2)), .int (iZ (xI xs i 3)), .int (iZ (xI xs i 4))]) (rest := [.int (iZ q1)]) hx hb hml hown hts hK hst hB (mX6_later l θ hθ σ1 z1 (by rw [h114]; exact hP.wf) N (by rw [h114]; exact hP.g0) (by rw [h114]; exact hP.1.2.2.1) (xI xs i 1) (xI xs i 2) (xI xs i 3) (xI xs i 4) (rg_of _) (rg_of _) (rg_of _) (rg_of _)) mv_X6_later kw_929 cf6 (by decide) rfl rfl hl.1 rfl (Nat.le_of_ble_eq_true rfl) ⟨by decide, by decide⟩ ⟨by decide, by decide⟩ dL_law_495) hB (fun q2 σ2 z2 H locs hq2 hm hB => ?_)
  obtain ⟨hq, hI2⟩ := st_later hT hP hD hG hKk hz hc hm
  exact z_icmp_eq (tgt := 953) hx hb dL_law_498 (by decide) hq1 hq2 (fun _ => kk σ2 z2 _ _ hI2 hB) (fun h => absurd hq h)
set_option maxHeartbeats 4000000 in
theorem law_first (l : Launch) {p : Program} {e : Env} {s : State} {m : MethodId} {args : Array Value} {below : List Frame} {meth : Method} {c : Code} {Q : State → Prop} {θ : gT} {b L : Nat} {xs : Nat → Int32} (F : LF θ b L xs p s m args c) {i : Nat} (hi : i + 6 ≤ L) {σ : gS} {z : gZ} (hI : IV σ z) {H : Heap} {locs : List Loc} (hB : gB θ σ z s.heap H locs) {ls : Array Slot} (hl : lv_has ls 4 (lwL θ b i)) (kk : ∀ (σ : gS) (z : gZ) (H : Heap) (locs : List Loc), IV σ z → gB θ σ z s.heap H locs → W p l e room_1 s m args below meth c H locs 129 2881 Q (F0 m 953 ls [])) : W p l e room_1 s m args below meth c H locs 129 2881 Q (F0 m 503 ls []) := by
  obtain ⟨⟨hx, hb, hml, hown, hts, hK, hst⟩, -, hL, hθ⟩ := id F
  obtain ⟨len, N, D, o, n, hT, hP, hD, hG, hKk, hz⟩ := hI
  refine lv_aload_n hx hb dL_law_503 rfl (lv_at hl 2 rfl) ?_
  refine law_arg F hB 1 (by omega) rfl hl dL_law_504 dL_law_505 dL_law_506 dL_law_507 dL_law_508 ?_
  refine law_arg F hB 2 (by omega) rfl hl dL_law_509 dL_law_510 dL_law_511 dL_law_512 dL_law_513 ?_
  refine law_arg F hB 3 (by omega) rfl hl dL_law_514 dL_law_515 dL_law_516 dL_law_517 dL_law_518 ?_
  refine law_arg F hB 4 (by omega) rfl hl dL_law_519 dL_law_520 dL_law_521 dL_law_522 dL_law_523 ?_
  refine g_calli (g_runV (i := 0) (As := [.int (iZ (xI xs i 1)), .int (iZ (xI xs i 2)), .int (iZ (xI xs i 3)), .int (iZ (xI xs i 4))]) (rest := []) hx hb hml hown hts hK hst hB (mX5_first l θ hθ σ z N (Tm (σ 114) N) hP.n0 hP.cw.2.1 hP.1.2.2.2.1 hP.tt (xI xs i 1) (xI xs i 2) (xI xs i 3) (xI xs i 4) (rg_of _) (rg_of _) (rg_of _) (rg_of _)) mv_X5_first kw_556 cf5 (by decide) rfl rfl hl.1 rfl (Nat.le_of_ble_eq_true rfl) ⟨by decide, by decide⟩ ⟨by decide, by decide⟩ dL_law_524) hB (fun q1 σ1 z1 H locs hq1 hc hB => ?_)
  have hf : ∀ i k, 111 ≤ i → σ1 i k = σ i k := fun i k h => hc.2.1 i k (by simp [wTc, wF, wKp, wNw, wNd, wSg, wTr, wPg3, wSe]; omega)
  have hrow : ∀ i, 111 ≤ i → σ1 i = σ i := fun i h => funext fun k => hf i k h
  have h114 : σ1 114 = σ 114 := hrow 114 (by decide)
  refine lv_aload_n hx hb dL_law_527 rfl (lv_at hl 1 rfl) ?_
  refine law_arg F hB 1 (by omega) rfl hl dL_law_528 dL_law_529 dL_law_530 dL_law_531 dL_law_532 ?_
  refine law_arg F hB 2 (by omega) rfl hl dL_law_533 dL_law_534 dL_law_535 dL_law_536 dL_law_537 ?_
  refine law_arg F hB 3 (by omega) rfl hl dL_law_538 dL_law_539 dL_law_540 dL_law_541 dL_law_542 ?_
  refine law_arg F hB 4 (by omega) rfl hl dL_law_543 dL_law_544 dL_law_545 dL_law_546 dL_law_547 ?_
  refine g_calli (g_runV (i := 111) (As := [.int (iZ (xI xs i 1)), .int (iZ (xI xs i 2)), .int (iZ (xI xs i 3)), .int (iZ (xI xs i 4))]) (rest := [.int (iZ q1)]) hx hb hml hown hts hK hst hB (mX6_first l θ hθ σ1 z1 (by rw [h114]; exact hP.wf) N (by rw [h114]; exact hP.g0) (by rw [h114]; exact hP.1.2.2.1) (xI xs i 1) (xI xs i 2) (xI xs i 3) (xI xs i 4) (rg_of _) (rg_of _) (rg_of _) (rg_of _)) mv_X6_first kw_942 cf6 (by decide) rfl rfl hl.1 rfl (Nat.le_of_ble_eq_true rfl) ⟨by decide, by decide⟩ ⟨by decide, by decide⟩ dL_law_548) hB (fun q2 σ2 z2 H locs hq2 hm hB => ?_)
  obtain ⟨hq, hI2⟩ := st_first hT hP hD hG hKk hz hc hm
  exact z_icmp_eq (tgt := 953) hx hb dL_law_551 (by decide) hq1 hq2 (fun _ => kk σ2 z2 _ _ hI2 hB) (fun h => absurd hq h)
set_option maxHeartbeats 4000000 in
theorem law_round (l : Launch) {p : Program} {e : Env} {s : State} {m : MethodId} {args : Array Value} {below : List Frame} {meth : Method} {c : Code} {Q : State → Prop} {θ : gT} {b L : Nat} {xs : Nat → Int32} (F : LF θ b L xs p s m args c) {i : Nat} (hi : i + 6 ≤ L) {σ : gS} {z : gZ} (hI : IV σ z) {H : Heap} {locs : List Loc} (hB : gB θ σ z s.heap H locs) {ls : Array Slot} (hl : lv_has ls 4 (lwL θ b i)) (kk : ∀ (σ : gS) (z : gZ) (H : Heap) (locs : List Loc), IV σ z → gB θ σ z s.heap H locs → W p l e room_1 s m args below meth c H locs 129 2881 Q (F0 m 953 ls [])) : W p l e room_1 s m args below meth c H locs 129 2881 Q (F0 m 556 ls []) := by
  obtain ⟨⟨hx, hb, hml, hown, hts, hK, hst⟩, -, hL, hθ⟩ := id F
  obtain ⟨len, N, D, o, n, hT, hP, hD, hG, hKk, hz⟩ := hI
  refine lv_aload_n hx hb dL_law_556 rfl (lv_at hl 2 rfl) ?_
  refine law_arg F hB 1 (by omega) rfl hl dL_law_557 dL_law_558 dL_law_559 dL_law_560 dL_law_561 ?_
  refine law_arg F hB 2 (by omega) rfl hl dL_law_562 dL_law_563 dL_law_564 dL_law_565 dL_law_566 ?_
  refine law_arg F hB 3 (by omega) rfl hl dL_law_567 dL_law_568 dL_law_569 dL_law_570 dL_law_571 ?_
  refine g_calli (g_runV (i := 0) (As := [.int (iZ (xI xs i 1)), .int (iZ (xI xs i 2)), .int (iZ (xI xs i 3))]) (rest := []) hx hb hml hown hts hK hst hB (mX5_round l θ hθ σ z N (Tm (σ 114) N) hP.n0 hP.cw.2.1 hP.1.2.2.2.1 hP.tt (xI xs i 1) (xI xs i 2) (xI xs i 3) (rg_of _) (rg_of _) (rg_of _)) mv_X5_round kw_560 cf5 (by decide) rfl rfl hl.1 rfl (Nat.le_of_ble_eq_true rfl) ⟨by decide, by decide⟩ ⟨by decide, by decide⟩ dL_law_572) hB (fun q1 σ1 z1 H locs hq1 hc hB => ?_)
  have hf : ∀ i k, 111 ≤ i → σ1 i k = σ i k := fun i k h => hc.2.1 i k (by simp [wTc, wF, wKp, wNw, wNd, wSg, wTr, wPg3, wSe]; omega)
  have hrow : ∀ i, 111 ≤ i → σ1 i = σ i := fun i h => funext fun k => hf i k h
  have h114 : σ1 114 = σ 114 := hrow 114 (by decide)
  refine lv_aload_n hx hb dL_law_575 rfl (lv_at hl 1 rfl) ?_
  refine law_arg F hB 1 (by omega) rfl hl dL_law_576 dL_law_577 dL_law_578 dL_law_579 dL_law_580 ?_
  refine law_arg F hB 2 (by omega) rfl hl dL_law_581 dL_law_582 dL_law_583 dL_law_584 dL_law_585 ?_
  refine law_arg F hB 3 (by omega) rfl hl dL_law_586 dL_law_587 dL_law_588 dL_law_589 dL_law_590 ?_
  refine g_calli (g_runV (i := 111) (As := [.int (iZ (xI xs i 1)), .int (iZ (xI xs i 2)), .int (iZ (xI xs i 3))]) (rest := [.int (iZ q1)]) hx hb hml hown hts hK hst hB (mX6_round l θ hθ σ1 z1 (by rw [h114]; exact hP.wf) N (by rw [h114]; exact hP.g0) (by rw [h114]; exact hP.1.2.2.1) (xI xs i 1) (xI xs i 2) (xI xs i 3) (rg_of _) (rg_of _) (rg_of _)) mv_X6_round kw_946 cf6 (by decide) rfl rfl hl.1 rfl (Nat.le_of_ble_eq_true rfl) ⟨by decide, by decide⟩ ⟨by decide, by decide⟩ dL_law_591) hB (fun q2 σ2 z2 H locs hq2 hm hB => ?_)
  obtain ⟨hq, hI2⟩ := st_round hT hP hD hG hKk hz hc hm
  exact z_icmp_eq (tgt := 953) hx hb dL_law_594 (by decide) hq1 hq2 (fun _ => kk σ2 z2 _ _ hI2 hB) (fun h => absurd hq h)
set_option maxHeartbeats 4000000 in
theorem law_judge (l : Launch) {p : Program} {e : Env} {s : State} {m : MethodId} {args : Array Value} {below : List Frame} {meth : Method} {c : Code} {Q : State → Prop} {θ : gT} {b L : Nat} {xs : Nat → Int32} (F : LF θ b L xs p s m args c) {i : Nat} (hi : i + 6 ≤ L) {σ : gS} {z : gZ} (hI : IV σ z) {H : Heap} {locs : List Loc} (hB : gB θ σ z s.heap H locs) {ls : Array Slot} (hl : lv_has ls 4 (lwL θ b i)) (kk : ∀ (σ : gS) (z : gZ) (H : Heap) (locs : List Loc), IV σ z → gB θ σ z s.heap H locs → W p l e room_1 s m args below meth c H locs 129 2881 Q (F0 m 953 ls [])) : W p l e room_1 s m args below meth c H locs 129 2881 Q (F0 m 599 ls []) := by
  obtain ⟨⟨hx, hb, hml, hown, hts, hK, hst⟩, -, hL, hθ⟩ := id F
  obtain ⟨len, N, D, o, n, hT, hP, hD, hG, hKk, hz⟩ := hI
  refine lv_aload_n hx hb dL_law_599 rfl (lv_at hl 2 rfl) ?_
  refine law_arg F hB 1 (by omega) rfl hl dL_law_600 dL_law_601 dL_law_602 dL_law_603 dL_law_604 ?_
  refine law_long F hB 2 (by omega) rfl rfl hl dL_law_605 dL_law_606 dL_law_607 dL_law_608 dL_law_609 dL_law_610 dL_law_611 dL_law_613 dL_law_614 dL_law_615 dL_law_616 dL_law_617 dL_law_618 dL_law_619 dL_law_620 dL_law_623 dL_law_624 ?_
  rw [← lZ_of (xL (xs (i + 2)) (xs (i + (2 + 1))))]
  refine g_calli (g_runV (i := 0) (As := [.int (iZ (xI xs i 1)), .long (lZ (xL (xs (i + 2)) (xs (i + 3))).toInt)]) (rest := []) hx hb hml hown hts hK hst hB (mX5_judge l θ hθ σ z N (Tm (σ 114) N) hP.n0 hP.cw.2.1 hP.1.2.2.2.1 hP.tt (xI xs i 1) (xL (xs (i + 2)) (xs (i + 3))).toInt (rg_of _) (rgL_of _)) mv_X5_judge kw_573 cf5 (by decide) rfl rfl hl.1 rfl (Nat.le_of_ble_eq_true rfl) ⟨by decide, by decide⟩ ⟨by decide, by decide⟩ dL_law_625) hB (fun q1 σ1 z1 H locs hq1 hc hB => ?_)
  have hf : ∀ i k, 111 ≤ i → σ1 i k = σ i k := fun i k h => hc.2.1 i k (by simp [wTc, wF, wKp, wNw, wNd, wSg, wTr, wPg3, wSe]; omega)
  have hrow : ∀ i, 111 ≤ i → σ1 i = σ i := fun i h => funext fun k => hf i k h
  have h114 : σ1 114 = σ 114 := hrow 114 (by decide)
  refine lv_aload_n hx hb dL_law_628 rfl (lv_at hl 1 rfl) ?_
  refine law_arg F hB 1 (by omega) rfl hl dL_law_629 dL_law_630 dL_law_631 dL_law_632 dL_law_633 ?_
  refine law_long F hB 2 (by omega) rfl rfl hl dL_law_634 dL_law_635 dL_law_636 dL_law_637 dL_law_638 dL_law_639 dL_law_640 dL_law_642 dL_law_643 dL_law_644 dL_law_645 dL_law_646 dL_law_647 dL_law_648 dL_law_649 dL_law_652 dL_law_653 ?_
  rw [← lZ_of (xL (xs (i + 2)) (xs (i + (2 + 1))))]
  refine g_calli (g_runV (i := 111) (As := [.int (iZ (xI xs i 1)), .long (lZ (xL (xs (i + 2)) (xs (i + 3))).toInt)]) (rest := [.int (iZ q1)]) hx hb hml hown hts hK hst hB (mX6_judge l θ hθ σ1 z1 (by rw [h114]; exact hP.wf) N (by rw [h114]; exact hP.g0) (by rw [h114]; exact hP.1.2.2.1) (xI xs i 1) (xL (xs (i + 2)) (xs (i + 3))).toInt (rg_of _) (rgL_of _)) mv_X6_judge kw_959 cf6 (by decide) rfl rfl hl.1 rfl (Nat.le_of_ble_eq_true rfl) ⟨by decide, by decide⟩ ⟨by decide, by decide⟩ dL_law_654) hB (fun q2 σ2 z2 H locs hq2 hm hB => ?_)
  obtain ⟨hq, hI2⟩ := st_judge hT hP hD hG hKk hz hc hm
  exact z_icmp_eq (tgt := 953) hx hb dL_law_657 (by decide) hq1 hq2 (fun _ => kk σ2 z2 _ _ hI2 hB) (fun h => absurd hq h)
set_option maxHeartbeats 4000000 in
theorem law_see (l : Launch) {p : Program} {e : Env} {s : State} {m : MethodId} {args : Array Value} {below : List Frame} {meth : Method} {c : Code} {Q : State → Prop} {θ : gT} {b L : Nat} {xs : Nat → Int32} (F : LF θ b L xs p s m args c) {i : Nat} (hi : i + 6 ≤ L) {σ : gS} {z : gZ} (hI : IV σ z) {H : Heap} {locs : List Loc} (hB : gB θ σ z s.heap H locs) {ls : Array Slot} (hl : lv_has ls 4 (lwL θ b i)) (kk : ∀ (σ : gS) (z : gZ) (H : Heap) (locs : List Loc), IV σ z → gB θ σ z s.heap H locs → W p l e room_1 s m args below meth c H locs 129 2881 Q (F0 m 953 ls [])) : W p l e room_1 s m args below meth c H locs 129 2881 Q (F0 m 662 ls []) := by
  obtain ⟨⟨hx, hb, hml, hown, hts, hK, hst⟩, -, hL, hθ⟩ := id F
  obtain ⟨len, N, D, o, n, hT, hP, hD, hG, hKk, hz⟩ := hI
  refine lv_aload_n hx hb dL_law_662 rfl (lv_at hl 2 rfl) ?_
  refine law_arg F hB 1 (by omega) rfl hl dL_law_663 dL_law_664 dL_law_665 dL_law_666 dL_law_667 ?_
  refine law_arg F hB 2 (by omega) rfl hl dL_law_668 dL_law_669 dL_law_670 dL_law_671 dL_law_672 ?_
  refine law_arg F hB 3 (by omega) rfl hl dL_law_673 dL_law_674 dL_law_675 dL_law_676 dL_law_677 ?_
  refine law_arg F hB 4 (by omega) rfl hl dL_law_678 dL_law_679 dL_law_680 dL_law_681 dL_law_682 ?_
  refine g_calli (g_runV (i := 0) (As := [.int (iZ (xI xs i 1)), .int (iZ (xI xs i 2)), .int (iZ (xI xs i 3)), .int (iZ (xI xs i 4))]) (rest := []) hx hb hml hown hts hK hst hB (mX5_see l θ hθ σ z n hG.1.1 hG.1.2.2 (xI xs i 1) (xI xs i 2) (xI xs i 3) (xI xs i 4) (rg_of _) (rg_of _) (rg_of _) (rg_of _)) mv_X5_see kw_585 cf5 (by decide) rfl rfl hl.1 rfl (Nat.le_of_ble_eq_true rfl) ⟨by decide, by decide⟩ ⟨by decide, by decide⟩ dL_law_683) hB (fun q1 σ1 z1 H locs hq1 hc hB => ?_)
  have hf : ∀ i k, 111 ≤ i → σ1 i k = σ i k := fun i k h => hc.2.1 i k (by simp [wTc, wF, wKp, wNw, wNd, wSg, wTr, wPg3, wSe]; omega)
  have hrow : ∀ i, 111 ≤ i → σ1 i = σ i := fun i h => funext fun k => hf i k h
  have h114 : σ1 114 = σ 114 := hrow 114 (by decide)
  refine lv_aload_n hx hb dL_law_686 rfl (lv_at hl 1 rfl) ?_
  refine law_arg F hB 1 (by omega) rfl hl dL_law_687 dL_law_688 dL_law_689 dL_law_690 dL_law_691 ?_
  refine law_arg F hB 2 (by omega) rfl hl dL_law_692 dL_law_693 dL_law_694 dL_law_695 dL_law_696 ?_
  refine law_arg F hB 3 (by omega) rfl hl dL_law_697 dL_law_698 dL_law_699 dL_law_700 dL_law_701 ?_
  refine law_arg F hB 4 (by omega) rfl hl dL_law_702 dL_law_703 dL_law_704 dL_law_705 dL_law_706 ?_
  refine g_calli (g_runV (i := 111) (As := [.int (iZ (xI xs i 1)), .int (iZ (xI xs i 2)), .int (iZ (xI xs i 3)), .int (iZ (xI xs i 4))]) (rest := [.int (iZ q1)]) hx hb hml hown hts hK hst hB (mX6_see l θ hθ σ1 z1 n (by rw [hf 111 11 (by decide)]; exact hG.1.2.1) (hG.se hf) (xI xs i 1) (xI xs i 2) (xI xs i 3) (xI xs i 4) (rg_of _) (rg_of _) (rg_of _) (rg_of _)) mv_X6_see kw_980 cf6 (by decide) rfl rfl hl.1 rfl (Nat.le_of_ble_eq_true rfl) ⟨by decide, by decide⟩ ⟨by decide, by decide⟩ dL_law_707) hB (fun q2 σ2 z2 H locs hq2 hm hB => ?_)
  obtain ⟨hq, hI2⟩ := st_see hT hP hD hG hKk hz hc hm
  exact z_icmp_eq (tgt := 953) hx hb dL_law_710 (by decide) hq1 hq2 (fun _ => kk σ2 z2 _ _ hI2 hB) (fun h => absurd hq h)
set_option maxHeartbeats 4000000 in
theorem law_unsee (l : Launch) {p : Program} {e : Env} {s : State} {m : MethodId} {args : Array Value} {below : List Frame} {meth : Method} {c : Code} {Q : State → Prop} {θ : gT} {b L : Nat} {xs : Nat → Int32} (F : LF θ b L xs p s m args c) {i : Nat} (hi : i + 6 ≤ L) {σ : gS} {z : gZ} (hI : IV σ z) {H : Heap} {locs : List Loc} (hB : gB θ σ z s.heap H locs) {ls : Array Slot} (hl : lv_has ls 4 (lwL θ b i)) (kk : ∀ (σ : gS) (z : gZ) (H : Heap) (locs : List Loc), IV σ z → gB θ σ z s.heap H locs → W p l e room_1 s m args below meth c H locs 129 2881 Q (F0 m 953 ls [])) : W p l e room_1 s m args below meth c H locs 129 2881 Q (F0 m 715 ls []) := by
  obtain ⟨⟨hx, hb, hml, hown, hts, hK, hst⟩, -, hL, hθ⟩ := id F
  obtain ⟨len, N, D, o, n, hT, hP, hD, hG, hKk, hz⟩ := hI
  refine lv_aload_n hx hb dL_law_715 rfl (lv_at hl 2 rfl) ?_
  refine g_calli (g_runV (i := 0) (As := []) (rest := []) hx hb hml hown hts hK hst hB (mX5_unsee l θ hθ σ z ) mv_X5_unsee kw_593 cf5 (by decide) rfl rfl hl.1 rfl (Nat.le_of_ble_eq_true rfl) ⟨by decide, by decide⟩ ⟨by decide, by decide⟩ dL_law_716) hB (fun q1 σ1 z1 H locs hq1 hc hB => ?_)
  have hf : ∀ i k, 111 ≤ i → σ1 i k = σ i k := fun i k h => by rw [hc.1.2]; exact up2_c _ _ (by omega)
  have hrow : ∀ i, 111 ≤ i → σ1 i = σ i := fun i h => funext fun k => hf i k h
  have h114 : σ1 114 = σ 114 := hrow 114 (by decide)
  refine lv_aload_n hx hb dL_law_719 rfl (lv_at hl 1 rfl) ?_
  refine g_calli (g_runV (i := 111) (As := []) (rest := [.int (iZ q1)]) hx hb hml hown hts hK hst hB (mX6_unsee l θ hθ σ1 z1 n (by rw [hf 111 11 (by decide)]; exact hG.1.2.1) (hG.se hf)) mv_X6_unsee kw_986 cf6 (by decide) rfl rfl hl.1 rfl (Nat.le_of_ble_eq_true rfl) ⟨by decide, by decide⟩ ⟨by decide, by decide⟩ dL_law_720) hB (fun q2 σ2 z2 H locs hq2 hm hB => ?_)
  obtain ⟨hq, hI2⟩ := st_unsee hT hP hD hG hKk hz hc hm
  exact z_icmp_eq (tgt := 953) hx hb dL_law_723 (by decide) hq1 hq2 (fun _ => kk σ2 z2 _ _ hI2 hB) (fun h => absurd hq h)
set_option maxHeartbeats 4000000 in
theorem law_inputs (l : Launch) {p : Program} {e : Env} {s : State} {m : MethodId} {args : Array Value} {below : List Frame} {meth : Method} {c : Code} {Q : State → Prop} {θ : gT} {b L : Nat} {xs : Nat → Int32} (F : LF θ b L xs p s m args c) {i : Nat} (hi : i + 6 ≤ L) {σ : gS} {z : gZ} (hI : IV σ z) {H : Heap} {locs : List Loc} (hB : gB θ σ z s.heap H locs) {ls : Array Slot} (hl : lv_has ls 4 (lwL θ b i)) (kk : ∀ (σ : gS) (z : gZ) (H : Heap) (locs : List Loc), IV σ z → gB θ σ z s.heap H locs → W p l e room_1 s m args below meth c H locs 129 2881 Q (F0 m 953 ls [])) : W p l e room_1 s m args below meth c H locs 129 2881 Q (F0 m 728 ls []) := by
  obtain ⟨⟨hx, hb, hml, hown, hts, hK, hst⟩, -, hL, hθ⟩ := id F
  obtain ⟨len, N, D, o, n, hT, hP, hD, hG, hKk, hz⟩ := hI
  refine lv_aload_n hx hb dL_law_728 rfl (lv_at hl 2 rfl) ?_
  refine law_arg F hB 1 (by omega) rfl hl dL_law_729 dL_law_730 dL_law_731 dL_law_732 dL_law_733 ?_
  refine g_calli (g_runV (i := 0) (As := [.int (iZ (xI xs i 1))]) (rest := []) hx hb hml hown hts hK hst hB (mX5_inputs l θ hθ σ z N (Tm (σ 114) N) hP.n0 hP.cw.2.1 hP.1.2.2.2.1 hP.tt n hG.1.1 hG.1.2.2 (fun j hj => ((hG.2 j hj).2.2.2)) (fun j hj => ⟨by have := (hG.2 j hj).2.1; omega, by have := (hG.2 j hj).2.1; omega⟩) (xI xs i 1) (rg_of _)) mv_X5_inputs kw_597 cf5 (by decide) rfl rfl hl.1 rfl (Nat.le_of_ble_eq_true rfl) ⟨by decide, by decide⟩ ⟨by decide, by decide⟩ dL_law_734) hB (fun q1 σ1 z1 H locs hq1 hc hB => ?_)
  have hf : ∀ i k, 111 ≤ i → σ1 i k = σ i k := fun i k h => hc.2.1 i k (by simp [wTc, wF, wKp, wNw, wNd, wSg, wTr, wPg3, wSe]; omega)
  have hrow : ∀ i, 111 ≤ i → σ1 i = σ i := fun i h => funext fun k => hf i k h
  have h114 : σ1 114 = σ 114 := hrow 114 (by decide)
  refine lv_aload_n hx hb dL_law_737 rfl (lv_at hl 1 rfl) ?_
  refine law_arg F hB 1 (by omega) rfl hl dL_law_738 dL_law_739 dL_law_740 dL_law_741 dL_law_742 ?_
  refine g_calli (g_runV (i := 111) (As := [.int (iZ (xI xs i 1))]) (rest := [.int (iZ q1)]) hx hb hml hown hts hK hst hB (mX6_inputs l θ hθ σ1 z1 (by rw [h114]; exact hP.wf) N (by rw [h114]; exact hP.g0) (by rw [h114]; exact hP.1.2.2.1) n (by rw [hf 111 11 (by decide)]; exact hG.1.2.1) (hG.se hf) (xI xs i 1) (rg_of _)) mv_X6_inputs kw_990 cf6 (by decide) rfl rfl hl.1 rfl (Nat.le_of_ble_eq_true rfl) ⟨by decide, by decide⟩ ⟨by decide, by decide⟩ dL_law_743) hB (fun q2 σ2 z2 H locs hq2 hm hB => ?_)
  obtain ⟨hq, hI2⟩ := st_inputs hT hP hD hG hKk hz hc hm
  exact z_icmp_eq (tgt := 953) hx hb dL_law_746 (by decide) hq1 hq2 (fun _ => kk σ2 z2 _ _ hI2 hB) (fun h => absurd hq h)
set_option maxHeartbeats 4000000 in
theorem law_odds (l : Launch) {p : Program} {e : Env} {s : State} {m : MethodId} {args : Array Value} {below : List Frame} {meth : Method} {c : Code} {Q : State → Prop} {θ : gT} {b L : Nat} {xs : Nat → Int32} (F : LF θ b L xs p s m args c) {i : Nat} (hi : i + 6 ≤ L) {σ : gS} {z : gZ} (hI : IV σ z) {H : Heap} {locs : List Loc} (hB : gB θ σ z s.heap H locs) {ls : Array Slot} (hl : lv_has ls 4 (lwL θ b i)) (kk : ∀ (σ : gS) (z : gZ) (H : Heap) (locs : List Loc), IV σ z → gB θ σ z s.heap H locs → W p l e room_1 s m args below meth c H locs 129 2881 Q (F0 m 953 ls [])) : W p l e room_1 s m args below meth c H locs 129 2881 Q (F0 m 751 ls []) := by
  obtain ⟨⟨hx, hb, hml, hown, hts, hK, hst⟩, -, hL, hθ⟩ := id F
  obtain ⟨len, N, D, o, n, hT, hP, hD, hG, hKk, hz⟩ := hI
  obtain ⟨h5, h5e⟩ : ∃ h : Int, h = if xI xs i 5 = 0 then 0 else 1 := ⟨_, rfl⟩
  have hh5 : 0 ≤ h5 ∧ h5 ≤ 1 := by rw [h5e]; split <;> omega
  refine lv_aload_n hx hb dL_law_751 rfl (lv_at hl 2 rfl) ?_
  refine law_arg F hB 1 (by omega) rfl hl dL_law_752 dL_law_753 dL_law_754 dL_law_755 dL_law_756 ?_
  refine law_arg F hB 2 (by omega) rfl hl dL_law_757 dL_law_758 dL_law_759 dL_law_760 dL_law_761 ?_
  refine law_arg F hB 3 (by omega) rfl hl dL_law_762 dL_law_763 dL_law_764 dL_law_765 dL_law_766 ?_
  refine law_arg F hB 4 (by omega) rfl hl dL_law_767 dL_law_768 dL_law_769 dL_law_770 dL_law_771 ?_
  refine law_arg F hB 5 (by omega) rfl hl dL_law_772 dL_law_773 dL_law_774 dL_law_775 dL_law_776 ?_
  refine law_bool hx hb (tgt := 784) dL_law_777 dL_law_780 dL_law_781 dL_law_784 (by decide) (by decide) (rg_of _) h5e ?_
  refine g_calli (g_runV (i := 0) (As := [.int (iZ (xI xs i 1)), .int (iZ (xI xs i 2)), .int (iZ (xI xs i 3)), .int (iZ (xI xs i 4)), .int (iZ h5)]) (rest := []) hx hb hml hown hts hK hst hB (mX5_odds l θ hθ σ z N (Tm (σ 114) N) hP.n0 hP.cw.2.1 hP.1.2.2.2.1 hP.tt (xI xs i 1) (xI xs i 2) (xI xs i 3) (xI xs i 4) h5 (rg_of _) (rg_of _) (rg_of _) (rg_of _) hh5) mv_X5_odds kw_615 cf5 (by decide) rfl rfl hl.1 rfl (Nat.le_of_ble_eq_true rfl) ⟨by decide, by decide⟩ ⟨by decide, by decide⟩ dL_law_785) hB (fun q1 σ1 z1 H locs hq1 hc hB => ?_)
  have hf : ∀ i k, 111 ≤ i → σ1 i k = σ i k := fun i k h => hc.2.1 i k (by simp [wTc, wF, wKp, wNw, wNd, wSg, wTr, wPg3, wSe]; omega)
  have hrow : ∀ i, 111 ≤ i → σ1 i = σ i := fun i h => funext fun k => hf i k h
  have h114 : σ1 114 = σ 114 := hrow 114 (by decide)
  refine lv_aload_n hx hb dL_law_788 rfl (lv_at hl 1 rfl) ?_
  refine law_arg F hB 1 (by omega) rfl hl dL_law_789 dL_law_790 dL_law_791 dL_law_792 dL_law_793 ?_
  refine law_arg F hB 2 (by omega) rfl hl dL_law_794 dL_law_795 dL_law_796 dL_law_797 dL_law_798 ?_
  refine law_arg F hB 3 (by omega) rfl hl dL_law_799 dL_law_800 dL_law_801 dL_law_802 dL_law_803 ?_
  refine law_arg F hB 4 (by omega) rfl hl dL_law_804 dL_law_805 dL_law_806 dL_law_807 dL_law_808 ?_
  refine law_arg F hB 5 (by omega) rfl hl dL_law_809 dL_law_810 dL_law_811 dL_law_812 dL_law_813 ?_
  refine law_bool hx hb (tgt := 821) dL_law_814 dL_law_817 dL_law_818 dL_law_821 (by decide) (by decide) (rg_of _) h5e ?_
  refine g_calli (g_runV (i := 111) (As := [.int (iZ (xI xs i 1)), .int (iZ (xI xs i 2)), .int (iZ (xI xs i 3)), .int (iZ (xI xs i 4)), .int (iZ h5)]) (rest := [.int (iZ q1)]) hx hb hml hown hts hK hst hB (mX6_odds l θ hθ σ1 z1 (by rw [h114]; exact hP.wf) N (by rw [h114]; exact hP.g0) (by rw [h114]; exact hP.1.2.2.1) (xI xs i 1) (xI xs i 2) (xI xs i 3) (xI xs i 4) h5 (rg_of _) (rg_of _) (rg_of _) (rg_of _) hh5) mv_X6_odds kw_998 cf6 (by decide) rfl rfl hl.1 rfl (Nat.le_of_ble_eq_true rfl) ⟨by decide, by decide⟩ ⟨by decide, by decide⟩ dL_law_822) hB (fun q2 σ2 z2 H locs hq2 hm hB => ?_)
  obtain ⟨hq, hI2⟩ := st_odds hT hP hD hG hKk hz hc hm
  exact z_icmp_eq (tgt := 953) hx hb dL_law_825 (by decide) hq1 hq2 (fun _ => kk σ2 z2 _ _ hI2 hB) (fun h => absurd hq h)
set_option maxHeartbeats 4000000 in
theorem law_seed (l : Launch) {p : Program} {e : Env} {s : State} {m : MethodId} {args : Array Value} {below : List Frame} {meth : Method} {c : Code} {Q : State → Prop} {θ : gT} {b L : Nat} {xs : Nat → Int32} (F : LF θ b L xs p s m args c) {i : Nat} (hi : i + 6 ≤ L) {σ : gS} {z : gZ} (hI : IV σ z) {H : Heap} {locs : List Loc} (hB : gB θ σ z s.heap H locs) {ls : Array Slot} (hl : lv_has ls 4 (lwL θ b i)) (kk : ∀ (σ : gS) (z : gZ) (H : Heap) (locs : List Loc), IV σ z → gB θ σ z s.heap H locs → W p l e room_1 s m args below meth c H locs 129 2881 Q (F0 m 953 ls [])) : W p l e room_1 s m args below meth c H locs 129 2881 Q (F0 m 830 ls []) := by
  obtain ⟨⟨hx, hb, hml, hown, hts, hK, hst⟩, -, hL, hθ⟩ := id F
  obtain ⟨len, N, D, o, n, hT, hP, hD, hG, hKk, hz⟩ := hI
  refine lv_aload_n hx hb dL_law_830 rfl (lv_at hl 2 rfl) ?_
  refine law_long F hB 1 (by omega) rfl rfl hl dL_law_831 dL_law_832 dL_law_833 dL_law_834 dL_law_835 dL_law_836 dL_law_837 dL_law_839 dL_law_840 dL_law_841 dL_law_842 dL_law_843 dL_law_844 dL_law_845 dL_law_846 dL_law_849 dL_law_850 ?_
  refine g_calll (g_runV (i := 0) (As := [.long (xL (xs (i + 1)) (xs (i + 2)))]) (rest := []) hx hb hml hown hts hK hst hB (mX5_seed l θ hθ σ z (xL (xs (i + 1)) (xs (i + 2)))) mv_X5_seed kw_630 cf5 (by decide) rfl rfl hl.1 rfl (Nat.le_of_ble_eq_true rfl) ⟨by decide, by decide⟩ ⟨by decide, by decide⟩ dL_law_851) hB (fun q1 σ1 z1 H locs hc hB => ?_)
  have hf : ∀ i k, 111 ≤ i → σ1 i k = σ i k := fun i k h => by rw [hc.2]
  have hrow : ∀ i, 111 ≤ i → σ1 i = σ i := fun i h => funext fun k => hf i k h
  have h114 : σ1 114 = σ 114 := hrow 114 (by decide)
  refine lv_aload_n hx hb dL_law_854 rfl (lv_at hl 1 rfl) ?_
  refine law_long F hB 1 (by omega) rfl rfl hl dL_law_855 dL_law_856 dL_law_857 dL_law_858 dL_law_859 dL_law_860 dL_law_861 dL_law_863 dL_law_864 dL_law_865 dL_law_866 dL_law_867 dL_law_868 dL_law_869 dL_law_870 dL_law_873 dL_law_874 ?_
  refine g_calll (g_runV (i := 111) (As := [.long (xL (xs (i + 1)) (xs (i + 2)))]) (rest := [.long q1]) hx hb hml hown hts hK hst hB (mX6_seed l θ hθ σ1 z1 (xL (xs (i + 1)) (xs (i + 2)))) mv_X6_seed kw_1016 cf6 (by decide) rfl rfl hl.1 rfl (Nat.le_of_ble_eq_true rfl) ⟨by decide, by decide⟩ ⟨by decide, by decide⟩ dL_law_875) hB (fun q2 σ2 z2 H locs hm hB => ?_)
  obtain ⟨hq, hI2⟩ := st_seed hT hP hD hG hKk hz hc hm
  subst hq
  rw [← lZ_of q1]
  refine z_lcmp hx hb dL_law_878 (rgL_of _) (rgL_of _) ?_
  exact z_if_eq (tgt := 953) hx hb dL_law_879 (by decide) (by unfold cmpZ; rw [if_neg (by omega), if_pos rfl]; exact rg_0) (fun _ => kk σ2 z2 _ _ hI2 hB) (fun h => absurd (by unfold cmpZ; rw [if_neg (by omega), if_pos rfl]) h)
set_option maxHeartbeats 4000000 in
theorem law_runs (l : Launch) {p : Program} {e : Env} {s : State} {m : MethodId} {args : Array Value} {below : List Frame} {meth : Method} {c : Code} {Q : State → Prop} {θ : gT} {b L : Nat} {xs : Nat → Int32} (F : LF θ b L xs p s m args c) {i : Nat} (hi : i + 6 ≤ L) {σ : gS} {z : gZ} (hI : IV σ z) {H : Heap} {locs : List Loc} (hB : gB θ σ z s.heap H locs) {ls : Array Slot} (hl : lv_has ls 4 (lwL θ b i)) (kk : ∀ (σ : gS) (z : gZ) (H : Heap) (locs : List Loc), IV σ z → gB θ σ z s.heap H locs → W p l e room_1 s m args below meth c H locs 129 2881 Q (F0 m 953 ls [])) : W p l e room_1 s m args below meth c H locs 129 2881 Q (F0 m 884 ls []) := by
  obtain ⟨⟨hx, hb, hml, hown, hts, hK, hst⟩, -, hL, hθ⟩ := id F
  obtain ⟨len, N, D, o, n, hT, hP, hD, hG, hKk, hz⟩ := hI
  refine lv_aload_n hx hb dL_law_884 rfl (lv_at hl 2 rfl) ?_
  refine law_arg F hB 1 (by omega) rfl hl dL_law_885 dL_law_886 dL_law_887 dL_law_888 dL_law_889 ?_
  refine g_calli (g_runV (i := 0) (As := [.int (iZ (xI xs i 1))]) (rest := []) hx hb hml hown hts hK hst hB (mX5_runs l θ hθ σ z N (Tm (σ 114) N) hP.n0 hP.cw.2.1 hP.1.2.2.2.1 hP.tt (xI xs i 1) (rg_of _)) mv_X5_runs kw_634 cf5 (by decide) rfl rfl hl.1 rfl (Nat.le_of_ble_eq_true rfl) ⟨by decide, by decide⟩ ⟨by decide, by decide⟩ dL_law_890) hB (fun q1 σ1 z1 H locs hq1 hc hB => ?_)
  have hf : ∀ i k, 111 ≤ i → σ1 i k = σ i k := fun i k h => hc.2 i k (by simp [wF]; omega)
  have hrow : ∀ i, 111 ≤ i → σ1 i = σ i := fun i h => funext fun k => hf i k h
  have h114 : σ1 114 = σ 114 := hrow 114 (by decide)
  refine lv_aload_n hx hb dL_law_893 rfl (lv_at hl 1 rfl) ?_
  refine law_arg F hB 1 (by omega) rfl hl dL_law_894 dL_law_895 dL_law_896 dL_law_897 dL_law_898 ?_
  refine g_calli (g_runV (i := 111) (As := [.int (iZ (xI xs i 1))]) (rest := [.int (iZ q1)]) hx hb hml hown hts hK hst hB (mX6_runs l θ hθ σ1 z1 (by rw [h114]; exact hP.wf) N (by rw [h114]; exact hP.g0) (by rw [h114]; exact hP.1.2.2.1) (xI xs i 1) (rg_of _)) mv_X6_runs kw_1020 cf6 (by decide) rfl rfl hl.1 rfl (Nat.le_of_ble_eq_true rfl) ⟨by decide, by decide⟩ ⟨by decide, by decide⟩ dL_law_899) hB (fun q2 σ2 z2 H locs hq2 hm hB => ?_)
  obtain ⟨hq, hI2⟩ := st_runs hT hP hD hG hKk hz hc hm
  exact z_icmp_eq (tgt := 953) hx hb dL_law_902 (by decide) hq1 hq2 (fun _ => kk σ2 z2 _ _ hI2 hB) (fun h => absurd hq h)
set_option maxHeartbeats 4000000 in
theorem law_keep (l : Launch) {p : Program} {e : Env} {s : State} {m : MethodId} {args : Array Value} {below : List Frame} {meth : Method} {c : Code} {Q : State → Prop} {θ : gT} {b L : Nat} {xs : Nat → Int32} (F : LF θ b L xs p s m args c) {i : Nat} (hi : i + 6 ≤ L) {σ : gS} {z : gZ} (hI : IV σ z) {H : Heap} {locs : List Loc} (hB : gB θ σ z s.heap H locs) {ls : Array Slot} (hl : lv_has ls 4 (lwL θ b i)) (kk : ∀ (σ : gS) (z : gZ) (H : Heap) (locs : List Loc), IV σ z → gB θ σ z s.heap H locs → W p l e room_1 s m args below meth c H locs 129 2881 Q (F0 m 953 ls [])) : W p l e room_1 s m args below meth c H locs 129 2881 Q (F0 m 907 ls []) := by
  obtain ⟨⟨hx, hb, hml, hown, hts, hK, hst⟩, -, hL, hθ⟩ := id F
  obtain ⟨len, N, D, o, n, hT, hP, hD, hG, hKk, hz⟩ := hI
  refine lv_aload_n hx hb dL_law_907 rfl (lv_at hl 2 rfl) ?_
  refine law_arg F hB 1 (by omega) rfl hl dL_law_908 dL_law_909 dL_law_910 dL_law_911 dL_law_912 ?_
  refine g_calli (g_runV (i := 0) (As := [.int (iZ (xI xs i 1))]) (rest := []) hx hb hml hown hts hK hst hB (mX5_keep l θ hθ σ z (xI xs i 1) (rg_of _)) mv_X5_keep kw_644 cf5 (by decide) rfl rfl hl.1 rfl (Nat.le_of_ble_eq_true rfl) ⟨by decide, by decide⟩ ⟨by decide, by decide⟩ dL_law_913) hB (fun q1 σ1 z1 H locs hq1 hc hB => ?_)
  have hf : ∀ i k, 111 ≤ i → σ1 i k = σ i k := fun i k h => hc.2.1 i k (by simp [wTc, wF, wKp, wNw, wNd, wSg, wTr, wPg3, wSe]; omega)
  have hrow : ∀ i, 111 ≤ i → σ1 i = σ i := fun i h => funext fun k => hf i k h
  have h114 : σ1 114 = σ 114 := hrow 114 (by decide)
  refine lv_aload_n hx hb dL_law_916 rfl (lv_at hl 1 rfl) ?_
  refine law_arg F hB 1 (by omega) rfl hl dL_law_917 dL_law_918 dL_law_919 dL_law_920 dL_law_921 ?_
  refine g_calli (g_runV (i := 111) (As := [.int (iZ (xI xs i 1))]) (rest := [.int (iZ q1)]) hx hb hml hown hts hK hst hB (mX6_keep l θ hθ σ1 z1 (xI xs i 1) (rg_of _)) mv_X6_keep kw_1031 cf6 (by decide) rfl rfl hl.1 rfl (Nat.le_of_ble_eq_true rfl) ⟨by decide, by decide⟩ ⟨by decide, by decide⟩ dL_law_922) hB (fun q2 σ2 z2 H locs hq2 hm hB => ?_)
  obtain ⟨hq, hI2⟩ := st_keep hT hP hD hG hKk hz hc hm
  exact z_icmp_eq (tgt := 953) hx hb dL_law_925 (by decide) hq1 hq2 (fun _ => kk σ2 z2 _ _ hI2 hB) (fun h => absurd hq h)
set_option maxHeartbeats 4000000 in
theorem law_again (l : Launch) {p : Program} {e : Env} {s : State} {m : MethodId} {args : Array Value} {below : List Frame} {meth : Method} {c : Code} {Q : State → Prop} {θ : gT} {b L : Nat} {xs : Nat → Int32} (F : LF θ b L xs p s m args c) {i : Nat} (hi : i + 6 ≤ L) {σ : gS} {z : gZ} (hI : IV σ z) {H : Heap} {locs : List Loc} (hB : gB θ σ z s.heap H locs) {ls : Array Slot} (hl : lv_has ls 4 (lwL θ b i)) (kk : ∀ (σ : gS) (z : gZ) (H : Heap) (locs : List Loc), IV σ z → gB θ σ z s.heap H locs → W p l e room_1 s m args below meth c H locs 129 2881 Q (F0 m 953 ls [])) : W p l e room_1 s m args below meth c H locs 129 2881 Q (F0 m 930 ls []) := by
  obtain ⟨⟨hx, hb, hml, hown, hts, hK, hst⟩, -, hL, hθ⟩ := id F
  obtain ⟨len, N, D, o, n, hT, hP, hD, hG, hKk, hz⟩ := hI
  refine lv_aload_n hx hb dL_law_930 rfl (lv_at hl 2 rfl) ?_
  refine law_arg F hB 1 (by omega) rfl hl dL_law_931 dL_law_932 dL_law_933 dL_law_934 dL_law_935 ?_
  refine g_calli (g_runV (i := 0) (As := [.int (iZ (xI xs i 1))]) (rest := []) hx hb hml hown hts hK hst hB (mX5_again l θ hθ σ z (Nk σ) hKk.cw (xI xs i 1) (rg_of _)) mv_X5_again kw_649 cf5 (by decide) rfl rfl hl.1 rfl (Nat.le_of_ble_eq_true rfl) ⟨by decide, by decide⟩ ⟨by decide, by decide⟩ dL_law_936) hB (fun q1 σ1 z1 H locs hq1 hc hB => ?_)
  have hf : ∀ i k, 111 ≤ i → σ1 i k = σ i k := fun i k h => hc.2.1 i k (by simp [wTc, wF, wKp, wNw, wNd, wSg, wTr, wPg3, wSe]; omega)
  have hrow : ∀ i, 111 ≤ i → σ1 i = σ i := fun i h => funext fun k => hf i k h
  have h114 : σ1 114 = σ 114 := hrow 114 (by decide)
  refine lv_aload_n hx hb dL_law_939 rfl (lv_at hl 1 rfl) ?_
  refine law_arg F hB 1 (by omega) rfl hl dL_law_940 dL_law_941 dL_law_942 dL_law_943 dL_law_944 ?_
  refine g_calli (g_runV (i := 111) (As := [.int (iZ (xI xs i 1))]) (rest := [.int (iZ q1)]) hx hb hml hown hts hK hst hB (mX6_again l θ hθ σ1 z1 (xI xs i 1) (rg_of _)) mv_X6_again kw_1035 cf6 (by decide) rfl rfl hl.1 rfl (Nat.le_of_ble_eq_true rfl) ⟨by decide, by decide⟩ ⟨by decide, by decide⟩ dL_law_945) hB (fun q2 σ2 z2 H locs hq2 hm hB => ?_)
  obtain ⟨hq, hI2⟩ := st_again hT hP hD hG hKk hz hc hm
  exact z_icmp_eq (tgt := 953) hx hb dL_law_948 (by decide) hq1 hq2 (fun _ => kk σ2 z2 _ _ hI2 hB) (fun h => absurd hq h)
