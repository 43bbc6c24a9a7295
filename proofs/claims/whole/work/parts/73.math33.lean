theorem exK_r {σ σ' : gS} {n L : Nat} {R : Nat → Nat → Int} (e4 : σ' 94 = σ 94) (e5 : σ' 95 = σ 95) (e6 : σ' 96 = σ 96) (e7 : σ' 97 = σ 97) : exK σ' n L R = exK σ n L R := by
  unfold exK
  rw [e4, e5, e6, e7]
def wTr (i k : Nat) : Bool := wF 8 i k || i == 100
theorem tr_8 (i k : Nat) (h : wF 8 i k = true) : wTr i k = true := by unfold wTr; rw [h]; rfl
theorem fp_tr {σ σ' : gS} (h : fr wTr σ σ') : fp σ' 3 = fp σ 3 := fp_fr h ⟨rfl, rfl, fun j k h1 h2 => by simp [wTr, wF]; omega⟩
theorem fp_upr {σ : gS} {i f : Nat} {r : Nat → Int} (h : i < f ∨ f + 4 < i) : fp (upr σ i r) f = fp σ f := by
  refine fp_cong ?_ (fun s _ => ?_) (fun s _ => ?_) (fun s _ => ?_) (fun s _ => ?_) ?_ <;> rw [upr_c _ _ (by omega)]
theorem cpR_in {f g : Nat → Int} {dp n s : Nat} (h : s < n) : cpR f g 0 dp n (dp + s) = f s := by
  unfold cpR; rw [if_pos (by omega), show 0 + (dp + s - dp) = s by omega]
theorem cpR_out {f g : Nat → Int} {dp n k : Nat} (h : k < dp ∨ dp + n ≤ k) : cpR f g 0 dp n k = g k := by
  unfold cpR; rw [if_neg (by omega)]
