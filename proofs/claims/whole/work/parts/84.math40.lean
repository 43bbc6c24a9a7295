/-! the reference's clocks w and the class's clocks v -/
def cnv (x : Int) : Int := if x = -9 then -1 else if x = -1 then -2 else x
/-- v is w, seen by the class: what a stream's clock is; streams made like are in one group; of those with no clock yet just these are -/
def cR (w v : mC) : Prop := ∀ s, s < 8 → v.2 (v.1 s) = cnv (w.2 (rt w.1 s)) ∧ ∀ r, r < 8 → (rt w.1 r = rt w.1 s → v.1 r = v.1 s) ∧ (w.2 (rt w.1 s) = -9 → v.1 r = v.1 s → rt w.1 r = rt w.1 s)
theorem cnv_sp (x : Int) : (x = -9 ∧ cnv x = -1) ∨ (x = -1 ∧ cnv x = -2) ∨ (x ≠ -9 ∧ x ≠ -1 ∧ cnv x = x) := by
  unfold cnv
  split
  · omega
  · split <;> omega
theorem cR_0 : cR (fun s => s, fun _ => -9) (fun s => s, fun _ => -1) := by
  have h1 : ∀ j k, itr (fun s => s) j k = k := fun j k => by induction j with
    | zero => rfl
    | succ j ih => exact ih
  have h2 : ∀ k, rt (fun s => s) k = k := fun k => h1 8 k
  intro s hs
  refine ⟨rfl, fun r hr => ⟨fun h => ?_, fun _ h => ?_⟩⟩
  · have h3 : rt (fun s => s) r = rt (fun s => s) s := h
    rw [h2, h2] at h3; exact h3
  · show rt (fun s => s) r = rt (fun s => s) s
    rw [h2, h2]; exact h
