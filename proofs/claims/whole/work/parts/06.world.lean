/-! THE WORLD: one list of cells for the class and the reference together, in the order in which they are made.
σ: the ints (cell, place), z: the longs (cell), ρ: the references (cell, place) -/
abbrev gS : Type := Nat → Nat → Int
abbrev gZ : Type := Nat → Int64
abbrev gQ : Type := Nat → Nat → Option Nat
/-- kinds of cells: 0 .. 6 objects (their class's number in vwCl), 7 int[], 8 boolean[], 9 Flow[] -/
def ckL : List Nat := [5, 4, 7, 1, 7, 7, 7, 7, 1, 7, 7, 7, 7, 2, 7, 7, 7, 7, 7, 7, 7, 0, 9,
  1, 7, 7, 7, 7, 1, 7, 7, 7, 7, 1, 7, 7, 7, 7, 1, 7, 7, 7, 7, 1, 7, 7, 7, 7, 1, 7, 7, 7, 7, 1, 7, 7, 7, 7,
  1, 7, 7, 7, 7, 1, 7, 7, 7, 7, 1, 7, 7, 7, 7, 1, 7, 7, 7, 7, 1, 7, 7, 7, 7, 1, 7, 7, 7, 7, 1, 7, 7, 7, 7,
  3, 7, 7, 7, 8, 9, 8, 7, 1, 7, 7, 7, 7, 1, 7, 7, 7, 7,
  6, 7, 7, 7, 7, 7, 7, 8, 7, 7, 7, 7, 7, 7, 7, 7, 7, 7]
def cnL : List Nat := [0, 0, 40, 0, 8, 24, 8, 8, 0, 8, 24, 8, 8, 0, 8, 8, 8, 8, 8, 8, 8, 0, 14,
  0, 8, 24, 8, 8, 0, 8, 24, 8, 8, 0, 8, 24, 8, 8, 0, 8, 24, 8, 8, 0, 8, 24, 8, 8, 0, 8, 24, 8, 8, 0, 8, 24, 8, 8,
  0, 8, 24, 8, 8, 0, 8, 24, 8, 8, 0, 8, 24, 8, 8, 0, 8, 24, 8, 8, 0, 8, 24, 8, 8, 0, 8, 24, 8, 8, 0, 8, 24, 8, 8,
  0, 6, 6, 6, 6, 2, 2, 328, 0, 8, 24, 8, 8, 0, 8, 24, 8, 8,
  0, 40, 50, 50, 50, 700, 100, 2, 6, 6, 6, 6, 8, 8, 8, 8, 8, 328]
def ck (i : Nat) : Nat := ckL.getD i 10
def cn (i : Nat) : Nat := cnL.getD i 0
/-- the fields of a class: 0 int, 1 a reference, 2 long -/
def ftL : List (List Nat) := [[0, 0, 1], [0, 0, 1, 1, 1, 1], [0, 0, 0, 0, 1, 1, 1, 1, 1, 1, 1], [0, 1, 1, 1, 1], [1, 0], [1, 1, 1, 1, 1, 1, 1, 1, 1, 2], [0, 1, 0, 0, 1, 1, 1, 1, 0, 1, 1, 0, 1, 1, 1, 1, 2, 1, 1, 0, 0, 0, 1, 1, 1, 1, 0, 0]]
def ft (c k : Nat) : Nat := (ftL.getD c []).getD k 3
def nf (c : Nat) : Nat := (ftL.getD c []).length
/-- where a reference leads: cell, place -/
def tgL (i : Nat) : List Nat := match i with
  | 0 => [1, 3, 8, 13, 21, 93, 98, 99, 100]
  | 1 => [2]
  | 13 => [0, 0, 0, 0, 14, 15, 16, 17, 18, 19, 20]
  | 21 => [0, 0, 22]
  | 93 => [0, 94, 95, 96, 97]
  | 111 => [0, 112, 0, 0, 113, 114, 115, 116, 0, 117, 118, 0, 119, 120, 121, 122, 0, 123, 124, 0, 0, 0, 125, 126, 127, 128]
  | _ => []
def tg (i k : Nat) : Nat := if ck i = 1 then i + k - 1 else if i = 22 then 23 + 5 * k else if i = 98 then 101 + 5 * k else (tgL i).getD k 0
/-- a place that holds a reference -/
def isr (i k : Nat) : Bool := (ck i == 9 && decide (k < cn i)) || (decide (ck i < 7) && ft (ck i) k == 1)
def gv (ρ : gQ) (σ : gS) (z : gZ) (i k : Nat) : Value := if ft (ck i) k = 0 then .int (iZ (σ i k)) else if ft (ck i) k = 1 then va_rf (ρ i k) else .long (z i)
def gE (cs : ClassId × ClassId × ClassId) (ρ : gQ) (σ : gS) (z : gZ) (i : Nat) : va_E :=
  if ck i = 7 then .inl (cs.1, cn i, .inl (fun k => iZ (σ i k)))
  else if ck i = 8 then .inl (cs.2.1, cn i, .inl (fun k => iZ (σ i k)))
  else if ck i = 9 then .inl (cs.2.2, cn i, .inr (.inr (.inr (.inr (ρ i)))))
  else .inr (ck i, (List.range (nf (ck i))).map (gv ρ σ z i))
def gWn (cs : ClassId × ClassId × ClassId) (N : Nat) (ad : Nat → Nat) (ρ : gQ) (σ : gS) (z : gZ) : va_W := (List.range N).map (fun i => (ad i, gE cs ρ σ z i))
theorem gWn_at {cs : ClassId × ClassId × ClassId} {N : Nat} {ad : Nat → Nat} {ρ : gQ} {σ : gS} {z : gZ} {i : Nat} (h : i < N) : (gWn cs N ad ρ σ z)[i]? = some (ad i, gE cs ρ σ z i) := by
  rw [gWn, List.getElem?_map, List.getElem?_range h]; rfl
theorem gWn_set {cs : ClassId × ClassId × ClassId} {N : Nat} {ad : Nat → Nat} {ρ ρ' : gQ} {σ σ' : gS} {z z' : gZ} {i : Nat} {e : va_E} (h : i < N) (he : e = gE cs ρ' σ' z' i) (ho : ∀ k, k ≠ i → gE cs ρ' σ' z' k = gE cs ρ σ z k) : (gWn cs N ad ρ σ z).set i (ad i, e) = gWn cs N ad ρ' σ' z' := by
  apply List.ext_getElem?
  intro k
  rw [List.getElem?_set]
  have hl : (gWn cs N ad ρ σ z).length = N := by rw [gWn, List.length_map, List.length_range]
  have hl' : (gWn cs N ad ρ' σ' z').length = N := by rw [gWn, List.length_map, List.length_range]
  by_cases hk : i = k
  · subst hk
    rw [if_pos rfl, if_pos (by rw [hl]; exact h), gWn_at h, he]
  · rw [if_neg hk]
    by_cases hkN : k < N
    · rw [gWn_at hkN, gWn_at hkN, ho k (fun q => hk q.symm)]
    · rw [List.getElem?_eq_none (by omega), List.getElem?_eq_none (by omega)]
theorem gE_congr {cs : ClassId × ClassId × ClassId} {ρ ρ' : gQ} {σ σ' : gS} {z z' : gZ} {i : Nat} (h1 : ρ' i = ρ i) (h2 : σ' i = σ i) (h3 : z' i = z i) : gE cs ρ' σ' z' i = gE cs ρ σ z i := by
  have : gv ρ' σ' z' i = gv ρ σ z i := by funext k; unfold gv; rw [h1, h2, h3]
  unfold gE; rw [h1, h2, this]
theorem gE_int {cs : ClassId × ClassId × ClassId} {ρ : gQ} {σ : gS} {z : gZ} {i : Nat} (h : ck i = 7) : gE cs ρ σ z i = .inl (cs.1, cn i, .inl (fun k => iZ (σ i k))) := by rw [gE, if_pos h]
theorem gE_bool {cs : ClassId × ClassId × ClassId} {ρ : gQ} {σ : gS} {z : gZ} {i : Nat} (h : ck i = 8) : gE cs ρ σ z i = .inl (cs.2.1, cn i, .inl (fun k => iZ (σ i k))) := by rw [gE, if_neg (by omega), if_pos h]
theorem gE_ref {cs : ClassId × ClassId × ClassId} {ρ : gQ} {σ : gS} {z : gZ} {i : Nat} (h : ck i = 9) : gE cs ρ σ z i = .inl (cs.2.2, cn i, .inr (.inr (.inr (.inr (ρ i))))) := by rw [gE, if_neg (by omega), if_neg (by omega), if_pos h]
theorem gE_obj {cs : ClassId × ClassId × ClassId} {ρ : gQ} {σ : gS} {z : gZ} {i ci : Nat} (h : ck i = ci) (hc : ci < 7) : gE cs ρ σ z i = .inr (ci, (List.range (nf ci)).map (gv ρ σ z i)) := by
  subst h; rw [gE, if_neg (by omega), if_neg (by omega), if_neg (by omega)]
theorem gf_at {ρ : gQ} {σ : gS} {z : gZ} {i n k : Nat} (h : k < n) : ((List.range n).map (gv ρ σ z i))[k]? = some (gv ρ σ z i k) := by
  rw [List.getElem?_map, List.getElem?_range h]; rfl
theorem gf_set {ρ ρ' : gQ} {σ σ' : gS} {z z' : gZ} {i n k : Nat} {v : Value} (hv : v = gv ρ' σ' z' i k) (ho : ∀ j, j ≠ k → j < n → gv ρ' σ' z' i j = gv ρ σ z i j) : ((List.range n).map (gv ρ σ z i)).set k v = (List.range n).map (gv ρ' σ' z' i) := by
  apply List.ext_getElem?
  intro j
  rw [List.getElem?_set]
  by_cases hk : k = j
  · subst hk
    rw [if_pos rfl]
    by_cases hn : k < n
    · rw [if_pos (by rw [List.length_map, List.length_range]; exact hn), gf_at hn, hv]
    · rw [if_neg (by rw [List.length_map, List.length_range]; exact hn), List.getElem?_eq_none (by rw [List.length_map, List.length_range]; omega)]
  · rw [if_neg hk]
    by_cases hn : j < n
    · rw [gf_at hn, gf_at hn, ho j (fun q => hk q.symm) hn]
    · rw [List.getElem?_eq_none (by rw [List.length_map, List.length_range]; omega), List.getElem?_eq_none (by rw [List.length_map, List.length_range]; omega)]
/-- one place anew -/
def up2 {α : Type} (σ : Nat → Nat → α) (i k : Nat) (v : α) : Nat → Nat → α := fun a b => if a = i ∧ b = k then v else σ a b
theorem up2_eq {α : Type} (σ : Nat → Nat → α) (i k : Nat) (v : α) : up2 σ i k v i k = v := if_pos ⟨rfl, rfl⟩
theorem up2_c {α : Type} (σ : Nat → Nat → α) {i k a b : Nat} (v : α) (h : a ≠ i) : up2 σ i k v a b = σ a b := if_neg (fun q => h q.1)
theorem up2_k {α : Type} (σ : Nat → Nat → α) {i k a b : Nat} (v : α) (h : b ≠ k) : up2 σ i k v a b = σ a b := if_neg (fun q => h q.2)
theorem up2_row {α : Type} (σ : Nat → Nat → α) {i k a : Nat} (v : α) (h : a ≠ i) : up2 σ i k v a = σ a := funext fun _ => up2_c σ v h
/-- a whole row anew -/
def upr {α : Type} (σ : Nat → α) (i : Nat) (f : α) : Nat → α := fun a => if a = i then f else σ a
theorem upr_eq {α : Type} (σ : Nat → α) (i : Nat) (f : α) : upr σ i f i = f := if_pos rfl
theorem upr_c {α : Type} (σ : Nat → α) {i a : Nat} (f : α) (h : a ≠ i) : upr σ i f a = σ a := if_neg h
/-- class numbers, addresses, references, the cells of the system, the constants' addresses -/
abbrev gT : Type := va_G × (ClassId × ClassId × ClassId) × (Nat → Prop) × (Nat → Nat) × gQ × Nat × (Nat → Nat) × (Nat → Nat)
abbrev tD (θ : gT) : va_G := θ.1
abbrev tC (θ : gT) : ClassId × ClassId × ClassId := θ.2.1
abbrev tA (θ : gT) : Nat → Prop := θ.2.2.1
abbrev tad (θ : gT) : Nat → Nat := θ.2.2.2.1
abbrev tq (θ : gT) : gQ := θ.2.2.2.2.1
abbrev tF (θ : gT) : Nat := θ.2.2.2.2.2.1
abbrev tK (θ : gT) : Nat → Nat := θ.2.2.2.2.2.2.1
abbrev tV (θ : gT) : Nat → Nat := θ.2.2.2.2.2.2.2
abbrev gW (θ : gT) (σ : gS) (z : gZ) : va_W := gWn (tC θ) 129 (tad θ) (tq θ) σ z
def gty (cs : ClassId × ClassId × ClassId) : List (ClassId × FieldType) := [(cs.1, .int), (cs.2.1, .boolean), (cs.2.2, .object RX1)]
def gR (σ : gS) : Prop := ∀ i k, rg (σ i k)
def gHp (θ : gT) (σ : gS) (z : gZ) (H : Heap) : Prop := va_P (tD θ) vwCl (gW θ σ z) H ∧ gR σ
def gFg (j : Nat) : Int := ([1, 1, 2, 2, 2, 3, 2, 1, 2, 2, 2, 3] : List Int).getD j 0
def gBy : List Int32 := [73, 75, 43, 45, 60, 63, 70, 80, 65, 87, 78, 77]
/-- what never changes: constants, links among the nest -/
def gSt (θ : gT) (U : State) : Prop :=
  (va_Z RX5 "FIGURES_OF_KIND" "[I" (.ref (tF θ)) (tA θ) U U.heap ∧ va_T .int (tF θ) 12 (fun j => .int (iZ (gFg j))) (tA θ) U U.heap) ∧
  (vk_R RX4 38 "IK+-<?FPAWNM" (tK θ 0) U ∧ vk_S 1 [12] [gBy] (tK θ) (tV θ) (tA θ) U U.heap ∧ va_Z "java/lang/String" "COMPACT_STRINGS" "Z" (.int 1) (tA θ) U U.heap) ∧
  va_Nw (.methodLinkNest RX4 35 yX5_figuresOf RX5) U ∧ va_Nw (.methodLinkNest RX4 49 yX5_isFigure RX5) U ∧ va_Nw (.methodLinkNest RX2 100 yX5_namesStream RX5) U ∧
  va_Nw (.methodLinkNest RX2 72 yX5_streamOf RX5) U ∧ va_Nw (.methodLinkNest RX0 25 yX5_carry RX5) U ∧ va_Nw (.methodLinkNest RX1 77 yX5_streamOf RX5) U
theorem gSt.to {θ : gT} {s U : State} (h : gSt θ s) (hW : s.WarmedH U.vm) (hk : ∀ a : Nat, a < s.heap.size → ¬ tA θ a → U.heap[a]? = s.heap[a]?) : gSt θ U :=
  ⟨⟨(h.1.1.moved hW.alike).kept hk, (h.1.2.moved hW.alike).kept hk⟩, ⟨h.2.1.1.warm hW, (h.2.1.2.1.moved hW.alike).kept hk, (h.2.1.2.2.moved hW.alike).kept hk⟩, h.2.2.1.warmM hW, h.2.2.2.1.warmM hW, h.2.2.2.2.1.warmM hW, h.2.2.2.2.2.1.warmM hW, h.2.2.2.2.2.2.1.warmM hW, h.2.2.2.2.2.2.2.warmM hW⟩
theorem gSt.call {θ : gT} {U : State} {g : JFrame} {mk : MethodId} {a : Array Value} (h : gSt θ U) : gSt θ (U.calling g mk a) :=
  ⟨⟨h.1.1.moved (U := U.calling g mk a) (Vm.Alike.refl U.vm), h.1.2.moved (U := U.calling g mk a) (Vm.Alike.refl U.vm)⟩, ⟨vk_R.same (U := U.calling g mk a) rfl h.2.1.1, vk_S.moved (U := U.calling g mk a) (Vm.Alike.refl U.vm) h.2.1.2.1, h.2.1.2.2.moved (U := U.calling g mk a) (Vm.Alike.refl U.vm)⟩, va_Nw.same rfl (U := U.calling g mk a) rfl h.2.2.1, va_Nw.same rfl (U := U.calling g mk a) rfl h.2.2.2.1, va_Nw.same rfl (U := U.calling g mk a) rfl h.2.2.2.2.1, va_Nw.same rfl (U := U.calling g mk a) rfl h.2.2.2.2.2.1, va_Nw.same rfl (U := U.calling g mk a) rfl h.2.2.2.2.2.2.1, va_Nw.same rfl (U := U.calling g mk a) rfl h.2.2.2.2.2.2.2⟩
def gPre (θ : gT) (σ : gS) (z : gZ) (U : State) : Prop := gHp θ σ z U.heap ∧ va_K (tD θ) vwCl (gty (tC θ)) U ∧ gSt θ U
/-- the addresses are apart and of the system, the references lead where they must -/
def gOK (θ : gT) : Prop := (∀ i j, i < 129 → j < 129 → tad θ i = tad θ j → i = j) ∧ (∀ i, i < 129 → tA θ (tad θ i)) ∧ ∀ i k, i < 129 → isr i k = true → tq θ i k = some (tad θ (tg i k))
theorem gOK.D {θ : gT} (h : gOK θ) (σ : gS) (z : gZ) : va_D (tA θ) (gW θ σ z) := by
  have at' : ∀ (k : Nat) (q : Nat × va_E), (gW θ σ z)[k]? = some q → k < 129 ∧ q.1 = tad θ k := fun k q hq => by
    have hl : (gW θ σ z).length = 129 := by show (gWn _ _ _ _ _ _).length = _; rw [gWn, List.length_map, List.length_range]
    have hk : k < 129 := by
      have := (List.getElem?_eq_some_iff.mp hq).1
      omega
    rw [show (gW θ σ z)[k]? = _ from gWn_at hk] at hq
    exact ⟨hk, by cases hq; rfl⟩
  refine ⟨fun i j p q hp hq e => ?_, fun k q hq => ?_⟩
  · obtain ⟨h1, e1⟩ := at' i p hp
    obtain ⟨h2, e2⟩ := at' j q hq
    exact h.1 i j h1 h2 (by rw [← e1, ← e2]; exact e)
  · obtain ⟨h1, e1⟩ := at' k q hq
    rw [e1]
    exact h.2.1 k h1
/-- the walk's own: heap and what was written -/
def gB (θ : gT) (σ : gS) (z : gZ) (H0 H : Heap) (locs : List Loc) : Prop := gHp θ σ z H ∧ va_S (tA θ) H0 H locs
