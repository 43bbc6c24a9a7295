/-! longs -/
theorem lZ_mul (a b : Int) : lZ a * lZ b = lZ (a * b) := (Int64.ofInt_mul a b).symm
theorem lZ_sub (a b : Int) : lZ a - lZ b = lZ (a - b) := (Int64.ofInt_sub a b).symm
theorem lZ_div {a b : Int} (ha : rgL a) (h0 : 0 ≤ a) (hb : rgL b) (h1 : 0 < b) : lZ a / lZ b = lZ (a / b) := by
  apply Int64.toInt_inj.mp
  have hd : a.tdiv b = a / b := Int.tdiv_eq_ediv_of_nonneg h0
  have hne : lZ b ≠ -1 := fun h => by
    have h2 := congrArg Int64.toInt h
    rw [lZ_toInt hb] at h2
    have : (-1 : Int64).toInt = -1 := by decide
    omega
  have hq : 0 ≤ a / b := Int.ediv_nonneg h0 (by omega)
  have hq2 : a / b ≤ a := Int.ediv_le_self b h0
  rw [Int64.toInt_div_of_ne_right _ _ hne, lZ_toInt ha, lZ_toInt hb, hd, lZ_toInt ⟨by omega, by omega⟩]
theorem lZ_rem {a b : Int} (ha : rgL a) (h0 : 0 ≤ a) (hb : rgL b) (h1 : 0 < b) : lZ a - lZ a / lZ b * lZ b = lZ (a % b) := by
  rw [lZ_div ha h0 hb h1, lZ_mul, lZ_sub]
  congr 1
  rw [Int.emod_def, Int.mul_comm b]
theorem lZ_ne0 {b : Int} (hb : rgL b) (h1 : b ≠ 0) : ¬ lZ b = 0 := fun h => h1 ((lZ_eq hb ⟨by omega, by omega⟩).mp h)
/-- the upper 31 bits -/
def dr (x : Int64) : Nat := x.toBitVec.toNat / 2 ^ 33
theorem dr_lt (x : Int64) : dr x < 2147483648 := by
  unfold dr
  have := x.toBitVec.isLt
  omega
theorem dr_eq (x : Int64) : (x.toUInt64 >>> ((iZ 33).toInt64.toUInt64 &&& Int64.toUInt64 63)).toInt64 = lZ ((dr x : Nat) : Int) := by
  have e : (iZ 33).toInt64.toUInt64 &&& Int64.toUInt64 63 = 33 := by decide
  rw [e]
  apply Int64.toBitVec.inj
  apply BitVec.eq_of_toNat_eq
  have h1 : (x.toUInt64 >>> (33 : UInt64)).toInt64.toBitVec = x.toBitVec >>> 33 := by
    show (x.toUInt64 >>> (33 : UInt64)).toBitVec = _
    simp
  rw [h1, BitVec.toNat_ushiftRight, Nat.shiftRight_eq_div_pow]
  have h2 : (lZ ((dr x : Nat) : Int)).toBitVec = BitVec.ofNat 64 (dr x) := by
    unfold lZ
    rw [Int64.ofInt_eq_ofNat]; rfl
  rw [h2, BitVec.toNat_ofNat, Nat.mod_eq_of_lt (by have := dr_lt x; omega)]
  rfl
section GR2
variable {p : Program} {l : Launch} {e : Env} {R : Room} {s : State} {m : MethodId} {args : Array Value} {below : List Frame} {meth : Method} {c : Code} {H : Heap} {locs : List Loc} {cells slots : Nat} {Q : State → Prop}
variable {cc : ByteArray} {pc : Nat} {ls : Array Slot} {rest : List Value}
theorem z_lmul (hx : p.tables.exec = Jvm.exec) (hb : c.code = cc) {a b : Int} (d : decode cc pc = .ok (.lmul, 1)) (k : W p l e R s m args below meth c H locs cells slots Q (F0 m (pc + 1) ls (.long (lZ (a * b)) :: rest))) : W p l e R s m args below meth c H locs cells slots Q (F0 m pc ls (.long (lZ b) :: .long (lZ a) :: rest)) :=
  lv_lmul hx hb d (by rw [lZ_mul]; exact k)
theorem z_lsub (hx : p.tables.exec = Jvm.exec) (hb : c.code = cc) {a b : Int} (d : decode cc pc = .ok (.lsub, 1)) (k : W p l e R s m args below meth c H locs cells slots Q (F0 m (pc + 1) ls (.long (lZ (a - b)) :: rest))) : W p l e R s m args below meth c H locs cells slots Q (F0 m pc ls (.long (lZ b) :: .long (lZ a) :: rest)) :=
  lv_lsub hx hb d (by rw [lZ_sub]; exact k)
theorem z_ldiv (hx : p.tables.exec = Jvm.exec) (hb : c.code = cc) {a b : Int} (d : decode cc pc = .ok (.ldiv, 1)) (ha : rgL a) (h0 : 0 ≤ a) (hb2 : rgL b) (h1 : 0 < b) (k : W p l e R s m args below meth c H locs cells slots Q (F0 m (pc + 1) ls (.long (lZ (a / b)) :: rest))) : W p l e R s m args below meth c H locs cells slots Q (F0 m pc ls (.long (lZ b) :: .long (lZ a) :: rest)) :=
  lv_ldiv hx hb d (lZ_ne0 hb2 (by omega)) (by rw [lZ_div ha h0 hb2 h1]; exact k)
theorem z_lrem (hx : p.tables.exec = Jvm.exec) (hb : c.code = cc) {a b : Int} (d : decode cc pc = .ok (.lrem, 1)) (ha : rgL a) (h0 : 0 ≤ a) (hb2 : rgL b) (h1 : 0 < b) (k : W p l e R s m args below meth c H locs cells slots Q (F0 m (pc + 1) ls (.long (lZ (a % b)) :: rest))) : W p l e R s m args below meth c H locs cells slots Q (F0 m pc ls (.long (lZ b) :: .long (lZ a) :: rest)) :=
  lv_lrem hx hb d (lZ_ne0 hb2 (by omega)) (by rw [lZ_rem ha h0 hb2 h1]; exact k)
theorem z_draw (hx : p.tables.exec = Jvm.exec) (hb : c.code = cc) {x : Int64} (d : decode cc pc = .ok (.lushr, 1)) (k : W p l e R s m args below meth c H locs cells slots Q (F0 m (pc + 1) ls (.long (lZ ((dr x : Nat) : Int)) :: rest))) : W p l e R s m args below meth c H locs cells slots Q (F0 m pc ls (.int (iZ 33) :: .long x :: rest)) :=
  lv_lushr hx hb d (dr_eq x) k
theorem z_topl {a b : Int} (h : a = b) (k : W p l e R s m args below meth c H locs cells slots Q (F0 m pc ls (.long (lZ b) :: rest))) : W p l e R s m args below meth c H locs cells slots Q (F0 m pc ls (.long (lZ a) :: rest)) := by rw [h]; exact k
end GR2
/-! chances -/
theorem pow_6 {a i : Nat} (ha : a ≤ 10) (hi : i ≤ 6) : a ^ i ≤ 1000000 := Nat.le_trans (Nat.pow_le_pow_left ha i) (Nat.le_trans (Nat.pow_le_pow_right (by omega) hi) (by decide))
theorem gcd_step (a b : Nat) : Nat.gcd b (a % b) = Nat.gcd a b := by rw [Nat.gcd_comm a b, Nat.gcd_rec b a, Nat.gcd_comm]
/-- how often a stream is there -/
def tcN (R : Nat → Nat → Int) (s : Nat) : Nat → Nat
  | 0 => 0
  | t + 1 => tcN R s t + (if R (t + 1) (41 + s) = -9 then 0 else 1)
theorem tcN_le (R : Nat → Nat → Int) (s : Nat) : ∀ t, tcN R s t ≤ t
  | 0 => Nat.le_refl 0
  | t + 1 => by have := tcN_le R s t; unfold tcN; split <;> omega
def bitI (x : Nat) : Nat → Int × Int := fun t => (((x / 2 ^ t % 2 : Nat) : Int), 0)
def onN (x : Nat) : Nat → Nat
  | 0 => 0
  | t + 1 => onN x t + x / 2 ^ t % 2
theorem onN_le (x : Nat) : ∀ t, onN x t ≤ t
  | 0 => Nat.le_refl 0
  | t + 1 => by have := onN_le x t; have := Nat.mod_lt (x / 2 ^ t) (show 0 < 2 by omega); unfold onN; omega
def odW (x n m : Nat) : Nat := x ^ onN m n * (10 - x) ^ (n - onN m n)
def odS (th : Nat → Nat) (v x n : Nat) : Nat → Nat
  | 0 => 0
  | m + 1 => odS th v x n m + (if v ≤ th m then odW x n m else 0)
theorem odW_le {x n m : Nat} (hx : x ≤ 10) (hn : n ≤ 6) : odW x n m ≤ 1000000 := by
  unfold odW
  have h1 := onN_le m n
  have h2 : x ^ onN m n ≤ 10 ^ onN m n := Nat.pow_le_pow_left hx _
  have h3 : (10 - x) ^ (n - onN m n) ≤ 10 ^ (n - onN m n) := Nat.pow_le_pow_left (by omega) _
  have h4 : 10 ^ onN m n * 10 ^ (n - onN m n) = 10 ^ n := by rw [← Nat.pow_add]; congr 1; omega
  have h5 := pow_6 (a := 10) (Nat.le_refl _) hn
  have h6 := Nat.mul_le_mul h2 h3
  omega
theorem odS_le {th : Nat → Nat} {v x n : Nat} (hx : x ≤ 10) (hn : n ≤ 6) : ∀ m, odS th v x n m ≤ m * 1000000
  | 0 => by show (0 : Nat) ≤ _; omega
  | m + 1 => by
    have h1 := odS_le (th := th) (v := v) hx hn m
    have h2 := odW_le (m := m) hx hn
    rw [odS, Nat.succ_mul]
    split
    · exact Nat.add_le_add h1 h2
    · exact Nat.le_trans h1 (Nat.le_add_right _ _)
theorem pow_n6 {n : Nat} (h : n ≤ 6) : 1 ≤ 2 ^ n ∧ 2 ^ n ≤ 64 := by
  have : ∀ n, n ≤ 6 → 1 ≤ 2 ^ n ∧ 2 ^ n ≤ 64 := by decide
  exact this n h
/-- runs by the seed -/
def sdI (x : Int64) : Nat → Int64
  | 0 => x
  | k + 1 => sdI x k * 6364136223846793005 + 1442695040888963407
def sdU (x : Int64) : Nat → Int × Int := fun k => (((dr (sdI x (k + 1)) % 10 : Nat) : Int), ((dr (sdI x (k + 1)) / 16 % 10 : Nat) : Int))
def smV (g : Nat → Int) : Nat → Int
  | 0 => 0
  | s + 1 => smV g s + (if g (41 + s) ≤ 0 then 0 else g (41 + s))
theorem smV_in {g : Nat → Int} (h : Vb g) : ∀ {s : Nat}, s ≤ 8 → 0 ≤ smV g s ∧ smV g s ≤ 99 * s
  | 0, _ => by show (0 : Int) ≤ 0 ∧ (0 : Int) ≤ 99 * ((0 : Nat) : Int); omega
  | s + 1, hs => by
    have ih := smV_in h (s := s) (by omega)
    have := (h s (by omega)).2
    unfold smV
    split <;> omega
def rnS (R : Nat → Nat → Int) (C : Nat → Int) : Nat → Int
  | 0 => 0
  | k + 1 => rnS R C k + (C k + smV (R (k + 1)) 8)
