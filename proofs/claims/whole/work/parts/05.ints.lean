/-! whole numbers as the machine's ints: iZ -/
def iZ (z : Int) : Int32 := Int32.ofInt z
abbrev rg (z : Int) : Prop := -2147483648 ≤ z ∧ z < 2147483648
theorem iZ_toInt {z : Int} (h : rg z) : (iZ z).toInt = z := Int32.toInt_ofInt_of_le (by have := h.1; omega) (by have := h.2; omega)
theorem iZ_of (x : Int32) : iZ x.toInt = x := Int32.ofInt_toInt x
theorem rg_of (x : Int32) : rg x.toInt := ⟨by have := Int32.le_toInt x; omega, by have := Int32.toInt_lt x; omega⟩
theorem iZ_add (a b : Int) : iZ a + iZ b = iZ (a + b) := (Int32.ofInt_add a b).symm
theorem iZ_sub (a b : Int) : iZ a - iZ b = iZ (a - b) := (Int32.ofInt_sub a b).symm
theorem iZ_mul (a b : Int) : iZ a * iZ b = iZ (a * b) := (Int32.ofInt_mul a b).symm
theorem iZ_neg (a : Int) : - iZ a = iZ (-a) := (Int32.ofInt_neg a).symm
theorem iZ_lt {a b : Int} (ha : rg a) (hb : rg b) : iZ a < iZ b ↔ a < b := by rw [Int32.lt_iff_toInt_lt, iZ_toInt ha, iZ_toInt hb]
theorem iZ_le {a b : Int} (ha : rg a) (hb : rg b) : iZ a ≤ iZ b ↔ a ≤ b := by rw [Int32.le_iff_toInt_le, iZ_toInt ha, iZ_toInt hb]
theorem iZ_eq {a b : Int} (ha : rg a) (hb : rg b) : iZ a = iZ b ↔ a = b := by rw [← Int32.toInt_inj, iZ_toInt ha, iZ_toInt hb]
theorem iZ_0 : iZ 0 = 0 := rfl
theorem rg_0 : rg 0 := ⟨by omega, by omega⟩
theorem iZ_nat (n : Nat) : iZ (n : Int) = nI n := Int32.ofInt_eq_ofNat
theorem iZ_clamp {z : Int} (h : rg z) : (iZ z).toNatClampNeg = z.toNat := by
  show (iZ z).toInt.toNat = _
  rw [iZ_toInt h]
theorem iZ_clampN {k : Nat} (h : k < 2147483648) : (iZ (k : Int)).toNatClampNeg = k := by
  rw [iZ_clamp ⟨by omega, by omega⟩]; omega
theorem iZ_in {k n : Nat} (h : k < n) (hn : n < 2147483648) : vp_in (iZ (k : Int)) n := by
  rw [vp_in_iff, iZ_toInt ⟨by omega, by omega⟩]; omega
theorem iZ_div {a b : Int} (ha : rg a) (h0 : 0 ≤ a) (hb : rg b) (h1 : 0 < b) : iZ a / iZ b = iZ (a / b) := by
  apply Int32.toInt_inj.mp
  have hd : a.tdiv b = a / b := Int.tdiv_eq_ediv_of_nonneg h0
  have hne : iZ b ≠ -1 := fun h => by
    have h2 := congrArg Int32.toInt h
    rw [iZ_toInt hb] at h2
    have : (-1 : Int32).toInt = -1 := by decide
    omega
  have hq : 0 ≤ a / b := Int.ediv_nonneg h0 (by omega)
  have hq2 : a / b ≤ a := Int.ediv_le_self b h0
  rw [Int32.toInt_div_of_ne_right _ _ hne, iZ_toInt ha, iZ_toInt hb, hd, iZ_toInt ⟨by omega, by omega⟩]
theorem iZ_rem {a b : Int} (ha : rg a) (h0 : 0 ≤ a) (hb : rg b) (h1 : 0 < b) : iZ a - iZ a / iZ b * iZ b = iZ (a % b) := by
  rw [iZ_div ha h0 hb h1, iZ_mul, iZ_sub]
  congr 1
  rw [Int.emod_def, Int.mul_comm b]
theorem iZ_ne0 {b : Int} (hb : rg b) (h1 : b ≠ 0) : ¬ iZ b = 0 := fun h => h1 ((iZ_eq hb rg_0).mp h)
theorem nI_or (a b : Nat) : nI a ||| nI b = nI (a ||| b) := by
  apply Int32.toBitVec.inj
  simp [nI]
theorem nI_and (a b : Nat) : nI a &&& nI b = nI (a &&& b) := by
  apply Int32.toBitVec.inj
  simp [nI]
theorem iZ_or (a b : Nat) : iZ (a : Int) ||| iZ (b : Int) = iZ ((a ||| b : Nat) : Int) := by rw [iZ_nat, iZ_nat, iZ_nat, nI_or]
theorem iZ_and (a b : Nat) : iZ (a : Int) &&& iZ (b : Int) = iZ ((a &&& b : Nat) : Int) := by rw [iZ_nat, iZ_nat, iZ_nat, nI_and]
theorem iZ_shl1 : ∀ k, k < 9 → iZ 1 <<< (iZ ((k : Nat) : Int) &&& 31) = iZ ((2 ^ k : Nat) : Int) := by decide +kernel
theorem iZ_shr {a k : Nat} (ha : a < 2147483648) (hk : k < 31) : iZ (a : Int) >>> (iZ (k : Int) &&& 31) = iZ ((a / 2 ^ k : Nat) : Int) := by
  rw [iZ_nat, iZ_nat, iZ_nat]
  refine pk_shrN ha _ k ?_
  revert k
  decide +kernel
/-- not x, and another: what of the other is not in x -/
theorem iZ_andnot {a b : Nat} (ha : a < 256) : iZ (a : Int) &&& (iZ (b : Int) ^^^ iZ (-1)) = iZ ((a &&& (b ^^^ 255) : Nat) : Int) := by
  rw [iZ_nat, iZ_nat, iZ_nat]
  apply Int32.toBitVec.inj
  have h1 : (iZ (-1)).toBitVec = BitVec.allOnes 32 := by decide
  apply BitVec.eq_of_getLsbD_eq
  intro i hi
  have e1 : (nI a).toBitVec = BitVec.ofNat 32 a := rfl
  have e2 : (nI b).toBitVec = BitVec.ofNat 32 b := rfl
  have e3 : (nI (a &&& (b ^^^ 255))).toBitVec = BitVec.ofNat 32 (a &&& (b ^^^ 255)) := rfl
  rw [Int32.toBitVec_and, Int32.toBitVec_xor, e1, e2, e3, h1]
  simp only [BitVec.getLsbD_and, BitVec.getLsbD_xor, BitVec.getLsbD_ofNat, BitVec.getLsbD_allOnes, hi, decide_true, Bool.true_and, Nat.testBit_and, Nat.testBit_xor]
  by_cases h8 : i < 8
  · have : Nat.testBit 255 i = true := by
      have : ∀ j, j < 8 → Nat.testBit 255 j = true := by decide
      exact this i h8
    rw [this]
  · have : Nat.testBit a i = false := Nat.testBit_lt_two_pow (Nat.lt_of_lt_of_le ha (Nat.pow_le_pow_right (n := 2) (i := 8) (by omega) (by omega)))
    rw [this, Bool.false_and, Bool.false_and]
/-- longs -/
def lZ (z : Int) : Int64 := Int64.ofInt z
abbrev rgL (z : Int) : Prop := -9223372036854775808 ≤ z ∧ z < 9223372036854775808
theorem lZ_toInt {z : Int} (h : rgL z) : (lZ z).toInt = z := Int64.toInt_ofInt_of_le (by have := h.1; omega) (by have := h.2; omega)
theorem lZ_of (x : Int64) : lZ x.toInt = x := Int64.ofInt_toInt x
theorem rgL_of (x : Int64) : rgL x.toInt := ⟨by have := Int64.le_toInt x; omega, by have := Int64.toInt_lt x; omega⟩
theorem iZ_l {z : Int} (h : rg z) : (iZ z).toInt64 = lZ z := by
  apply Int64.toInt_inj.mp
  rw [Int32.toInt_toInt64, iZ_toInt h, lZ_toInt ⟨by omega, by omega⟩]
theorem lZ_i (z : Int) : (lZ z).toInt32 = iZ z := Int64.toInt32_ofInt
theorem lZ_lt {a b : Int} (ha : rgL a) (hb : rgL b) : lZ a < lZ b ↔ a < b := by rw [Int64.lt_iff_toInt_lt, lZ_toInt ha, lZ_toInt hb]
theorem lZ_eq {a b : Int} (ha : rgL a) (hb : rgL b) : lZ a = lZ b ↔ a = b := by rw [← Int64.toInt_inj, lZ_toInt ha, lZ_toInt hb]
