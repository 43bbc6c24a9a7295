/-! how many bits -/
def ush (x : Int32) (y : Int32) : Int32 := (x.toUInt32 >>> (y.toUInt32 &&& Int32.toUInt32 31)).toInt32
def bc1 (i : Int32) : Int32 := i - (ush i (iZ 1) &&& 1431655765)
def bc2 (i : Int32) : Int32 := (i &&& 858993459) + (ush i (iZ 2) &&& 858993459)
def bc3 (i : Int32) : Int32 := (i + ush i (iZ 4)) &&& 252645135
def bc4 (i : Int32) : Int32 := i + ush i (iZ 8)
def bc5 (i : Int32) : Int32 := i + ush i (iZ 16)
def bcI (i : Int32) : Int32 := bc5 (bc4 (bc3 (bc2 (bc1 i)))) &&& iZ 63
/-- how many bits of the first n places -/
def pcN (d : Nat) : Nat → Nat
  | 0 => 0
  | n + 1 => pcN d n + d / 2 ^ n % 2
theorem bcI_all : ∀ d : Fin 256, bcI (iZ ((d.val : Nat) : Int)) = iZ ((pcN d.val 8 : Nat) : Int) := by decide +kernel
theorem bcI_pc {d : Nat} (h : d < 256) : bcI (iZ ((d : Nat) : Int)) = iZ ((pcN d 8 : Nat) : Int) := bcI_all ⟨d, h⟩
theorem pcN_le (d : Nat) : ∀ n, pcN d n ≤ n
  | 0 => Nat.le_refl 0
  | n + 1 => by have := pcN_le d n; have := Nat.mod_lt (d / 2 ^ n) (show 0 < 2 by omega); rw [pcN]; omega
