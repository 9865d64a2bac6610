/-! numbers: ints and longs as whole numbers -/
def okI (x : Int) : Prop := -2147483648 ≤ x ∧ x ≤ 2147483647
def okJ (x : Int) : Prop := -9223372036854775808 ≤ x ∧ x ≤ 9223372036854775807
def w32 (x : Int) : Int := Int.bmod x 4294967296
def w64 (x : Int) : Int := Int.bmod x 18446744073709551616
theorem w32_ok (x : Int) : okI (w32 x) := by
  unfold okI w32
  have h1 := Int.bmod_lt (x := x) (m := 4294967296) (by decide)
  have h2 := Int.le_bmod (x := x) (m := 4294967296) (by decide)
  omega
theorem w64_ok (x : Int) : okJ (w64 x) := by
  unfold okJ w64
  have h1 := Int.bmod_lt (x := x) (m := 18446744073709551616) (by decide)
  have h2 := Int.le_bmod (x := x) (m := 18446744073709551616) (by decide)
  omega
theorem w32_id {x : Int} (h : okI x) : w32 x = x := by
  unfold okI at h
  unfold w32
  rw [Int.bmod_eq_of_le] <;> omega
theorem w64_id {x : Int} (h : okJ x) : w64 x = x := by
  unfold okJ at h
  unfold w64
  rw [Int.bmod_eq_of_le] <;> omega
theorem toInt_o32 (x : Int) : (Int32.ofInt x).toInt = w32 x := by
  rw [Int32.toInt_ofInt]; rfl
theorem toInt_o64 (x : Int) : (Int64.ofInt x).toInt = w64 x := by
  rw [Int64.toInt_ofInt]; rfl
theorem o32_toInt (x : Int32) : Int32.ofInt x.toInt = x := Int32.ofInt_toInt x
theorem o64_toInt (x : Int64) : Int64.ofInt x.toInt = x := Int64.ofInt_toInt x
theorem toInt_ok (x : Int32) : okI x.toInt := by
  have h := w32_ok x.toInt
  rw [← toInt_o32, o32_toInt] at h
  exact h
theorem toInt_okJ (x : Int64) : okJ x.toInt := by
  have h := w64_ok x.toInt
  rw [← toInt_o64, o64_toInt] at h
  exact h
theorem o32_inj {a b : Int} (ha : okI a) (hb : okI b) : Int32.ofInt a = Int32.ofInt b ↔ a = b := by
  constructor
  · intro h
    have := congrArg Int32.toInt h
    rw [toInt_o32, toInt_o32, w32_id ha, w32_id hb] at this
    exact this
  · intro h; rw [h]
theorem o32_lt {a b : Int} (ha : okI a) (hb : okI b) : Int32.ofInt a < Int32.ofInt b ↔ a < b := by
  rw [Int32.lt_iff_toInt_lt, toInt_o32, toInt_o32, w32_id ha, w32_id hb]
theorem o32_le {a b : Int} (ha : okI a) (hb : okI b) : Int32.ofInt a ≤ Int32.ofInt b ↔ a ≤ b := by
  rw [Int32.le_iff_toInt_le, toInt_o32, toInt_o32, w32_id ha, w32_id hb]
theorem o64_lt {a b : Int} (ha : okJ a) (hb : okJ b) : Int64.ofInt a < Int64.ofInt b ↔ a < b := by
  rw [Int64.lt_iff_toInt_lt, toInt_o64, toInt_o64, w64_id ha, w64_id hb]
theorem o64_inj {a b : Int} (ha : okJ a) (hb : okJ b) : Int64.ofInt a = Int64.ofInt b ↔ a = b := by
  constructor
  · intro h
    have := congrArg Int64.toInt h
    rw [toInt_o64, toInt_o64, w64_id ha, w64_id hb] at this
    exact this
  · intro h; rw [h]
/-! the operations -/
def iadd (a b : Int) : Int := w32 (a + b)
def isub (a b : Int) : Int := w32 (a - b)
def imul (a b : Int) : Int := w32 (a * b)
def idiv (a b : Int) : Int := (Int32.ofInt a / Int32.ofInt b).toInt
def irem (a b : Int) : Int := (Int32.ofInt a - Int32.ofInt a / Int32.ofInt b * Int32.ofInt b).toInt
def iand (a b : Int) : Int := (Int32.ofInt a &&& Int32.ofInt b).toInt
def ior (a b : Int) : Int := (Int32.ofInt a ||| Int32.ofInt b).toInt
def ixor (a b : Int) : Int := (Int32.ofInt a ^^^ Int32.ofInt b).toInt
def ishl (a b : Int) : Int := (Int32.ofInt a <<< (Int32.ofInt b &&& 31)).toInt
def ishr (a b : Int) : Int := (Int32.ofInt a >>> (Int32.ofInt b &&& 31)).toInt
def i2c (a : Int) : Int := ((Int32.ofInt a).toUInt32 % 65536).toInt32.toInt
def l2i (a : Int) : Int := w32 a
def ladd (a b : Int) : Int := w64 (a + b)
def lsub (a b : Int) : Int := w64 (a - b)
def lmul (a b : Int) : Int := w64 (a * b)
def ldiv (a b : Int) : Int := (Int64.ofInt a / Int64.ofInt b).toInt
def lrem (a b : Int) : Int := (Int64.ofInt a - Int64.ofInt a / Int64.ofInt b * Int64.ofInt b).toInt
def land' (a b : Int) : Int := (Int64.ofInt a &&& Int64.ofInt b).toInt
def lor' (a b : Int) : Int := (Int64.ofInt a ||| Int64.ofInt b).toInt
def lshl (a b : Int) : Int := (Int64.ofInt a <<< ((Int32.ofInt b).toInt64 &&& 63)).toInt
def lshr (a b : Int) : Int := (Int64.ofInt a >>> ((Int32.ofInt b).toInt64 &&& 63)).toInt
def lushr (a b : Int) : Int := (((Int64.ofInt a).toUInt64 >>> ((Int32.ofInt b).toInt64.toUInt64 &&& Int64.toUInt64 63)).toInt64).toInt
def lcmp' (a b : Int) : Int := if a < b then -1 else if a = b then 0 else 1
theorem o32_add (a b : Int) : Int32.ofInt (iadd a b) = Int32.ofInt a + Int32.ofInt b := by
  apply Int32.toInt_inj.mp
  rw [Int32.toInt_add, toInt_o32, toInt_o32, toInt_o32]
  simp [iadd, w32, Int.bmod_add_bmod]
theorem o32_sub (a b : Int) : Int32.ofInt (isub a b) = Int32.ofInt a - Int32.ofInt b := by
  apply Int32.toInt_inj.mp
  rw [Int32.toInt_sub, toInt_o32, toInt_o32, toInt_o32]
  simp [isub, w32]
theorem o32_mul (a b : Int) : Int32.ofInt (imul a b) = Int32.ofInt a * Int32.ofInt b := by
  apply Int32.toInt_inj.mp
  rw [Int32.toInt_mul, toInt_o32, toInt_o32, toInt_o32]
  simp [imul, w32]
theorem o64_add (a b : Int) : Int64.ofInt (ladd a b) = Int64.ofInt a + Int64.ofInt b := by
  apply Int64.toInt_inj.mp
  rw [Int64.toInt_add, toInt_o64, toInt_o64, toInt_o64]
  simp [ladd, w64]
theorem o64_sub (a b : Int) : Int64.ofInt (lsub a b) = Int64.ofInt a - Int64.ofInt b := by
  apply Int64.toInt_inj.mp
  rw [Int64.toInt_sub, toInt_o64, toInt_o64, toInt_o64]
  simp [lsub, w64]
theorem o64_mul (a b : Int) : Int64.ofInt (lmul a b) = Int64.ofInt a * Int64.ofInt b := by
  apply Int64.toInt_inj.mp
  rw [Int64.toInt_mul, toInt_o64, toInt_o64, toInt_o64]
  simp [lmul, w64]
theorem o32_i2l {a : Int} (h : okI a) : (Int32.ofInt a).toInt64 = Int64.ofInt a := by
  apply Int64.toInt_inj.mp
  rw [Int32.toInt_toInt64, toInt_o32, toInt_o64, w32_id h, w64_id]
  unfold okI at h; unfold okJ; omega
theorem o64_l2i (a : Int) : (Int64.ofInt a).toInt32 = Int32.ofInt (l2i a) := by
  apply Int32.toInt_inj.mp
  rw [Int64.toInt_toInt32, toInt_o32, toInt_o64]
  unfold l2i w32 w64
  rw [Int.bmod_bmod]
  exact Int.bmod_bmod_of_dvd (by decide)
