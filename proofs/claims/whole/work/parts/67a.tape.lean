/-! THE TAPE: feeding -/
section TPE
variable {G : Hp} {T : TT}
abbrev TS : Type := Int × (Nat → Int)
def WTp (S : TS) : Prop := 0 ≤ S.1 ∧ S.1 ≤ 1000 ∧ ∀ i : Nat, (i : Int) < S.1 → (S.2 i = 10 ∨ (32 ≤ S.2 i ∧ S.2 i ≤ 126))
def XTp (S : TS) (G : Hp) : Prop := G 1 3 = S.1 ∧ ∀ i : Nat, (i : Int) < S.1 → G 2 i = S.2 i
def MTp (S : TS) (G : Hp) : Prop := G 111 2 = S.1 ∧ ∀ i : Nat, (i : Int) < S.1 → G 112 i = S.2 i
def tp1 (S : TS) (v : Int) : TS := if (v = 10 ∨ (32 ≤ v ∧ v ≤ 126)) ∧ S.1 < 1000 then (S.1 + 1, fun i => if i = S.1.toNat then v else S.2 i) else S
def tby (a : Int) (k : Int) : Int := iand (l2i (lushr a k)) 255
def tpF (a : Int) : Nat → TS → TS
  | 0, S => S
  | n + 1, S => tpF a n (tp1 S (tby a (8 * (n : Int))))
theorem tp1_w {S : TS} {v : Int} (w : WTp S) : WTp (tp1 S v) := by
  unfold tp1; split
  · rename_i h
    refine ⟨by have := w.1; simp only; omega, by simp only; omega, fun i hi => ?_⟩
    simp only at hi ⊢
    split
    · exact h.1
    · exact w.2.2 i (by have := w.1; omega)
  · exact w
theorem tpF_w {a : Int} : ∀ (n : Nat) {S : TS}, WTp S → WTp (tpF a n S)
  | 0, _, w => w
  | n + 1, _, w => tpF_w n (tp1_w w)
theorem and255 (x : Int) : 0 ≤ iand x 255 ∧ iand x 255 ≤ 255 := by
  have l : (Int32.ofInt x &&& Int32.ofInt 255).toBitVec.toNat ≤ 255 := by
    rw [Int32.toBitVec_and, BitVec.toNat_and]; exact Nat.le_trans Nat.and_le_right (by decide)
  unfold iand
  rw [(gl_bt (by omega) 0).1]; omega
theorem i2c_all : ∀ v : Fin 256, i2c (v.val : Int) = v.val := by decide +kernel
theorem i2c_is {v : Int} (h1 : 0 ≤ v) (h2 : v ≤ 255) : i2c v = v := by
  have e := i2c_all ⟨v.toNat, by omega⟩
  simp only at e
  rw [Int.toNat_of_nonneg h1] at e; exact e
theorem sh8 (y : BitVec 64) (k : Nat) (hk : k + 8 ≤ 64) : (BitVec.setWidth 32 (y.sshiftRight k)) &&& 255#32 = (BitVec.setWidth 32 (y >>> k)) &&& 255#32 := by
  apply BitVec.eq_of_getLsbD_eq
  intro i hi
  rw [BitVec.getLsbD_and, BitVec.getLsbD_and]
  by_cases h : i < 8
  · rw [BitVec.getLsbD_setWidth, BitVec.getLsbD_setWidth, BitVec.getLsbD_sshiftRight, BitVec.getLsbD_ushiftRight]
    rw [if_pos (by omega : k + i < 64)]
    have : decide (64 ≤ i) = false := by rw [decide_eq_false_iff_not]; omega
    rw [this]; simp
  · have e : (255#32).getLsbD i = false := by
      show Nat.testBit 255 i = false
      exact Nat.testBit_lt_two_pow (Nat.lt_of_lt_of_le (by decide : 255 < 2 ^ 8) (Nat.pow_le_pow_right (by decide) (by omega)))
    rw [e, Bool.and_false, Bool.and_false]
theorem tby_s {a : Int} {n : Nat} (hn : n < 8) : iand (l2i (lshr a (8 * (n : Int)))) 255 = tby a (8 * (n : Int)) := by
  have o : ∀ z : Int64, iand (l2i z.toInt) 255 = (BitVec.setWidth 32 z.toBitVec &&& 255#32).toInt := by
    intro z
    unfold iand l2i
    have e : Int32.ofInt (w32 z.toInt) = z.toInt32 := by
      rw [← toInt_o32, o32_toInt]; exact Int32.ofInt_int64ToInt z
    rw [e]
    show (z.toInt32 &&& Int32.ofInt 255).toBitVec.toInt = _
    rw [Int32.toBitVec_and]
    have e3 : z.toInt32.toBitVec = BitVec.setWidth 32 z.toBitVec := by
      first
        | rfl
        | (rw [Int64.toBitVec_toInt32]; exact BitVec.signExtend_eq_setWidth_of_le _ (by decide))
        | (show BitVec.signExtend 32 z.toBitVec = _; exact BitVec.signExtend_eq_setWidth_of_le _ (by decide))
        | (show BitVec.signExtend 32 z.toBitVec = _; apply BitVec.eq_of_getLsbD_eq; intro i hi; rw [BitVec.getLsbD_signExtend, BitVec.getLsbD_setWidth]; rw [if_pos (by omega)])
    rw [e3]; rfl
  unfold tby lshr lushr
  rw [o, o]
  have c : ∀ m : Fin 8, (((Int32.ofInt (8 * (m.val : Int))).toInt64 &&& 63).toBitVec.smod 64).toNat = 8 * m.val ∧ ((Int32.ofInt (8 * (m.val : Int))).toInt64.toUInt64 &&& Int64.toUInt64 63).toBitVec.toNat % 64 = 8 * m.val := by decide +kernel
  have cn := c ⟨n, hn⟩
  simp only at cn
  have h := sh8 (Int64.ofInt a).toBitVec (8 * n) (by omega)
  have e1 : (Int64.ofInt a >>> ((Int32.ofInt (8 * (n : Int))).toInt64 &&& 63)).toBitVec = (Int64.ofInt a).toBitVec.sshiftRight (8 * n) := by
    rw [Int64.toBitVec_shiftRight]
    rw [BitVec.sshiftRight', cn.1]
  have e2 : (((Int64.ofInt a).toUInt64 >>> ((Int32.ofInt (8 * (n : Int))).toInt64.toUInt64 &&& Int64.toUInt64 63)).toInt64).toBitVec = (Int64.ofInt a).toBitVec >>> (8 * n) := by
    show ((Int64.ofInt a).toUInt64 >>> ((Int32.ofInt (8 * (n : Int))).toInt64.toUInt64 &&& Int64.toUInt64 63)).toBitVec = _
    rw [UInt64.toBitVec_shiftRight]
    apply BitVec.eq_of_toNat_eq
    rw [BitVec.toNat_ushiftRight]
    show ((Int64.ofInt a).toBitVec >>> ((((Int32.ofInt (8 * (n : Int))).toInt64.toUInt64 &&& Int64.toUInt64 63)).toBitVec % 64#64)).toNat = _
    rw [BitVec.ushiftRight_eq', BitVec.toNat_ushiftRight, BitVec.toNat_umod]
    show _ >>> (_ % 64) = _
    rw [cn.2]
  rw [e1, e2, h]
end TPE
