/-! THE PICTURE of a ring's state: who is in (bits), and the 114 cells as the class lays them -/
abbrev AS : Type := Int × (Nat → Int)
def isi (a : AS) (n : Int) : Int := if 0 ≤ n ∧ n < 8 then bt a.1 n.toNat else 0
def lst (a : AS) (n k : Int) : Int := if 0 ≤ n ∧ n < 8 ∧ 0 ≤ k ∧ k < 4 then a.2 (4 * n + k).toNat else -1
def ahd (a : AS) (n : Int) : Int := if 0 ≤ n ∧ n < 8 then a.2 (32 + n).toNat else -1
def fng (a : AS) (n k : Int) : Int := if 0 ≤ n ∧ n < 8 ∧ 0 ≤ k ∧ k < 8 then a.2 (40 + 8 * n + k).toNat else -1
def hld (a : AS) (k : Int) : Int := if 0 ≤ k ∧ k < 10 then a.2 (104 + k).toNat else -1
def us (a : AS) (i : Nat) (v : Int) : AS := (a.1, fun j => if j = i then v else a.2 j)
def XA (q : Nat) (a : AS) (G : Hp) : Prop := G q 1 = a.1 ∧ ∀ i, i < 114 → G (q + 1) i = a.2 i
/-- what deeds may touch on the class's side -/
def FRD (G G' : Hp) : Prop := ∀ c, c ≠ 27 → c ≠ 28 → c ≠ 29 → c ≠ 30 → c ≠ 32 → G' c = G c
theorem FRD.rf (G : Hp) : FRD G G := fun _ _ _ _ _ _ => rfl
theorem FRD.tr {G G1 G2 : Hp} (h : FRD G G1) (h2 : FRD G1 G2) : FRD G G2 := fun c a b d e f => (h2 c a b d e f).trans (h c a b d e f)
theorem FRD.up {G : Hp} {c k : Nat} {v : Int} (h : c = 27 ∨ c = 28 ∨ c = 29 ∨ c = 30 ∨ c = 32) : FRD G (up G c k v) := fun c' a b d e f => up_ne (by omega)
def okv (a : AS) : Prop := 0 ≤ a.1 ∧ a.1 < 256
theorem x_isIn {a : AS} {G : Hp} {n : Int} (h : XA 27 a G) (hv : okv a) : fX6_isIn 27 n G = some (isi a n, G) := by
  unfold fX6_isIn isi
  rw [h.1]
  unfold okv at hv
  grind [bit_is, rz0, rz1, bt_01]
theorem x_listAt {a : AS} {G : Hp} {n k : Int} (h : XA 27 a G) : fX6_listAt 27 n k G = some (lst a n k, G) := by
  unfold fX6_listAt lst
  have h9 := h.2
  grind [rf_27_0, iadd_id, imul_id, rd_in, br_s, rt_s]
theorem x_aheadOf {a : AS} {G : Hp} {n : Int} (h : XA 27 a G) : fX6_aheadOf 27 n G = some (ahd a n, G) := by
  unfold fX6_aheadOf ahd
  have h9 := h.2
  grind [rf_27_0, iadd_id, imul_id, rd_in, br_s, rt_s]
theorem x_fingerAt {a : AS} {G : Hp} {n k : Int} (h : XA 27 a G) : fX6_fingerAt 27 n k G = some (fng a n k, G) := by
  unfold fX6_fingerAt fng
  have h9 := h.2
  grind [rf_27_0, iadd_id, imul_id, rd_in, br_s, rt_s]
theorem x_holderOf {a : AS} {G : Hp} {k : Int} (h : XA 27 a G) : fX6_holderOf 27 k G = some (hld a k, G) := by
  unfold fX6_holderOf hld
  have h9 := h.2
  grind [rf_27_0, iadd_id, imul_id, rd_in, br_s, rt_s]
theorem XA_us {a : AS} {G : Hp} {i : Nat} {v : Int} (h : XA 27 a G) : XA 27 (us a i v) (up G 28 i v) := by
  refine ⟨?_, fun j hj => ?_⟩
  · rw [up_ne (by decide)]; exact h.1
  · show up G 28 i v 28 j = if j = i then v else a.2 j
    rw [up_at]
    by_cases e : j = i
    · simp [e]
    · simp [e]; exact h.2 j hj
theorem x_setList {a : AS} {G : Hp} {n k v : Int} (h : XA 27 a G) (h1 : 0 ≤ n) (h2 : n < 8) (h3 : 0 ≤ k) (h4 : k < 4) : fX6_setList 27 n k v G = some (0, up G 28 (4 * n + k).toNat v) := by
  unfold fX6_setList
  grind [rf_27_0, iadd_id, imul_id, wr_in, bs_s, rt_s]
theorem x_setAhead {a : AS} {G : Hp} {n v : Int} (h : XA 27 a G) (h1 : 0 ≤ n) (h2 : n < 8) : fX6_setAhead 27 n v G = some (0, up G 28 (32 + n).toNat v) := by
  unfold fX6_setAhead
  grind [rf_27_0, iadd_id, imul_id, wr_in, bs_s, rt_s]
theorem x_setFinger {a : AS} {G : Hp} {n k v : Int} (h : XA 27 a G) (h1 : 0 ≤ n) (h2 : n < 8) (h3 : 0 ≤ k) (h4 : k < 8) : fX6_setFinger 27 n k v G = some (0, up G 28 (40 + 8 * n + k).toNat v) := by
  unfold fX6_setFinger
  grind [rf_27_0, iadd_id, imul_id, wr_in, bs_s, rt_s]
theorem x_setHolder {a : AS} {G : Hp} {k v : Int} (h : XA 27 a G) (h3 : 0 ≤ k) (h4 : k < 10) : fX6_setHolder 27 k v G = some (0, up G 28 (104 + k).toNat v) := by
  unfold fX6_setHolder
  grind [rf_27_0, iadd_id, imul_id, wr_in, bs_s, rt_s]
/-- the first of a list that is among those bits -/
def fst4 (a : AS) (v n : Int) : Int := if lst a n 0 ≠ -1 ∧ bt v (lst a n 0).toNat = 1 then lst a n 0 else if lst a n 1 ≠ -1 ∧ bt v (lst a n 1).toNat = 1 then lst a n 1 else if lst a n 2 ≠ -1 ∧ bt v (lst a n 2).toNat = 1 then lst a n 2 else if lst a n 3 ≠ -1 ∧ bt v (lst a n 3).toNat = 1 then lst a n 3 else -1
def lrg (a : AS) : Prop := ∀ n k, -1 ≤ lst a n k ∧ lst a n k < 8
theorem x_firstOf {a : AS} {G : Hp} {n v : Int} (h : XA 27 a G) (hl : lrg a) (hv : 0 ≤ v ∧ v < 256) : fX6_firstOf 27 n v G = some (fst4 a v n, G) := by
  unfold fX6_firstOf fst4
  have l0 := hl n 0
  have l1 := hl n 1
  have l2 := hl n 2
  have l3 := hl n 3
  simp only [lp_5, bd_s, jn_s, x_listAt h, bp_s, rt_s]
  simp only [ia0, ia1, ia2, ia3, Int.reduceLT, Int.reduceLE, ↓reduceIte, ite_true, ite_false]
  grind (splits := 20) [bit_is]
