/-! what a ring tells, on both sides -/
abbrev TT : Type := Int × Int × Int × Int × (Nat → Int) × (Nat → Int) × (Nat → Int)
def tC (T : TT) : Int := T.1
def tL (T : TT) : Int := T.2.1
def tN (T : TT) : Int := T.2.2.1
def tK (T : TT) : Int := T.2.2.2.1
def tk (T : TT) (n : Int) : Int := T.2.2.2.2.1 n.toNat
def tp (T : TT) (n : Int) : Int := T.2.2.2.2.2.1 n.toNat
def tl (T : TT) (n : Int) : Int := T.2.2.2.2.2.2 n.toNat
def XT (T : TT) (G : Hp) : Prop := G 4 0 = tC T ∧ G 4 1 = tL T ∧ G 4 2 = tN T ∧ G 4 3 = tK T ∧ (∀ i : Int, 0 ≤ i → i < tN T → G 5 i.toNat = tk T i ∧ G 6 i.toNat = tp T i) ∧ (∀ i : Int, 0 ≤ i → i < tK T → G 9 i.toNat = tl T i)
def MT (T : TT) (G : Hp) : Prop := G 117 0 = tC T ∧ G 117 1 = tL T ∧ G 117 2 = tN T ∧ G 117 3 = tK T ∧ (∀ i : Int, 0 ≤ i → i < tN T → G 117 (6 + i).toNat = tk T i ∧ G 117 (14 + i).toNat = tp T i) ∧ (∀ i : Int, 0 ≤ i → i < tK T → G 125 i.toNat = tl T i)
def WT (T : TT) : Prop := (0 ≤ tN T ∧ tN T ≤ 8) ∧ (0 ≤ tK T ∧ tK T ≤ 10) ∧ (1 ≤ tL T ∧ tL T ≤ 4) ∧ (0 ≤ tC T ∧ tC T ≤ 256) ∧ (∀ i : Int, 0 ≤ i → i < tN T → (0 ≤ tp T i ∧ tp T i < tC T) ∧ (0 ≤ tk T i ∧ tk T i ≤ 3)) ∧ (∀ i j : Int, 0 ≤ i → i < tN T → 0 ≤ j → j < tN T → tp T i = tp T j → i = j) ∧ (∀ k : Int, 0 ≤ k → k < tK T → 0 ≤ tl T k ∧ (tl T k < tC T ∨ (tC T = 0 ∧ tl T k = 0)))
/-- how long a list is -/
def llen (a : AS) (n : Int) : Int := if lst a n 0 = -1 then 0 else if lst a n 1 = -1 then 1 else if lst a n 2 = -1 then 2 else if lst a n 3 = -1 then 3 else 4
/-- what is so of every state -/
def WA (T : TT) (a : AS) : Prop := okv a ∧ (∀ n : Int, isi a n = 1 → n < tN T) ∧ (∀ n k : Int, -1 ≤ lst a n k ∧ lst a n k < tN T) ∧ (∀ n k : Int, 0 ≤ k → lst a n (k + 1) ≠ -1 → lst a n k ≠ -1) ∧ (∀ n k j : Int, 0 ≤ k → k < j → lst a n k = lst a n j → lst a n k = -1) ∧ (∀ n : Int, -1 ≤ ahd a n ∧ ahd a n < tN T) ∧ (∀ n k : Int, -1 ≤ fng a n k ∧ fng a n k < tN T) ∧ (∀ k : Int, -1 ≤ hld a k ∧ hld a k < tN T) ∧ (∀ k : Int, tK T ≤ k → hld a k = -1) ∧ (∀ n : Int, isi a n = 0 → (∀ k, lst a n k = -1) ∧ ahd a n = -1 ∧ ∀ k, fng a n k = -1)
/-- how the reference lays a state -/
def lay (a : AS) (i : Nat) : Int := if i < 120 then (if i % 15 = 0 then isi a (i / 15 : Nat) else if i % 15 = 1 then llen a (i / 15 : Nat) else if i % 15 < 6 then lst a (i / 15 : Nat) ((i % 15 : Nat) - 2) else if i % 15 = 6 then ahd a (i / 15 : Nat) else fng a (i / 15 : Nat) ((i % 15 : Nat) - 7)) else hld a ((i : Int) - 120)
def MR (b : Nat) (a : AS) (G : Hp) : Prop := ∀ i, i < 130 → G 123 (b + i) = lay a i
theorem MR.at {b : Nat} {a : AS} {G : Hp} (h : MR b a G) {j : Int} (h1 : (b : Int) ≤ j) (h2 : j < b + 130) : G 123 j.toNat = lay a (j - b).toNat := by
  have e : j.toNat = b + (j - b).toNat := by omega
  rw [e]; exact h _ (by omega)
theorem lay_in {a : AS} {n : Int} (h1 : 0 ≤ n) (h2 : n < 8) : lay a (15 * n).toNat = isi a n := by
  unfold lay
  have e1 : (15 * n).toNat < 120 := by omega
  have e2 : (15 * n).toNat % 15 = 0 := by omega
  have e3 : (((15 * n).toNat / 15 : Nat) : Int) = n := by omega
  rw [if_pos e1, if_pos e2, e3]
theorem lay_len {a : AS} {n : Int} (h1 : 0 ≤ n) (h2 : n < 8) : lay a (15 * n + 1).toNat = llen a n := by
  unfold lay
  have e1 : (15 * n + 1).toNat < 120 := by omega
  have e2 : (15 * n + 1).toNat % 15 = 1 := by omega
  have e3 : (((15 * n + 1).toNat / 15 : Nat) : Int) = n := by omega
  rw [if_pos e1, e2, if_neg (by decide), if_pos rfl, e3]
theorem lay_lst {a : AS} {n k : Int} (h1 : 0 ≤ n) (h2 : n < 8) (h3 : 0 ≤ k) (h4 : k < 4) : lay a (15 * n + 2 + k).toNat = lst a n k := by
  unfold lay
  have e1 : (15 * n + 2 + k).toNat < 120 := by omega
  have e2 : (15 * n + 2 + k).toNat % 15 = 2 + k.toNat := by omega
  have e3 : (((15 * n + 2 + k).toNat / 15 : Nat) : Int) = n := by omega
  have e4 : ((2 + k.toNat : Nat) : Int) - 2 = k := by omega
  rw [if_pos e1, e2, if_neg (by omega), if_neg (by omega), if_pos (by omega), e3, e4]
theorem lay_ahd {a : AS} {n : Int} (h1 : 0 ≤ n) (h2 : n < 8) : lay a (15 * n + 6).toNat = ahd a n := by
  unfold lay
  have e1 : (15 * n + 6).toNat < 120 := by omega
  have e2 : (15 * n + 6).toNat % 15 = 6 := by omega
  have e3 : (((15 * n + 6).toNat / 15 : Nat) : Int) = n := by omega
  rw [if_pos e1, e2, if_neg (by omega), if_neg (by omega), if_neg (by omega), if_pos rfl, e3]
theorem lay_fng {a : AS} {n k : Int} (h1 : 0 ≤ n) (h2 : n < 8) (h3 : 0 ≤ k) (h4 : k < 8) : lay a (15 * n + 7 + k).toNat = fng a n k := by
  unfold lay
  have e1 : (15 * n + 7 + k).toNat < 120 := by omega
  have e2 : (15 * n + 7 + k).toNat % 15 = 7 + k.toNat := by omega
  have e3 : (((15 * n + 7 + k).toNat / 15 : Nat) : Int) = n := by omega
  have e4 : ((7 + k.toNat : Nat) : Int) - 7 = k := by omega
  rw [if_pos e1, e2, if_neg (by omega), if_neg (by omega), if_neg (by omega), if_neg (by omega), e3, e4]
theorem lay_hld {a : AS} {k : Int} (h3 : 0 ≤ k) (h4 : k < 10) : lay a (120 + k).toNat = hld a k := by
  unfold lay
  have e4 : (((120 + k).toNat : Nat) : Int) - 120 = k := by omega
  rw [if_neg (by omega), e4]
theorem isi_01 (a : AS) (n : Int) : isi a n = 0 ∨ isi a n = 1 := by
  unfold isi; split
  · exact bt_01 _ _
  · exact Or.inl rfl
section MACC
variable {b : Nat} {a : AS} {G : Hp} {T : TT}
theorem m_circle (h : MT T G) : fX12_circle 111 G = some (tC T, G) := by
  unfold fX12_circle; rw [rf_111_10, rd_in (by decide) (by decide), br_s, ← h.1]; rfl
theorem m_nodes (h : MT T G) : fX12_nodes 111 G = some (tN T, G) := by
  unfold fX12_nodes; rw [rf_111_10, rd_in (by decide) (by decide), br_s, ← h.2.2.1]; rfl
theorem m_keys (h : MT T G) : fX12_keys 111 G = some (tK T, G) := by
  unfold fX12_keys; rw [rf_111_10, rd_in (by decide) (by decide), br_s, ← h.2.2.2.1]; rfl
theorem m_kindOf (h : MT T G) (w : WT T) {n : Int} (h1 : 0 ≤ n) (h2 : n < tN T) : fX12_kindOf 111 n G = some (tk T n, G) := by
  have w1 := w.1
  unfold fX12_kindOf; rw [rf_111_10, iadd_id (by omega) (by omega), rd_in (by omega) (by omega), br_s, (h.2.2.2.2.1 n h1 h2).1]; rfl
theorem m_placeOf (h : MT T G) (w : WT T) {n : Int} (h1 : 0 ≤ n) (h2 : n < tN T) : fX12_placeOf 111 n G = some (tp T n, G) := by
  have w1 := w.1
  unfold fX12_placeOf; rw [rf_111_10, iadd_id (by omega) (by omega), rd_in (by omega) (by omega), br_s, (h.2.2.2.2.1 n h1 h2).2]; rfl
theorem m_isNode (h : MT T G) {n : Int} : fX12_isNode 111 n G = some (if 0 ≤ n ∧ n < tN T then 1 else 0, G) := by
  unfold fX12_isNode; rw [m_nodes h, bp_s]; grind [rz0, rz1]
theorem m_isKey (h : MT T G) {n : Int} : fX12_isKey 111 n G = some (if 0 ≤ n ∧ n < tK T then 1 else 0, G) := by
  unfold fX12_isKey; rw [m_keys h, bp_s]; grind [rz0, rz1]
theorem m_isPlace (h : MT T G) {n : Int} : fX12_isPlace 111 n G = some (if 0 ≤ n ∧ n < tC T then 1 else 0, G) := by
  unfold fX12_isPlace; rw [m_circle h, bp_s]; grind [rz0, rz1]
theorem m_isIn (h : MR b a G) (hb : b ≤ 3410) {n : Int} (h2 : n < 8) : fX12_isIn 111 b n G = some (isi a n, G) := by
  unfold fX12_isIn
  by_cases c : n < 0
  · rw [if_pos c]; unfold isi; rw [if_neg (by omega)]; rfl
  · have e : iadd (iadd (b : Int) (imul 15 n)) 0 = (b : Int) + 15 * n := by
      rw [imul_id (by omega) (by omega), iadd_id (a := (b : Int)) (by omega) (by omega), iadd_id (by omega) (by omega)]; omega
    rw [if_neg c, rf_111_17, e, rd_in (by omega) (by omega), br_s, h.at (by omega) (by omega), show (b : Int) + 15 * n - b = 15 * n by omega, lay_in (by omega) (by omega)]
    rcases isi_01 a n with q | q <;> rw [q] <;> rfl
theorem m_listedOf (h : MR b a G) (hb : b ≤ 3410) {n k : Int} (h1 : 0 ≤ n) (h2 : n < 8) (h3 : 0 ≤ k) (h4 : k < 4) : fX12_listedOf 111 b n k G = some (lst a n k, G) := by
  unfold fX12_listedOf
  rw [rf_111_17, imul_id (by omega) (by omega), iadd_id (a := (b : Int)) (by omega) (by omega), iadd_id (b := 2) (by omega) (by omega), iadd_id (by omega) (by omega), rd_in (by omega) (by omega), br_s, h.at (by omega) (by omega), show (b : Int) + 15 * n + 2 + k - b = 15 * n + 2 + k by omega, lay_lst h1 h2 h3 h4]; rfl
theorem m_longOf (h : MR b a G) (hb : b ≤ 3410) {n : Int} (h1 : 0 ≤ n) (h2 : n < 8) : fX12_longOf 111 b n G = some (llen a n, G) := by
  unfold fX12_longOf
  rw [rf_111_17, imul_id (by omega) (by omega), iadd_id (a := (b : Int)) (by omega) (by omega), iadd_id (by omega) (by omega), rd_in (by omega) (by omega), br_s, h.at (by omega) (by omega), show (b : Int) + 15 * n + 1 - b = 15 * n + 1 by omega, lay_len h1 h2]; rfl
theorem m_aheadOf (h : MR b a G) (hb : b ≤ 3410) {n : Int} (h1 : 0 ≤ n) (h2 : n < 8) : fX12_aheadOf 111 b n G = some (ahd a n, G) := by
  unfold fX12_aheadOf
  rw [rf_111_17, imul_id (by omega) (by omega), iadd_id (a := (b : Int)) (by omega) (by omega), iadd_id (by omega) (by omega), rd_in (by omega) (by omega), br_s, h.at (by omega) (by omega), show (b : Int) + 15 * n + 6 - b = 15 * n + 6 by omega, lay_ahd h1 h2]; rfl
theorem m_fingerOf (h : MR b a G) (hb : b ≤ 3410) {n k : Int} (h1 : 0 ≤ n) (h2 : n < 8) (h3 : 0 ≤ k) (h4 : k < 8) : fX12_fingerOf 111 b n k G = some (fng a n k, G) := by
  unfold fX12_fingerOf
  rw [rf_111_17, imul_id (by omega) (by omega), iadd_id (a := (b : Int)) (by omega) (by omega), iadd_id (b := 7) (by omega) (by omega), iadd_id (by omega) (by omega), rd_in (by omega) (by omega), br_s, h.at (by omega) (by omega), show (b : Int) + 15 * n + 7 + k - b = 15 * n + 7 + k by omega, lay_fng h1 h2 h3 h4]; rfl
theorem m_holderOf (h : MR b a G) (hb : b ≤ 3410) {k : Int} (h3 : 0 ≤ k) (h4 : k < 10) : fX12_holderOf 111 b k G = some (hld a k, G) := by
  unfold fX12_holderOf
  rw [rf_111_17, iadd_id (a := (b : Int)) (by omega) (by omega), iadd_id (by omega) (by omega), rd_in (by omega) (by omega), br_s, h.at (by omega) (by omega), show (b : Int) + 120 + k - b = 120 + k by omega, lay_hld h3 h4]; rfl
/-- the way between two places -/
def wy (C f t : Int) : Int := if f < t then t - f else t - f + C
def wT (T : TT) (n o : Int) : Int := wy (tC T) (tp T n) (tp T o)
theorem m_way (h : MT T G) (w : WT T) {f t : Int} (h1 : 0 ≤ f ∧ f ≤ 1000) (h2 : 0 ≤ t ∧ t ≤ 1000) : fX12_way 111 f t G = some (wy (tC T) f t, G) := by
  have w1 := w.2.2.2.1
  unfold fX12_way wy
  rw [m_circle h, bp_s, isub_id (by omega) (by omega), iadd_id (by omega) (by omega)]
  split <;> rfl
theorem m_wayTo (h : MT T G) (w : WT T) {n o : Int} (h1 : 0 ≤ n) (h2 : n < tN T) (h3 : 0 ≤ o) (h4 : o < tN T) : fX12_wayTo 111 n o G = some (wT T n o, G) := by
  unfold fX12_wayTo wT
  have w1 := w.2.2.2.1
  have p1 := (w.2.2.2.2.1 n h1 h2).1
  have p2 := (w.2.2.2.2.1 o h3 h4).1
  rw [m_placeOf h w h1 h2, bp_s, m_placeOf h w h3 h4, bp_s, m_way h w (by omega) (by omega), bp_s]; rfl
end MACC
section XACC
variable {a : AS} {G : Hp} {T : TT}
theorem x_isNode (h : XT T G) {n : Int} : fX8_isNode 4 n G = some (if 0 ≤ n ∧ n < tN T then 1 else 0, G) := by
  unfold fX8_isNode; rw [h.2.2.1]; grind [rz0, rz1]
theorem x_isKey (h : XT T G) {n : Int} : fX8_isKey 4 n G = some (if 0 ≤ n ∧ n < tK T then 1 else 0, G) := by
  unfold fX8_isKey; rw [h.2.2.2.1]; grind [rz0, rz1]
theorem x_isPlace (h : XT T G) {n : Int} : fX8_isPlace 4 n G = some (if 0 ≤ n ∧ n < tC T then 1 else 0, G) := by
  unfold fX8_isPlace; rw [h.1]; grind [rz0, rz1]
theorem x_kind (h : XT T G) (w : WT T) {n : Int} (h1 : 0 ≤ n) (h2 : n < tN T) : rd G 5 8 n = some (tk T n) := by
  have w1 := w.1
  rw [rd_in h1 (by omega), (h.2.2.2.2.1 n h1 h2).1]
theorem x_place (h : XT T G) (w : WT T) {n : Int} (h1 : 0 ≤ n) (h2 : n < tN T) : rd G 6 8 n = some (tp T n) := by
  have w1 := w.1
  rw [rd_in h1 (by omega), (h.2.2.2.2.1 n h1 h2).2]
theorem x_lie (h : XT T G) (w : WT T) {n : Int} (h1 : 0 ≤ n) (h2 : n < tK T) : rd G 9 10 n = some (tl T n) := by
  have w1 := w.2.1
  rw [rd_in h1 (by omega), h.2.2.2.2.2 n h1 h2]
theorem x_way (h : XT T G) (w : WT T) {f t : Int} (h1 : 0 ≤ f ∧ f ≤ 1000) (h2 : 0 ≤ t ∧ t ≤ 1000) : fX8_way 4 f t G = some (wy (tC T) f t, G) := by
  have w1 := w.2.2.2.1
  unfold fX8_way wy
  rw [h.1, bd_s, isub_id (by omega) (by omega), iadd_id (by omega) (by omega)]
  grind [rt_s]
theorem x_isBetween (h : XT T G) (w : WT T) {n f t : Int} (h1 : 0 ≤ n) (h2 : n < tN T) (h3 : 0 ≤ f) (h4 : f < tN T) (h5 : 0 ≤ t) (h6 : t < tN T) : fX8_isBetween 4 n f t G = some (if wT T f n < wT T f t then 1 else 0, G) := by
  unfold fX8_isBetween wT
  have w1 := w.2.2.2.1
  have p1 := (w.2.2.2.2.1 n h1 h2).1
  have p2 := (w.2.2.2.2.1 f h3 h4).1
  have p3 := (w.2.2.2.2.1 t h5 h6).1
  rw [rf_4_5, x_place h w h3 h4, br_s, x_place h w h1 h2, br_s, x_way h w (by omega) (by omega), bp_s, br_s, x_place h w h5 h6, br_s, x_way h w (by omega) (by omega), bp_s]
  split <;> rfl
theorem x_roomOf (h : XT T G) (w : WT T) {n : Int} (h1 : 0 ≤ n) (h2 : n < tN T) : fX8_roomOf 4 n G = some (if tk T n = 1 then 1 else tL T, G) := by
  unfold fX8_roomOf
  rw [rf_4_4, x_kind h w h1 h2, br_s, h.2.1]
  split <;> rfl
end XACC
