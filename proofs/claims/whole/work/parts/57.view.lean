/-! STATES made of what each has -/
def mkA (v : Int) (L : Int → Int → Int) (A : Int → Int) (F : Int → Int → Int) (H : Int → Int) : AS := (v, fun j => if j < 32 then L ((j : Int) / 4) ((j : Int) % 4) else if j < 40 then A ((j : Int) - 32) else if j < 104 then F (((j : Int) - 40) / 8) (((j : Int) - 40) % 8) else H ((j : Int) - 104))
section MKA
variable {v : Int} {L : Int → Int → Int} {A : Int → Int} {F : Int → Int → Int} {H : Int → Int}
theorem mk_1 : (mkA v L A F H).1 = v := rfl
theorem mk_lst (n k : Int) : lst (mkA v L A F H) n k = if 0 ≤ n ∧ n < 8 ∧ 0 ≤ k ∧ k < 4 then L n k else -1 := by
  unfold lst
  by_cases c : 0 ≤ n ∧ n < 8 ∧ 0 ≤ k ∧ k < 4
  · rw [if_pos c, if_pos c]
    show (if (4 * n + k).toNat < 32 then L (((4 * n + k).toNat : Int) / 4) (((4 * n + k).toNat : Int) % 4) else _) = _
    rw [if_pos (by omega), show (((4 * n + k).toNat : Nat) : Int) / 4 = n by omega, show (((4 * n + k).toNat : Nat) : Int) % 4 = k by omega]
  · rw [if_neg c, if_neg c]
theorem mk_ahd (n : Int) : ahd (mkA v L A F H) n = if 0 ≤ n ∧ n < 8 then A n else -1 := by
  unfold ahd
  by_cases c : 0 ≤ n ∧ n < 8
  · rw [if_pos c, if_pos c]
    show (if (32 + n).toNat < 32 then _ else if (32 + n).toNat < 40 then A (((32 + n).toNat : Int) - 32) else _) = _
    rw [if_neg (by omega), if_pos (by omega), show (((32 + n).toNat : Nat) : Int) - 32 = n by omega]
  · rw [if_neg c, if_neg c]
theorem mk_fng (n k : Int) : fng (mkA v L A F H) n k = if 0 ≤ n ∧ n < 8 ∧ 0 ≤ k ∧ k < 8 then F n k else -1 := by
  unfold fng
  by_cases c : 0 ≤ n ∧ n < 8 ∧ 0 ≤ k ∧ k < 8
  · rw [if_pos c, if_pos c]
    show (if (40 + 8 * n + k).toNat < 32 then _ else if (40 + 8 * n + k).toNat < 40 then _ else if (40 + 8 * n + k).toNat < 104 then F ((((40 + 8 * n + k).toNat : Int) - 40) / 8) ((((40 + 8 * n + k).toNat : Int) - 40) % 8) else _) = _
    rw [if_neg (by omega), if_neg (by omega), if_pos (by omega), show ((((40 + 8 * n + k).toNat : Nat) : Int) - 40) / 8 = n by omega, show ((((40 + 8 * n + k).toNat : Nat) : Int) - 40) % 8 = k by omega]
  · rw [if_neg c, if_neg c]
theorem mk_hld (k : Int) : hld (mkA v L A F H) k = if 0 ≤ k ∧ k < 10 then H k else -1 := by
  unfold hld
  by_cases c : 0 ≤ k ∧ k < 10
  · rw [if_pos c, if_pos c]
    show (if (104 + k).toNat < 32 then _ else if (104 + k).toNat < 40 then _ else if (104 + k).toNat < 104 then _ else H (((104 + k).toNat : Int) - 104)) = _
    rw [if_neg (by omega), if_neg (by omega), if_neg (by omega), show (((104 + k).toNat : Nat) : Int) - 104 = k by omega]
  · rw [if_neg c, if_neg c]
theorem mk_isi (n : Int) : isi (mkA v L A F H) n = if 0 ≤ n ∧ n < 8 then bt v n.toNat else 0 := rfl
end MKA
section VIEW
variable {q b : Nat} {a : AS} {G : Hp} {T : TT}
theorem XA.l (h : XA q a G) {n k : Int} (h1 : 0 ≤ n) (h2 : n < 8) (h3 : 0 ≤ k) (h4 : k < 4) : G (q + 1) (4 * n + k).toNat = lst a n k := by
  unfold lst; rw [if_pos ⟨h1, h2, h3, h4⟩]; exact h.2 _ (by omega)
theorem XA.ah (h : XA q a G) {n : Int} (h1 : 0 ≤ n) (h2 : n < 8) : G (q + 1) (32 + n).toNat = ahd a n := by
  unfold ahd; rw [if_pos ⟨h1, h2⟩]; exact h.2 _ (by omega)
theorem XA.f (h : XA q a G) {n k : Int} (h1 : 0 ≤ n) (h2 : n < 8) (h3 : 0 ≤ k) (h4 : k < 8) : G (q + 1) (40 + 8 * n + k).toNat = fng a n k := by
  unfold fng; rw [if_pos ⟨h1, h2, h3, h4⟩]; exact h.2 _ (by omega)
theorem XA.h (h : XA q a G) {k : Int} (h3 : 0 ≤ k) (h4 : k < 10) : G (q + 1) (104 + k).toNat = hld a k := by
  unfold hld; rw [if_pos ⟨h3, h4⟩]; exact h.2 _ (by omega)
theorem XA_of (h0 : G q 1 = a.1) (hl : ∀ n k : Int, 0 ≤ n → n < 8 → 0 ≤ k → k < 4 → G (q + 1) (4 * n + k).toNat = lst a n k) (ha : ∀ n : Int, 0 ≤ n → n < 8 → G (q + 1) (32 + n).toNat = ahd a n) (hf : ∀ n k : Int, 0 ≤ n → n < 8 → 0 ≤ k → k < 8 → G (q + 1) (40 + 8 * n + k).toNat = fng a n k) (hh : ∀ k : Int, 0 ≤ k → k < 10 → G (q + 1) (104 + k).toNat = hld a k) : XA q a G := by
  refine ⟨h0, fun i hi => ?_⟩
  by_cases c1 : i < 32
  · have := hl ((i : Int) / 4) ((i : Int) % 4) (by omega) (by omega) (by omega) (by omega)
    unfold lst at this
    rw [if_pos ⟨by omega, by omega, by omega, by omega⟩, show (4 * ((i : Int) / 4) + (i : Int) % 4).toNat = i by omega] at this
    exact this
  · by_cases c2 : i < 40
    · have := ha ((i : Int) - 32) (by omega) (by omega)
      unfold ahd at this
      rw [if_pos ⟨by omega, by omega⟩, show (32 + ((i : Int) - 32)).toNat = i by omega] at this
      exact this
    · by_cases c3 : i < 104
      · have := hf (((i : Int) - 40) / 8) (((i : Int) - 40) % 8) (by omega) (by omega) (by omega) (by omega)
        unfold fng at this
        rw [if_pos ⟨by omega, by omega, by omega, by omega⟩, show (40 + 8 * (((i : Int) - 40) / 8) + ((i : Int) - 40) % 8).toNat = i by omega] at this
        exact this
      · have := hh ((i : Int) - 104) (by omega) (by omega)
        unfold hld at this
        rw [if_pos ⟨by omega, by omega⟩, show (104 + ((i : Int) - 104)).toNat = i by omega] at this
        exact this
theorem MR.i (h : MR b a G) {n : Int} (h1 : 0 ≤ n) (h2 : n < 8) : G 123 ((b : Int) + 15 * n).toNat = isi a n := by
  rw [h.at (by omega) (by omega), show (b : Int) + 15 * n - b = 15 * n by omega, lay_in h1 h2]
theorem MR.n (h : MR b a G) {n : Int} (h1 : 0 ≤ n) (h2 : n < 8) : G 123 ((b : Int) + 15 * n + 1).toNat = llen a n := by
  rw [h.at (by omega) (by omega), show (b : Int) + 15 * n + 1 - b = 15 * n + 1 by omega, lay_len h1 h2]
theorem MR.l (h : MR b a G) {n k : Int} (h1 : 0 ≤ n) (h2 : n < 8) (h3 : 0 ≤ k) (h4 : k < 4) : G 123 ((b : Int) + 15 * n + 2 + k).toNat = lst a n k := by
  rw [h.at (by omega) (by omega), show (b : Int) + 15 * n + 2 + k - b = 15 * n + 2 + k by omega, lay_lst h1 h2 h3 h4]
theorem MR.ah (h : MR b a G) {n : Int} (h1 : 0 ≤ n) (h2 : n < 8) : G 123 ((b : Int) + 15 * n + 6).toNat = ahd a n := by
  rw [h.at (by omega) (by omega), show (b : Int) + 15 * n + 6 - b = 15 * n + 6 by omega, lay_ahd h1 h2]
theorem MR.f (h : MR b a G) {n k : Int} (h1 : 0 ≤ n) (h2 : n < 8) (h3 : 0 ≤ k) (h4 : k < 8) : G 123 ((b : Int) + 15 * n + 7 + k).toNat = fng a n k := by
  rw [h.at (by omega) (by omega), show (b : Int) + 15 * n + 7 + k - b = 15 * n + 7 + k by omega, lay_fng h1 h2 h3 h4]
theorem MR.h (h : MR b a G) {k : Int} (h3 : 0 ≤ k) (h4 : k < 10) : G 123 ((b : Int) + 120 + k).toNat = hld a k := by
  rw [h.at (by omega) (by omega), show (b : Int) + 120 + k - b = 120 + k by omega, lay_hld h3 h4]
theorem MR_of (hi : ∀ n : Int, 0 ≤ n → n < 8 → G 123 ((b : Int) + 15 * n).toNat = isi a n) (hn : ∀ n : Int, 0 ≤ n → n < 8 → G 123 ((b : Int) + 15 * n + 1).toNat = llen a n) (hl : ∀ n k : Int, 0 ≤ n → n < 8 → 0 ≤ k → k < 4 → G 123 ((b : Int) + 15 * n + 2 + k).toNat = lst a n k) (ha : ∀ n : Int, 0 ≤ n → n < 8 → G 123 ((b : Int) + 15 * n + 6).toNat = ahd a n) (hf : ∀ n k : Int, 0 ≤ n → n < 8 → 0 ≤ k → k < 8 → G 123 ((b : Int) + 15 * n + 7 + k).toNat = fng a n k) (hh : ∀ k : Int, 0 ≤ k → k < 10 → G 123 ((b : Int) + 120 + k).toNat = hld a k) : MR b a G := by
  intro i hi'
  unfold lay
  by_cases c : i < 120
  · rw [if_pos c]
    split
    · rw [← hi _ (by omega) (by omega)]; congr 1; omega
    · split
      · rw [← hn _ (by omega) (by omega)]; congr 1; omega
      · split
        · rw [← hl _ _ (by omega) (by omega) (by omega) (by omega)]; congr 1; omega
        · split
          · rw [← ha _ (by omega) (by omega)]; congr 1; omega
          · rw [← hf _ _ (by omega) (by omega) (by omega) (by omega)]; congr 1; omega
  · rw [if_neg c, ← hh _ (by omega) (by omega)]; congr 1; omega
theorem llen_of {n m : Int} (h1 : 0 ≤ m) (h2 : m ≤ 4) (hi : ∀ k : Int, 0 ≤ k → k < m → lst a n k ≠ -1) (ho : ∀ k : Int, m ≤ k → k < 4 → lst a n k = -1) : llen a n = m := by
  unfold llen
  have q : m = 0 ∨ m = 1 ∨ m = 2 ∨ m = 3 ∨ m = 4 := by omega
  rcases q with rfl | rfl | rfl | rfl | rfl
  · rw [if_pos (ho 0 (by omega) (by omega))]
  · rw [if_neg (hi 0 (by omega) (by omega)), if_pos (ho 1 (by omega) (by omega))]
  · rw [if_neg (hi 0 (by omega) (by omega)), if_neg (hi 1 (by omega) (by omega)), if_pos (ho 2 (by omega) (by omega))]
  · rw [if_neg (hi 0 (by omega) (by omega)), if_neg (hi 1 (by omega) (by omega)), if_neg (hi 2 (by omega) (by omega)), if_pos (ho 3 (by omega) (by omega))]
  · rw [if_neg (hi 0 (by omega) (by omega)), if_neg (hi 1 (by omega) (by omega)), if_neg (hi 2 (by omega) (by omega)), if_neg (hi 3 (by omega) (by omega))]
theorem llen_c {a' : AS} {n m : Int} (h : ∀ k, lst a n k = lst a' m k) : llen a n = llen a' m := by
  unfold llen; rw [h, h, h, h]
/-- the frames -/
def FRM (b : Nat) (G G' : Hp) : Prop := (∀ c, c ≠ 111 → c ≠ 123 → c ≠ 126 → c ≠ 127 → G' c = G c) ∧ (∀ k, k ≠ 21 → G' 111 k = G 111 k) ∧ (∀ i, i < b ∨ b + 130 ≤ i → G' 123 i = G 123 i)
theorem FRM.rf (b : Nat) (G : Hp) : FRM b G G := ⟨fun _ _ _ _ _ => rfl, fun _ _ => rfl, fun _ _ => rfl⟩
theorem FRM.tr {G1 G2 : Hp} (h : FRM b G G1) (k : FRM b G1 G2) : FRM b G G2 := ⟨fun c x y z u => (k.1 c x y z u).trans (h.1 c x y z u), fun j x => (k.2.1 j x).trans (h.2.1 j x), fun i x => (k.2.2 i x).trans (h.2.2 i x)⟩
theorem FRM.wu {k : Nat} {v : Int} (h : b ≤ k) (h2 : k < b + 130) : FRM b G (up G 123 k v) := ⟨fun c _ y _ _ => up_ne y, fun j _ => by rw [up_ne (by decide)], fun i x => by rw [up_at, if_neg (by omega)]⟩
theorem FRM.wu7 {k : Nat} {v : Int} : FRM b G (up G 127 k v) := ⟨fun c _ _ _ y => up_ne y, fun j _ => by rw [up_ne (by decide)], fun i x => by rw [up_ne (by decide)]⟩
theorem FRM.tt {G' : Hp} (h : FRM b G G') (k : MT T G) : MT T G' := k.fr (h.1 117 (by decide) (by decide) (by decide) (by decide)) (h.1 125 (by decide) (by decide) (by decide) (by decide))
theorem FRM.of {G' : Hp} (h1 : ∀ c, c ≠ 111 → c ≠ 126 → G' c = G c) (h2 : ∀ k, k ≠ 21 → G' 111 k = G 111 k) : FRM b G G' := ⟨fun c x _ y _ => h1 c x y, h2, fun i _ => by rw [h1 123 (by decide) (by decide)]⟩
theorem FRD.tt {G' : Hp} (h : FRD G G') (k : XT T G) : XT T G' := k.fr (h 4 (by decide) (by decide) (by decide) (by decide) (by decide)) (h 5 (by decide) (by decide) (by decide) (by decide) (by decide)) (h 6 (by decide) (by decide) (by decide) (by decide) (by decide)) (h 9 (by decide) (by decide) (by decide) (by decide) (by decide))
theorem FRD.of {G' : Hp} (h1 : ∀ c, c ≠ 29 → c ≠ 30 → G' c = G c) : FRD G G' := fun c _ _ x y _ => h1 c x y
/-! who is in -/
def ent (a : AS) (n : Int) : Int := a.1 + (1 - bt a.1 n.toNat) * 2 ^ n.toNat
def gou (a : AS) (n : Int) : Int := a.1 - bt a.1 n.toNat * 2 ^ n.toNat
theorem ent_ok (h : okv a) {n : Int} (h1 : 0 ≤ n) (h2 : n < 8) : 0 ≤ ent a n ∧ ent a n < 256 := by
  have := ent_rng h.1 h.2 (n := n.toNat) (by omega); exact ⟨this.1, this.2.1⟩
theorem gou_ok (h : okv a) {n : Int} (h1 : 0 ≤ n) (h2 : n < 8) : 0 ≤ gou a n ∧ gou a n < 256 := by
  have := ent_rng h.1 h.2 (n := n.toNat) (by omega); exact ⟨this.2.2.1, this.2.2.2⟩
theorem ent_bt (h : okv a) {n m : Int} (h1 : 0 ≤ n) (h2 : n < 8) (h3 : 0 ≤ m) (h4 : m < 8) : bt (ent a n) m.toNat = if m = n then 1 else isi a m := by
  unfold ent; rw [bt_ent h.1 h.2 (by omega) (by omega), isi_bt h3 h4]
  by_cases c : m = n
  · rw [if_pos (by omega), if_pos c]
  · rw [if_neg (by omega), if_neg c]
theorem gou_bt (h : okv a) {n m : Int} (h1 : 0 ≤ n) (h2 : n < 8) (h3 : 0 ≤ m) (h4 : m < 8) : bt (gou a n) m.toNat = if m = n then 0 else isi a m := by
  unfold gou; rw [bt_gou h.1 h.2 (by omega) (by omega), isi_bt h3 h4]
  by_cases c : m = n
  · rw [if_pos (by omega), if_pos c]
  · rw [if_neg (by omega), if_neg c]
/-! steps that states are changed by -/
def dIn (a : AS) (n : Int) : AS := mkA (ent a n) (lst a) (ahd a) (fng a) (hld a)
def dOut (a : AS) (n : Int) : AS := mkA (gou a n) (fun m k => if m = n then -1 else lst a m k) (fun m => if m = n then -1 else ahd a m) (fun m k => if m = n then -1 else fng a m k) (hld a)
def dLs (a : AS) (n : Int) (l : Int → Int) : AS := mkA a.1 (fun m k => if m = n then l k else lst a m k) (ahd a) (fng a) (hld a)
def dA (a : AS) (n v : Int) : AS := mkA a.1 (lst a) (fun m => if m = n then v else ahd a m) (fng a) (hld a)
def dF (a : AS) (n : Int) (f : Int → Int) : AS := mkA a.1 (lst a) (ahd a) (fun m k => if m = n then f k else fng a m k) (hld a)
def dH (a : AS) (h : Int → Int) : AS := mkA a.1 (lst a) (ahd a) (fng a) h
theorem dIn_lst (n : Int) (m k : Int) : lst (dIn a n) m k = lst a m k := by
  unfold dIn; rw [mk_lst]; unfold lst; grind
theorem dIn_ahd (n : Int) (m : Int) : ahd (dIn a n) m = ahd a m := by
  unfold dIn; rw [mk_ahd]; unfold ahd; grind
theorem dIn_fng (n : Int) (m k : Int) : fng (dIn a n) m k = fng a m k := by
  unfold dIn; rw [mk_fng]; unfold fng; grind
theorem dIn_hld (n : Int) (k : Int) : hld (dIn a n) k = hld a k := by
  unfold dIn; rw [mk_hld]; unfold hld; grind
theorem dOut_lst (n : Int) (m k : Int) : lst (dOut a n) m k = if m = n then -1 else lst a m k := by
  unfold dOut; rw [mk_lst]; unfold lst; grind
theorem dOut_ahd (n : Int) (m : Int) : ahd (dOut a n) m = if m = n then -1 else ahd a m := by
  unfold dOut; rw [mk_ahd]; unfold ahd; grind
theorem dOut_fng (n : Int) (m k : Int) : fng (dOut a n) m k = if m = n then -1 else fng a m k := by
  unfold dOut; rw [mk_fng]; unfold fng; grind
theorem dOut_hld (n : Int) (k : Int) : hld (dOut a n) k = hld a k := by
  unfold dOut; rw [mk_hld]; unfold hld; grind
theorem dLs_lst (n : Int) (l : Int → Int) (m k : Int) : lst (dLs a n l) m k = if m = n ∧ 0 ≤ m ∧ m < 8 ∧ 0 ≤ k ∧ k < 4 then l k else lst a m k := by
  unfold dLs; rw [mk_lst]; unfold lst; grind
theorem dLs_ahd (n : Int) (l : Int → Int) (m : Int) : ahd (dLs a n l) m = ahd a m := by
  unfold dLs; rw [mk_ahd]; unfold ahd; grind
theorem dLs_fng (n : Int) (l : Int → Int) (m k : Int) : fng (dLs a n l) m k = fng a m k := by
  unfold dLs; rw [mk_fng]; unfold fng; grind
theorem dLs_hld (n : Int) (l : Int → Int) (k : Int) : hld (dLs a n l) k = hld a k := by
  unfold dLs; rw [mk_hld]; unfold hld; grind
theorem dA_lst (n v : Int) (m k : Int) : lst (dA a n v) m k = lst a m k := by
  unfold dA; rw [mk_lst]; unfold lst; grind
theorem dA_ahd (n v : Int) (m : Int) : ahd (dA a n v) m = if m = n ∧ 0 ≤ m ∧ m < 8 then v else ahd a m := by
  unfold dA; rw [mk_ahd]; unfold ahd; grind
theorem dA_fng (n v : Int) (m k : Int) : fng (dA a n v) m k = fng a m k := by
  unfold dA; rw [mk_fng]; unfold fng; grind
theorem dA_hld (n v : Int) (k : Int) : hld (dA a n v) k = hld a k := by
  unfold dA; rw [mk_hld]; unfold hld; grind
theorem dF_lst (n : Int) (f : Int → Int) (m k : Int) : lst (dF a n f) m k = lst a m k := by
  unfold dF; rw [mk_lst]; unfold lst; grind
theorem dF_ahd (n : Int) (f : Int → Int) (m : Int) : ahd (dF a n f) m = ahd a m := by
  unfold dF; rw [mk_ahd]; unfold ahd; grind
theorem dF_fng (n : Int) (f : Int → Int) (m k : Int) : fng (dF a n f) m k = if m = n ∧ 0 ≤ m ∧ m < 8 ∧ 0 ≤ k ∧ k < 8 then f k else fng a m k := by
  unfold dF; rw [mk_fng]; unfold fng; grind
theorem dF_hld (n : Int) (f : Int → Int) (k : Int) : hld (dF a n f) k = hld a k := by
  unfold dF; rw [mk_hld]; unfold hld; grind
theorem dH_lst (h : Int → Int) (m k : Int) : lst (dH a h) m k = lst a m k := by
  unfold dH; rw [mk_lst]; unfold lst; grind
theorem dH_ahd (h : Int → Int) (m : Int) : ahd (dH a h) m = ahd a m := by
  unfold dH; rw [mk_ahd]; unfold ahd; grind
theorem dH_fng (h : Int → Int) (m k : Int) : fng (dH a h) m k = fng a m k := by
  unfold dH; rw [mk_fng]; unfold fng; grind
theorem dH_hld (h : Int → Int) (k : Int) : hld (dH a h) k = if 0 ≤ k ∧ k < 10 then h k else hld a k := by
  unfold dH; rw [mk_hld]; unfold hld; grind
theorem dIn_isi (h : okv a) {n : Int} (h1 : 0 ≤ n) (h2 : n < 8) (m : Int) : isi (dIn a n) m = if m = n then 1 else isi a m := by
  unfold dIn; rw [mk_isi]
  by_cases c : 0 ≤ m ∧ m < 8
  · rw [if_pos c, ent_bt h h1 h2 c.1 c.2]
  · rw [if_neg c, if_neg (by omega)]; unfold isi; rw [if_neg c]
theorem dOut_isi (h : okv a) {n : Int} (h1 : 0 ≤ n) (h2 : n < 8) (m : Int) : isi (dOut a n) m = if m = n then 0 else isi a m := by
  unfold dOut; rw [mk_isi]
  by_cases c : 0 ≤ m ∧ m < 8
  · rw [if_pos c, gou_bt h h1 h2 c.1 c.2]
  · rw [if_neg c, if_neg (by omega)]; unfold isi; rw [if_neg c]
theorem dLs_isi (n : Int) (l : Int → Int) (m : Int) : isi (dLs a n l) m = isi a m := rfl
theorem dA_isi (n v : Int) (m : Int) : isi (dA a n v) m = isi a m := rfl
theorem dF_isi (n : Int) (l : Int → Int) (m : Int) : isi (dF a n l) m = isi a m := rfl
theorem dH_isi (l : Int → Int) (m : Int) : isi (dH a l) m = isi a m := rfl
/-! what is so of every state stays so -/
theorem WA_of (h1 : okv a) (h2 : ∀ n : Int, isi a n = 1 → n < tN T) (h3 : ∀ n k : Int, -1 ≤ lst a n k ∧ lst a n k < tN T) (h4 : ∀ n k : Int, 0 ≤ k → lst a n (k + 1) ≠ -1 → lst a n k ≠ -1) (h5 : ∀ n k j : Int, 0 ≤ k → k < j → lst a n k = lst a n j → lst a n k = -1) (h6 : ∀ n : Int, -1 ≤ ahd a n ∧ ahd a n < tN T) (h7 : ∀ n k : Int, -1 ≤ fng a n k ∧ fng a n k < tN T) (h8 : ∀ k : Int, -1 ≤ hld a k ∧ hld a k < tN T) (h9 : ∀ k : Int, tK T ≤ k → hld a k = -1) (h10 : ∀ n : Int, isi a n = 0 → (∀ k, lst a n k = -1) ∧ ahd a n = -1 ∧ ∀ k, fng a n k = -1) : WA T a := ⟨h1, h2, h3, h4, h5, h6, h7, h8, h9, h10⟩
theorem WA.o (h : WA T a) {n : Int} (k : isi a n = 0) : (∀ k, lst a n k = -1) ∧ ahd a n = -1 ∧ ∀ k, fng a n k = -1 := h.2.2.2.2.2.2.2.2.2 n k
theorem WA.kz (h : WA T a) {k : Int} (q : tK T ≤ k) : hld a k = -1 := h.2.2.2.2.2.2.2.2.1 k q
theorem WA.pf (h : WA T a) {n k : Int} (q : 0 ≤ k) : lst a n (k + 1) ≠ -1 → lst a n k ≠ -1 := h.2.2.2.1 n k q
theorem WA.ds (h : WA T a) {n k j : Int} (q : 0 ≤ k) (r : k < j) : lst a n k = lst a n j → lst a n k = -1 := h.2.2.2.2.1 n k j q r
theorem WA.dA (h : WA T a) {n v : Int} (hn : isi a n = 1) (hv : -1 ≤ v ∧ v < tN T) : WA T (dA a n v) := by
  refine WA_of h.1 h.2.1 (fun m k => ?_) (fun m k q => ?_) (fun m k j q r => ?_) (fun m => ?_) (fun m k => ?_) (fun k => ?_) (fun k q => ?_) (fun m q => ?_)
  · rw [dA_lst]; exact h.lr m k
  · rw [dA_lst, dA_lst]; exact h.pf q
  · rw [dA_lst, dA_lst]; exact h.ds q r
  · rw [dA_ahd]; have := h.ar m; split <;> omega
  · rw [dA_fng]; exact h.fr m k
  · rw [dA_hld]; exact h.hr k
  · rw [dA_hld]; exact h.kz q
  · rw [dA_isi] at q
    have := h.o q
    refine ⟨fun k => by rw [dA_lst]; exact this.1 k, ?_, fun k => by rw [dA_fng]; exact this.2.2 k⟩
    rw [dA_ahd, if_neg (fun z => by rw [z.1] at q; omega)]; exact this.2.1
theorem WA.dF (h : WA T a) {n : Int} {f : Int → Int} (hn : isi a n = 1) (hv : ∀ k, -1 ≤ f k ∧ f k < tN T) : WA T (dF a n f) := by
  refine WA_of h.1 h.2.1 (fun m k => ?_) (fun m k q => ?_) (fun m k j q r => ?_) (fun m => ?_) (fun m k => ?_) (fun k => ?_) (fun k q => ?_) (fun m q => ?_)
  · rw [dF_lst]; exact h.lr m k
  · rw [dF_lst, dF_lst]; exact h.pf q
  · rw [dF_lst, dF_lst]; exact h.ds q r
  · rw [dF_ahd]; exact h.ar m
  · rw [dF_fng]; have := h.fr m k; have := hv k; split <;> omega
  · rw [dF_hld]; exact h.hr k
  · rw [dF_hld]; exact h.kz q
  · rw [dF_isi] at q
    have := h.o q
    refine ⟨fun k => by rw [dF_lst]; exact this.1 k, by rw [dF_ahd]; exact this.2.1, fun k => ?_⟩
    rw [dF_fng, if_neg (fun z => by rw [z.1] at q; omega)]; exact this.2.2 k
theorem WA.dH (h : WA T a) {f : Int → Int} (w : WT T) (hv : ∀ k, -1 ≤ f k ∧ f k < tN T) (hz : ∀ k, tK T ≤ k → f k = -1) : WA T (dH a f) := by
  refine WA_of h.1 h.2.1 (fun m k => ?_) (fun m k q => ?_) (fun m k j q r => ?_) (fun m => ?_) (fun m k => ?_) (fun k => ?_) (fun k q => ?_) (fun m q => ?_)
  · rw [dH_lst]; exact h.lr m k
  · rw [dH_lst, dH_lst]; exact h.pf q
  · rw [dH_lst, dH_lst]; exact h.ds q r
  · rw [dH_ahd]; exact h.ar m
  · rw [dH_fng]; exact h.fr m k
  · rw [dH_hld]; have := hv k; have := h.hr k; split <;> omega
  · rw [dH_hld]; have := hz k q; have := h.kz q; split <;> omega
  · rw [dH_isi] at q
    have := h.o q
    exact ⟨fun k => by rw [dH_lst]; exact this.1 k, by rw [dH_ahd]; exact this.2.1, fun k => by rw [dH_fng]; exact this.2.2 k⟩
theorem WA.dLs (h : WA T a) {n : Int} {l : Int → Int} (hn : isi a n = 1) (hr : ∀ k, -1 ≤ l k ∧ l k < tN T) (hp : ∀ k, 0 ≤ k → l (k + 1) ≠ -1 → l k ≠ -1) (hd : ∀ k j, 0 ≤ k → k < j → l k = l j → l k = -1) : WA T (dLs a n l) := by
  refine WA_of h.1 h.2.1 (fun m k => ?_) (fun m k q => ?_) (fun m k j q r => ?_) (fun m => ?_) (fun m k => ?_) (fun k => ?_) (fun k q => ?_) (fun m q => ?_)
  · rw [dLs_lst]; have := hr k; have := h.lr m k; split <;> omega
  · rw [dLs_lst, dLs_lst]
    have := h.pf (n := m) q
    have := hp k q
    by_cases c : m = n ∧ 0 ≤ m ∧ m < 8 ∧ 0 ≤ k ∧ k < 4
    · rw [if_pos c]
      by_cases c2 : k + 1 < 4
      · rw [if_pos (by omega)]; assumption
      · rw [if_neg (by omega)]; intro z; exfalso; apply z; unfold lst; rw [if_neg (by omega)]
    · rw [if_neg c, if_neg (by omega)]; assumption
  · rw [dLs_lst, dLs_lst]
    have d1 := h.ds (n := m) q r
    have d2 := hd k j q r
    by_cases c : m = n ∧ 0 ≤ m ∧ m < 8 ∧ 0 ≤ k ∧ k < 4
    · rw [if_pos c]
      by_cases c2 : j < 4
      · rw [if_pos (by omega)]; assumption
      · rw [if_neg (by omega)]; intro z; rw [z]; unfold lst; rw [if_neg (by omega)]
    · rw [if_neg c]
      by_cases c2 : m = n ∧ 0 ≤ m ∧ m < 8 ∧ 0 ≤ j ∧ j < 4
      · exfalso; omega
      · rw [if_neg c2]; assumption
  · rw [dLs_ahd]; exact h.ar m
  · rw [dLs_fng]; exact h.fr m k
  · rw [dLs_hld]; exact h.hr k
  · rw [dLs_hld]; exact h.kz q
  · rw [dLs_isi] at q
    have := h.o q
    refine ⟨fun k => ?_, by rw [dLs_ahd]; exact this.2.1, fun k => by rw [dLs_fng]; exact this.2.2 k⟩
    rw [dLs_lst, if_neg (fun z => by rw [z.1] at q; omega)]; exact this.1 k
theorem WA.dOut (h : WA T a) {n : Int} (h1 : 0 ≤ n) (h2 : n < 8) : WA T (dOut a n) := by
  refine WA_of (gou_ok h.1 h1 h2) (fun m q => ?_) (fun m k => ?_) (fun m k q => ?_) (fun m k j q r => ?_) (fun m => ?_) (fun m k => ?_) (fun k => ?_) (fun k q => ?_) (fun m q => ?_)
  · rw [dOut_isi h.1 h1 h2] at q; split at q
    · omega
    · exact h.2.1 m q
  · rw [dOut_lst]; have := h.lr m k; split <;> omega
  · rw [dOut_lst, dOut_lst]
    by_cases c : m = n
    · rw [if_pos c, if_pos c]; intro z; exact z
    · rw [if_neg c, if_neg c]; exact h.pf q
  · rw [dOut_lst, dOut_lst]
    by_cases c : m = n
    · rw [if_pos c, if_pos c]; intro z; exact z
    · rw [if_neg c, if_neg c]; exact h.ds q r
  · rw [dOut_ahd]; have := h.ar m; split <;> omega
  · rw [dOut_fng]; have := h.fr m k; split <;> omega
  · rw [dOut_hld]; exact h.hr k
  · rw [dOut_hld]; exact h.kz q
  · rw [dOut_isi h.1 h1 h2] at q
    by_cases c : m = n
    · exact ⟨fun k => by rw [dOut_lst, if_pos c], by rw [dOut_ahd, if_pos c], fun k => by rw [dOut_fng, if_pos c]⟩
    · rw [if_neg c] at q
      have := h.o q
      exact ⟨fun k => by rw [dOut_lst, if_neg c]; exact this.1 k, by rw [dOut_ahd, if_neg c]; exact this.2.1, fun k => by rw [dOut_fng, if_neg c]; exact this.2.2 k⟩
theorem WA.dIn (h : WA T a) {n : Int} (w : WT T) (h1 : 0 ≤ n) (h2 : n < tN T) : WA T (dIn a n) := by
  have hN := w.rg
  refine WA_of (ent_ok h.1 h1 (by omega)) (fun m q => ?_) (fun m k => ?_) (fun m k q => ?_) (fun m k j q r => ?_) (fun m => ?_) (fun m k => ?_) (fun k => ?_) (fun k q => ?_) (fun m q => ?_)
  · rw [dIn_isi h.1 h1 (by omega)] at q; split at q
    · omega
    · exact h.2.1 m q
  · rw [dIn_lst]; exact h.lr m k
  · rw [dIn_lst, dIn_lst]; exact h.pf q
  · rw [dIn_lst, dIn_lst]; exact h.ds q r
  · rw [dIn_ahd]; exact h.ar m
  · rw [dIn_fng]; exact h.fr m k
  · rw [dIn_hld]; exact h.hr k
  · rw [dIn_hld]; exact h.kz q
  · rw [dIn_isi h.1 h1 (by omega)] at q
    by_cases c : m = n
    · rw [if_pos c] at q; omega
    · rw [if_neg c] at q
      have := h.o q
      exact ⟨fun k => by rw [dIn_lst]; exact this.1 k, by rw [dIn_ahd]; exact this.2.1, fun k => by rw [dIn_fng]; exact this.2.2 k⟩
end VIEW
