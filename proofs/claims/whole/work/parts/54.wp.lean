/-! what a plain program comes to -/
def WP (o : RT) (Q : Int → Hp → Prop) : Prop := ∃ r G, o = some (r, G) ∧ Q r G
theorem WP_eq {o : RT} {s : Int} {G : Hp} (h : WP o (fun r G' => r = s ∧ G' = G)) : o = some (s, G) := by
  obtain ⟨r, g, h1, h2, h3⟩ := h
  rw [h1, h2, h3]
theorem WP_of {o : RT} {s : Int} {G : Hp} {Q : Int → Hp → Prop} (h : o = some (s, G)) (q : Q s G) : WP o Q := ⟨s, G, h, q⟩
theorem WP.mono {o : RT} {Q Q' : Int → Hp → Prop} (h : WP o Q) (k : ∀ r G, Q r G → Q' r G) : WP o Q' := by
  obtain ⟨r, g, h1, h2⟩ := h
  exact ⟨r, g, h1, k r g h2⟩
section WPR
variable {Q : Int → Hp → Prop}
theorem w_bd {e : Int} {f : Int → RT} (h : ∀ v, v = e → WP (f v) Q) : WP (bd e f) Q := h e rfl
theorem w_bh {e : Hp} {f : Hp → RT} (h : ∀ v, v = e → WP (f v) Q) : WP (bh e f) Q := h e rfl
theorem w_jn {X : Type} {K : X} {f : X → RT} (h : WP (f K) Q) : WP (jn K f) Q := h
theorem w_ite {c : Prop} {D : Decidable c} {o1 o2 : RT} (h1 : c → WP o1 Q) (h2 : ¬ c → WP o2 Q) : WP (@ite RT c D o1 o2) Q := by
  by_cases h : c
  · rw [if_pos h]; exact h1 h
  · rw [if_neg h]; exact h2 h
theorem w_rd {G : Hp} {c len : Nat} {i : Int} {f : Int → RT} (h1 : 0 ≤ i) (h2 : i < (len : Int)) (h : ∀ v, v = G c i.toNat → WP (f v) Q) : WP (br (rd G c len i) f) Q := by
  rw [rd_in h1 h2]; exact h _ rfl
theorem w_rdv {G : Hp} {c len : Nat} {i x : Int} {f : Int → RT} (e : rd G c len i = some x) (h : ∀ v, v = x → WP (f v) Q) : WP (br (rd G c len i) f) Q := by
  rw [e]; exact h _ rfl
theorem w_wr {G : Hp} {c len : Nat} {i v : Int} {f : Hp → RT} (h1 : 0 ≤ i) (h2 : i < (len : Int)) (h : ∀ g, g = up G c i.toNat v → WP (f g) Q) : WP (bs (wr G c len i v) f) Q := by
  rw [wr_in h1 h2]; exact h _ rfl
theorem w_wrZ {G : Hp} {c len : Nat} {i v : Int} {f : Hp → RT} (h1 : 0 ≤ i) (h2 : i < (len : Int)) (h3 : v = 0 ∨ v = 1) (h : ∀ g, g = up G c i.toNat v → WP (f g) Q) : WP (bs (wrZ G c len i v) f) Q := by
  rw [wrZ_in h1 h2 h3]; exact h _ rfl
theorem w_wrC {G : Hp} {c len : Nat} {i v : Int} {f : Hp → RT} (h1 : 0 ≤ i) (h2 : i < (len : Int)) (h3 : 0 ≤ v) (h4 : v ≤ 65535) (h : ∀ g, g = up G c i.toNat v → WP (f g) Q) : WP (bs (wrC G c len i v) f) Q := by
  rw [wrC_in h1 h2 h3 h4]; exact h _ rfl
theorem w_bp {o : RT} {r : Int} {G : Hp} {f : Int → RT} (h : o = some (r, G)) (k : ∀ v, v = r → WP (f v) Q) : WP (bp o f) Q := by
  rw [h]; exact k _ rfl
theorem w_bpq {o : RT} {Q' : Int → Hp → Prop} {f : Int → RT} (h : WP o Q') (k : ∀ v g, Q' v g → WP (f v) Q) : WP (bp o f) Q := by
  obtain ⟨r, g, h1, h2⟩ := h
  rw [h1]; exact k _ _ h2
theorem w_bne {o : RT} {r : Int} {G : Hp} {f : Int → Hp → RT} (h : o = some (r, G)) (k : ∀ v g, v = r → g = G → WP (f v g) Q) : WP (bn o f) Q := by
  rw [h]; exact k _ _ rfl rfl
theorem w_bn {o : RT} {Q' : Int → Hp → Prop} {f : Int → Hp → RT} (h : WP o Q') (k : ∀ v g, Q' v g → WP (f v g) Q) : WP (bn o f) Q := by
  obtain ⟨r, g, h1, h2⟩ := h
  rw [h1]; exact k _ _ h2
theorem w_rt {r : Int} {G : Hp} (h : Q r G) : WP (rt r G) Q := ⟨r, G, rfl, h⟩
theorem w_rz {r : Int} {G : Hp} (h0 : r = 0 ∨ r = 1) (h : Q r G) : WP (rz r G) Q := ⟨r, G, rz_in h0, h⟩
theorem w_nz {v : Int} {o : RT} (h0 : v ≠ 0) (h : WP o Q) : WP (nz v o) Q := by rw [nz_in h0]; exact h
theorem w_pz {v : Int} {o : RT} (h0 : v = 0 ∨ v = 1) (h : WP o Q) : WP (pz v o) Q := by rw [pz_in h0]; exact h
theorem w_rdS {i : Nat} {j : Int} {f : Int → RT} (h1 : 0 ≤ j) (h2 : j < ((sLen.getD i 0 : Nat) : Int)) (h : ∀ v, v = ((sByt.getD i []).getD j.toNat 0).toInt → WP (f v) Q) : WP (br (rdS i j) f) Q := by
  unfold rdS; rw [if_pos ⟨h1, h2⟩]; exact h _ rfl
theorem w_lpI {b : Int → RT} {F : (Int → RT) → Int → RT} (I : Int → Prop) (m : Int → Nat) (hs : ∀ rc v0, I v0 → (∀ u0, I u0 → m u0 < m v0 → WP (rc u0) Q) → WP (F rc v0) Q) (x0 : Int) (h0 : I x0) (hm : m x0 < 5000) : WP (lp b 5000 F x0) Q := by
  have key : ∀ k v0, I v0 → m v0 < k → WP (lp b k F v0) Q := by
    intro k
    induction k with
    | zero => intro v0 _ h; exact absurd h (Nat.not_lt_zero _)
    | succ k ih => intro v0 hI h; exact hs _ v0 hI (fun u0 hu hl => ih u0 hu (by omega))
  exact key 5000 x0 h0 hm
theorem w_lpII {b : Int → Int → RT} {F : (Int → Int → RT) → Int → Int → RT} (I : Int → Int → Prop) (m : Int → Int → Nat) (hs : ∀ rc v0 v1, I v0 v1 → (∀ u0 u1, I u0 u1 → m u0 u1 < m v0 v1 → WP (rc u0 u1) Q) → WP (F rc v0 v1) Q) (x0 : Int) (x1 : Int) (h0 : I x0 x1) (hm : m x0 x1 < 5000) : WP (lp b 5000 F x0 x1) Q := by
  have key : ∀ k v0 v1, I v0 v1 → m v0 v1 < k → WP (lp b k F v0 v1) Q := by
    intro k
    induction k with
    | zero => intro v0 v1 _ h; exact absurd h (Nat.not_lt_zero _)
    | succ k ih => intro v0 v1 hI h; exact hs _ v0 v1 hI (fun u0 u1 hu hl => ih u0 u1 hu (by omega))
  exact key 5000 x0 x1 h0 hm
theorem w_lpIII {b : Int → Int → Int → RT} {F : (Int → Int → Int → RT) → Int → Int → Int → RT} (I : Int → Int → Int → Prop) (m : Int → Int → Int → Nat) (hs : ∀ rc v0 v1 v2, I v0 v1 v2 → (∀ u0 u1 u2, I u0 u1 u2 → m u0 u1 u2 < m v0 v1 v2 → WP (rc u0 u1 u2) Q) → WP (F rc v0 v1 v2) Q) (x0 : Int) (x1 : Int) (x2 : Int) (h0 : I x0 x1 x2) (hm : m x0 x1 x2 < 5000) : WP (lp b 5000 F x0 x1 x2) Q := by
  have key : ∀ k v0 v1 v2, I v0 v1 v2 → m v0 v1 v2 < k → WP (lp b k F v0 v1 v2) Q := by
    intro k
    induction k with
    | zero => intro v0 v1 v2 _ h; exact absurd h (Nat.not_lt_zero _)
    | succ k ih => intro v0 v1 v2 hI h; exact hs _ v0 v1 v2 hI (fun u0 u1 u2 hu hl => ih u0 u1 u2 hu (by omega))
  exact key 5000 x0 x1 x2 h0 hm
theorem w_lpIIII {b : Int → Int → Int → Int → RT} {F : (Int → Int → Int → Int → RT) → Int → Int → Int → Int → RT} (I : Int → Int → Int → Int → Prop) (m : Int → Int → Int → Int → Nat) (hs : ∀ rc v0 v1 v2 v3, I v0 v1 v2 v3 → (∀ u0 u1 u2 u3, I u0 u1 u2 u3 → m u0 u1 u2 u3 < m v0 v1 v2 v3 → WP (rc u0 u1 u2 u3) Q) → WP (F rc v0 v1 v2 v3) Q) (x0 : Int) (x1 : Int) (x2 : Int) (x3 : Int) (h0 : I x0 x1 x2 x3) (hm : m x0 x1 x2 x3 < 5000) : WP (lp b 5000 F x0 x1 x2 x3) Q := by
  have key : ∀ k v0 v1 v2 v3, I v0 v1 v2 v3 → m v0 v1 v2 v3 < k → WP (lp b k F v0 v1 v2 v3) Q := by
    intro k
    induction k with
    | zero => intro v0 v1 v2 v3 _ h; exact absurd h (Nat.not_lt_zero _)
    | succ k ih => intro v0 v1 v2 v3 hI h; exact hs _ v0 v1 v2 v3 hI (fun u0 u1 u2 u3 hu hl => ih u0 u1 u2 u3 hu (by omega))
  exact key 5000 x0 x1 x2 x3 h0 hm
theorem w_lpH {b : Hp → RT} {F : (Hp → RT) → Hp → RT} (I : Hp → Prop) (m : Hp → Nat) (hs : ∀ rc v0, I v0 → (∀ u0, I u0 → m u0 < m v0 → WP (rc u0) Q) → WP (F rc v0) Q) (x0 : Hp) (h0 : I x0) (hm : m x0 < 5000) : WP (lp b 5000 F x0) Q := by
  have key : ∀ k v0, I v0 → m v0 < k → WP (lp b k F v0) Q := by
    intro k
    induction k with
    | zero => intro v0 _ h; exact absurd h (Nat.not_lt_zero _)
    | succ k ih => intro v0 hI h; exact hs _ v0 hI (fun u0 hu hl => ih u0 hu (by omega))
  exact key 5000 x0 h0 hm
theorem w_lpIH {b : Int → Hp → RT} {F : (Int → Hp → RT) → Int → Hp → RT} (I : Int → Hp → Prop) (m : Int → Hp → Nat) (hs : ∀ rc v0 v1, I v0 v1 → (∀ u0 u1, I u0 u1 → m u0 u1 < m v0 v1 → WP (rc u0 u1) Q) → WP (F rc v0 v1) Q) (x0 : Int) (x1 : Hp) (h0 : I x0 x1) (hm : m x0 x1 < 5000) : WP (lp b 5000 F x0 x1) Q := by
  have key : ∀ k v0 v1, I v0 v1 → m v0 v1 < k → WP (lp b k F v0 v1) Q := by
    intro k
    induction k with
    | zero => intro v0 v1 _ h; exact absurd h (Nat.not_lt_zero _)
    | succ k ih => intro v0 v1 hI h; exact hs _ v0 v1 hI (fun u0 u1 hu hl => ih u0 u1 hu (by omega))
  exact key 5000 x0 x1 h0 hm
theorem w_lpIIH {b : Int → Int → Hp → RT} {F : (Int → Int → Hp → RT) → Int → Int → Hp → RT} (I : Int → Int → Hp → Prop) (m : Int → Int → Hp → Nat) (hs : ∀ rc v0 v1 v2, I v0 v1 v2 → (∀ u0 u1 u2, I u0 u1 u2 → m u0 u1 u2 < m v0 v1 v2 → WP (rc u0 u1 u2) Q) → WP (F rc v0 v1 v2) Q) (x0 : Int) (x1 : Int) (x2 : Hp) (h0 : I x0 x1 x2) (hm : m x0 x1 x2 < 5000) : WP (lp b 5000 F x0 x1 x2) Q := by
  have key : ∀ k v0 v1 v2, I v0 v1 v2 → m v0 v1 v2 < k → WP (lp b k F v0 v1 v2) Q := by
    intro k
    induction k with
    | zero => intro v0 v1 v2 _ h; exact absurd h (Nat.not_lt_zero _)
    | succ k ih => intro v0 v1 v2 hI h; exact hs _ v0 v1 v2 hI (fun u0 u1 u2 hu hl => ih u0 u1 u2 hu (by omega))
  exact key 5000 x0 x1 x2 h0 hm
theorem w_lpIIIH {b : Int → Int → Int → Hp → RT} {F : (Int → Int → Int → Hp → RT) → Int → Int → Int → Hp → RT} (I : Int → Int → Int → Hp → Prop) (m : Int → Int → Int → Hp → Nat) (hs : ∀ rc v0 v1 v2 v3, I v0 v1 v2 v3 → (∀ u0 u1 u2 u3, I u0 u1 u2 u3 → m u0 u1 u2 u3 < m v0 v1 v2 v3 → WP (rc u0 u1 u2 u3) Q) → WP (F rc v0 v1 v2 v3) Q) (x0 : Int) (x1 : Int) (x2 : Int) (x3 : Hp) (h0 : I x0 x1 x2 x3) (hm : m x0 x1 x2 x3 < 5000) : WP (lp b 5000 F x0 x1 x2 x3) Q := by
  have key : ∀ k v0 v1 v2 v3, I v0 v1 v2 v3 → m v0 v1 v2 v3 < k → WP (lp b k F v0 v1 v2 v3) Q := by
    intro k
    induction k with
    | zero => intro v0 v1 v2 v3 _ h; exact absurd h (Nat.not_lt_zero _)
    | succ k ih => intro v0 v1 v2 v3 hI h; exact hs _ v0 v1 v2 v3 hI (fun u0 u1 u2 u3 hu hl => ih u0 u1 u2 u3 hu (by omega))
  exact key 5000 x0 x1 x2 x3 h0 hm
theorem w_lpIIIIH {b : Int → Int → Int → Int → Hp → RT} {F : (Int → Int → Int → Int → Hp → RT) → Int → Int → Int → Int → Hp → RT} (I : Int → Int → Int → Int → Hp → Prop) (m : Int → Int → Int → Int → Hp → Nat) (hs : ∀ rc v0 v1 v2 v3 v4, I v0 v1 v2 v3 v4 → (∀ u0 u1 u2 u3 u4, I u0 u1 u2 u3 u4 → m u0 u1 u2 u3 u4 < m v0 v1 v2 v3 v4 → WP (rc u0 u1 u2 u3 u4) Q) → WP (F rc v0 v1 v2 v3 v4) Q) (x0 : Int) (x1 : Int) (x2 : Int) (x3 : Int) (x4 : Hp) (h0 : I x0 x1 x2 x3 x4) (hm : m x0 x1 x2 x3 x4 < 5000) : WP (lp b 5000 F x0 x1 x2 x3 x4) Q := by
  have key : ∀ k v0 v1 v2 v3 v4, I v0 v1 v2 v3 v4 → m v0 v1 v2 v3 v4 < k → WP (lp b k F v0 v1 v2 v3 v4) Q := by
    intro k
    induction k with
    | zero => intro v0 v1 v2 v3 v4 _ h; exact absurd h (Nat.not_lt_zero _)
    | succ k ih => intro v0 v1 v2 v3 v4 hI h; exact hs _ v0 v1 v2 v3 v4 hI (fun u0 u1 u2 u3 u4 hu hl => ih u0 u1 u2 u3 u4 hu (by omega))
  exact key 5000 x0 x1 x2 x3 x4 h0 hm
end WPR
/-! sets of bits, and how many -/
noncomputable def pif (p : Prop) (a b : Int) : Int := @ite Int p (Classical.propDecidable p) a b
theorem pif_t {p : Prop} {a b : Int} (h : p) : pif p a b = a := by unfold pif; exact if_pos h
theorem pif_f {p : Prop} {a b : Int} (h : ¬ p) : pif p a b = b := by unfold pif; exact if_neg h
theorem pif_c {p q : Prop} {a b : Int} (h : p ↔ q) : pif p a b = pif q a b := by rw [show p = q from propext h]
noncomputable def bits (p : Int → Prop) : Nat → Int
  | 0 => 0
  | i + 1 => bits p i + pif (p i) (2 ^ i) 0
noncomputable def cnt (p : Int → Prop) : Nat → Int
  | 0 => 0
  | i + 1 => cnt p i + pif (p i) 1 0
theorem bits_r (p : Int → Prop) : ∀ n, 0 ≤ bits p n ∧ bits p n < 2 ^ n
  | 0 => ⟨Int.le_refl _, by show (0 : Int) < 1; decide⟩
  | n + 1 => by
    have h := bits_r p n
    have e : (2 : Int) ^ (n + 1) = 2 ^ n * 2 := Int.pow_succ 2 n
    show 0 ≤ bits p n + pif (p n) (2 ^ n) 0 ∧ bits p n + pif (p n) (2 ^ n) 0 < 2 ^ (n + 1)
    rw [e]
    by_cases c : p n
    · rw [pif_t c]; omega
    · rw [pif_f c]; omega
theorem cnt_r (p : Int → Prop) : ∀ n : Nat, 0 ≤ cnt p n ∧ cnt p n ≤ n
  | 0 => ⟨Int.le_refl _, Int.le_refl _⟩
  | n + 1 => by
    have h := cnt_r p n
    show 0 ≤ cnt p n + pif (p n) 1 0 ∧ cnt p n + pif (p n) 1 0 ≤ ((n + 1 : Nat) : Int)
    by_cases c : p n
    · rw [pif_t c]; omega
    · rw [pif_f c]; omega
theorem or_all : ∀ i : Fin 10, ∀ v : Fin 1024, v.val < 2 ^ i.val → ior (v.val : Int) (ishl 1 (i.val : Int)) = v.val + 2 ^ i.val := by decide +kernel
theorem or0_all : ∀ v : Fin 1024, ior (v.val : Int) 0 = v.val := by decide +kernel
theorem ior_0 {v : Int} (h1 : 0 ≤ v) (h2 : v < 1024) : ior v 0 = v := by
  have := or0_all ⟨v.toNat, by omega⟩
  simp only [Int.toNat_of_nonneg h1] at this
  exact this
theorem p10 {i : Nat} (h : i ≤ 10) : (2 : Int) ^ i ≤ 1024 := by
  match i, h with
  | 0, _ => decide
  | 1, _ => decide
  | 2, _ => decide
  | 3, _ => decide
  | 4, _ => decide
  | 5, _ => decide
  | 6, _ => decide
  | 7, _ => decide
  | 8, _ => decide
  | 9, _ => decide
  | 10, _ => decide
theorem bits_10 (p : Int → Prop) {n : Nat} (h : n ≤ 10) : 0 ≤ bits p n ∧ bits p n < 1024 := by
  have := bits_r p n
  have := p10 h
  omega
theorem toN1 {i : Int} (h : 0 ≤ i) : (i + 1).toNat = i.toNat + 1 := by omega
theorem bits_t {p : Int → Prop} {i : Int} (h0 : 0 ≤ i) (h : i < 10) (hp : p i) : ior (bits p i.toNat) (ishl 1 i) = bits p (i + 1).toNat := by
  have r := bits_r p i.toNat
  have r2 := bits_10 p (n := i.toNat) (by omega)
  have q := or_all ⟨i.toNat, by omega⟩ ⟨(bits p i.toNat).toNat, by omega⟩ (by
    have e : (((bits p i.toNat).toNat : Nat) : Int) < ((2 ^ i.toNat : Nat) : Int) := by rw [Int.toNat_of_nonneg r.1]; rw [Int.natCast_pow]; exact r.2
    exact Int.ofNat_lt.mp e)
  simp only [Int.toNat_of_nonneg h0, Int.toNat_of_nonneg r.1] at q
  rw [q, toN1 h0]
  show _ = bits p i.toNat + pif (p (i.toNat : Int)) (2 ^ i.toNat) 0
  rw [Int.toNat_of_nonneg h0, pif_t hp]
theorem bits_f {p : Int → Prop} {i : Int} (h0 : 0 ≤ i) (hp : ¬ p i) : bits p (i + 1).toNat = bits p i.toNat := by
  rw [toN1 h0]
  show bits p i.toNat + pif (p (i.toNat : Int)) (2 ^ i.toNat) 0 = _
  rw [Int.toNat_of_nonneg h0, pif_f hp]; omega
theorem bits_f0 {p : Int → Prop} {i : Int} (h0 : 0 ≤ i) (h : i ≤ 10) (hp : ¬ p i) : ior (bits p i.toNat) 0 = bits p (i + 1).toNat := by
  have r2 := bits_10 p (n := i.toNat) (by omega)
  rw [ior_0 r2.1 r2.2, bits_f h0 hp]
theorem cnt_t {p : Int → Prop} {i : Int} (h0 : 0 ≤ i) (hp : p i) : cnt p (i + 1).toNat = cnt p i.toNat + 1 := by
  rw [toN1 h0]
  show cnt p i.toNat + pif (p (i.toNat : Int)) 1 0 = _
  rw [Int.toNat_of_nonneg h0, pif_t hp]
theorem cnt_f {p : Int → Prop} {i : Int} (h0 : 0 ≤ i) (hp : ¬ p i) : cnt p (i + 1).toNat = cnt p i.toNat := by
  rw [toN1 h0]
  show cnt p i.toNat + pif (p (i.toNat : Int)) 1 0 = _
  rw [Int.toNat_of_nonneg h0, pif_f hp]; omega
theorem bits_ext {p q : Int → Prop} : ∀ n : Nat, (∀ i : Int, 0 ≤ i → i < n → (p i ↔ q i)) → bits p n = bits q n
  | 0, _ => rfl
  | n + 1, h => by
    show bits p n + pif (p n) (2 ^ n) 0 = bits q n + pif (q n) (2 ^ n) 0
    rw [bits_ext n (fun i a b => h i a (by omega)), pif_c (h n (by omega) (by omega))]
theorem cnt_ext {p q : Int → Prop} : ∀ n : Nat, (∀ i : Int, 0 ≤ i → i < n → (p i ↔ q i)) → cnt p n = cnt q n
  | 0, _ => rfl
  | n + 1, h => by
    show cnt p n + pif (p n) 1 0 = cnt q n + pif (q n) 1 0
    rw [cnt_ext n (fun i a b => h i a (by omega)), pif_c (h n (by omega) (by omega))]
theorem bits_more {p : Int → Prop} {m : Nat} : ∀ n : Nat, m ≤ n → (∀ i : Int, m ≤ i → i < n → ¬ p i) → bits p n = bits p m
  | 0, h, _ => by rw [show m = 0 by omega]
  | n + 1, h, k => by
    rcases Nat.lt_or_ge n m with q | q
    · rw [show m = n + 1 by omega]
    · show bits p n + pif (p n) (2 ^ n) 0 = _
      rw [bits_more n q (fun i a b => k i a (by omega)), pif_f (k n (by omega) (by omega))]; omega
theorem cnt_more {p : Int → Prop} {m : Nat} : ∀ n : Nat, m ≤ n → (∀ i : Int, m ≤ i → i < n → ¬ p i) → cnt p n = cnt p m
  | 0, h, _ => by rw [show m = 0 by omega]
  | n + 1, h, k => by
    rcases Nat.lt_or_ge n m with q | q
    · rw [show m = n + 1 by omega]
    · show cnt p n + pif (p n) 1 0 = _
      rw [cnt_more n q (fun i a b => k i a (by omega)), pif_f (k n (by omega) (by omega))]; omega
theorem bt_low {v : Int} {m n : Nat} (h1 : 0 ≤ v) (h2 : v < 2 ^ n) (h : n ≤ m) : bt v m = 0 := by
  unfold bt
  have e : (2 : Int) ^ n ≤ 2 ^ m := by
    have : (2 : Nat) ^ n ≤ 2 ^ m := Nat.pow_le_pow_right (by omega) h
    have q : ((2 ^ n : Nat) : Int) ≤ ((2 ^ m : Nat) : Int) := Int.ofNat_le.mpr this
    rw [Int.natCast_pow, Int.natCast_pow] at q
    exact q
  rw [Int.ediv_eq_zero_of_lt h1 (by omega)]; rfl
theorem bt_top {v : Int} {n : Nat} (h1 : 0 ≤ v) (h2 : v < 2 ^ n) : bt (v + 2 ^ n) n = 1 := by
  unfold bt
  have hp : (0 : Int) < 2 ^ n := by have := bits_r (fun _ => False) n; omega
  rw [Int.add_ediv_of_dvd_right (Int.dvd_refl _), Int.ediv_eq_zero_of_lt h1 h2, Int.ediv_self (by omega)]; rfl
theorem bt_rest {v : Int} {m n : Nat} (h : m < n) : bt (v + 2 ^ n) m = bt v m := by
  unfold bt
  have e : (2 : Int) ^ n = 2 ^ m * (2 * 2 ^ (n - m - 1)) := by
    rw [← Int.mul_assoc, ← Int.pow_succ, ← Int.pow_add]; congr 1; omega
  have hp : (2 : Int) ^ m ≠ 0 := by have := bits_r (fun _ => False) m; omega
  rw [e, Int.add_mul_ediv_left _ _ hp]
  omega
theorem bt_bits {p : Int → Prop} : ∀ {n : Nat} (m : Nat), m < n → (bt (bits p n) m = 1 ↔ p m)
  | 0, m, h => by omega
  | n + 1, m, h => by
    have r := bits_r p n
    have e : bits p (n + 1) = bits p n + pif (p n) (2 ^ n) 0 := rfl
    by_cases c : p n
    · rw [e, pif_t c]
      rcases Nat.lt_or_ge m n with q | q
      · rw [bt_rest q]; exact bt_bits m q
      · have e2 : m = n := by omega
        subst e2
        rw [bt_top r.1 r.2]; exact ⟨fun _ => c, fun _ => rfl⟩
    · rw [e, pif_f c, Int.add_zero]
      rcases Nat.lt_or_ge m n with q | q
      · exact bt_bits m q
      · have e2 : m = n := by omega
        subst e2
        rw [bt_low r.1 r.2 (Nat.le_refl _)]; exact ⟨fun h => by omega, fun h => absurd h c⟩
theorem bits_bt_all : ∀ v : Fin 1024, v.val = bt v.val 0 + bt v.val 1 * 2 + bt v.val 2 * 4 + bt v.val 3 * 8 + bt v.val 4 * 16 + bt v.val 5 * 32 + bt v.val 6 * 64 + bt v.val 7 * 128 + bt v.val 8 * 256 + bt v.val 9 * 512 := by decide +kernel
theorem v_ext {v u : Int} (h1 : 0 ≤ v) (h2 : v < 1024) (h3 : 0 ≤ u) (h4 : u < 1024) (h : ∀ m : Nat, m < 10 → (bt v m = 1 ↔ bt u m = 1)) : v = u := by
  have a := bits_bt_all ⟨v.toNat, by omega⟩
  have b := bits_bt_all ⟨u.toNat, by omega⟩
  simp only [Int.toNat_of_nonneg h1, Int.toNat_of_nonneg h3] at a b
  have k : ∀ m : Nat, m < 10 → bt v m = bt u m := fun m hm => by
    have := h m hm
    have := bt_01 v m
    have := bt_01 u m
    omega
  rw [a, b, k 0 (by omega), k 1 (by omega), k 2 (by omega), k 3 (by omega), k 4 (by omega), k 5 (by omega), k 6 (by omega), k 7 (by omega), k 8 (by omega), k 9 (by omega)]
theorem bits_is {v : Int} {n : Nat} (hn : n ≤ 10) (h1 : 0 ≤ v) (h2 : v < 2 ^ n) : bits (fun i => bt v i.toNat = 1) n = v := by
  have r := bits_10 (fun i : Int => bt v i.toNat = 1) hn
  have r2 := bits_r (fun i : Int => bt v i.toNat = 1) n
  have := p10 hn
  refine v_ext r.1 r.2 h1 (by omega) (fun m hm => ?_)
  rcases Nat.lt_or_ge m n with q | q
  · exact bt_bits m q
  · rw [bt_low r2.1 r2.2 q, bt_low h1 h2 q]
/-- the law of counts: how many bits -/
def pcn (v : Int) : Int := bt v 0 + bt v 1 + bt v 2 + bt v 3 + bt v 4 + bt v 5 + bt v 6 + bt v 7 + bt v 8 + bt v 9
theorem pop_all : ∀ v : Fin 1024, fJ6_bitCount_0f7a4 (v.val : Int) = fun G => some (pcn v.val, G) := by
  intro v
  funext G
  show some (_, G) = some (_, G)
  congr 2
  revert v
  decide +kernel
theorem x_popc {v : Int} {G : Hp} (h1 : 0 ≤ v) (h2 : v < 1024) : fJ6_bitCount_0f7a4 v G = some (pcn v, G) := by
  have := pop_all ⟨v.toNat, by omega⟩
  simp only [Int.toNat_of_nonneg h1] at this
  rw [this]
theorem pcn_r (v : Int) : 0 ≤ pcn v ∧ pcn v ≤ 10 := by
  unfold pcn
  have := bt_01 v 0
  have := bt_01 v 1
  have := bt_01 v 2
  have := bt_01 v 3
  have := bt_01 v 4
  have := bt_01 v 5
  have := bt_01 v 6
  have := bt_01 v 7
  have := bt_01 v 8
  have := bt_01 v 9
  omega
