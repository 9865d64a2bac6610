/-! THE PURE PART: numbers -/
theorem iadd_id {a b : Int} (h1 : -2147483648 ≤ a + b) (h2 : a + b ≤ 2147483647) : iadd a b = a + b := w32_id ⟨h1, h2⟩
theorem isub_id {a b : Int} (h1 : -2147483648 ≤ a - b) (h2 : a - b ≤ 2147483647) : isub a b = a - b := w32_id ⟨h1, h2⟩
theorem imul_id {a b : Int} (h1 : -2147483648 ≤ a * b) (h2 : a * b ≤ 2147483647) : imul a b = a * b := w32_id ⟨h1, h2⟩
theorem rd_in {G : Hp} {c len : Nat} {i : Int} (h1 : 0 ≤ i) (h2 : i < (len : Int)) : rd G c len i = some (G c i.toNat) := if_pos ⟨h1, h2⟩
theorem wr_in {G : Hp} {c len : Nat} {i v : Int} (h1 : 0 ≤ i) (h2 : i < (len : Int)) : wr G c len i v = some (up G c i.toNat v) := if_pos ⟨h1, h2⟩
theorem wrZ_in {G : Hp} {c len : Nat} {i v : Int} (h1 : 0 ≤ i) (h2 : i < (len : Int)) (h3 : v = 0 ∨ v = 1) : wrZ G c len i v = some (up G c i.toNat v) := if_pos ⟨⟨h1, h2⟩, h3⟩
theorem wrC_in {G : Hp} {c len : Nat} {i v : Int} (h1 : 0 ≤ i) (h2 : i < (len : Int)) (h3 : 0 ≤ v) (h4 : v ≤ 65535) : wrC G c len i v = some (up G c i.toNat v) := if_pos ⟨⟨h1, h2⟩, h3, h4⟩
theorem rz_in {r : Int} {G : Hp} (h : r = 0 ∨ r = 1) : rz r G = some (r, G) := if_pos h
theorem rz0 {G : Hp} : rz 0 G = some (0, G) := rfl
theorem rz1 {G : Hp} : rz 1 G = some (1, G) := rfl
theorem rt_s {r : Int} {G : Hp} : rt r G = some (r, G) := rfl
theorem bd_s {e : Int} {f : Int → RT} : bd e f = f e := rfl
theorem bh_s {g : Hp} {f : Hp → RT} : bh g f = f g := rfl
theorem jn_s {X : Type} {K : X} {f : X → RT} : jn K f = f K := rfl
theorem br_s {v : Int} {f : Int → RT} : br (some v) f = f v := rfl
theorem bs_s {v : Hp} {f : Hp → RT} : bs (some v) f = f v := rfl
theorem bn_s {r : Int} {g : Hp} {f : Int → Hp → RT} : bn (some (r, g)) f = f r g := rfl
theorem bp_s {r : Int} {g : Hp} {f : Int → RT} : bp (some (r, g)) f = f r := rfl
theorem pz_in {v : Int} {o : RT} (h : v = 0 ∨ v = 1) : pz v o = o := if_pos h
theorem nz_in {v : Int} {o : RT} (h : v ≠ 0) : nz v o = o := if_neg h
theorem up_at {G : Hp} {c k : Nat} {v : Int} {c' k' : Nat} : up G c k v c' k' = if c' = c ∧ k' = k then v else G c' k' := by
  unfold up
  by_cases h : c' = c
  · subst h; by_cases h2 : k' = k <;> simp [h2]
  · simp [h]
theorem lpu {X : Type} {b : X} {n : Nat} {F : X → X} : lp b (n + 1) F = F (lp b n F) := rfl
theorem lp_5 {X : Type} {b : X} {F : X → X} : lp b 5000 F = F (F (F (F (F (lp b 4995 F))))) := rfl
theorem lp_9 {X : Type} {b : X} {F : X → X} : lp b 5000 F = F (F (F (F (F (F (F (F (F (lp b 4991 F))))))))) := rfl
theorem lp_ind {X : Type} {b : X} {F : X → X} (P : Nat → X → Prop) (h0 : P 0 b) (hs : ∀ k r, P k r → P (k + 1) (F r)) : ∀ k, P k (lp b k F)
  | 0 => h0
  | k + 1 => hs k _ (lp_ind P h0 hs k)
/-- a loop along its road -/
theorem lp_for {X σ : Type} (app : X → σ → RT) {b : X} {F : X → X} (st : Nat → σ) (N fuel : Nat) (r : RT) (hstep : ∀ rc i, i < N → app (F rc) (st i) = app rc (st (i + 1))) (hend : ∀ rc, app (F rc) (st N) = r) (hf : N < fuel) : app (lp b fuel F) (st 0) = r := by
  have h := lp_ind (b := b) (F := F) (fun k rc => ∀ j, j ≤ N → N - j < k → app rc (st j) = r) (fun j _ h => absurd h (by omega)) (fun k rc ih j hj hk => by
    rcases Nat.lt_or_ge j N with q | q
    · rw [hstep rc j q]; exact ih (j + 1) (by omega) (by omega)
    · have e : j = N := by omega
      rw [e]; exact hend rc) fuel
  exact h 0 (Nat.zero_le _) (by omega)
/-- a loop with an invariant -/
theorem lp_inv {X σ : Type} (app : X → σ → RT) {b : X} {F : X → X} (I : Nat → σ → Prop) (N fuel : Nat) (Q : RT → Prop) (hstep : ∀ rc i s, i < N → I i s → (∃ s', I (i + 1) s' ∧ app (F rc) s = app rc s') ∨ Q (app (F rc) s)) (hend : ∀ rc s, I N s → Q (app (F rc) s)) (hf : N < fuel) : ∀ s, I 0 s → Q (app (lp b fuel F) s) := by
  have h := lp_ind (b := b) (F := F) (fun k rc => ∀ j s, j ≤ N → N - j < k → I j s → Q (app rc s)) (fun j _ _ h => absurd h (by omega)) (fun k rc ih j s hj hk hI => by
    rcases Nat.lt_or_ge j N with q | q
    · rcases hstep rc j s q hI with ⟨s', h1, h2⟩ | h
      · rw [h2]; exact ih (j + 1) s' (by omega) (by omega) h1
      · exact h
    · have e : j = N := by omega
      subst e; exact hend rc s hI) fuel
  exact fun s hs => h 0 s (Nat.zero_le _) (by omega) hs
/-! bits -/
def bt (v : Int) (n : Nat) : Int := v / 2 ^ n % 2
theorem bt_01 (v : Int) (n : Nat) : bt v n = 0 ∨ bt v n = 1 := by unfold bt; omega
theorem bit_all : ∀ v : Fin 1024, ∀ n : Fin 10, iand (ishr (v.val : Int) (n.val : Int)) 1 = bt v.val n.val := by decide +kernel
theorem bit_is {v n : Int} (h1 : 0 ≤ v) (h2 : v < 1024) (h3 : 0 ≤ n) (h4 : n < 10) : iand (ishr v n) 1 = bt v n.toNat := by
  have := bit_all ⟨v.toNat, by omega⟩ ⟨n.toNat, by omega⟩
  simp only [Int.toNat_of_nonneg h1, Int.toNat_of_nonneg h3] at this
  exact this
theorem ent_all : ∀ v : Fin 256, ∀ n : Fin 8, ior (v.val : Int) (ishl 1 (n.val : Int)) = v.val + (1 - bt v.val n.val) * 2 ^ n.val := by decide +kernel
theorem ent_is {v n : Int} (h1 : 0 ≤ v) (h2 : v < 256) (h3 : 0 ≤ n) (h4 : n < 8) : ior v (ishl 1 n) = v + (1 - bt v n.toNat) * 2 ^ n.toNat := by
  have := ent_all ⟨v.toNat, by omega⟩ ⟨n.toNat, by omega⟩
  simp only [Int.toNat_of_nonneg h1, Int.toNat_of_nonneg h3] at this
  exact this
theorem gou_all : ∀ v : Fin 256, ∀ n : Fin 8, iand (v.val : Int) (ixor (ishl 1 (n.val : Int)) (-1)) = v.val - bt v.val n.val * 2 ^ n.val := by decide +kernel
theorem gou_is {v n : Int} (h1 : 0 ≤ v) (h2 : v < 256) (h3 : 0 ≤ n) (h4 : n < 8) : iand v (ixor (ishl 1 n) (-1)) = v - bt v n.toNat * 2 ^ n.toNat := by
  have := gou_all ⟨v.toNat, by omega⟩ ⟨n.toNat, by omega⟩
  simp only [Int.toNat_of_nonneg h1, Int.toNat_of_nonneg h3] at this
  exact this
theorem bt_ent_all : ∀ v : Fin 256, ∀ n : Fin 8, ∀ m : Fin 8, bt (v.val + (1 - bt v.val n.val) * 2 ^ n.val) m.val = if m = n then 1 else bt v.val m.val := by decide +kernel
theorem bt_gou_all : ∀ v : Fin 256, ∀ n : Fin 8, ∀ m : Fin 8, bt (v.val - bt v.val n.val * 2 ^ n.val) m.val = if m = n then 0 else bt v.val m.val := by decide +kernel
theorem bt_ent {v : Int} {n m : Nat} (h1 : 0 ≤ v) (h2 : v < 256) (hn : n < 8) (hm : m < 8) : bt (v + (1 - bt v n) * 2 ^ n) m = if m = n then 1 else bt v m := by
  have := bt_ent_all ⟨v.toNat, by omega⟩ ⟨n, hn⟩ ⟨m, hm⟩
  simp only [Int.toNat_of_nonneg h1, Fin.mk.injEq] at this
  exact this
theorem bt_gou {v : Int} {n m : Nat} (h1 : 0 ≤ v) (h2 : v < 256) (hn : n < 8) (hm : m < 8) : bt (v - bt v n * 2 ^ n) m = if m = n then 0 else bt v m := by
  have := bt_gou_all ⟨v.toNat, by omega⟩ ⟨n, hn⟩ ⟨m, hm⟩
  simp only [Int.toNat_of_nonneg h1, Fin.mk.injEq] at this
  exact this
theorem ent_rng_all : ∀ v : Fin 256, ∀ n : Fin 8, 0 ≤ (v.val : Int) + (1 - bt v.val n.val) * 2 ^ n.val ∧ (v.val : Int) + (1 - bt v.val n.val) * 2 ^ n.val < 256 ∧ 0 ≤ (v.val : Int) - bt v.val n.val * 2 ^ n.val ∧ (v.val : Int) - bt v.val n.val * 2 ^ n.val < 256 := by decide +kernel
theorem ent_rng {v : Int} {n : Nat} (h1 : 0 ≤ v) (h2 : v < 256) (hn : n < 8) : 0 ≤ v + (1 - bt v n) * 2 ^ n ∧ v + (1 - bt v n) * 2 ^ n < 256 ∧ 0 ≤ v - bt v n * 2 ^ n ∧ v - bt v n * 2 ^ n < 256 := by
  have := ent_rng_all ⟨v.toNat, by omega⟩ ⟨n, hn⟩
  simp only [Int.toNat_of_nonneg h1] at this
  exact this
theorem ia0 : iadd 0 1 = 1 := by decide
theorem ia1 : iadd 1 1 = 2 := by decide
theorem ia2 : iadd 2 1 = 3 := by decide
theorem ia3 : iadd 3 1 = 4 := by decide
theorem ia4 : iadd 4 1 = 5 := by decide
theorem ia5 : iadd 5 1 = 6 := by decide
theorem ia6 : iadd 6 1 = 7 := by decide
theorem ia7 : iadd 7 1 = 8 := by decide
theorem ia8 : iadd 8 1 = 9 := by decide
theorem ia9 : iadd 9 1 = 10 := by decide
theorem ia10 : iadd 10 1 = 11 := by decide
theorem ia11 : iadd 11 1 = 12 := by decide
theorem ia12 : iadd 12 1 = 13 := by decide
