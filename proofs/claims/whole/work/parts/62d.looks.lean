section LOO
variable {b : Nat} {a : AS} {G : Hp} {T : TT}
/-! whom one comes to -/
def itr (a : AS) (n : Int) : Nat → Int
  | 0 => n
  | k + 1 => fst4 a a.1 (itr a n k)
def onC (a : AS) (n : Int) : Prop := ∃ k : Nat, 1 ≤ k ∧ k ≤ 8 ∧ itr a n k = n
def brk (a : AS) (n : Int) : Prop := isi a n = 1 ∧ itr a n 8 = -1
def hng (a : AS) (n : Int) : Prop := isi a n = 1 ∧ ¬ onC a n ∧ itr a n 8 ≠ -1
def lea (a : AS) (n : Int) : Prop := onC a n ∧ ∀ k : Nat, 1 ≤ k → k ≤ 8 → n ≤ itr a n k
theorem fst4_neg {v n : Int} (h : n < 0) : fst4 a v n = -1 := by
  unfold fst4 lst; simp [show ¬ 0 ≤ n by omega]
theorem fst4_out (hw : WA T a) {v n : Int} (h : isi a n = 0) : fst4 a v n = -1 := by
  unfold fst4; simp [(hw.o h).1]
theorem itr_r (hw : WA T a) (w : WT T) {n : Int} : ∀ k : Nat, 1 ≤ k → itr a n k = -1 ∨ (0 ≤ itr a n k ∧ itr a n k < tN T ∧ isi a (itr a n k) = 1)
  | 0, h => by omega
  | k + 1, _ => hw.f4 w
theorem itr_neg {n : Int} {k : Nat} (h : itr a n k = -1) : ∀ j : Nat, itr a n (k + j) = -1
  | 0 => h
  | j + 1 => by rw [← Nat.add_assoc, itr, itr_neg h j]; exact fst4_neg (by omega)
theorem itr_neg' {n : Int} {k m : Nat} (h : itr a n k = -1) (hm : k ≤ m) : itr a n m = -1 := by
  have := itr_neg h (m - k); rw [show k + (m - k) = m by omega] at this; exact this
theorem itr_add {n : Int} {k : Nat} (h : itr a n k = n) : ∀ j : Nat, itr a n (k + j) = itr a n j
  | 0 => h
  | j + 1 => by rw [← Nat.add_assoc, itr, itr, itr_add h j]
theorem itr_mul {n : Int} {k : Nat} (h : itr a n k = n) : ∀ j : Nat, itr a n (k * j) = n
  | 0 => rfl
  | j + 1 => by rw [Nat.mul_succ, Nat.add_comm, itr_add h]; exact itr_mul h j
theorem onC_in (hw : WA T a) {n : Int} (hn : 0 ≤ n) (h : onC a n) : isi a n = 1 := by
  obtain ⟨k, k1, k2, k3⟩ := h
  rcases isi_01 a n with q | q
  · have e : itr a n 1 = -1 := fst4_out hw q
    have := itr_neg' e k1
    omega
  · exact q
theorem onC_nb {n : Int} (hn : 0 ≤ n) (h : onC a n) : ∀ j, itr a n j ≠ -1 := by
  obtain ⟨k, k1, k2, k3⟩ := h
  intro j e
  have e2 := itr_neg' e (show j ≤ k * j from Nat.le_mul_of_pos_left j (by omega))
  rw [itr_mul k3] at e2; omega
theorem itr_s {n i : Int} (h : 0 ≤ i) : itr a n (i + 1).toNat = fst4 a a.1 (itr a n i.toNat) := by rw [toN1 h, itr]
theorem ior_idem {x y : Int} : ior (ior x y) y = ior x y := by unfold ior; rw [o32_toInt, Int32.or_assoc, Int32.or_self]
theorem bits_add {p q r : Int → Prop} : ∀ n : Nat, (∀ i : Int, 0 ≤ i → i < n → (p i ↔ q i ∨ r i) ∧ ¬ (q i ∧ r i)) → bits p n = bits q n + bits r n
  | 0, _ => rfl
  | n + 1, h => by
    have ih := bits_add (p := p) (q := q) (r := r) n (fun i a b => h i a (by omega))
    have hn := h n (by omega) (by omega)
    show bits p n + pif (p n) (2 ^ n) 0 = bits q n + pif (q n) (2 ^ n) 0 + (bits r n + pif (r n) (2 ^ n) 0)
    rw [ih]
    by_cases c : q n
    · have d : ¬ r n := fun z => hn.2 ⟨c, z⟩
      rw [pif_t c, pif_f d, pif_t (hn.1.mpr (Or.inl c))]; omega
    · by_cases d : r n
      · rw [pif_f c, pif_t d, pif_t (hn.1.mpr (Or.inr d))]; omega
      · rw [pif_f c, pif_f d, pif_f (fun z => by rcases hn.1.mp z with y | y; exact c y; exact d y)]; omega
/-- bits of two -/
theorem tn32 {x : Int} (h1 : 0 ≤ x) (h2 : x < 2147483648) : (Int32.ofInt x).toBitVec.toNat = x.toNat := by
  have e : (Int32.ofInt x).toInt = x := by rw [toInt_o32, w32_id ⟨by omega, by omega⟩]
  have l := (Int32.ofInt x).toBitVec.isLt
  have e2 : (Int32.ofInt x).toBitVec.toInt = x := e
  rw [BitVec.toInt_eq_toNat_cond] at e2
  split at e2 <;> omega
theorem gl_bt {z : Int32} (h : z.toBitVec.toNat < 2147483648) (m : Nat) : z.toInt = (z.toBitVec.toNat : Int) ∧ (bt z.toInt m = 1 ↔ z.toBitVec.getLsbD m = true) := by
  have e : z.toInt = (z.toBitVec.toNat : Int) := by
    show z.toBitVec.toInt = _
    rw [BitVec.toInt_eq_toNat_cond, if_pos (by omega)]
  refine ⟨e, ?_⟩
  rw [e]
  show _ ↔ z.toBitVec.toNat.testBit m = true
  rw [Nat.testBit_eq_decide_div_mod_eq, decide_eq_true_iff]
  unfold bt
  generalize z.toBitVec.toNat = N
  have e3 : ((N : Int) / 2 ^ m % 2) = ((N / 2 ^ m % 2 : Nat) : Int) := by rw [Int.natCast_emod, Int.natCast_ediv, Int.natCast_pow]; rfl
  rw [e3]; omega
theorem gl_of {x : Int} (h1 : 0 ≤ x) (h2 : x < 256) (m : Nat) : (Int32.ofInt x).toBitVec.getLsbD m = true ↔ bt x m = 1 := by
  have h := (gl_bt (z := Int32.ofInt x) (by rw [tn32 h1 (by omega)]; omega) m).2
  rw [toInt_o32, w32_id ⟨by omega, by omega⟩] at h
  exact h.symm
theorem and_bt {x y : Int} (h1 : 0 ≤ x) (h2 : x < 256) (h3 : 0 ≤ y) (h4 : y < 256) : (0 ≤ iand x y ∧ iand x y < 256) ∧ ∀ m, bt (iand x y) m = 1 ↔ bt x m = 1 ∧ bt y m = 1 := by
  have l : (Int32.ofInt x &&& Int32.ofInt y).toBitVec.toNat ≤ x.toNat := by
    rw [Int32.toBitVec_and, BitVec.toNat_and, tn32 h1 (by omega)]; exact Nat.and_le_left
  refine ⟨?_, fun m => ?_⟩
  · unfold iand
    rw [(gl_bt (by omega) 0).1]; omega
  · unfold iand
    rw [(gl_bt (by omega) m).2, Int32.toBitVec_and, BitVec.getLsbD_and, Bool.and_eq_true, gl_of h1 h2, gl_of h3 h4]
theorem or_bt {x y : Int} (h1 : 0 ≤ x) (h2 : x < 256) (h3 : 0 ≤ y) (h4 : y < 256) : (0 ≤ ior x y ∧ ior x y < 256) ∧ ∀ m, bt (ior x y) m = 1 ↔ bt x m = 1 ∨ bt y m = 1 := by
  have l : (Int32.ofInt x ||| Int32.ofInt y).toBitVec.toNat < 2 ^ 8 := by
    rw [Int32.toBitVec_or, BitVec.toNat_or, tn32 h1 (by omega), tn32 h3 (by omega)]; exact Nat.or_lt_two_pow (by omega) (by omega)
  refine ⟨?_, fun m => ?_⟩
  · unfold ior
    rw [(gl_bt (by omega) 0).1]; omega
  · unfold ior
    rw [(gl_bt (by omega) m).2, Int32.toBitVec_or, BitVec.getLsbD_or, Bool.or_eq_true, gl_of h1 h2, gl_of h3 h4]
theorem ones_all : ∀ m : Fin 8, (Int32.ofInt (-1)).toBitVec.getLsbD m.val = true := by decide
theorem andn_bt {x y : Int} (h1 : 0 ≤ x) (h2 : x < 256) (h3 : 0 ≤ y) (h4 : y < 256) : (0 ≤ iand x (ixor y (-1)) ∧ iand x (ixor y (-1)) < 256) ∧ ∀ m, m < 8 → (bt (iand x (ixor y (-1))) m = 1 ↔ bt x m = 1 ∧ bt y m = 0) := by
  have l : (Int32.ofInt x &&& Int32.ofInt (ixor y (-1))).toBitVec.toNat ≤ x.toNat := by
    rw [Int32.toBitVec_and, BitVec.toNat_and, tn32 h1 (by omega)]; exact Nat.and_le_left
  refine ⟨?_, fun m hm => ?_⟩
  · unfold iand
    rw [(gl_bt (by omega) 0).1]; omega
  · unfold iand
    rw [(gl_bt (by omega) m).2, Int32.toBitVec_and, BitVec.getLsbD_and, Bool.and_eq_true, gl_of h1 h2]
    unfold ixor
    rw [o32_toInt, Int32.toBitVec_xor, BitVec.getLsbD_xor, ones_all ⟨m, hm⟩, Bool.xor_true]
    have g1 := gl_of h3 h4 m
    have g2 := bt_01 y m
    have e : (!(Int32.ofInt y).toBitVec.getLsbD m) = true ↔ bt y m = 0 := by
      cases hq : (Int32.ofInt y).toBitVec.getLsbD m
      · rw [hq] at g1; simp at g1 ⊢; omega
      · rw [hq] at g1; simp at g1 ⊢; omega
    rw [e]
theorem andn_is {v s : Int} (h1 : 0 ≤ v) (h2 : v < 256) (h3 : 0 ≤ s) (h4 : s < 256) : iand v (ixor s (-1)) = bits (fun i => bt v i.toNat = 1 ∧ bt s i.toNat = 0) 8 := by
  have q := andn_bt h1 h2 h3 h4
  have r := bits_r (fun i : Int => bt v i.toNat = 1 ∧ bt s i.toNat = 0) 8
  have r2 := bits_10 (fun i : Int => bt v i.toNat = 1 ∧ bt s i.toNat = 0) (n := 8) (by omega)
  refine v_ext q.1.1 (by omega) r2.1 r2.2 (fun m hm => ?_)
  rcases Nat.lt_or_ge m 8 with c | c
  · rw [q.2 m c, bt_bits m c]; simp
  · rw [bt_low q.1.1 (n := 8) (by have := q.1.2; omega) c, bt_low r.1 r.2 c]
theorem bt_bits8 {p : Int → Prop} {i : Int} (h1 : 0 ≤ i) (h2 : i < 8) : bt (bits p 8) i.toNat = 1 ↔ p i := by
  have := bt_bits (p := p) (n := 8) i.toNat (by omega)
  rw [Int.toNat_of_nonneg h1] at this; exact this
theorem bits8_r (p : Int → Prop) : 0 ≤ bits p 8 ∧ bits p 8 < 256 := bits_r p 8
noncomputable def smS (p : Int → Prop) (f : Int → Int) : Nat → Int
  | 0 => 0
  | i + 1 => smS p f i + pif (p i) (f i) 0
theorem smS_t {p : Int → Prop} {f : Int → Int} {i : Int} (h0 : 0 ≤ i) (hp : p i) : smS p f (i + 1).toNat = smS p f i.toNat + f i := by
  rw [toN1 h0]
  show smS p f i.toNat + pif (p (i.toNat : Int)) (f (i.toNat : Int)) 0 = _
  rw [Int.toNat_of_nonneg h0, pif_t hp]
theorem smS_f {p : Int → Prop} {f : Int → Int} {i : Int} (h0 : 0 ≤ i) (hp : ¬ p i) : smS p f (i + 1).toNat = smS p f i.toNat := by
  rw [toN1 h0]
  show smS p f i.toNat + pif (p (i.toNat : Int)) (f (i.toNat : Int)) 0 = _
  rw [Int.toNat_of_nonneg h0, pif_f hp]; omega
theorem smS_more {p : Int → Prop} {f : Int → Int} {m : Nat} : ∀ n : Nat, m ≤ n → (∀ i : Int, m ≤ i → i < n → ¬ p i) → smS p f n = smS p f m
  | 0, h, _ => by rw [show m = 0 by omega]
  | n + 1, h, k => by
    rcases Nat.lt_or_ge n m with q | q
    · rw [show m = n + 1 by omega]
    · show smS p f n + pif (p n) (f n) 0 = _
      rw [smS_more n q (fun i a b => k i a (by omega)), pif_f (k n (by omega) (by omega))]; omega
noncomputable def ordd (T : TT) (a : AS) : Int := if cnt (lea a) 8 = 1 ∧ smS (onC a) (fun n => wT T n (fst4 a a.1 n)) 8 = tC T then 1 else 0
theorem x_onCycles (w : WT T) (hw : WA T a) (hA_G : XA 27 a G) (hT_G : XT T G) : fX2_onCycles 33 G = some (bits (onC a) 8, G) := by
  have wr := w.rg
  unfold fX2_onCycles
  simp only [rf_33_1]
  refine WP_eq ?_
  refine w_bd (fun v1 hv1 => ?_)
  refine w_bd (fun v2 hv2 => ?_)
  refine w_lpII (fun (v3 : Int) (v4 : Int) => (0 ≤ v4) ∧ (v4 ≤ 8) ∧ (v3 = bits (onC a) v4.toNat)) (fun (v3 : Int) (v4 : Int) => (8 - v4).toNat) (fun rc5 v3 v4 hI hrc5 => ?_) _ _ ?_ ?_
  · skip
    obtain ⟨i0, i1, e⟩ := hI
    refine w_ite (fun c_1 => ?_) (fun c_1 => ?_)
    · skip
      refine w_bd (fun v6 hv6 => ?_)
      refine w_bd (fun v7 hv7 => ?_)
      refine w_lpIII (fun (v8 : Int) (v9 : Int) (v10 : Int) => (0 ≤ v10) ∧ (v10 ≤ 8) ∧ (v9 = itr a v4 v10.toNat) ∧ ((v8 = v3 ∧ ∀ k : Nat, 1 ≤ k → (k : Int) ≤ v10 → itr a v4 k ≠ v4) ∨ (v8 = ior v3 (ishl 1 v4) ∧ ∃ k : Nat, 1 ≤ k ∧ (k : Int) ≤ v10 ∧ itr a v4 k = v4))) (fun (v8 : Int) (v9 : Int) (v10 : Int) => (8 - v10).toNat) (fun rc11 v8 v9 v10 hI hrc11 => ?_) _ _ _ ?_ ?_
      · skip
        obtain ⟨j0, j1, e9, st⟩ := hI
        refine w_jn ?_
        refine w_ite (fun c_2 => ?_) (fun c_2 => ?_)
        · skip
          refine w_ite (fun c_3 => ?_) (fun c_3 => ?_)
          · skip
            have dn : onC a v4 ↔ ∃ k : Nat, 1 ≤ k ∧ (k : Int) ≤ v10 ∧ itr a v4 k = v4 := ⟨fun ⟨k, k1, k2, k3⟩ => ⟨k, k1, by
                rcases Int.lt_or_le v10 (k : Int) with z | z
                · have := itr_neg' (a := a) (n := v4) (k := v10.toNat) (m := k) (by omega) (by omega); omega
                · exact z, k3⟩, fun ⟨k, k1, k2, k3⟩ => ⟨k, k1, by omega, k3⟩⟩
            refine w_bd (fun v13 hv13 => ?_)
            simp (disch := omega) only [iadd_id, isub_id, imul_id] at hv13
            refine hrc5 _ _ ?_ ?_
            · try dsimp only
              refine ⟨?_, ?_, ?_⟩
              · first | omega | grind
              · first | omega | grind
              · rw [hv13]
                rcases st with ⟨s1, s2⟩ | ⟨s1, s2⟩
                · rw [s1, bits_f i0 (fun z => by obtain ⟨k, k1, k2, k3⟩ := dn.mp z; exact s2 k k1 k2 k3)]; exact e
                · rw [s1, e]; exact bits_t i0 (by omega) (dn.mpr s2)
            · try dsimp only
              omega
          · skip
            refine w_bp (x_first hA_G hw w) (fun v14 hv14 => ?_)
            have qv14 := hw.f4 w (n := v9)
            refine w_bd (fun v15 hv15 => ?_)
            refine w_jn ?_
            refine w_ite (fun c_4 => ?_) (fun c_4 => ?_)
            · skip
              refine w_bd (fun v19 hv19 => ?_)
              refine w_bd (fun v18 hv18 => ?_)
              simp (disch := omega) only [iadd_id, isub_id, imul_id] at hv18
              refine hrc11 _ _ _ ?_ ?_
              · try dsimp only
                refine ⟨?_, ?_, ?_, ?_⟩
                · first | omega | grind
                · first | omega | grind
                · rw [hv18, itr_s j0, ← e9, hv15, hv14]
                · have e15 : v15 = itr a v4 (v10 + 1).toNat := by rw [itr_s j0, ← e9, hv15, hv14]
                  rcases st with ⟨s1, s2⟩ | ⟨s1, k, k1, k2, k3⟩
                  · first
                    | (right; exact ⟨by rw [hv19, s1], (v10 + 1).toNat, by omega, by omega, by omega⟩)
                    | (left; refine ⟨s1, fun k k1 k2 => ?_⟩
                       by_cases u : (k : Int) = v10 + 1
                       · rw [show k = (v10 + 1).toNat by omega]; omega
                       · exact s2 k k1 (by omega))
                  · right; first | exact ⟨by rw [hv19, s1, ior_idem], k, k1, by omega, k3⟩ | exact ⟨s1, k, k1, by omega, k3⟩
              · try dsimp only
                omega
            · skip
              refine w_bd (fun v18 hv18 => ?_)
              simp (disch := omega) only [iadd_id, isub_id, imul_id] at hv18
              refine hrc11 _ _ _ ?_ ?_
              · try dsimp only
                refine ⟨?_, ?_, ?_, ?_⟩
                · first | omega | grind
                · first | omega | grind
                · rw [hv18, itr_s j0, ← e9, hv15, hv14]
                · have e15 : v15 = itr a v4 (v10 + 1).toNat := by rw [itr_s j0, ← e9, hv15, hv14]
                  rcases st with ⟨s1, s2⟩ | ⟨s1, k, k1, k2, k3⟩
                  · first
                    | (right; exact ⟨by rw [hv19, s1], (v10 + 1).toNat, by omega, by omega, by omega⟩)
                    | (left; refine ⟨s1, fun k k1 k2 => ?_⟩
                       by_cases u : (k : Int) = v10 + 1
                       · rw [show k = (v10 + 1).toNat by omega]; omega
                       · exact s2 k k1 (by omega))
                  · right; first | exact ⟨by rw [hv19, s1, ior_idem], k, k1, by omega, k3⟩ | exact ⟨s1, k, k1, by omega, k3⟩
              · try dsimp only
                omega
        · skip
          have dn : onC a v4 ↔ ∃ k : Nat, 1 ≤ k ∧ (k : Int) ≤ v10 ∧ itr a v4 k = v4 := ⟨fun ⟨k, k1, k2, k3⟩ => ⟨k, k1, by omega, k3⟩, fun ⟨k, k1, k2, k3⟩ => ⟨k, k1, by omega, k3⟩⟩
          refine w_bd (fun v13 hv13 => ?_)
          simp (disch := omega) only [iadd_id, isub_id, imul_id] at hv13
          refine hrc5 _ _ ?_ ?_
          · try dsimp only
            refine ⟨?_, ?_, ?_⟩
            · first | omega | grind
            · first | omega | grind
            · rw [hv13]
              rcases st with ⟨s1, s2⟩ | ⟨s1, s2⟩
              · rw [s1, bits_f i0 (fun z => by obtain ⟨k, k1, k2, k3⟩ := dn.mp z; exact s2 k k1 k2 k3)]; exact e
              · rw [s1, e]; exact bits_t i0 (by omega) (dn.mpr s2)
          · try dsimp only
            omega
      · try dsimp only
        refine ⟨?_, ?_, ?_, ?_⟩
        · first | omega | (subst_vars; first | rfl | assumption) | assumption
        · first | omega | (subst_vars; first | rfl | assumption) | assumption
        · rw [hv7, hv6]; rfl
        · left; exact ⟨rfl, fun k k1 k2 => by omega⟩
      · try dsimp only
        omega
    · skip
      refine w_rt ?_
      refine ⟨?_, rfl⟩
      rw [e, show v4.toNat = 8 by omega]
  · try dsimp only
    refine ⟨?_, ?_, ?_⟩
    · first | omega | (subst_vars; first | rfl | assumption) | assumption
    · first | omega | (subst_vars; first | rfl | assumption) | assumption
    · first | omega | (subst_vars; first | rfl | assumption) | assumption
  · try dsimp only
    omega

theorem x_broken (w : WT T) (hw : WA T a) (hA_G : XA 27 a G) (hT_G : XT T G) : fX2_broken 33 G = some (bits (brk a) 8, G) := by
  have wr := w.rg
  unfold fX2_broken
  simp only [rf_33_1]
  refine WP_eq ?_
  refine w_bd (fun v1 hv1 => ?_)
  refine w_bd (fun v2 hv2 => ?_)
  refine w_lpII (fun (v3 : Int) (v4 : Int) => (0 ≤ v4) ∧ (v4 ≤ 8) ∧ (v3 = bits (brk a) v4.toNat)) (fun (v3 : Int) (v4 : Int) => (8 - v4).toNat) (fun rc5 v3 v4 hI hrc5 => ?_) _ _ ?_ ?_
  · skip
    obtain ⟨i0, i1, e⟩ := hI
    refine w_ite (fun c_1 => ?_) (fun c_1 => ?_)
    · skip
      refine w_bd (fun v6 hv6 => ?_)
      refine w_bd (fun v7 hv7 => ?_)
      refine w_lpII (fun (v8 : Int) (v9 : Int) => (0 ≤ v9) ∧ (v9 ≤ 8) ∧ (v8 = itr a v4 v9.toNat)) (fun (v8 : Int) (v9 : Int) => (8 - v9).toNat) (fun rc10 v8 v9 hI hrc10 => ?_) _ _ ?_ ?_
      · skip
        obtain ⟨j0, j1, e8⟩ := hI
        refine w_jn ?_
        refine w_ite (fun c_2 => ?_) (fun c_2 => ?_)
        · skip
          refine w_ite (fun c_3 => ?_) (fun c_3 => ?_)
          · skip
            have dn : v8 = itr a v4 8 := by rw [itr_neg' (a := a) (n := v4) (k := v9.toNat) (m := 8) (by omega) (by omega)]; omega
            refine w_jn ?_
            refine w_ite (fun c_4 => ?_) (fun c_4 => ?_)
            · skip
              refine w_bp (x_isIn hA_G hw.1) (fun v15 hv15 => ?_)
              have qv15 := hw.inr (n := v4)
              refine w_ite (fun c_5 => ?_) (fun c_5 => ?_)
              · skip
                refine w_bd (fun v14 hv14 => ?_)
                simp (disch := omega) only [iadd_id, isub_id, imul_id] at hv14
                refine hrc5 _ _ ?_ ?_
                · try dsimp only
                  refine ⟨?_, ?_, ?_⟩
                  · first | omega | grind
                  · first | omega | grind
                  · have db : brk a v4 ↔ isi a v4 = 1 ∧ itr a v4 8 = -1 := Iff.rfl
                    first
                    | (rw [hv14, bits_f (p := brk a) i0 (by rw [db]; omega)]; exact e)
                    | (rw [hv14, hv16, e]; exact bits_t (p := brk a) i0 (by omega) (by rw [db]; omega))
                · try dsimp only
                  omega
              · skip
                refine w_bd (fun v16 hv16 => ?_)
                refine w_bd (fun v14 hv14 => ?_)
                simp (disch := omega) only [iadd_id, isub_id, imul_id] at hv14
                refine hrc5 _ _ ?_ ?_
                · try dsimp only
                  refine ⟨?_, ?_, ?_⟩
                  · first | omega | grind
                  · first | omega | grind
                  · have db : brk a v4 ↔ isi a v4 = 1 ∧ itr a v4 8 = -1 := Iff.rfl
                    first
                    | (rw [hv14, bits_f (p := brk a) i0 (by rw [db]; omega)]; exact e)
                    | (rw [hv14, hv16, e]; exact bits_t (p := brk a) i0 (by omega) (by rw [db]; omega))
                · try dsimp only
                  omega
            · skip
              refine w_bd (fun v14 hv14 => ?_)
              simp (disch := omega) only [iadd_id, isub_id, imul_id] at hv14
              refine hrc5 _ _ ?_ ?_
              · try dsimp only
                refine ⟨?_, ?_, ?_⟩
                · first | omega | grind
                · first | omega | grind
                · have db : brk a v4 ↔ isi a v4 = 1 ∧ itr a v4 8 = -1 := Iff.rfl
                  first
                  | (rw [hv14, bits_f (p := brk a) i0 (by rw [db]; omega)]; exact e)
                  | (rw [hv14, hv16, e]; exact bits_t (p := brk a) i0 (by omega) (by rw [db]; omega))
              · try dsimp only
                omega
          · skip
            refine w_bp (x_first hA_G hw w) (fun v17 hv17 => ?_)
            have qv17 := hw.f4 w (n := v8)
            refine w_bd (fun v18 hv18 => ?_)
            refine w_bd (fun v19 hv19 => ?_)
            simp (disch := omega) only [iadd_id, isub_id, imul_id] at hv19
            refine hrc10 _ _ ?_ ?_
            · try dsimp only
              refine ⟨?_, ?_, ?_⟩
              · first | omega | grind
              · first | omega | grind
              · rw [hv19, itr_s j0, ← e8, hv18, hv17]
            · try dsimp only
              omega
        · skip
          have dn : v8 = itr a v4 8 := by rw [e8, show v9.toNat = 8 by omega]
          refine w_jn ?_
          refine w_ite (fun c_6 => ?_) (fun c_6 => ?_)
          · skip
            refine w_bp (x_isIn hA_G hw.1) (fun v15 hv15 => ?_)
            have qv15 := hw.inr (n := v4)
            refine w_ite (fun c_7 => ?_) (fun c_7 => ?_)
            · skip
              refine w_bd (fun v14 hv14 => ?_)
              simp (disch := omega) only [iadd_id, isub_id, imul_id] at hv14
              refine hrc5 _ _ ?_ ?_
              · try dsimp only
                refine ⟨?_, ?_, ?_⟩
                · first | omega | grind
                · first | omega | grind
                · have db : brk a v4 ↔ isi a v4 = 1 ∧ itr a v4 8 = -1 := Iff.rfl
                  first
                  | (rw [hv14, bits_f (p := brk a) i0 (by rw [db]; omega)]; exact e)
                  | (rw [hv14, hv16, e]; exact bits_t (p := brk a) i0 (by omega) (by rw [db]; omega))
              · try dsimp only
                omega
            · skip
              refine w_bd (fun v16 hv16 => ?_)
              refine w_bd (fun v14 hv14 => ?_)
              simp (disch := omega) only [iadd_id, isub_id, imul_id] at hv14
              refine hrc5 _ _ ?_ ?_
              · try dsimp only
                refine ⟨?_, ?_, ?_⟩
                · first | omega | grind
                · first | omega | grind
                · have db : brk a v4 ↔ isi a v4 = 1 ∧ itr a v4 8 = -1 := Iff.rfl
                  first
                  | (rw [hv14, bits_f (p := brk a) i0 (by rw [db]; omega)]; exact e)
                  | (rw [hv14, hv16, e]; exact bits_t (p := brk a) i0 (by omega) (by rw [db]; omega))
              · try dsimp only
                omega
          · skip
            refine w_bd (fun v14 hv14 => ?_)
            simp (disch := omega) only [iadd_id, isub_id, imul_id] at hv14
            refine hrc5 _ _ ?_ ?_
            · try dsimp only
              refine ⟨?_, ?_, ?_⟩
              · first | omega | grind
              · first | omega | grind
              · have db : brk a v4 ↔ isi a v4 = 1 ∧ itr a v4 8 = -1 := Iff.rfl
                first
                | (rw [hv14, bits_f (p := brk a) i0 (by rw [db]; omega)]; exact e)
                | (rw [hv14, hv16, e]; exact bits_t (p := brk a) i0 (by omega) (by rw [db]; omega))
            · try dsimp only
              omega
      · try dsimp only
        refine ⟨?_, ?_, ?_⟩
        · first | omega | (subst_vars; first | rfl | assumption) | assumption
        · first | omega | (subst_vars; first | rfl | assumption) | assumption
        · rw [hv7, hv6]; rfl
      · try dsimp only
        omega
    · skip
      refine w_rt ?_
      refine ⟨?_, rfl⟩
      rw [e, show v4.toNat = 8 by omega]
  · try dsimp only
    refine ⟨?_, ?_, ?_⟩
    · first | omega | (subst_vars; first | rfl | assumption) | assumption
    · first | omega | (subst_vars; first | rfl | assumption) | assumption
    · first | omega | (subst_vars; first | rfl | assumption) | assumption
  · try dsimp only
    omega

theorem x_hangers (w : WT T) (hw : WA T a) (hA_G : XA 27 a G) (hT_G : XT T G) : fX2_hangers 33 G = some (bits (hng a) 8, G) := by
  unfold fX2_hangers
  have r1 := bits8_r (onC a)
  have r2 := bits8_r (brk a)
  have r3 := bits8_r (fun i => bt a.1 i.toNat = 1 ∧ bt (bits (onC a) 8) i.toNat = 0)
  rw [rf_33_1, x_onCycles w hw hA_G hT_G, bp_s, x_broken w hw hA_G hT_G, bp_s, hA_G.1, andn_is hw.1.1 hw.1.2 r1.1 r1.2, andn_is r3.1 r3.2 r2.1 r2.2, rt_s]
  congr 2
  refine bits_ext 8 (fun i h1 h2 => ?_)
  have c1 := bt_01 (bits (onC a) 8) i.toNat
  have c2 := bt_01 (bits (brk a) 8) i.toNat
  have d1 := bt_bits8 (p := onC a) h1 h2
  have d2 := bt_bits8 (p := brk a) h1 h2
  have d3 := isi_bt (a := a) h1 h2
  rw [bt_bits8 h1 h2]
  have d4 : brk a i ↔ isi a i = 1 ∧ itr a i 8 = -1 := Iff.rfl
  have d5 : hng a i ↔ isi a i = 1 ∧ ¬ onC a i ∧ itr a i 8 ≠ -1 := Iff.rfl
  rw [d5, ← d3]
  constructor
  · intro z
    exact ⟨z.1.1, fun y => by have := d1.mpr y; omega, fun y => by have := d2.mpr (d4.mpr ⟨z.1.1, y⟩); omega⟩
  · intro z
    refine ⟨⟨z.1, ?_⟩, ?_⟩
    · rcases c1 with y | y
      · exact y
      · exact absurd (d1.mp y) z.2.1
    · rcases c2 with y | y
      · exact y
      · exact absurd (d4.mp (d2.mp y)).2 z.2.2
theorem hng_sum (hw : WA T a) : a.1 - bits (onC a) 8 - bits (brk a) 8 = bits (hng a) 8 := by
  have e1 : bits (fun i => isi a i = 1) 8 = a.1 := by
    rw [bits_ext (q := fun k => bt a.1 k.toNat = 1) 8 (fun i x y => by show isi a i = 1 ↔ _; rw [isi_bt x (by omega)])]
    exact bits_is (by omega) hw.1.1 hw.1.2
  have e2 := bits_add (p := fun i => isi a i = 1) (q := onC a) (r := fun i => isi a i = 1 ∧ ¬ onC a i) 8 (fun i h1 h2 => ⟨⟨fun z => by
    by_cases y : onC a i
    · exact Or.inl y
    · exact Or.inr ⟨z, y⟩, fun z => by
    rcases z with z | z
    · exact onC_in hw h1 z
    · exact z.1⟩, fun z => z.2.2 z.1⟩)
  have e3 := bits_add (p := fun i => isi a i = 1 ∧ ¬ onC a i) (q := brk a) (r := hng a) 8 (fun i h1 h2 => ⟨⟨fun z => by
    by_cases y : itr a i 8 = -1
    · exact Or.inl ⟨z.1, y⟩
    · exact Or.inr ⟨z.1, z.2, y⟩, fun z => by
    rcases z with z | z
    · exact ⟨z.1, fun y => onC_nb h1 y 8 z.2⟩
    · exact ⟨z.1, z.2.1⟩⟩, fun z => z.2.2.2 z.1.2⟩)
  omega
theorem x_cycleCount (w : WT T) (hw : WA T a) (hA_G : XA 27 a G) (hT_G : XT T G) : fX2_cycleCount 33 G = some (cnt (lea a) 8, G) := by
  have wr := w.rg
  have ob := bits8_r (onC a)
  unfold fX2_cycleCount
  simp only [rf_33_1]
  refine WP_eq ?_
  refine w_bd (fun v1 hv1 => ?_)
  refine w_bp (x_onCycles w hw hA_G hT_G) (fun v2 hv2 => ?_)
  refine w_bd (fun v3 hv3 => ?_)
  refine w_bd (fun v4 hv4 => ?_)
  refine w_lpII (fun (v5 : Int) (v6 : Int) => (0 ≤ v6) ∧ (v6 ≤ 8) ∧ (v5 = cnt (lea a) v6.toNat)) (fun (v5 : Int) (v6 : Int) => (8 - v6).toNat) (fun rc7 v5 v6 hI hrc7 => ?_) _ _ ?_ ?_
  · skip
    obtain ⟨i0, i1, e⟩ := hI
    have cr := cnt_r (lea a) v6.toNat
    refine w_ite (fun c_1 => ?_) (fun c_1 => ?_)
    · skip
      refine w_bp (x_has (by omega) (by omega) (by omega) (by omega)) (fun v8 hv8 => ?_)
      have qv8 := bt_01 v3 v6.toNat
      refine w_jn ?_
      refine w_ite (fun c_2 => ?_) (fun c_2 => ?_)
      · skip
        have nC : ¬ onC a v6 := fun z => by have := (bt_bits8 (p := onC a) (i := v6) i0 (by omega)).mpr z; rw [← hv2, ← hv3] at this; omega
        refine w_bd (fun v11 hv11 => ?_)
        simp (disch := omega) only [iadd_id, isub_id, imul_id] at hv11
        refine hrc7 _ _ ?_ ?_
        · try dsimp only
          refine ⟨?_, ?_, ?_⟩
          · first | omega | grind
          · first | omega | grind
          · first
            | (rw [hv11, cnt_f (p := lea a) i0 (fun z => nC z.1)]; exact e)
            | (rw [hv11, hv21, e, cnt_t (p := lea a) i0 ⟨yC, fun k k1 k2 => by
                 rcases st with ⟨s1, s2⟩ | ⟨s1, s2⟩
                 · exact s2 k k1 (by omega)
                 · omega⟩]; done)
            | (rw [hv11, hv21, e, cnt_f (p := lea a) i0 (fun z => by
                 rcases st with ⟨s1, s2⟩ | ⟨s1, k, k1, k2, k3⟩
                 · omega
                 · have := z.2 k k1 (by omega); omega)]; omega)
        · try dsimp only
          omega
      · skip
        have yC : onC a v6 := (bt_bits8 (p := onC a) (i := v6) i0 (by omega)).mp (by rw [← hv2, ← hv3]; omega)
        refine w_bd (fun v12 hv12 => ?_)
        refine w_bd (fun v13 hv13 => ?_)
        refine w_bd (fun v14 hv14 => ?_)
        refine w_lpIII (fun (v15 : Int) (v16 : Int) (v17 : Int) => (0 ≤ v17) ∧ (v17 ≤ 8) ∧ (v16 = itr a v6 v17.toNat) ∧ ((v15 = v6 ∧ ∀ k : Nat, 1 ≤ k → (k : Int) ≤ v17 → v6 ≤ itr a v6 k) ∨ (v15 < v6 ∧ ∃ k : Nat, 1 ≤ k ∧ (k : Int) ≤ v17 ∧ itr a v6 k < v6))) (fun (v15 : Int) (v16 : Int) (v17 : Int) => (8 - v17).toNat) (fun rc18 v15 v16 v17 hI hrc18 => ?_) _ _ _ ?_ ?_
        · skip
          obtain ⟨j0, j1, e16, st⟩ := hI
          refine w_ite (fun c_3 => ?_) (fun c_3 => ?_)
          · skip
            refine w_bp (x_first hA_G hw w) (fun v22 hv22 => ?_)
            have qv22 := hw.f4 w (n := v16)
            refine w_bd (fun v23 hv23 => ?_)
            refine w_bd (fun v24 hv24 => ?_)
            refine w_bd (fun v25 hv25 => ?_)
            simp (disch := omega) only [iadd_id, isub_id, imul_id] at hv25
            refine hrc18 _ _ _ ?_ ?_
            · try dsimp only
              refine ⟨?_, ?_, ?_, ?_⟩
              · first | omega | grind
              · first | omega | grind
              · rw [hv25, itr_s j0, ← e16, hv23, hv22]
              · have e23 : v23 = itr a v6 (v17 + 1).toNat := by rw [itr_s j0, ← e16, hv23, hv22]
                have m24 : (v23 < v15 ∧ v24 = v23) ∨ (¬ v23 < v15 ∧ v24 = v15) := by
                  by_cases u : v23 < v15
                  · left; rw [if_pos u] at hv24; exact ⟨u, hv24⟩
                  · right; rw [if_neg u] at hv24; exact ⟨u, hv24⟩
                rcases st with ⟨s1, s2⟩ | ⟨s1, k, k1, k2, k3⟩
                · rcases m24 with m | m
                  · right; exact ⟨by omega, (v17 + 1).toNat, by omega, by omega, by omega⟩
                  · left; refine ⟨by omega, fun k k1 k2 => ?_⟩
                    by_cases u : (k : Int) = v17 + 1
                    · rw [show k = (v17 + 1).toNat by omega]; omega
                    · exact s2 k k1 (by omega)
                · right; exact ⟨by omega, k, k1, by omega, k3⟩
            · try dsimp only
              omega
          · skip
            refine w_jn ?_
            refine w_ite (fun c_4 => ?_) (fun c_4 => ?_)
            · skip
              refine w_bd (fun v21 hv21 => ?_)
              simp (disch := omega) only [iadd_id, isub_id, imul_id] at hv21
              refine w_bd (fun v11 hv11 => ?_)
              simp (disch := omega) only [iadd_id, isub_id, imul_id] at hv11
              refine hrc7 _ _ ?_ ?_
              · try dsimp only
                refine ⟨?_, ?_, ?_⟩
                · first | omega | grind
                · first | omega | grind
                · first
                  | (rw [hv11, cnt_f (p := lea a) i0 (fun z => nC z.1)]; exact e)
                  | (rw [hv11, hv21, e, cnt_t (p := lea a) i0 ⟨yC, fun k k1 k2 => by
                       rcases st with ⟨s1, s2⟩ | ⟨s1, s2⟩
                       · exact s2 k k1 (by omega)
                       · omega⟩]; done)
                  | (rw [hv11, hv21, e, cnt_f (p := lea a) i0 (fun z => by
                       rcases st with ⟨s1, s2⟩ | ⟨s1, k, k1, k2, k3⟩
                       · omega
                       · have := z.2 k k1 (by omega); omega)]; omega)
              · try dsimp only
                omega
            · skip
              refine w_bd (fun v21 hv21 => ?_)
              simp (disch := omega) only [iadd_id, isub_id, imul_id] at hv21
              refine w_bd (fun v11 hv11 => ?_)
              simp (disch := omega) only [iadd_id, isub_id, imul_id] at hv11
              refine hrc7 _ _ ?_ ?_
              · try dsimp only
                refine ⟨?_, ?_, ?_⟩
                · first | omega | grind
                · first | omega | grind
                · first
                  | (rw [hv11, cnt_f (p := lea a) i0 (fun z => nC z.1)]; exact e)
                  | (rw [hv11, hv21, e, cnt_t (p := lea a) i0 ⟨yC, fun k k1 k2 => by
                       rcases st with ⟨s1, s2⟩ | ⟨s1, s2⟩
                       · exact s2 k k1 (by omega)
                       · omega⟩]; done)
                  | (rw [hv11, hv21, e, cnt_f (p := lea a) i0 (fun z => by
                       rcases st with ⟨s1, s2⟩ | ⟨s1, k, k1, k2, k3⟩
                       · omega
                       · have := z.2 k k1 (by omega); omega)]; omega)
              · try dsimp only
                omega
        · try dsimp only
          refine ⟨?_, ?_, ?_, ?_⟩
          · first | omega | (subst_vars; first | rfl | assumption) | assumption
          · first | omega | (subst_vars; first | rfl | assumption) | assumption
          · rw [hv14, hv13]; rfl
          · left; exact ⟨hv12, fun k k1 k2 => by omega⟩
        · try dsimp only
          omega
    · skip
      refine w_rt ?_
      refine ⟨?_, rfl⟩
      rw [e, show v6.toNat = 8 by omega]
  · try dsimp only
    refine ⟨?_, ?_, ?_⟩
    · first | omega | (subst_vars; first | rfl | assumption) | assumption
    · first | omega | (subst_vars; first | rfl | assumption) | assumption
    · first | omega | (subst_vars; first | rfl | assumption) | assumption
  · try dsimp only
    omega

theorem x_isOrdered (w : WT T) (hw : WA T a) (hA_G : XA 27 a G) (hT_G : XT T G) : fX2_isOrdered 33 G = some (ordd T a, G) := by
  have wr := w.rg
  have ob := bits8_r (onC a)
  have c0 : G 4 0 = tC T := hT_G.1
  unfold fX2_isOrdered
  simp only [rf_4_5, rf_33_0, rf_33_1]
  refine WP_eq ?_
  refine w_bp (x_cycleCount w hw hA_G hT_G) (fun v1 hv1 => ?_)
  refine w_ite (fun c_1 => ?_) (fun c_1 => ?_)
  · skip
    refine w_bp (x_onCycles w hw hA_G hT_G) (fun v2 hv2 => ?_)
    refine w_bd (fun v3 hv3 => ?_)
    refine w_bd (fun v4 hv4 => ?_)
    refine w_bd (fun v5 hv5 => ?_)
    refine w_lpII (fun (v6 : Int) (v7 : Int) => (0 ≤ v7) ∧ (v7 ≤ 8) ∧ (0 ≤ v6 ∧ v6 ≤ 256 * v7) ∧ (v6 = smS (onC a) (fun n => wT T n (fst4 a a.1 n)) v7.toNat)) (fun (v6 : Int) (v7 : Int) => (8 - v7).toNat) (fun rc8 v6 v7 hI hrc8 => ?_) _ _ ?_ ?_
    · skip
      obtain ⟨i0, i1, b, e⟩ := hI
      refine w_ite (fun c_2 => ?_) (fun c_2 => ?_)
      · skip
        refine w_bp (x_first hA_G hw w) (fun v9 hv9 => ?_)
        have qv9 := hw.f4 w (n := v7)
        refine w_bd (fun v10 hv10 => ?_)
        refine w_bp (x_has (by omega) (by omega) (by omega) (by omega)) (fun v11 hv11 => ?_)
        have qv11 := bt_01 v3 v7.toNat
        refine w_jn ?_
        refine w_ite (fun c_3 => ?_) (fun c_3 => ?_)
        · skip
          have nC : ¬ onC a v7 := fun z => by have := (bt_bits8 (p := onC a) (i := v7) i0 (by omega)).mpr z; rw [← hv2, ← hv3] at this; omega
          refine w_bd (fun v14 hv14 => ?_)
          simp (disch := omega) only [iadd_id, isub_id, imul_id] at hv14
          refine hrc8 _ _ ?_ ?_
          · try dsimp only
            refine ⟨?_, ?_, ?_, ?_⟩
            · first | omega | grind
            · first | omega | grind
            · first | omega | grind
            · first
              | (rw [hv14, smS_f (p := onC a) i0 nC]; exact e)
              | (exfalso; have := onC_nb i0 yC 1; exact this (by show fst4 a a.1 v7 = -1; omega))
              | (rw [hv14, hv18, e, smS_t (p := onC a) i0 yC, e17]; done)
          · try dsimp only
            omega
        · skip
          have yC : onC a v7 := (bt_bits8 (p := onC a) (i := v7) i0 (by omega)).mp (by rw [← hv2, ← hv3]; omega)
          have yI := hw.inr (n := v7)
          have yN := onC_in hw i0 yC
          refine w_ite (fun c_4 => ?_) (fun c_4 => ?_)
          · skip
            refine w_bd (fun v14 hv14 => ?_)
            simp (disch := omega) only [iadd_id, isub_id, imul_id] at hv14
            refine hrc8 _ _ ?_ ?_
            · try dsimp only
              refine ⟨?_, ?_, ?_, ?_⟩
              · first | omega | grind
              · first | omega | grind
              · first | omega | grind
              · first
                | (rw [hv14, smS_f (p := onC a) i0 nC]; exact e)
                | (exfalso; have := onC_nb i0 yC 1; exact this (by show fst4 a a.1 v7 = -1; omega))
                | (rw [hv14, hv18, e, smS_t (p := onC a) i0 yC, e17]; done)
            · try dsimp only
              omega
          · skip
            refine w_rdv (x_place hT_G w (by omega) (by omega)) (fun v15 hv15 => ?_)
            have qv15 := w.pl (i := v7) (by omega) (by omega)
            refine w_rdv (x_place hT_G w (by omega) (by omega)) (fun v16 hv16 => ?_)
            have qv16 := w.pl (i := v10) (by omega) (by omega)
            refine w_bp (x_way hT_G w ⟨by omega, by omega⟩ ⟨by omega, by omega⟩) (fun v17 hv17 => ?_)
            have qv17 := wy_rng (C := tC T) (f := v15) (t := v16) (by omega) (by omega) (by omega) (by omega) (by omega)
            have e17 : v17 = wT T v7 (fst4 a a.1 v7) := by rw [hv17, hv15, hv16, hv10, hv9]; rfl
            have r17 := wT_rng w (n := v7) (o := fst4 a a.1 v7) (by omega) (by omega) (by omega) (by omega)
            refine w_bd (fun v18 hv18 => ?_)
            simp (disch := omega) only [iadd_id, isub_id, imul_id] at hv18
            refine w_bd (fun v14 hv14 => ?_)
            simp (disch := omega) only [iadd_id, isub_id, imul_id] at hv14
            refine hrc8 _ _ ?_ ?_
            · try dsimp only
              refine ⟨?_, ?_, ?_, ?_⟩
              · first | omega | grind
              · first | omega | grind
              · first | omega | grind
              · first
                | (rw [hv14, smS_f (p := onC a) i0 nC]; exact e)
                | (exfalso; have := onC_nb i0 yC 1; exact this (by show fst4 a a.1 v7 = -1; omega))
                | (rw [hv14, hv18, e, smS_t (p := onC a) i0 yC, e17]; done)
            · try dsimp only
              omega
      · skip
        refine w_ite (fun c_5 => ?_) (fun c_5 => ?_)
        · skip
          refine w_rz (by omega) ?_
          refine ⟨?_, rfl⟩
          unfold ordd; first | (rw [if_neg (fun z => by omega)]) | (rw [show v7.toNat = 8 by omega] at e; first | rw [if_pos ⟨by omega, by omega⟩] | rw [if_neg (fun z => by omega)])
        · skip
          refine w_rz (by omega) ?_
          refine ⟨?_, rfl⟩
          unfold ordd; first | (rw [if_neg (fun z => by omega)]) | (rw [show v7.toNat = 8 by omega] at e; first | rw [if_pos ⟨by omega, by omega⟩] | rw [if_neg (fun z => by omega)])
    · try dsimp only
      refine ⟨?_, ?_, ?_, ?_⟩
      · first | omega | (subst_vars; first | rfl | assumption) | assumption
      · first | omega | (subst_vars; first | rfl | assumption) | assumption
      · first | omega | (subst_vars; first | rfl | assumption) | assumption
      · first | omega | (subst_vars; first | rfl | assumption) | assumption
    · try dsimp only
      omega
  · skip
    refine w_rz (by omega) ?_
    refine ⟨?_, rfl⟩
    unfold ordd; first | (rw [if_neg (fun z => by omega)]) | (rw [show v7.toNat = 8 by omega] at e; first | rw [if_pos ⟨by omega, by omega⟩] | rw [if_neg (fun z => by omega)])

end LOO
